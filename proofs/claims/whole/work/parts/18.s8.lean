/-! THE ABSTRACT MACHINE IS THE MACHINE, eight: every run -/
theorem am_store_len {i : Instr} {len : Nat} {ls ls' : am_LS} {st st' : List Value} (h : am_store i len ls st = some (ls', st')) : ls'.length = ls.length := by
  have e1 : ∀ {k : Nat} {v : Value} {l' : am_LS}, am_st1 ls k v = some l' → l'.length = ls.length := by
    intro k v l' hs
    unfold am_st1 at hs
    split at hs
    · cases hs; simp
    · cases hs
  have e2 : ∀ {k : Nat} {v : Value} {l' : am_LS}, am_st2 ls k v = some l' → l'.length = ls.length := by
    intro k v l' hs
    unfold am_st2 at hs
    split at hs
    · cases hs; simp
    · cases hs
  unfold am_store at h
  split at h <;> try (first | (cases h; done) | skip)
  · obtain ⟨l', h1, h2⟩ := am_map_some h; cases h2; exact e1 h1
  · obtain ⟨l', h1, h2⟩ := am_map_some h; cases h2; exact e1 h1
  · obtain ⟨l', h1, h2⟩ := am_map_some h; cases h2; exact e2 h1
  · obtain ⟨l', h1, h2⟩ := am_map_some h; cases h2; exact e2 h1
  · obtain ⟨l', h1, h2⟩ := am_map_some h; cases h2; exact e1 h1
  · obtain ⟨l', h1, h2⟩ := am_map_some h; cases h2; exact e1 h1
  · obtain ⟨l', h1, h2⟩ := am_map_some h; cases h2; exact e1 h1
  · obtain ⟨l', h1, h2⟩ := am_map_some h; cases h2; exact e1 h1
  · split at h
    · obtain ⟨l', h1, h2⟩ := am_map_some h; cases h2; exact e1 h1
    · cases h
theorem am_lkd_iff {c i k n : Nat} {ν : am_MM} (hk : k < 4) (h : am_lkd (c, i, k, n, ν) = true) : plainName ν.2.1.cls = true ∧ ν.2.1.cls = am_cn ν.1 ∧ ν.2.1.cls ≠ "java/lang/invoke/MethodHandle" ∧ ν.2.1.cls ≠ "java/lang/invoke/VarHandle" ∧ (parseMethodDescriptor ν.2.1.desc).map (fun d => d.parameters.length) = some n ∧ ν.2.2.2.1 ≤ 41 ∧ (k < 2 ∨ (ν.2.1.name = "<init>" ∧ ν.2.2.2.2 = none)) := by
  simp only [am_lkd, Bool.or_eq_true, Bool.and_eq_true, decide_eq_true_eq] at h
  rcases h with h | h
  · omega
  · obtain ⟨⟨⟨⟨⟨⟨⟨-, h1⟩, h2⟩, h3⟩, h4⟩, h5⟩, h6⟩, h7⟩ := h
    exact ⟨h1, h2, h3, h4, h5, h6, h7⟩
set_option maxHeartbeats 16000000 in
theorem am_sound (X : am_X) (l : Launch) (base : Nat) (ro : Nat → Nat) (ct : Nat → ClassId) (D : va_G) : ∀ (f d : Nat) (μ : am_MM) (pc : Nat) (ls : am_LS) (st : List Value) (M : am_M) (v : Option Value) (M' : am_M), am_run X f d μ pc ls st M = some (v, M') → am_Walk X l base ro ct D f d μ pc ls st M v M' := by
  intro f
  induction f with
  | zero => intro d μ pc ls st M v M' h; simp [am_run] at h
  | succ f ih =>
    intro d μ pc ls st M v M' h
    rw [am_run] at h
    split at h
    · cases h
    · next i len hd =>
      split at h
      · cases h
      · next pc' ls' st' M1 hs =>
        intro p e R s m args below meth c H locs Q lsR n0 hx hb hml hown hts hnm hK hO hsz h0 hn hfr hlo hRc hRs hP hS hL hret
        have hmono := am_run_mono _ _ _ _ _ _ _ _ _ h
        have hb0 : base ≤ s.heap.size := by omega
        rcases am_stp_inv hs with ⟨_, hq, e1⟩ | ⟨_, hq, e1⟩ | ⟨_, _, hq, e1⟩ | ⟨_, _, hq, e1⟩ | ⟨_, hq, e1⟩ | ⟨_, _, hw, hn1, e1⟩ | ⟨_, _, e1⟩ | ⟨_, _, e1⟩ | ⟨_, _, hi, e1⟩
        · cases e1
          exact am_pure_W hx hb hd hq (ih d μ _ _ _ _ v M' h p e R s m args below meth c H locs Q lsR n0 hx hb hml hown hts hnm hK hO hsz h0 hn hfr hlo hRc hRs hP hS hL hret)
        · cases e1
          exact am_load_W hx hb hd hL hq (ih d μ _ _ _ _ v M' h p e R s m args below meth c H locs Q lsR n0 hx hb hml hown hts hnm hK hO hsz h0 hn hfr hlo hRc hRs hP hS hL hret)
        · cases e1
          exact am_store_W hx hb hd hL hq (fun lsR' hL' => ih d μ _ _ _ _ v M' h p e R s m args below meth c H locs Q lsR' n0 hx hb (by rw [hml, am_store_len hq]) hown hts hnm hK hO hsz h0 hn hfr hlo hRc hRs hP hS hL' hret)
        · cases e1
          exact am_jump_W hx hb hd hq (ih d μ _ _ _ _ v M' h p e R s m args below meth c H locs Q lsR n0 hx hb hml hown hts hnm hK hO hsz h0 hn hfr hlo hRc hRs hP hS hL hret)
        · cases e1
          exact am_read_W hx hb hd hown hts hK hP hS hO hq (ih d μ _ _ _ _ v M' h p e R s m args below meth c H locs Q lsR n0 hx hb hml hown hts hnm hK hO hsz h0 hn hfr hlo hRc hRs hP hS hL hret)
        · cases e1
          have hle := am_write_n hw
          have hsl1 := am_sl_mono hle
          have hsl2 := am_sl_mono hmono.1
          have hsl0 := am_sl_mono h0
          refine am_write_W hx hb hd hown hts hnm hK hn hP hS hO (by omega) hb0 hw hn1 (by omega) (by omega) (fun H1 locs1 g1 g3 => ?_)
          have k1 := ih d μ _ _ _ _ v M' h p e R s m args below meth c H1 locs1 Q lsR n0 hx hb hml hown hts hnm hK hO hsz (by omega) hn1 hfr hlo hRc hRs g1 g3 hL hret
          rw [show M.1 - n0 + (M1.1 - M.1) = M1.1 - n0 by omega, show am_sl M.1 - am_sl n0 + (am_sl M1.1 - am_sl M.1) = am_sl M1.1 - am_sl n0 by omega]
          exact k1
        · cases e1
        · cases e1
        · cases e1
          have en := am_inv_n hi
          have hsl2 := am_sl_mono hmono.1
          rw [en] at hsl2
          have hm1 := hmono.1
          rw [en] at hm1
          refine (am_nat_W hx hb (by rw [hml, hL.1]) hd hown hts hK hn hP hS (by omega) (by omega) (by omega) (by omega) hi (fun H1 locs1 g1 g3 => ?_)).2
          have k1 := ih d μ _ _ _ _ v M' h p e R s m args below meth c H1 locs1 Q lsR n0 hx hb hml hown hts hnm hK hO hsz (by omega) (by omega) hfr hlo hRc hRs g1 g3 hL hret
          rw [en] at k1
          exact k1
      · next v' hs =>
        cases h
        intro p e R s m args below meth c H locs Q lsR n0 hx hb hml hown hts hnm hK hO hsz h0 hn hfr hlo hRc hRs hP hS hL hret
        rcases am_stp_inv hs with ⟨_, _, e1⟩ | ⟨_, _, e1⟩ | ⟨_, _, _, e1⟩ | ⟨_, _, _, e1⟩ | ⟨_, _, e1⟩ | ⟨_, _, _, _, e1⟩ | ⟨_, hq, e1⟩ | ⟨_, _, e1⟩ | ⟨_, _, _, e1⟩
        · cases e1
        · cases e1
        · cases e1
        · cases e1
        · cases e1
        · cases e1
        · cases e1
          exact hret pc len i st lsR H locs hd hq hP hS
        · cases e1
        · cases e1
      · next ν as st' hs =>
        split at h
        · cases h
        · next d' =>
          split at h
          · cases h
          · next hlen =>
            split at h
            · cases h
            · next v1 M1 h1 =>
              intro p e R s m args below meth c H locs Q lsR n0 hx hb hml hown hts hnm hK hO hsz h0 hn hfr hlo hRc hRs hP hS hL hret
              have hlen : (am_args as).length ≤ ν.2.2.2.1 := Nat.not_lt.mp hlen
              have hmono1 := am_run_mono _ _ _ _ _ _ _ _ _ h1
              have hmono := am_run_mono _ _ _ _ _ _ _ _ _ h
              have hsl1 := am_sl_mono hmono1.1
              have hsl2 := am_sl_mono hmono.1
              have hsl0 := am_sl_mono h0
              have hm1 := hmono1.1
              have hm2 := hmono.1
              have hn1 := hmono1.2 hn
              have hb0 : base ≤ s.heap.size := by omega
              refine am_size (fun hz => ?_)
              have hHs := am_Hsize hn (by omega) hb0 hP hS hz
              have hcont : ∀ (H1 : Heap) (locs1 : List Loc), va_P D vwCl (am_Wd ct (am_ad base ro) M1) H1 → va_S (fun q => base ≤ q) s.heap H1 locs1 → W p l e R s m args below meth c H1 locs1 (M.1 - n0 + (M1.1 - M.1)) (am_sl M.1 - am_sl n0 + (am_sl M1.1 - am_sl M.1)) Q (F0 m (pc + 3) lsR ((v1.toList ++ st').map (am_rv (am_ad base ro)))) := by
                intro H1 locs1 g1 g3
                have k1 := ih (d' + 1) μ _ _ _ _ v M' h p e R s m args below meth c H1 locs1 Q lsR n0 hx hb hml hown hts hnm hK hO hsz (by omega) hn1 hfr hlo hRc hRs g1 g3 hL hret
                rw [show M.1 - n0 + (M1.1 - M.1) = M1.1 - n0 by omega, show am_sl M.1 - am_sl n0 + (am_sl M1.1 - am_sl M.1) = am_sl M1.1 - am_sl n0 by omega]
                exact k1
              have hPc : ∀ U : State, U.heap = H → s.WarmedH U.vm → am_Pc X base ro ct D as M (as.map (am_rv (am_ad base ro))).toArray U := fun U hU hW => ⟨rfl, by rw [hU]; exact hHs, by rw [hU]; exact hP, va_K.moved hW.alike hK, am_RO.moved hW (fun a y1 y2 => by rw [hU]; exact hS.2.1 a y1 y2) hO⟩
              have hCF : CallFix p m c μ.2.2.1 lsR.size s args am_WS (am_cn μ.1) := ⟨hx, hb, by rw [hml, hL.1], hown, hts⟩
              rcases am_stp_inv hs with ⟨_, _, e1⟩ | ⟨_, _, e1⟩ | ⟨_, _, _, e1⟩ | ⟨_, _, _, e1⟩ | ⟨_, _, e1⟩ | ⟨_, _, _, _, e1⟩ | ⟨_, _, e1⟩ | ⟨_, hi, e1⟩ | ⟨_, _, _, e1⟩
              · cases e1
              · cases e1
              · cases e1
              · cases e1
              · cases e1
              · cases e1
              · cases e1
              · cases e1
                have hmet : plainName ν.2.1.cls = true → ν.2.1.cls = am_cn ν.1 → am_Met X l base ro ct D d' ν as M v1 M1 := fun a1 a2 => am_Met_of (f := f) a1 a2 hlen hn (ih d' ν 0 _ [] M v1 M1 h1)
                have hcf : M.1 - n0 + (M1.1 - M.1) ≤ R.cells ∧ am_sl M.1 - am_sl n0 + (am_sl M1.1 - am_sl M.1) ≤ R.slots := ⟨by omega, by omega⟩
                unfold am_inv at hi
                split at hi <;> try (first | (cases hi; done) | skip)
                · next ix =>
                  split at hi
                  · next n ν' hlk =>
                    split at hi
                    · next b r hdr =>
                      split at hi
                      · next hc =>
                        cases hi
                        obtain ⟨hw, hdd⟩ := am_lk_some hlk
                        obtain ⟨q1, q2, q3, q4, q5, q6, -⟩ := am_lkd_iff (by omega) hdd
                        have hcode : Cond.code ν.2.1 ν.2.2.1 ν.2.2.2.1 ν.2.2.2.2 ∈ am_WS := hw _ (by simp [am_wds])
                        have hrec : ∃ cellB : Cell, H[am_ad base ro b]? = some cellB ∧ cellB.vm.isStatics = false ∧ s.vm.findClass ν.2.1.cls = some cellB.cls := by
                          rcases hc.2.2 with ⟨c1, c2, c3⟩ | ⟨c1, c2⟩
                          · have c1 : b < M.1 := by simpa using c1
                            have he := am_Wd_at (ct := ct) (ad := am_ad base ro) c1
                            rw [am_cell_o rfl c2] at he
                            have hcc := am_cls_at c2
                            have := va_recv hK hP hcc he
                            rw [← c3]
                            simp only [am_own, hcc]
                            exact this
                          · obtain ⟨nn, hnn⟩ := Option.isSome_iff_exists.mp c1
                            obtain ⟨hn2, hkn⟩ := am_str_some hnn
                            have ea : am_ad base ro b = ro (1000000 + 2 * nn) := by unfold am_ad; rw [if_neg (by omega), hkn]
                            rw [ea, c2]
                            exact vk_recv (adK := fun i => ro (1000000 + 2 * i)) (i := nn) hO.1 hn2 hS
                        refine am_call (va_runV (rest := st'.map (am_rv (am_ad base ro))) (As := ((st.take n).reverse).map (am_rv (am_ad base ro))) (n := n) hCF (hmet q1 q2) (cwV n hts (fun w hww => ?_) rfl rfl rfl ⟨rfl, q3, q4, q5⟩ ⟨by show d' + 1 + 1 ≤ R.frames; omega, by show 8 + (ν.2.2.2.1 + 11) + 60 * (d' + 1) ≤ R.locals; omega⟩) ⟨am_blind, hrec, hPc⟩ rfl (by simpa using hc.1) rfl ?_ (lv_room (by rw [am_sum_rv]; exact hc.2.1)) hd hcf) hS (fun q hq => hq) hcont
                        · simp only [wsV, List.cons_append, List.nil_append, List.mem_cons] at hww
                          rcases hww with rfl | rfl | rfl | rfl | hww
                          · exact am_WSg _ (hw _ (by simp [am_wds]))
                          · exact am_WSg _ (hw _ (by simp [am_wds]))
                          · exact am_WSg _ (hw _ (by simp [am_wds]))
                          · exact am_WSg _ (hw _ (by simp [am_wds]))
                          · exact am_GoodIn hcode w hww
                        · show st.map _ = _
                          rw [List.map_reverse, List.reverse_reverse]
                          conv => lhs; rw [← List.take_append_drop n st, hdr]
                          simp [am_rv]
                      · cases hi
                    · cases hi
                  · cases hi
                · next ix =>
                  split at hi
                  · next n ν' hlk =>
                    split at hi
                    · next hc =>
                      cases hi
                      obtain ⟨hw, hdd⟩ := am_lk_some hlk
                      obtain ⟨q1, q2, q3, q4, q5, q6, -⟩ := am_lkd_iff (by omega) hdd
                      have hcode : Cond.code ν.2.1 ν.2.2.1 ν.2.2.2.1 ν.2.2.2.2 ∈ am_WS := hw _ (by simp [am_wds])
                      refine am_call (va_runS (rest := (st.drop n).map (am_rv (am_ad base ro))) (As := ((st.take n).reverse).map (am_rv (am_ad base ro))) (n := n) hCF (hmet q1 q2) (va_cwS n hts (fun w hww => ?_) rfl rfl rfl ⟨q3, q4, q5⟩ ⟨by show d' + 1 + 1 ≤ R.frames; omega, by show 8 + (ν.2.2.2.1 + 11) + 60 * (d' + 1) ≤ R.locals; omega⟩) ⟨am_blind, hPc⟩ rfl (by simpa using hc.1) rfl ?_ (lv_room (by rw [am_sum_rv]; exact hc.2)) hd hcf) hS (fun q hq => hq) hcont
                      · simp only [va_wsS, List.cons_append, List.nil_append, List.mem_cons] at hww
                        rcases hww with rfl | rfl | rfl | hww
                        · exact am_WSg _ (hw _ (by simp [am_wds]))
                        · exact am_WSg _ (hw _ (by simp [am_wds]))
                        · exact am_WSg _ (hw _ (by simp [am_wds]))
                        · exact am_GoodIn hcode w hww
                      · show st.map _ = _
                        rw [List.map_reverse, List.reverse_reverse, ← List.map_append, List.take_append_drop]
                    · cases hi
                  all_goals (repeat' (split at hi)) <;> cases hi
                · next ix =>
                  split at hi
                  · next n ν' hlk =>
                    split at hi
                    · next b r hdr =>
                      split at hi
                      · next hc =>
                        cases hi
                        obtain ⟨hw, hdd⟩ := am_lk_some hlk
                        obtain ⟨q1, q2, q3, q4, q5, q6, q7⟩ := am_lkd_iff (by omega) hdd
                        have q7 : ν.2.1.name = "<init>" ∧ ν.2.2.2.2 = none := q7.elim (fun z => absurd z (by omega)) (fun z => z)
                        have hcode : Cond.code ν.2.1 ν.2.2.1 ν.2.2.2.1 ν.2.2.2.2 ∈ am_WS := hw _ (by simp [am_wds])
                        refine am_call (va_runI (rest := st'.map (am_rv (am_ad base ro))) (As := ((st.take n).reverse).map (am_rv (am_ad base ro))) (n := n) hCF (hmet q1 q2) (cwI n hts (am_GoodIn hcode) (by rw [← q7.2]; rfl) rfl rfl (hts _ (hw _ (by simp [am_wds]))) (hts _ (hw _ (by simp [am_wds]))) (hts _ (hw _ (by simp [am_wds]))) q7.1 ⟨q3, q4, q5⟩ ⟨by show d' + 1 + 1 ≤ R.frames; omega, by show 8 + (ν.2.2.2.1 + 11) + 60 * (d' + 1) ≤ R.locals; omega⟩) ⟨am_blind, hPc⟩ rfl (by simpa using hc.1) rfl ?_ (lv_room (by rw [am_sum_rv]; exact hc.2)) hd hcf) hS (fun q hq => hq) hcont
                        show st.map _ = _
                        rw [List.map_reverse, List.reverse_reverse]
                        conv => lhs; rw [← List.take_append_drop n st, hdr]
                        simp [am_rv]
                      · cases hi
                    · cases hi
                  · next n ν' hlk =>
                    split at hi
                    · next b r hdr =>
                      split at hi
                      · next hc =>
                        cases hi
                        obtain ⟨hw, hdd⟩ := am_lk_some hlk
                        obtain ⟨q1, q2, q3, q4, q5, q6, q7⟩ := am_lkd_iff (by omega) hdd
                        have q7 : ν.2.1.name = "<init>" ∧ ν.2.2.2.2 = none := q7.elim (fun z => absurd z (by omega)) (fun z => z)
                        have hcode : Cond.code ν.2.1 ν.2.2.1 ν.2.2.2.1 ν.2.2.2.2 ∈ am_WS := hw _ (by simp [am_wds])
                        refine am_call (va_runIN (rest := st'.map (am_rv (am_ad base ro))) (As := ((st.take n).reverse).map (am_rv (am_ad base ro))) (n := n) hCF (hmet q1 q2) ⟨va_cnB n hts (am_GoodIn hcode) (by rw [← q7.2]; rfl) rfl rfl (am_nest hlk hO) (hts _ (hw _ (by simp [am_wds]))) ⟨q3, q4, q5⟩ ⟨by show d' + 1 + 1 ≤ R.frames; omega, by show 8 + (ν.2.2.2.1 + 11) + 60 * (d' + 1) ≤ R.locals; omega⟩, q7.1, hts _ (hw _ (by simp [am_wds]))⟩ ⟨am_blind, hPc⟩ rfl (by simpa using hc.1) rfl ?_ (lv_room (by rw [am_sum_rv]; exact hc.2)) hd hcf) hS (fun q hq => hq) hcont
                        show st.map _ = _
                        rw [List.map_reverse, List.reverse_reverse]
                        conv => lhs; rw [← List.take_append_drop n st, hdr]
                        simp [am_rv]
                      · cases hi
                    · cases hi
                  all_goals (repeat' (split at hi)) <;> cases hi
              · cases e1
