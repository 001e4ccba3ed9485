/-! THE ABSTRACT MACHINE IS THE MACHINE, seven: the theorem -/
section AM7
variable {p : Program} {l : Launch} {e : Env} {R : Room} {s : State} {m : MethodId} {args : Array Value} {below : List Frame} {meth : Method} {c : Code} {H : Heap} {locs : List Loc} {cells slots : Nat} {Q : State → Prop}
variable {pc : Nat} {lsR : Array Slot} {base : Nat} {ro : Nat → Nat} {ct : Nat → ClassId} {D : va_G} {X : am_X}
/-- behind a call -/
theorem am_call {mc ms : Nat} {st0 rest : List Value} {v : Option Value} {M1 : am_M} {a : Array Value} {free : Addr → Prop} (hr : va_Run p l e R s m args below meth c H locs cells slots mc ms (F0 m pc lsR st0) (rest.map (am_rv (am_ad base ro))) (am_Qc base ro ct D v M1 a) free) (hS : va_S (fun q => base ≤ q) s.heap H locs) (hf : ∀ q, free q → base ≤ q)
    (kk : ∀ (H1 : Heap) (locs1 : List Loc), va_P D vwCl (am_Wd ct (am_ad base ro) M1) H1 → va_S (fun q => base ≤ q) s.heap H1 locs1 → W p l e R s m args below meth c H1 locs1 (cells + mc) (slots + ms) Q (F0 m (pc + 3) lsR ((v.toList ++ rest).map (am_rv (am_ad base ro))))) : W p l e R s m args below meth c H locs cells slots Q (F0 m pc lsR st0) := by
  intro T hT Xs
  obtain ⟨v', st₀, t, T', L, h0, X', hL, e1, e2, ⟨hv, hP1, hz, hk⟩, st⟩ := hr T hT Xs
  cases hv
  rw [h0] at hz hk
  obtain ⟨t2, a1, b1⟩ := kk T'.heap (locs ++ L) (by rw [e1]; exact hP1) ⟨Nat.le_trans hS.1 (by rw [e1]; exact hz), fun q h1 h2 => by rw [e1, hk q (Nat.lt_of_lt_of_le h1 hS.1) h2]; exact hS.2.1 q h1 h2, fun q hq => by
      rcases List.mem_append.mp hq with h | h
      · exact hS.2.2 q h
      · exact hf _ (hL q h)⟩ T' rfl X'
  refine ⟨t2, st t2 ?_, b1⟩
  have ev : (v.map (am_rv (am_ad base ro))).toList ++ rest.map (am_rv (am_ad base ro)) = (v.toList ++ rest).map (am_rv (am_ad base ro)) := by cases v <;> simp
  rw [← ev] at a1
  exact a1
end AM7
/-- the walk of a body by a run of the abstract machine: what is left is the return -/
def am_Walk (X : am_X) (l : Launch) (base : Nat) (ro : Nat → Nat) (ct : Nat → ClassId) (D : va_G) (f d : Nat) (μ : am_MM) (pc : Nat) (ls : am_LS) (st : List Value) (M : am_M) (v : Option Value) (M' : am_M) : Prop :=
  ∀ (p : Program) (e : Env) (R : Room) (s : State) (m : MethodId) (args : Array Value) (below : List Frame) (meth : Method) (c : Code) (H : Heap) (locs : List Loc) (Q : State → Prop) (lsR : Array Slot) (n0 : Nat),
    p.tables.exec = Jvm.exec → c.code = μ.2.2.1 → c.maxLocals = ls.length → s.vm.findClass (am_cn μ.1) = some m.cls → (∀ w ∈ am_WS, w.before args s = true) → (μ.2.1.name = "<init>" → meth.name = "<init>") → va_K D vwCl (am_tl ct) s → am_RO X base ro s →
    s.heap.size = base + n0 → n0 ≤ M.1 → M.1 ≤ 1003 → d + 1 ≤ R.frames → 60 * (d + 1) ≤ R.locals → M'.1 - n0 ≤ R.cells → am_sl M'.1 - am_sl n0 ≤ R.slots →
    va_P D vwCl (am_Wd ct (am_ad base ro) M) H → va_S (fun q => base ≤ q) s.heap H locs → am_LV (am_ad base ro) ls lsR →
    (∀ (pc' len : Nat) (i : Instr) (st' : List Value) (lsR' : Array Slot) (H' : Heap) (locs' : List Loc), decode μ.2.2.1 pc' = .ok (i, len) → am_ret μ i len st' = some v → va_P D vwCl (am_Wd ct (am_ad base ro) M') H' → va_S (fun q => base ≤ q) s.heap H' locs' → W p l e R s m args below meth c H' locs' (M'.1 - n0) (am_sl M'.1 - am_sl n0) Q (F0 m pc' lsR' (st'.map (am_rv (am_ad base ro))))) →
    W p l e R s m args below meth c H locs (M.1 - n0) (am_sl M.1 - am_sl n0) Q (F0 m pc lsR (st.map (am_rv (am_ad base ro))))
/-- a method's contract by a run of it -/
def am_Met (X : am_X) (l : Launch) (base : Nat) (ro : Nat → Nat) (ct : Nat → ClassId) (D : va_G) (d : Nat) (ν : am_MM) (as : List Value) (M : am_M) (v : Option Value) (M' : am_M) : Prop :=
  Met l ν.2.1 (am_ws ν) (am_room d (M'.1 - M.1) (am_sl M'.1 - am_sl M.1)) (am_Pc X base ro ct D as M) (am_Qc base ro ct D v M') (M'.1 - M.1) (am_sl M'.1 - am_sl M.1) (fun q => base ≤ q)
set_option maxHeartbeats 8000000 in
theorem am_Met_of {X : am_X} {l : Launch} {base : Nat} {ro : Nat → Nat} {ct : Nat → ClassId} {D : va_G} {f d : Nat} {ν : am_MM} {as : List Value} {M : am_M} {v : Option Value} {M' : am_M} (hpl : plainName ν.2.1.cls = true) (hcl : ν.2.1.cls = am_cn ν.1) (hlen : (am_args as).length ≤ ν.2.2.2.1) (hn : M.1 ≤ 1003)
    (hw : am_Walk X l base ro ct D f d ν 0 (am_en as ν.2.2.2.1) [] M v M') : am_Met X l base ro ct D d ν as M v M' := by
  refine Met.ofW (cc := ν.2.2.1) (maxL := ν.2.2.2.1) (ret := ν.2.2.2.2) (ws' := am_WS) hpl rfl ?_
  intro p e s m args below meth c s₁ B hml hv
  obtain ⟨rfl, hsz, hP, hK, hO⟩ := hv
  have hts0 := atoms_spec (ws := am_ws ν) B.pre
  have hts : ∀ w ∈ am_WS, w.before (as.map (am_rv (am_ad base ro))).toArray s = true := fun w h => hts0 w (List.mem_cons_of_mem _ h)
  have hown : s.vm.findClass (am_cn ν.1) = some m.cls := by rw [← hcl]; exact findClass_of_methodNamed B.named
  have hl := lv_entry (as.map (am_rv (am_ad base ro))) (n := ν.2.2.2.1) (by rw [am_args_len]; exact hlen)
  rw [lg_entry_eq]
  generalize (lg_sl (as.map (am_rv (am_ad base ro))) ++ List.replicate (ν.2.2.2.1 - (lg_sl (as.map (am_rv (am_ad base ro)))).length) Slot.unset).toArray = lsR at hl ⊢
  have hLV := am_en_LV hlen hl
  have hr := B.returns
  have hlk := B.notSynchronized
  have h := hw p e (am_room d (M'.1 - M.1) (am_sl M'.1 - am_sl M.1)) s m _ below meth c s.heap [] (MQ below (am_Qc base ro ct D v M') (as.map (am_rv (am_ad base ro))).toArray s (M'.1 - M.1) (am_sl M'.1 - am_sl M.1) (fun q => base ≤ q)) lsR M.1 B.exec B.bytes (by rw [hml, ← hLV.1, hl.1]) hown hts (fun z => by rw [← z]; exact (name_of_methodNamed B.named B.method).1) hK hO hsz (Nat.le_refl _) hn (Nat.le_refl _) (Nat.le_refl _) (Nat.le_refl _) (Nat.le_refl _) hP va_S.rf hLV ?_
  · rw [Nat.sub_self, Nat.sub_self] at h
    exact h
  · intro pc' len i st' lsR' H' locs' hd hret hP' hS'
    have hq : ∀ t : State, t.heap = H' → s.WarmedH t.vm → am_Qc base ro ct D v M' (as.map (am_rv (am_ad base ro))).toArray s (.returned (v.map (am_rv (am_ad base ro)))) t := fun t ht _ => ⟨rfl, by rw [ht]; exact hP', hS'.F ht⟩
    unfold am_ret at hret
    split at hret <;> try (first | (cases hret; done) | skip)
    · split at hret
      · next ty hty =>
        split at hret
        · next hnr =>
          cases hret
          exact W.zret B.exec B.bytes (by rw [hr]; exact hty) hnr hq hS'.2.2 hd hlk
        · cases hret
      · cases hret
    · split at hret
      · next hty =>
        cases hret
        exact W.lret B.exec B.bytes (by rw [hr]; exact hty) hq hS'.2.2 hd hlk
      · cases hret
    · split at hret
      · next hty =>
        cases hret
        exact W.vret B.exec B.bytes (by rw [hr]; exact hty) hq hS'.2.2 hd hlk
      · cases hret
