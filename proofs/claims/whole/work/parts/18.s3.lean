/-! int[][]: the outer row, then its rows one by one -/
def mu_o (c : ClassId) (N h0 i : Nat) : Cell := arrV c N (fun j => va_rf (if j < i then some (h0 + 1 + j) else none))
def mu_s (T : State) (c comp : ClassId) (N K : Nat) : Nat → State
  | 0 => T.pushCell (mu_o c N T.heap.size 0)
  | i + 1 => ((mu_s T c comp N K i).pushCell (arrV comp K (fun _ => .int 0))).setCell T.heap.size (mu_o c N T.heap.size (i + 1))
theorem mu_o_0 (c : ClassId) (N h0 : Nat) : ({ cls := c, slots := Array.replicate N .null, vm := .none } : Cell) = mu_o c N h0 0 := by
  rw [arrV_new]
  unfold mu_o
  congr 1
theorem mu_o_set (c : ClassId) (N h0 i : Nat) : (mu_o c N h0 i).setSlot i (.ref (h0 + 1 + i)) = mu_o c N h0 (i + 1) := by
  unfold mu_o
  rw [arrV_store]
  refine congrArg (arrV c N) (funext fun j => ?_)
  by_cases e : j = i
  · subst e
    simp [updV, va_rf]
  · by_cases h : j < i
    · simp [updV, va_rf, e, h, Nat.lt_succ_of_lt h]
    · simp [updV, va_rf, e, h, show ¬ j < i + 1 by omega]
theorem mu_facts (T : State) (c comp : ClassId) (N K : Nat) : ∀ i, (mu_s T c comp N K i).heap.size = T.heap.size + 1 + i ∧ (mu_s T c comp N K i).heap[T.heap.size]? = some (mu_o c N T.heap.size i) ∧ (mu_s T c comp N K i).vm = T.vm ∧ (mu_s T c comp N K i).slotsUsed = T.slotsUsed + N + i * K ∧ (∀ a, a < T.heap.size → (mu_s T c comp N K i).heap[a]? = T.heap[a]?) ∧ ∀ j, j < i → (mu_s T c comp N K i).heap[T.heap.size + 1 + j]? = some (arrV comp K (fun _ => .int 0)) := by
  intro i
  induction i with
  | zero => exact ⟨by simp [mu_s], by simp [mu_s], rfl, by simp [mu_s, mu_o, arrV_size], fun a ha => State.heap_pushCell_of_lt _ _ ha, fun j hj => absurd hj (Nat.not_lt_zero _)⟩
  | succ i ih =>
    obtain ⟨a, b, v, u, o, r⟩ := ih
    have hlt : T.heap.size < (mu_s T c comp N K i).heap.size := by omega
    have hb : ((mu_s T c comp N K i).pushCell (arrV comp K (fun _ => .int 0))).heap[T.heap.size]? = some (mu_o c N T.heap.size i) := by rw [State.heap_pushCell_of_lt (h := hlt)]; exact b
    refine ⟨?_, State.heap_setCell_self hb, by simp [mu_s, v], ?_, fun x hx => ?_, fun j hj => ?_⟩
    · simp [mu_s, State.setCell, a]; omega
    · simp [mu_s, u, arrV_size, Nat.succ_mul]; omega
    · show (((mu_s T c comp N K i).pushCell (arrV comp K (fun _ => .int 0))).setCell T.heap.size _).heap[x]? = _
      rw [State.heap_setCell_other (Nat.ne_of_gt hx), State.heap_pushCell_of_lt (h := Nat.lt_of_lt_of_le hx (by rw [a]; omega))]
      exact o x hx
    · show (((mu_s T c comp N K i).pushCell (arrV comp K (fun _ => .int 0))).setCell T.heap.size _).heap[T.heap.size + 1 + j]? = _
      rw [State.heap_setCell_other (show T.heap.size ≠ T.heap.size + 1 + j by omega)]
      by_cases h : j < i
      · have hlt2 : T.heap.size + 1 + j < (mu_s T c comp N K i).heap.size := by rw [a]; omega
        rw [State.heap_pushCell_of_lt (h := hlt2)]
        exact r j h
      · have e : j = i := by omega
        subst e
        rw [← a]
        exact State.heap_pushCell_size _ _
theorem mu_top (T : State) (f : JFrame) (c comp : ClassId) (N K : Nat) : ∀ i, mu_s (T.setTop f) c comp N K i = (mu_s T c comp N K i).setTop f := by
  intro i
  induction i with
  | zero => rfl
  | succ i ih => simp only [mu_s, ih, State.heap_setTop, State.pushCell_setTop, State.setCell_setTop]
section MUW
variable {E : CtlPost} {e : Env} {d : Bool} {acts : List Action} {s : State}
theorem mu_new {c comp : ClassId} {k : Class} {type : FieldType} {len : Nat} {init : Value} (hk : s.vm.classes[c]? = some k) (hkind : k.kind = .array comp type)
    (hlimit : ¬ len > e.platform.arrayLengthLimit) (hheap : ¬ len * componentBytes type > e.platform.maxHeapBytes) (hfit : fits type init = true) (hdef : init.isDefault = true) {Q : Addr → Pre}
    (h1 : s.heap.size < e.platform.maxCells) (h2 : s.slotsUsed + len ≤ e.platform.maxSlots)
    (hq : Q s.heap.size d acts (s.pushCell (arrV c len (fun _ => init)))) : wp (Jvm.newArray c len init) Q E e d acts s := by
  rw [← arrV_new] at hq
  have hfits : ∀ i v, (Array.replicate len init)[i]? = some v → s.fitsSlot c .none i v = true := by
    intro i v hv
    rw [Array.getElem?_replicate] at hv
    split at hv
    · cases hv
      simp [State.fitsSlot, State.slotType?, hk, hkind, hfit]
    · cases hv
  have hall : ((Array.replicate len init).all (·.isDefault)) = true := by
    rw [Array.all_replicate]
    split <;> simp [hdef]
  have hda : allocActs (Array.replicate len init) s.heap.size acts = acts := by
    unfold allocActs
    rw [if_pos hall]
  simp only [Jvm.newArray, Jvm.arrayFits, wp_bind', W.ask, W.ite, hlimit, if_false, wp_pure', W.theClass, hk, hkind, hheap, W.alloc, W.stop, Option.some.injEq, exists_eq_left', Array.size_replicate, hda]
  rw [if_neg (by omega)]
  exact ⟨h1, h2, hfits, hq⟩
theorem mu_in {comp cc : ClassId} {kc : Class} {m : Int32} (hkc : s.vm.classes[comp]? = some kc) (hkindc : kc.kind = .array cc .int) (hm : ¬ m < 0) (hl2 : ¬ m.toNatClampNeg > e.platform.arrayLengthLimit) (hh2 : ¬ m.toNatClampNeg * componentBytes .int > e.platform.maxHeapBytes)
    (h1 : s.heap.size < e.platform.maxCells) (h2 : s.slotsUsed + m.toNatClampNeg ≤ e.platform.maxSlots) {Q : Addr → Pre} (hq : Q s.heap.size d acts (s.pushCell (arrV comp m.toNatClampNeg (fun _ => .int 0)))) :
    wp (multianewarray.make comp [m]) Q E e d acts s := by
  rw [multianewarray.make]
  simp only [wp_bind', W.ite, hm, if_false, wp_pure', W.theClass, hkc, hkindc, Option.some.injEq, exists_eq_left']
  exact mu_new hkc hkindc hl2 hh2 rfl rfl h1 h2 hq
theorem mu_make {c comp cc : ClassId} {k kc : Class} {n m : Int32} (hk : s.vm.classes[c]? = some k) (hkind : k.kind = .array comp (.array .int)) (hkc : s.vm.classes[comp]? = some kc) (hkindc : kc.kind = .array cc .int) (hn : ¬ n < 0) (hm : ¬ m < 0)
    (hl1 : ¬ n.toNatClampNeg > e.platform.arrayLengthLimit) (hh1 : ¬ n.toNatClampNeg * componentBytes (.array .int) > e.platform.maxHeapBytes) (hl2 : ¬ m.toNatClampNeg > e.platform.arrayLengthLimit) (hh2 : ¬ m.toNatClampNeg * componentBytes .int > e.platform.maxHeapBytes)
    (hc : s.heap.size + 1 + n.toNatClampNeg ≤ e.platform.maxCells) (hs : s.slotsUsed + n.toNatClampNeg + n.toNatClampNeg * m.toNatClampNeg ≤ e.platform.maxSlots)
    {Q : Addr → Pre} (hq : ∀ d' acts', Q s.heap.size d' acts' (mu_s s c comp n.toNatClampNeg m.toNatClampNeg n.toNatClampNeg)) : wp (multianewarray.make c [n, m]) Q E e d acts s := by
  have hfind : ([m].find? (· < 0)) = none := by simp [hm]
  generalize hN : n.toNatClampNeg = N at *
  generalize hK : m.toNatClampNeg = K at *
  rw [multianewarray.make]
  simp only [wp_bind', W.ite, hn, if_false, wp_pure', W.theClass, hk, hkind, Option.some.injEq, exists_eq_left', hN]
  refine mu_new hk hkind hl1 hh1 rfl rfl (by omega) (by have := Nat.zero_le (N * K); omega) ?_
  simp only [hfind]
  rw [ite_self, wp_bind', Std.Legacy.Range.forIn_eq_forIn_range']
  have hsz : ([:N] : Std.Legacy.Range).size = N := by simp [Std.Legacy.Range.size]
  rw [hsz]
  show wp (forIn (List.range' 0 N 1) PUnit.unit _) _ E e d acts _
  refine wp_forIn_inv (fun rest s' => ∃ i, i ≤ N ∧ rest = List.range' i (N - i) ∧ s' = mu_s s c comp N K i) _ _ ⟨0, Nat.zero_le _, rfl, rfl⟩ ?_ ?_
  · rintro x rest s' d' acts' Q' ⟨i, hi, hl, rfl⟩ hnext
    have hlt : i < N := by
      by_cases h : i < N
      · exact h
      · rw [show N - i = 0 from by omega] at hl; simp at hl
    rw [show N - i = (N - (i + 1)) + 1 from by omega, List.range'_succ] at hl
    have hx : x = i := (List.cons.inj hl).1
    have hrest := (List.cons.inj hl).2
    subst hx
    obtain ⟨f1, f2, f3, f4, -, -⟩ := mu_facts s c comp N K x
    have hmul : x * K + K ≤ N * K := by
      have := Nat.mul_le_mul_right K (show x + 1 ≤ N from hlt)
      rwa [Nat.succ_mul] at this
    simp only [wp_bind']
    refine mu_in (by rw [f3]; exact hkc) hkindc hm (by rw [hK]; exact hl2) (by rw [hK]; exact hh2) (by rw [f1]; omega) (by rw [f4, hK]; omega) ?_
    rw [hK]
    have hlt0 : s.heap.size < (mu_s s c comp N K x).heap.size := by rw [f1]; omega
    simp only [wp_bind', W.writeLoc, wp_pure']
    refine ⟨mu_o c N s.heap.size x, by rw [State.heap_pushCell_of_lt (h := hlt0)]; exact f2, by simp [mu_o, arrV], by simp [mu_o, arrV_size]; exact hlt, ?_, hnext _ _ _ ⟨x + 1, hlt, hrest, ?_⟩⟩
    · simp [mu_o, arrV, State.fitsSlot, State.slotType?, f3, hk, hkind, fits]
    · rw [f1, mu_o_set]; rfl
  · rintro s' d' acts' ⟨i, hi, hl, rfl⟩
    have hiN : i = N := by
      by_cases h : i < N
      · rw [show N - i = (N - (i + 1)) + 1 from by omega, List.range'_succ] at hl; cases hl
      · omega
    subst hiN
    simp only [wp_pure']
    exact hq _ _
end MUW
section MUS
variable {p : Program} {l : Launch} {e : Env} {R : Room} {s : State} {m : MethodId} {args : Array Value} {below : List Frame} {meth : Method} {c : Code} {T : State} {locs : List Loc} {cells slots : Nat}
theorem mu_stand (X : Stand p l e R s m args below meth c T locs cells slots) (cA comp : ClassId) (N K : Nat) : ∀ i, Stand p l e R s m args below meth c (mu_s T cA comp N K i) (locs ++ (List.range i).map fun j => ⟨T.heap.size, j⟩) (cells + 1 + i) (slots + N + i * K) := by
  intro i
  induction i with
  | zero =>
    have h := X.pushed (mu_o cA N T.heap.size 0)
    rw [show (mu_o cA N T.heap.size 0).slots.size = N by simp [mu_o, arrV_size]] at h
    simpa [mu_s] using h
  | succ i ih =>
    obtain ⟨f1, f2, -, -, -, -⟩ := mu_facts T cA comp N K i
    have hlt3 : T.heap.size < (mu_s T cA comp N K i).heap.size := by rw [f1]; omega
    have hcell : ((mu_s T cA comp N K i).pushCell (arrV comp K (fun _ => .int 0))).heap[T.heap.size]? = some (mu_o cA N T.heap.size i) := by rw [State.heap_pushCell_of_lt (h := hlt3)]; exact f2
    have h := (ih.pushed (arrV comp K (fun _ => .int 0))).stored hcell i (.ref (T.heap.size + 1 + i))
    rw [arrV_size, mu_o_set] at h
    rw [show (locs ++ (List.range (i + 1)).map fun j => (⟨T.heap.size, j⟩ : Loc)) = (locs ++ (List.range i).map fun j => (⟨T.heap.size, j⟩ : Loc)) ++ [⟨T.heap.size, i⟩] by simp [List.range_succ, List.append_assoc], show slots + N + (i + 1) * K = slots + N + i * K + K by rw [Nat.succ_mul]; omega]
    exact h
end MUS
def am_arrOf (comp : ClassId) (x : Class) : Bool := match x.kind with
  | .array component _ => component == comp
  | _ => false
theorem am_idx_bare (vm : Vm) (comp : ClassId) : vm.bare.classes.findIdx? (am_arrOf comp) = vm.classes.findIdx? (am_arrOf comp) := by
  simp only [Vm.bare, Array.findIdx?_map]
  rfl
theorem am_over_spec {args : Array Value} {s : State} (h : (Cond.arrayOver (.array .int)).before args s = true) :
    ∃ comp c k, s.vm.findClass (FieldType.array .int).toString = some comp ∧ s.vm.classes.findIdx? (am_arrOf comp) = some c ∧ s.vm.classes[c]? = some k ∧ k.kind = .array comp (.array .int) ∧ s.vm.findClass ("[" ++ (FieldType.array .int).toString) = some c := by
  unfold Cond.before at h
  simp only [Cond.holds, Cond.value, beq_iff_eq] at h
  cases hc : s.vm.findClass (FieldType.array .int).toString with
  | none => simp [hc] at h
  | some comp =>
    simp only [hc, Option.bind_some, Option.bind_eq_some_iff, Option.map_eq_some_iff] at h
    obtain ⟨c, hi, k, hk, hb⟩ := h
    obtain ⟨hlt, hp, -⟩ := Array.findIdx?_eq_some_iff_getElem.mp hi
    have hkk : s.vm.classes[c] = k := (Array.getElem?_eq_some_iff.mp hk).2
    rw [hkk] at hp
    cases hkind : k.kind with
    | array component ty =>
      rw [hkind] at hb hp
      simp at hb hp
      exact ⟨comp, c, k, rfl, hi, hk, by rw [hkind, hp, hb.1], hb.2⟩
    | _ => rw [hkind] at hb; simp at hb
