/-! ROWS OF ROWS: the machine's step, then the two heaps behind it -/
/-- the heap while the rows are made: the outer row of n at the end of H, i of its rows behind it -/
def mu_H (H : Heap) (cA cI : ClassId) (n k : Nat) : Nat → Heap
  | 0 => H.push (arrV cA n (fun _ => .null))
  | i + 1 => ((mu_H H cA cI n k i).push (arrV cI k (fun _ => .int 0))).setIfInBounds H.size (arrV cA n (fun j => if j < i + 1 then .ref (H.size + 1 + j) else .null))
theorem mu_sz (H : Heap) (cA cI : ClassId) (n k i : Nat) : (mu_H H cA cI n k i).size = H.size + 1 + i := by
  induction i with
  | zero => simp [mu_H]
  | succ i ih =>
    simp only [mu_H, Array.size_setIfInBounds, Array.size_push, ih]
    omega
theorem mu_old (H : Heap) (cA cI : ClassId) (n k i : Nat) {q : Nat} (hq : q < H.size) : (mu_H H cA cI n k i)[q]? = H[q]? := by
  induction i with
  | zero => simp only [mu_H, Array.getElem?_push, if_neg (Nat.ne_of_lt hq)]
  | succ i ih =>
    have hz := mu_sz H cA cI n k i
    simp only [mu_H, Array.getElem?_setIfInBounds, Array.getElem?_push, Array.size_push]
    rw [if_neg (by omega), if_neg (by omega)]
    exact ih
theorem mu_out (H : Heap) (cA cI : ClassId) (n k i : Nat) : (mu_H H cA cI n k i)[H.size]? = some (arrV cA n (fun j => if j < i then .ref (H.size + 1 + j) else .null)) := by
  cases i with
  | zero => simp [mu_H]
  | succ i =>
    have hz := mu_sz H cA cI n k i
    simp only [mu_H, Array.getElem?_setIfInBounds, Array.size_push]
    rw [if_pos trivial, if_pos (by omega)]
section MultiWp
variable {E : CtlPost} {e : Env} {d : Bool} {acts : List Action} {s : State}
/-- a row of its class's first values -/
theorem mu_row {c comp : ClassId} {kl : Class} {ty : FieldType} {len : Nat} {x : Value} (h1 : s.vm.classes[c]? = some kl) (h2 : kl.kind = .array comp ty) (h3 : ¬ len > e.platform.arrayLengthLimit) (h4 : ¬ len * componentBytes ty > e.platform.maxHeapBytes) (h5 : fits ty x = true) (h6 : x.isDefault = true) (h7 : s.heap.size < e.platform.maxCells) (h8 : s.slotsUsed + len ≤ e.platform.maxSlots) {Q : Addr → Pre} (k : Q s.heap.size d acts (s.pushCell { cls := c, slots := Array.replicate len x, vm := .none })) : wp (Jvm.newArray c len x) Q E e d acts s := by
  have hf : ∀ (j : Nat) (v : Value), (Array.replicate len x)[j]? = some v → s.fitsSlot c .none j v = true := by
    intro j v hv
    rw [Array.getElem?_replicate] at hv
    split at hv
    · cases hv
      simp [State.fitsSlot, State.slotType?, h1, h2, h5]
    · cases hv
  have ha : allocActs (Array.replicate len x) s.heap.size acts = acts := by
    have : ((Array.replicate len x).all (·.isDefault)) = true := by
      rw [Array.all_replicate]
      split <;> simp [h6]
    unfold allocActs
    rw [if_pos this]
  have h9 : ¬ len > e.platform.maxSlots := by omega
  unfold Jvm.newArray Jvm.arrayFits
  simp only [wp_bind', Jvm.W.ask, Jvm.W.ite, h3, if_false, wp_pure', Jvm.W.theClass, h1, h2, h4, h9, Jvm.W.alloc, Option.some.injEq, exists_eq_left', Array.size_replicate, ha]
  exact ⟨h7, h8, hf, k⟩
/-- all of it, by what the state is behind each row -/
theorem mu_make {c ci cc : ClassId} {kl ki : Class} {n k : Int32} (I : Nat → State → Prop) (h1 : ∀ i s', I i s' → s'.vm.classes[ci]? = some ki) (hk : s.vm.classes[c]? = some kl) (hd : kl.kind = .array ci (.array .int)) (hdi : ki.kind = .array cc .int) (hn : ¬ n < 0) (hk0 : ¬ k < 0)
    (a1 : ¬ n.toNatClampNeg > e.platform.arrayLengthLimit) (a2 : ¬ n.toNatClampNeg * 4 > e.platform.maxHeapBytes) (a3 : ¬ k.toNatClampNeg > e.platform.arrayLengthLimit) (a4 : ¬ k.toNatClampNeg * 4 > e.platform.maxHeapBytes) (h7 : s.heap.size < e.platform.maxCells) (h8 : s.slotsUsed + n.toNatClampNeg ≤ e.platform.maxSlots)
    (h0 : I 0 (s.pushCell { cls := c, slots := Array.replicate n.toNatClampNeg .null, vm := .none }))
    (hs : ∀ i s', i < n.toNatClampNeg → I i s' → s'.heap.size < e.platform.maxCells ∧ s'.slotsUsed + k.toNatClampNeg ≤ e.platform.maxSlots ∧ ∃ cell : Cell, (s'.pushCell { cls := ci, slots := Array.replicate k.toNatClampNeg (.int 0), vm := .none }).heap[s.heap.size]? = some cell ∧ cell.vm ≠ .unknown ∧ i < cell.slots.size ∧ (s'.pushCell { cls := ci, slots := Array.replicate k.toNatClampNeg (.int 0), vm := .none }).fitsSlot cell.cls cell.vm i (.ref s'.heap.size) = true ∧ I (i + 1) ((s'.pushCell { cls := ci, slots := Array.replicate k.toNatClampNeg (.int 0), vm := .none }).setCell s.heap.size (cell.setSlot i (.ref s'.heap.size))))
    {Q : Addr → Pre} (hq : ∀ d' acts' s', I n.toNatClampNeg s' → Q s.heap.size d' acts' s') : wp (multianewarray.make c [n, k]) Q E e d acts s := by
  have hf : ([k].find? (· < 0)) = none := by simp [hk0]
  rw [multianewarray.make]
  simp only [wp_bind', Jvm.W.ite, hn, if_false, wp_pure', Jvm.W.theClass, hk, hd, Option.some.injEq, exists_eq_left']
  refine mu_row hk hd a1 a2 rfl rfl h7 h8 ?_
  simp only [hf]
  rw [ite_self, wp_bind', Std.Legacy.Range.forIn_eq_forIn_range']
  have hz : ([:n.toNatClampNeg] : Std.Legacy.Range).size = n.toNatClampNeg := by simp [Std.Legacy.Range.size]
  rw [hz]
  show wp (forIn (List.range' 0 n.toNatClampNeg 1) PUnit.unit _) _ E e d acts _
  refine wp_forIn_inv (fun r s' => ∃ i, i + r.length = n.toNatClampNeg ∧ r = List.range' i r.length ∧ I i s') _ _ ⟨0, by simp, by simp, h0⟩ ?_ ?_
  · intro x r s' d' acts' Q' hi nx
    obtain ⟨i, hl, hr, hi⟩ := hi
    have hl : i + (r.length + 1) = n.toNatClampNeg := hl
    have hr : x :: r = List.range' i (r.length + 1) := hr
    rw [List.range'_succ] at hr
    obtain ⟨rfl, hr⟩ := List.cons.inj hr
    obtain ⟨b1, b2, cell, b3, b4, b5, b6, b7⟩ := hs x s' (by omega) hi
    have hki := h1 x s' hi
    rw [multianewarray.make]
    simp only [wp_bind', Jvm.W.ite, hk0, if_false, wp_pure', Jvm.W.theClass, hki, hdi, Option.some.injEq, exists_eq_left']
    refine mu_row hki hdi a3 a4 rfl rfl b1 b2 ?_
    simp only [wp_bind', Jvm.W.writeLoc, wp_pure']
    exact ⟨cell, b3, b4, b5, b6, nx _ _ _ ⟨x + 1, by omega, hr, b7⟩⟩
  · intro s' d' acts' hi
    obtain ⟨i, hl, -, hi⟩ := hi
    have hl : i = n.toNatClampNeg := hl
    subst hl
    simp only [wp_pure']
    exact hq _ _ _ hi
end MultiWp
/-- the states while the rows are made -/
def mu_S (T : State) (cA cI : ClassId) (n k : Nat) : Nat → State
  | 0 => T.pushCell (arrV cA n (fun _ => .null))
  | i + 1 => ((mu_S T cA cI n k i).pushCell (arrV cI k (fun _ => .int 0))).setCell T.heap.size (arrV cA n (fun j => if j < i + 1 then .ref (T.heap.size + 1 + j) else .null))
theorem mu_S_heap (T : State) (cA cI : ClassId) (n k i : Nat) : (mu_S T cA cI n k i).heap = mu_H T.heap cA cI n k i := by
  induction i with
  | zero => simp [mu_S, mu_H]
  | succ i ih =>
    simp only [mu_S, mu_H, State.setCell, State.heap_pushCell, ih]
theorem mu_S_vm (T : State) (cA cI : ClassId) (n k i : Nat) : (mu_S T cA cI n k i).vm = T.vm := by
  induction i with
  | zero => rfl
  | succ i ih => exact ih
theorem mu_S_used (T : State) (cA cI : ClassId) (n k i : Nat) : (mu_S T cA cI n k i).slotsUsed = T.slotsUsed + n + i * k := by
  induction i with
  | zero => simp [mu_S, arrV_size]
  | succ i ih =>
    have : (mu_S T cA cI n k (i + 1)).slotsUsed = (mu_S T cA cI n k i).slotsUsed + k := by simp [mu_S, arrV_size]
    rw [this, ih, Nat.succ_mul]
    omega
theorem mu_S_top (T : State) (f : JFrame) (cA cI : ClassId) (n k i : Nat) : mu_S (T.setTop f) cA cI n k i = (mu_S T cA cI n k i).setTop f := by
  induction i with
  | zero => rfl
  | succ i ih => simp only [mu_S, ih, State.heap_setTop, State.pushCell_setTop, State.setCell_setTop]
theorem mu_cell (H0 n i : Nat) (cA : ClassId) : (arrV cA n (fun j => if j < i then .ref (H0 + 1 + j) else .null)).setSlot i (.ref (H0 + 1 + i)) = arrV cA n (fun j => if j < i + 1 then .ref (H0 + 1 + j) else .null) := by
  rw [arrV_store]
  congr 1
  funext j
  unfold updV
  by_cases h : j = i
  · subst h
    simp
  · rw [if_neg h]
    show (if j < i then Value.ref (H0 + 1 + j) else Value.null) = _
    by_cases h2 : j < i
    · rw [if_pos h2, if_pos (by omega)]
    · rw [if_neg h2, if_neg (by omega)]
theorem mu_over {args : Array Value} {s : State} (h : (Cond.arrayOver (.array .int)).before args s = true) : ∃ (ci c : ClassId) (kl : Class), s.vm.findClass "[I" = some ci ∧ s.vm.classes[c]? = some kl ∧ kl.kind = .array ci (.array .int) ∧ s.vm.findClass "[[I" = some c := by
  unfold Cond.before at h
  simp only [Cond.holds, Cond.value, beq_iff_eq] at h
  cases hc : s.vm.findClass "[I" with
  | none =>
    rw [show (FieldType.array FieldType.int).toString = "[I" from rfl, hc] at h
    simp at h
  | some ci =>
    rw [show (FieldType.array FieldType.int).toString = "[I" from rfl] at h
    simp only [hc, Option.bind_some, Option.bind_eq_some_iff, Option.map_eq_some_iff] at h
    obtain ⟨c, hi, kl, hk, hb⟩ := h
    obtain ⟨hlt, hp, -⟩ := Array.findIdx?_eq_some_iff_getElem.mp hi
    have hkk : s.vm.classes[c] = kl := (Array.getElem?_eq_some_iff.mp hk).2
    rw [hkk] at hp
    cases hkind : kl.kind with
    | array comp ty =>
      rw [hkind] at hb hp
      simp at hb hp
      exact ⟨ci, c, kl, rfl, hk, by rw [hkind, hp, hb.1], hb.2⟩
    | _ =>
      rw [hkind] at hb
      simp at hb
theorem mu_fit {X : State} {cA cI : ClassId} {kA : Class} {a i : Nat} (h : X.vm.classes[cA]? = some kA) (hd : kA.kind = .array cI (.array .int)) : X.fitsSlot cA .none i (.ref a) = true := by
  simp [State.fitsSlot, State.slotType?, h, hd, fits]
section MultiMk
variable {E : CtlPost} {e : Env} {d : Bool} {acts : List Action}
theorem mu_mk {T : State} {f : JFrame} {cA cI cc : ClassId} {kA kI : Class} {n k : Int32} (hkA : T.vm.classes[cA]? = some kA) (hdA : kA.kind = .array cI (.array .int)) (hkI : T.vm.classes[cI]? = some kI) (hdI : kI.kind = .array cc .int) (hn : ¬ n < 0) (hk : ¬ k < 0)
    (a1 : ¬ n.toNatClampNeg > e.platform.arrayLengthLimit) (a2 : ¬ n.toNatClampNeg * 4 > e.platform.maxHeapBytes) (a3 : ¬ k.toNatClampNeg > e.platform.arrayLengthLimit) (a4 : ¬ k.toNatClampNeg * 4 > e.platform.maxHeapBytes) (r1 : T.heap.size + (1 + n.toNatClampNeg) ≤ e.platform.maxCells) (r2 : T.slotsUsed + (n.toNatClampNeg + n.toNatClampNeg * k.toNatClampNeg) ≤ e.platform.maxSlots)
    {Q : Addr → Pre} (hq : ∀ d' acts', Q T.heap.size d' acts' ((mu_S T cA cI n.toNatClampNeg k.toNatClampNeg n.toNatClampNeg).setTop f)) : wp (multianewarray.make cA [n, k]) Q E e d acts (T.setTop f) := by
  refine mu_make (s := T.setTop f) (c := cA) (ci := cI) (cc := cc) (kl := kA) (ki := kI) (fun i s' => s' = (mu_S T cA cI n.toNatClampNeg k.toNatClampNeg i).setTop f) (fun i s' h => by rw [h, State.vm_setTop, mu_S_vm]; exact hkI) (by rw [State.vm_setTop]; exact hkA) hdA hdI hn hk a1 a2 a3 a4 (by show T.heap.size < _; omega) (by show T.slotsUsed + _ ≤ _; have := Nat.zero_le (n.toNatClampNeg * k.toNatClampNeg); omega) ?_ ?_ ?_
  · rw [arrV_new]
    rfl
  · rintro i s' hi rfl
    have hz := mu_sz T.heap cA cI n.toNatClampNeg k.toNatClampNeg i
    have hh : (mu_S T cA cI n.toNatClampNeg k.toNatClampNeg i).heap = mu_H T.heap cA cI n.toNatClampNeg k.toNatClampNeg i := mu_S_heap _ _ _ _ _ _
    have hu := mu_S_used T cA cI n.toNatClampNeg k.toNatClampNeg i
    have hv := mu_S_vm T cA cI n.toNatClampNeg k.toNatClampNeg i
    have hmul : i * k.toNatClampNeg + k.toNatClampNeg ≤ n.toNatClampNeg * k.toNatClampNeg := by
      have := Nat.mul_le_mul_right k.toNatClampNeg (show i + 1 ≤ n.toNatClampNeg from hi)
      rwa [Nat.succ_mul] at this
    generalize hS : mu_S T cA cI n.toNatClampNeg k.toNatClampNeg i = S at hh hu hv ⊢
    have hsz : S.heap.size = T.heap.size + 1 + i := by rw [hh, hz]
    refine ⟨?_, ?_, arrV cA n.toNatClampNeg (fun j => if j < i then .ref (T.heap.size + 1 + j) else .null), ?_, by simp [arrV], by rw [arrV_size]; exact hi, ?_, ?_⟩
    · show S.heap.size < _
      omega
    · show S.slotsUsed + _ ≤ _
      omega
    · show (S.heap.push _)[T.heap.size]? = _
      rw [Array.getElem?_push, if_neg (by omega), hh]
      exact mu_out _ _ _ _ _ _
    · exact mu_fit (kA := kA) (cI := cI) (by show S.vm.classes[cA]? = _; rw [hv]; exact hkA) hdA
    · show _ = State.setTop (mu_S T cA cI n.toNatClampNeg k.toNatClampNeg (i + 1)) f
      rw [show (State.setTop S f).heap.size = T.heap.size + 1 + i from hsz, mu_cell, arrV_new]
      show _ = State.setTop (((mu_S T cA cI n.toNatClampNeg k.toNatClampNeg i).pushCell _).setCell _ _) f
      rw [hS]
      rfl
  · rintro d' acts' s' rfl
    exact hq _ _
end MultiMk
section MultiW
variable {p : Program} {l : Launch} {e : Env} {R : Room} {s : State} {m : MethodId} {args : Array Value} {below : List Frame} {meth : Method} {c : Code} {H : Heap} {locs : List Loc} {cells slots : Nat} {Q : State → Prop}
theorem mu_Stand {T : State} (X : Stand p l e R s m args below meth c T locs cells slots) (hf : s.heap.size ≤ T.heap.size) (cA cI : ClassId) (n k i : Nat) : Stand p l e R s m args below meth c (mu_S T cA cI n k i) locs (cells + 1 + i) (slots + n + i * k) := by
  induction i with
  | zero =>
    have h := X.pushed (arrV cA n (fun _ => .null))
    rw [arrV_size] at h
    simpa [mu_S] using h
  | succ i ih =>
    have h := ih.pushed (arrV cI k (fun _ => .int 0))
    rw [arrV_size] at h
    have hz := mu_sz T.heap cA cI n k i
    have hc : ((mu_S T cA cI n k i).pushCell (arrV cI k (fun _ => .int 0))).heap[T.heap.size]? = some (arrV cA n (fun j => if j < i then .ref (T.heap.size + 1 + j) else .null)) := by
      have hlt : T.heap.size < (mu_S T cA cI n k i).heap.size := by rw [mu_S_heap, hz]; omega
      rw [State.heap_pushCell_of_lt (h := hlt), mu_S_heap]
      exact mu_out _ _ _ _ _ _
    have h2 := (h.stored hc i (.ref (T.heap.size + 1 + i))).forget (fun x hx => by
      rw [List.mem_singleton.mp hx]
      exact hf)
    rw [mu_cell] at h2
    rw [show cells + 1 + (i + 1) = cells + 1 + i + 1 by omega, show slots + n + (i + 1) * k = slots + n + i * k + k by rw [Nat.succ_mul]; omega]
    exact h2
theorem mu_W (hexec : p.tables.exec = Jvm.exec) {own : String} {index : Nat} (hown : s.vm.findClass own = some m.cls) (hlink : (Cond.classLink own index "[[I").before args s = true) (hover : (Cond.arrayOver (.array .int)).before args s = true) {cA cI : ClassId} (hAn : s.vm.findClass "[[I" = some cA) (hI : ArrOfT s cI .int) (hIn : s.vm.findClass "[I" = some cI)
    {g : JFrame} (hg : g.method = m) (hdg : decode c.code g.pc = .ok (.multianewarray index 2, 4)) {n k : Int32} {rest : List Value} (hstack : g.stack = .int k :: .int n :: rest) (hn : ¬ n < 0) (hk : ¬ k < 0) (b1 : n.toNatClampNeg ≤ 1000) (b2 : k.toNatClampNeg ≤ 1000)
    (hcells : cells + (1 + n.toNatClampNeg) ≤ R.cells) (hslots : slots + (n.toNatClampNeg + n.toNatClampNeg * k.toNatClampNeg) ≤ R.slots) (hfree : s.heap.size ≤ H.size)
    (kk : W p l e R s m args below meth c (mu_H H cA cI n.toNatClampNeg k.toNatClampNeg n.toNatClampNeg) locs (cells + 1 + n.toNatClampNeg) (slots + n.toNatClampNeg + n.toNatClampNeg * k.toNatClampNeg) Q { g with pc := g.pc + 4, stack := .ref H.size :: rest }) :
    W p l e R s m args below meth c H locs cells slots Q g := by
  intro T hT X
  subst hT
  subst hg
  have hpl : e.platform.magicAccessors = ({} : Platform).magicAccessors := by rw [X.admits.platform]
  obtain ⟨c0, hfc0, hcl⟩ := Cond.classLink_spec hown hlink e.platform hpl
  cases hAn.symm.trans hfc0
  obtain ⟨ci, c1, kA, hci, hkA, hkindA, hc1⟩ := mu_over hover
  cases hIn.symm.trans hci
  cases hAn.symm.trans hc1
  obtain ⟨hg1, hw1, hr1⟩ := State.classEntry (e := e) X.warmed hcl
  generalize T.vm.noted g.method.cls index (.cls cA) = vm1 at hg1 hw1 hr1
  have hal : s.vm.Alike vm1 := hw1.alike
  obtain ⟨-, kI, hkI, cc, hkindI⟩ := hI 0 fun _ => .null
  obtain ⟨kA1, hkA1, eA⟩ := hal.2.2 _ _ hkA
  obtain ⟨kI1, hkI1, eI⟩ := hal.2.2 _ _ hkI
  have hkindA1 : kA1.kind = .array cI (.array .int) := by rw [eA]; exact hkindA
  have hkindI1 : kI1.kind = .array cc .int := by rw [eI]; exact hkindI
  have X1 := X.noted hw1
  obtain ⟨r1, r2⟩ := X.roomAbove hcells hslots
  have XF := mu_Stand X1 hfree cA cI n.toNatClampNeg k.toNatClampNeg n.toNatClampNeg
  obtain ⟨t, st, hQ⟩ := kk _ (mu_S_heap (T.setVm vm1) cA cI n.toNatClampNeg k.toNatClampNeg n.toNatClampNeg) XF
  refine ⟨t, ?_, hQ⟩
  have a1 : ¬ n.toNatClampNeg > e.platform.arrayLengthLimit := by rw [Launch.admits_arrayLengthLimit X.admits]; omega
  have a2 : ¬ n.toNatClampNeg * 4 > e.platform.maxHeapBytes := by rw [Launch.admits_maxHeapBytes X.admits]; omega
  have a3 : ¬ k.toNatClampNeg > e.platform.arrayLengthLimit := by rw [Launch.admits_arrayLengthLimit X.admits]; omega
  have a4 : ¬ k.toNatClampNeg * 4 > e.platform.maxHeapBytes := by rw [Launch.admits_maxHeapBytes X.admits]; omega
  jvm_step X.here [hexec, hdg]
  simp only [multianewarray.sem, wp_bind', Jvm.W.resolveClassAt_links (State.method?_setTop g X.here.top) hg1]
  rw [Jvm.W.popN, if_neg (by decide)]
  refine ⟨g, State.topJava?_setTop' (s := T.setVm vm1) g X.here.top, [.int n, .int k], rest, rfl, hstack, ?_⟩
  simp only [List.mapM_cons, List.mapM_nil, wp_bind', wp_pure']
  have eS : ((T.setTop g).setVm vm1).setTop { g with stack := rest } = (T.setVm vm1).setTop { g with stack := rest } := by
    show ((T.setVm vm1).setTop g).setTop _ = _
    rw [State.setTop_setTop]
  rw [eS]
  refine mu_mk (T := T.setVm vm1) (f := { g with stack := rest }) (kA := kA1) (kI := kI1) (cc := cc) hkA1 hkindA1 hkI1 hkindI1 hn hk a1 a2 a3 a4 (by show T.heap.size + _ ≤ _; omega) (by show T.slotsUsed + _ ≤ _; omega) fun d' acts' => ?_
  simp only [wp_bind', Jvm.W.mark, Jvm.W.pushRef, State.topJava?_setTop' _ XF.here.top, Option.some.injEq, exists_eq_left', State.setTop_setTop, State.heap_setTop]
  intro acts
  simp [jvm, XF.here.top]
  exact st
end MultiW
/-! the abstract heaps while the rows are made -/
def mu_A (A : am_A) (n k : Nat) : Nat → am_A
  | 0 => am_nw A 25 n n
  | i + 1 => am_sR (am_nw (mu_A A n k i) 21 k k) (am_N A) i (some (am_N (mu_A A n k i)))
theorem mu_A_gr (A : am_A) (n k : Nat) : ∀ c i : Nat, i + c = n → am_gr k (am_N A) c i (mu_A A n k i) = mu_A A n k n := by
  intro c
  induction c with
  | zero =>
    intro i h
    have h : i = n := h
    subst h
    rfl
  | succ c ih =>
    intro i h
    show am_gr k (am_N A) c (i + 1) (mu_A A n k (i + 1)) = _
    exact ih (i + 1) (by omega)
theorem mu_A_N (A : am_A) (n k i : Nat) : am_N (mu_A A n k i) = am_N A + 1 + i := by
  induction i with
  | zero => rfl
  | succ i ih =>
    show am_N (mu_A A n k i) + 1 = _
    omega
theorem mu_A_C (A : am_A) (n k i : Nat) : am_C (mu_A A n k i) = am_C A + 1 + i := by
  induction i with
  | zero => rfl
  | succ i ih =>
    show am_C (mu_A A n k i) + 1 = _
    omega
theorem mu_A_S (A : am_A) (n k i : Nat) : am_S (mu_A A n k i) = am_S A + n + i * k := by
  induction i with
  | zero =>
    show am_S A + n = _
    omega
  | succ i ih =>
    show am_S (mu_A A n k i) + k = _
    rw [ih, Nat.succ_mul]
    omega
theorem mu_A_out (A : am_A) (n k i : Nat) : am_K (mu_A A n k i) (am_N A) = 25 ∧ am_L (mu_A A n k i) (am_N A) = n ∧ ∀ j, am_R (mu_A A n k i) (am_N A) j = if j < i then some (am_N A + 1 + j) else none := by
  induction i with
  | zero => exact ⟨by show am_up1 _ _ _ _ = _; simp [am_up1], by show am_up1 _ _ _ _ = _; simp [am_up1], fun j => by show am_up1 (am_R A) (am_N A) (fun _ => none) (am_N A) j = _; simp [am_up1]⟩
  | succ i ih =>
    have hN := mu_A_N A n k i
    have hne : am_N A ≠ am_N (mu_A A n k i) := by omega
    refine ⟨?_, ?_, fun j => ?_⟩
    · show am_up1 (am_K (mu_A A n k i)) (am_N (mu_A A n k i)) 21 (am_N A) = 25
      simp [am_up1, hne, ih.1]
    · show am_up1 (am_L (mu_A A n k i)) (am_N (mu_A A n k i)) k (am_N A) = n
      simp [am_up1, hne, ih.2.1]
    · show am_up2 (am_up1 (am_R (mu_A A n k i)) (am_N (mu_A A n k i)) (fun _ => none)) (am_N A) i (some (am_N (mu_A A n k i))) (am_N A) j = _
      unfold am_up2
      by_cases hj : j = i
      · subst hj
        simp [hN]
      · rw [if_neg fun q => hj q.2]
        simp only [am_up1, if_neg hne, ih.2.2]
        by_cases h2 : j < i
        · rw [if_pos h2, if_pos (by omega)]
        · rw [if_neg h2, if_neg (by omega)]
theorem mu_A_W (A : am_A) (n k i : Nat) (hw : so_W A) : so_W (mu_A A n k i) := by
  induction i with
  | zero =>
    refine ⟨by have := hw.1; show 64 ≤ am_N A + 1; omega, fun a j x hx => ?_⟩
    have := am_nw_R hw a j x hx
    show x < am_N A + 1
    omega
  | succ i ih =>
    have hN := mu_A_N A n k i
    refine ⟨by have := ih.1; show 64 ≤ am_N (mu_A A n k i) + 1; omega, fun a j x hx => ?_⟩
    show x < am_N (mu_A A n k i) + 1
    have hx : am_up2 (am_up1 (am_R (mu_A A n k i)) (am_N (mu_A A n k i)) (fun _ => none)) (am_N A) i (some (am_N (mu_A A n k i))) a j = some x := hx
    unfold am_up2 at hx
    split at hx
    · cases hx
      omega
    · have := am_nw_R (t := 21) (len := k) (sl := k) ih a j x hx
      omega
/-- where the new numbers lie -/
def mu_p (ρ : Nat → Nat) (A : am_A) (h n k : Nat) : Nat → Nat → Nat
  | 0 => so_up ρ (am_N A) h
  | i + 1 => so_up (mu_p ρ A h n k i) (am_N (mu_A A n k i)) (h + 1 + i)
theorem mu_p_lt (ρ : Nat → Nat) (A : am_A) (h n k i : Nat) {a : Nat} (ha : a < am_N A) : mu_p ρ A h n k i a = ρ a := by
  induction i with
  | zero => exact so_up_lt ha
  | succ i ih =>
    have hN := mu_A_N A n k i
    show so_up _ _ _ a = _
    rw [so_up_lt (by omega)]
    exact ih
theorem mu_p_out (ρ : Nat → Nat) (A : am_A) (h n k i : Nat) : mu_p ρ A h n k i (am_N A) = h := by
  induction i with
  | zero => exact so_up_at
  | succ i ih =>
    have hN := mu_A_N A n k i
    show so_up _ _ _ _ = _
    rw [so_up_lt (by omega)]
    exact ih
theorem mu_p_in (ρ : Nat → Nat) (A : am_A) (h n k i : Nat) {j : Nat} (hj : j < i) : mu_p ρ A h n k i (am_N A + 1 + j) = h + 1 + j := by
  induction i with
  | zero => omega
  | succ i ih =>
    have hN := mu_A_N A n k i
    show so_up _ _ _ _ = _
    by_cases e : j = i
    · subst e
      unfold so_up
      rw [if_pos hN.symm]
    · rw [so_up_lt (by omega)]
      exact ih (by omega)
theorem mu_R {Z : so_Z} {ρ : Nat → Nat} {A : am_A} {H : Heap} (hw : so_W A) (hR : so_R Z ρ A H) (hb : zb Z ≤ H.size) (n k i : Nat) : so_R Z (mu_p ρ A H.size n k i) (mu_A A n k i) (mu_H H (zA Z 4) (zA Z 0) n k i) := by
  induction i with
  | zero =>
    have hKn : am_K (am_nw A 25 n n) (am_N A) = 25 := by rw [am_nw_K]; simp [am_up1]
    have he : rl_el (zA Z) (so_up ρ (am_N A) H.size) (am_nw A 25 n n) (am_N A) = .inl (zA Z 4, n, .inr (.inr (.inr (.inr (fun _ => none))))) := by
      rw [rl_el_q (by rw [hKn]; omega), hKn]
      have e1 : am_L (am_nw A 25 n n) (am_N A) = n := by show am_up1 _ _ _ _ = _; simp [am_up1]
      have e2 : (fun j => (am_R (am_nw A 25 n n) (am_N A) j).map (so_up ρ (am_N A) H.size)) = fun _ => none := by
        funext j
        show Option.map _ (am_up1 (am_R A) (am_N A) (fun _ => none) (am_N A) j) = none
        simp [am_up1]
      rw [e1, e2]
    refine so_Rpush hw hR (t := 25) (by omega) rfl (am_nw_K A 25 n n) (fun x hx => by show am_up1 _ _ _ x = _; simp [am_up1, hx]; rfl) (fun x hx => by show am_up1 _ _ _ x = _; simp [am_up1, hx]; rfl) (fun x hx => by show am_up1 _ _ _ x = _; simp [am_up1, hx]; rfl) (fun x hx => by show am_up1 _ _ _ x = _; simp [am_up1, hx]; rfl) ?_ ?_ ?_
    · show va_P (zD Z) rl_cl (rl_ws (zA Z) ρ A ++ [(H.size, rl_el (zA Z) (so_up ρ (am_N A) H.size) (am_nw A 25 n n) (am_N A))]) _
      rw [he]
      refine (hR.1.2.1.kept fun q x hx => mu_old H _ _ n k 0 (hR.1.2.1 q x hx).lt).app fun q x hx => ?_
      have hz : q < 1 := (List.getElem?_eq_some_iff.mp hx).1
      rw [show q = 0 by omega] at hx
      cases hx
      show (mu_H H (zA Z 4) (zA Z 0) n k 0)[H.size]? = some (vp_cell _ _)
      rw [mu_out, vp_cell_q]
      congr 2
    · exact hR.1.2.2.1.push hR.1.2.1 rfl hb
    · rw [mu_sz]
      omega
  | succ i ih =>
    have hN := mu_A_N A n k i
    have hwi := mu_A_W A n k i hw
    have h64 := hw.1
    have hzi := mu_sz H (zA Z 4) (zA Z 0) n k i
    have hKn : am_K (am_nw (mu_A A n k i) 21 k k) (am_N (mu_A A n k i)) = 21 := by rw [am_nw_K]; simp [am_up1]
    have he : rl_el (zA Z) (so_up (mu_p ρ A H.size n k i) (am_N (mu_A A n k i)) (H.size + 1 + i)) (am_nw (mu_A A n k i) 21 k k) (am_N (mu_A A n k i)) = .inl (zA Z 0, k, .inl (fun _ => 0)) := by
      rw [rl_el_i (by rw [hKn]; omega), hKn]
      have e1 : am_L (am_nw (mu_A A n k i) 21 k k) (am_N (mu_A A n k i)) = k := by show am_up1 _ _ _ _ = _; simp [am_up1]
      have e3 : am_I (am_nw (mu_A A n k i) 21 k k) (am_N (mu_A A n k i)) = fun _ => 0 := by show am_up1 (am_I (mu_A A n k i)) _ (fun _ => 0) _ = _; simp [am_up1]
      rw [e1, e3]
    have R1 : so_R Z (mu_p ρ A H.size n k (i + 1)) (am_nw (mu_A A n k i) 21 k k) ((mu_H H (zA Z 4) (zA Z 0) n k i).push (arrV (zA Z 0) k (fun _ => .int 0))) := by
      refine so_Rpush hwi ih (t := 21) (by omega) rfl (am_nw_K (mu_A A n k i) 21 k k) (fun x hx => by show am_up1 _ _ _ x = _; simp [am_up1, hx]; rfl) (fun x hx => by show am_up1 _ _ _ x = _; simp [am_up1, hx]; rfl) (fun x hx => by show am_up1 _ _ _ x = _; simp [am_up1, hx]; rfl) (fun x hx => by show am_up1 _ _ _ x = _; simp [am_up1, hx]; rfl) ?_ ?_ ?_
      · rw [he]
        refine (ih.1.2.1.kept fun q x hx => by rw [Array.getElem?_push, if_neg (Nat.ne_of_lt (ih.1.2.1 q x hx).lt)]).app fun q x hx => ?_
        have hz : q < 1 := (List.getElem?_eq_some_iff.mp hx).1
        rw [show q = 0 by omega] at hx
        cases hx
        show ((mu_H H (zA Z 4) (zA Z 0) n k i).push _)[H.size + 1 + i]? = some (vp_cell _ _)
        rw [← hzi, Array.getElem?_push_size, vp_cell_i]
      · exact ih.1.2.2.1.push ih.1.2.1 hzi.symm (by show zb Z ≤ _; omega)
      · rw [Array.size_push]
        omega
    obtain ⟨o1, o2, o3⟩ := mu_A_out A n k i
    have hne : am_N A ≠ am_N (mu_A A n k i) := by omega
    have hKo : am_K (am_nw (mu_A A n k i) 21 k k) (am_N A) = 25 := by
      show am_up1 (am_K (mu_A A n k i)) (am_N (mu_A A n k i)) 21 (am_N A) = 25
      simp [am_up1, hne, o1]
    obtain ⟨q0, hi0, hw0⟩ := rl_get R1.1 (a := am_N A) (by omega) (by omega)
    have hrho : mu_p ρ A H.size n k (i + 1) (am_N A) = H.size := mu_p_out ρ A H.size n k (i + 1)
    rw [hrho] at hw0
    obtain ⟨p1, p2, p3⟩ := mu_A_out A n k (i + 1)
    have he2 : rl_el (zA Z) (mu_p ρ A H.size n k (i + 1)) (mu_A A n k (i + 1)) (am_N A) = .inl (zA Z 4, n, .inr (.inr (.inr (.inr (fun j => if j < i + 1 then some (H.size + 1 + j) else none))))) := by
      have ef : (fun j => (am_R (mu_A A n k (i + 1)) (am_N A) j).map (mu_p ρ A H.size n k (i + 1))) = fun j => if j < i + 1 then some (H.size + 1 + j) else none := by
        funext j
        rw [p3]
        by_cases hj : j < i + 1
        · rw [if_pos hj, if_pos hj]
          exact congrArg some (mu_p_in ρ A H.size n k (i + 1) hj)
        · rw [if_neg hj, if_neg hj]
          rfl
      rw [rl_el_q (by rw [p1]; omega), p1, p2, ef]
    refine so_put R1 (a := am_N A) h64 hi0 rfl rfl rfl (fun b hb => rfl) (fun b hb => rfl) (fun b hb => rl_elR hb) ?_ ?_ ?_
    · rw [hrho]
      show va_P (zD Z) rl_cl (List.set _ q0 (H.size, rl_el (zA Z) _ (mu_A A n k (i + 1)) (am_N A))) _
      rw [he2]
      refine R1.1.2.1.set R1.1.2.2.1 hw0 ?_ fun q hq => ?_
      · show (mu_H H (zA Z 4) (zA Z 0) n k (i + 1))[H.size]? = some (vp_cell _ _)
        rw [mu_out, vp_cell_q]
        congr 2
        funext j
        by_cases hj : j < i + 1
        · rw [if_pos hj, if_pos hj]
          rfl
        · rw [if_neg hj, if_neg hj]
          rfl
      · show (Array.setIfInBounds _ _ _)[q]? = _
        rw [Array.getElem?_setIfInBounds, if_neg (Ne.symm hq)]
    · rw [hrho]
      exact R1.1.2.2.1.set hw0
    · rw [mu_sz]
      omega
theorem so_multi {Z : so_Z} {l : Launch} (hov : Cond.arrayOver (.array .int) ∈ zT Z) : so_Mu Z l := by
  intro d m pc ls A r d2 idx k n rest hlk hdg hb h
  intro hw hL
  have hn0 : ¬ n < 0 := fun q => hb (Or.inl q)
  have hk0 : ¬ k < 0 := fun q => hb (Or.inr (Or.inl q))
  have hn1 : n.toNatClampNeg ≤ 1000 := Nat.not_lt.mp fun q => hb (Or.inr (Or.inr (Or.inl q)))
  have hk1 : k.toNatClampNeg ≤ 1000 := Nat.not_lt.mp fun q => hb (Or.inr (Or.inr (Or.inr q)))
  have hgr : am_gr k.toNatClampNeg (am_N A) n.toNatClampNeg 0 (am_nw A 25 n.toNatClampNeg n.toNatClampNeg) = mu_A A n.toNatClampNeg k.toNatClampNeg n.toNatClampNeg := mu_A_gr A n.toNatClampNeg k.toNatClampNeg n.toNatClampNeg 0 (by omega)
  rw [hgr] at h
  have eN := mu_A_N A n.toNatClampNeg k.toNatClampNeg n.toNatClampNeg
  have eC := mu_A_C A n.toNatClampNeg k.toNatClampNeg n.toNatClampNeg
  have eS := mu_A_S A n.toNatClampNeg k.toNatClampNeg n.toNatClampNeg
  generalize hA : mu_A A n.toNatClampNeg k.toNatClampNeg n.toNatClampNeg = A' at h eN eC eS
  have hW' : so_W A' := hA ▸ mu_A_W A n.toNatClampNeg k.toNatClampNeg n.toNatClampNeg hw
  have hvm : ∀ v, so_v (am_N A) v → so_v (am_N A') v := fun v hv => so_v_mono hv (by omega)
  obtain ⟨⟨a1, a2, a3, a4⟩, b⟩ := h hW' ⟨so_dead1 (st := []) (ls := []) d2 fun j v hj => hvm v (hL.1 j v hj), so_cs (by show am_N A < am_N A'; omega) fun v hv => hvm v (hL.2 v (List.mem_cons_of_mem _ (List.mem_cons_of_mem _ hv)))⟩
  refine ⟨⟨by omega, by omega, by omega, a4⟩, ?_⟩
  intro p e R s mid args below meth c Q H locs cells slots arr ρ C0 S0 hM hh hd hl hc hs hRc hRs hR hV hls hE
  have hM0 := hM
  obtain ⟨hx, hbb, -, -, hown, hts, hK, -, hbs, -⟩ := hM
  have t0 := hK.2 0 (zA Z 0, .int) rfl
  have t4 := hK.2 4 (zA Z 4, .array .int) rfl
  have hb0 : zb Z ≤ H.size := Nat.le_trans hbs hV.1
  refine mu_W hx hown (hts _ hlk) (hts _ hov) t4.2 t0.1 t0.2 rfl (by rw [hbb]; exact hdg) rfl hn0 hk0 hn1 hk1 (by omega) (by omega) hV.1 ?_
  have hR' : so_R Z (mu_p ρ A H.size n.toNatClampNeg k.toNatClampNeg n.toNatClampNeg) A' (mu_H H (zA Z 4) (zA Z 0) n.toNatClampNeg k.toNatClampNeg n.toNatClampNeg) := hA ▸ mu_R hw hR hb0 n.toNatClampNeg k.toNatClampNeg n.toNatClampNeg
  have hpl : ∀ a, a < am_N A → mu_p ρ A H.size n.toNatClampNeg k.toNatClampNeg n.toNatClampNeg a = ρ a := fun a ha => mu_p_lt ρ A H.size n.toNatClampNeg k.toNatClampNeg n.toNatClampNeg ha
  have hpo := mu_p_out ρ A H.size n.toNatClampNeg k.toNatClampNeg n.toNatClampNeg
  have hz := mu_sz H (zA Z 4) (zA Z 0) n.toNatClampNeg k.toNatClampNeg n.toNatClampNeg
  have hV' : va_S (so_A Z) s.heap (mu_H H (zA Z 4) (zA Z 0) n.toNatClampNeg k.toNatClampNeg n.toNatClampNeg) locs := ⟨by have := hV.1; omega, fun q hq hA => (mu_old H _ _ _ _ _ (Nat.lt_of_lt_of_le hq hV.1)).trans (hV.2.1 q hq hA), hV.2.2⟩
  have := b p e R s mid args below meth c Q _ locs (cells + 1 + n.toNatClampNeg) (slots + n.toNatClampNeg + n.toNatClampNeg * k.toNatClampNeg) arr _ C0 S0 hM0 hh hd hl (by omega) (by omega) hRc hRs hR' hV' (rl_dead d2 (so_has_mono (st := []) hls ⟨hL.1, fun v hv => absurd hv List.not_mem_nil⟩ hpl)) (so_E_mono hE (by omega) hpl)
  rw [List.map_cons, so_st_mono (ρ := ρ) (n := am_N A) (fun v hv => hL.2 v (List.mem_cons_of_mem _ (List.mem_cons_of_mem _ hv))) hpl] at this
  rw [show rl_cv (mu_p ρ A H.size n.toNatClampNeg k.toNatClampNeg n.toNatClampNeg) (.ref (am_N A)) = .ref H.size from congrArg Value.ref hpo] at this
  exact this
