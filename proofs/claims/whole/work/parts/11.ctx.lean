/-! WHAT IS PROVED OF A STEP. All that is fixed in one product: the program, the methods' names, bytes, what they give, the tables' words, the first own address, the classes, the fixed ids' cells and addresses. -/
abbrev so_Z : Type := (Nat → Option am_M) × (Nat → MethodName) × (Nat → ByteArray) × (Nat → Option FieldType) × List Cond × Nat × va_G × (Nat → ClassId) × am_A × (Nat → Nat) × (Nat → Nat)
def zP (Z : so_Z) : Nat → Option am_M := Z.1
def zY (Z : so_Z) : Nat → MethodName := Z.2.1
def zB (Z : so_Z) : Nat → ByteArray := Z.2.2.1
def zR (Z : so_Z) : Nat → Option FieldType := Z.2.2.2.1
def zT (Z : so_Z) : List Cond := Z.2.2.2.2.1
def zb (Z : so_Z) : Nat := Z.2.2.2.2.2.1
def zD (Z : so_Z) : va_G := Z.2.2.2.2.2.2.1
def zA (Z : so_Z) : Nat → ClassId := Z.2.2.2.2.2.2.2.1
def zK (Z : so_Z) : am_A := Z.2.2.2.2.2.2.2.2.1
def zr (Z : so_Z) : Nat → Nat := Z.2.2.2.2.2.2.2.2.2.1
def zV (Z : so_Z) : Nat → Nat := Z.2.2.2.2.2.2.2.2.2.2
def so_A (Z : so_Z) : Nat → Prop := fun q => zb Z ≤ q
def so_ml (Z : so_Z) (m : Nat) : Nat := match zP Z m with
  | some M => M.2.1
  | none => 0
def so_x : Nat → String
  | 1 => "java/lang/IndexOutOfBoundsException"
  | 2 => "java/lang/IllegalArgumentException"
  | 3 => "java/lang/UnsupportedOperationException"
  | 4 => "java/lang/IllegalStateException"
  | _ => "java/util/NoSuchElementException"
/-- the texts: where they stand in the pools, with their fixed ids; their bytes -/
def so_tx : List (String × Nat × String × Nat) := [("OakYard$Tape", 75, "fit chip owe look", 2), ("OakYard$Tape", 81, "plank knee mast rope", 3), ("OakYard$Tape", 90, "if", 4), ("OakYard$Tape", 117, "not", 5), ("OakYard$Tape", 125, "oak elm fir hired seen", 6), ("OakYard$Tape", 130, "dry rot thick long age gangs", 7), ("OakYard$Tape", 115, "and", 8), ("OakYard$Tape", 103, "or", 9), ("OakYardModel", 244, "fit", 10), ("OakYardModel", 246, "chip", 11), ("OakYardModel", 248, "owe", 12), ("OakYardModel", 250, "look", 13), ("OakYardModel", 252, "plank", 14), ("OakYardModel", 254, "knee", 15), ("OakYardModel", 256, "mast", 16), ("OakYardModel", 258, "rope", 17), ("OakYardModel", 260, "if", 4), ("OakYardModel", 199, "not", 5), ("OakYardModel", 211, "oak", 18), ("OakYardModel", 213, "elm", 19), ("OakYardModel", 215, "fir", 20), ("OakYardModel", 217, "hired", 21), ("OakYardModel", 219, "seen", 22), ("OakYardModel", 221, "dry", 23), ("OakYardModel", 223, "rot", 24), ("OakYardModel", 225, "thick", 25), ("OakYardModel", 227, "long", 26), ("OakYardModel", 229, "age", 27), ("OakYardModel", 231, "gangs", 28), ("OakYardModel", 237, "and", 8), ("OakYardModel", 242, "or", 9)]
def so_tl : List (List Int32) := [[102, 105, 116, 32, 99, 104, 105, 112, 32, 111, 119, 101, 32, 108, 111, 111, 107], [112, 108, 97, 110, 107, 32, 107, 110, 101, 101, 32, 109, 97, 115, 116, 32, 114, 111, 112, 101], [105, 102], [110, 111, 116], [111, 97, 107, 32, 101, 108, 109, 32, 102, 105, 114, 32, 104, 105, 114, 101, 100, 32, 115, 101, 101, 110], [100, 114, 121, 32, 114, 111, 116, 32, 116, 104, 105, 99, 107, 32, 108, 111, 110, 103, 32, 97, 103, 101, 32, 103, 97, 110, 103, 115], [97, 110, 100], [111, 114], [102, 105, 116], [99, 104, 105, 112], [111, 119, 101], [108, 111, 111, 107], [112, 108, 97, 110, 107], [107, 110, 101, 101], [109, 97, 115, 116], [114, 111, 112, 101], [111, 97, 107], [101, 108, 109], [102, 105, 114], [104, 105, 114, 101, 100], [115, 101, 101, 110], [100, 114, 121], [114, 111, 116], [116, 104, 105, 99, 107], [108, 111, 110, 103], [97, 103, 101], [103, 97, 110, 103, 115]]
def so_tN : Nat := 27
/-- the fixed cells: the script, a fixed row of longs and its static, the statics that a throw reads, the texts -/
def so_C (Z : so_Z) (U : State) (H : Heap) : Prop :=
  va_X (zr Z 0) (am_L (zK Z) 0) (am_I (zK Z) 0) U H ∧ am_L (zK Z) 0 < 2 ^ 31 ∧
  va_T .long (zr Z 1) (am_L (zK Z) 1) (fun j => .long (am_J (zK Z) 1 j)) (so_A Z) U H ∧
  va_Z "OakYard$Finder" "PLACES" "[J" (.ref (zr Z 1)) (so_A Z) U H ∧
  vx_Zq Bundle.tN "UNASSIGNED_STACK" Bundle.steD (so_A Z) U H ∧ vx_Zq Bundle.tN "SUPPRESSED_SENTINEL" Bundle.listD (so_A Z) U H ∧
  (∀ (own : String) (idx : Nat) (tx : String) (i : Nat), (own, idx, tx, i) ∈ so_tx → vk_R own idx tx (zr Z i) U) ∧
  (∀ x y : Nat, 0 < x → x < 6 → 0 < y → y < 6 → x ≠ y → va_Nc (so_x x) (so_x y) U) ∧
  vk_S so_tN (so_tl.map List.length) so_tl (fun i => zr Z (2 + i)) (zV Z) (so_A Z) U H ∧
  va_Z "java/lang/String" "COMPACT_STRINGS" "Z" (.int 1) (so_A Z) U H ∧ va_Zq "jdk/internal/util/Preconditions" "SIOOBE_FORMATTER" "Ljava/util/function/BiFunction;" (so_A Z) U H
/-- the two heaps -/
def so_R (Z : so_Z) (ρ : Nat → Nat) (A : am_A) (H : Heap) : Prop :=
  rl_H (zb Z) (zD Z) (zA Z) ρ A H ∧ (∀ i, i < 64 → ρ i = zr Z i) ∧ 64 ≤ am_N A ∧ (∀ i, i < 64 → am_K A i = am_K (zK Z) i ∧ am_L A i = am_L (zK Z) i ∧ am_I A i = am_I (zK Z) i ∧ am_J A i = am_J (zK Z) i) ∧ ∀ a, 64 ≤ a → am_K A a < 41
/-- of the fixed ids' kinds -/
def so_k (Z : so_Z) : Prop := ∀ i, i < 64 → (am_K (zK Z) i = 0 ∨ 41 ≤ am_K (zK Z) i) ∧ (am_K (zK Z) i = 41 → i = 0) ∧ (am_K (zK Z) i = 42 → i = 1) ∧ (am_K (zK Z) i = 43 → ∃ k, k < so_tN ∧ i = 2 + k ∧ am_L (zK Z) i = (so_tl.getD k []).length ∧ ∀ j, am_I (zK Z) i j = (so_tl.getD k []).getD j 0) ∧ zr Z i < zb Z
/-- a method's own: the machine, its code, its names, the tables -/
def so_M (Z : so_Z) (l : Launch) (m : Nat) (p : Program) (s : State) (mid : MethodId) (args : Array Value) (meth : Method) (c : Code) : Prop :=
  p.tables.exec = Jvm.exec ∧ c.code = zB Z m ∧ c.maxLocals = so_ml Z m ∧ meth.sig.returnType = zR Z m ∧ s.vm.findClass (zY Z m).cls = some mid.cls ∧
  (∀ w ∈ zT Z, w.before args s = true) ∧ va_K (zD Z) rl_cl (rl_tys (zA Z)) s ∧ so_C Z s s.heap ∧ zb Z ≤ s.heap.size ∧ meth.locks = false ∧ meth.name = (zY Z m).name ∧ l.stackTraces = false
/-- the instruction that gives this -/
def so_ri : Option Value → Instr
  | none => .return_
  | some (.int _) => .ireturn
  | some (.long _) => .lreturn
  | some _ => .areturn
def so_rt (Z : so_Z) (m : Nat) : Option Value → Prop
  | none => zR Z m = none
  | some (.int x) => ∃ ty, zR Z m = some ty ∧ narrow ty (.int x) = .int x
  | some (.long _) => zR Z m = some .long
  | some .null => ∃ rt, zR Z m = some rt ∧ ((∃ n, rt = .object n) ∨ ∃ t, rt = .array t)
  | some (.ref _) => ∃ rt, zR Z m = some rt ∧ ((∃ n, rt = .object n) ∨ ∃ t, rt = .array t)
  | some _ => False
/-- how it may end: what the machine owes where this has been reached -/
def so_E (Z : so_Z) (l : Launch) (m : Nat) (p : Program) (e : Env) (R : Room) (s : State) (mid : MethodId) (args : Array Value) (below : List Frame) (meth : Method) (c : Code) (Q : State → Prop) (C0 S0 : Nat) (ρ : Nat → Nat) (n : Nat) (r : (Option Value ⊕ Nat) × am_A) : Prop :=
  match r.1 with
  | .inl v => ∀ (ρ' : Nat → Nat) (H' : Heap) (locs' : List Loc) (cells' slots' pc' : Nat) (arr' : Array Slot), (∀ i, i < n → ρ' i = ρ i) → so_R Z ρ' r.2 H' → va_S (so_A Z) s.heap H' locs' → cells' + C0 = am_C r.2 → slots' + S0 = am_S r.2 →
      decode (zB Z m) pc' = .ok (so_ri v, 1) → so_rt Z m v → W p l e R s mid args below meth c H' locs' cells' slots' Q (F0 mid pc' arr' (v.toList.map (rl_cv ρ')))
  | .inr x =>
    (∀ (ρ' : Nat → Nat) (H' : Heap) (locs' : List Loc) (cells' slots' pc' : Nat) (arr' : Array Slot) (rest : List Value) (q : Nat) (ce : Cell), (∀ i, i < n → ρ' i = ρ i) → so_R Z ρ' r.2 H' → va_S (so_A Z) s.heap H' locs' → cells' + C0 = am_C r.2 → slots' + S0 = am_S r.2 →
      H'[q]? = some ce → ce.vm = .none → s.vm.findClass (so_x x) = some ce.cls → (∀ z ∈ c.exceptionTable.toList, covers z pc' = false) → vx_W p l e R s mid args below meth c H' locs' cells' slots' Q (F0 mid pc' arr' rest) q) ∧
    (∀ (A' : am_A) (ρ' : Nat → Nat) (H' : Heap) (locs' : List Loc) (cells' slots' pc' ik ic : Nat) (names : List String) (arr' : Array Slot) (rest : List Value), am_xx A' 1 6 = r.2 → (∀ i, i < n → ρ' i = ρ i) → so_R Z ρ' A' H' → va_S (so_A Z) s.heap H' locs' → cells' + C0 = am_C A' → slots' + S0 = am_S A' → arr'.size = so_ml Z m →
      Bundle.fit (so_x x) = true → (∀ n ∈ names, Bundle.fit n = true) → names.length ≤ 6 → (∀ w ∈ Cond.classLink (zY Z m).cls ik (so_x x) :: Cond.initialized (so_x x) :: vx_at0 (zY Z m).cls ic (so_x x) names, w ∈ zT Z ∧ vx_ot w = true) →
      decode (zB Z m) pc' = .ok (.new ik, 3) → decode (zB Z m) (pc' + 3) = .ok (.dup, 1) → decode (zB Z m) (pc' + 4) = .ok (.invokespecial ic, 3) → decode (zB Z m) (pc' + 7) = .ok (.athrow, 1) → (∀ z ∈ c.exceptionTable.toList, covers z (pc' + 7) = false) → am_cat rest ≤ 8 →
      W p l e R s mid args below meth c H' locs' cells' slots' Q (F0 mid pc' arr' (rest.map (rl_cv ρ'))))
/-- the handlers, as the machine has them and as the tables have them -/
def so_hx (Z : so_Z) (own : String) : List ExceptionTableEntry → List (Nat × Nat × Nat × Nat) → Prop
  | [], [] => True
  | z :: zs, h :: hs => z.startPc = h.1 ∧ z.endPc = h.2.1 ∧ z.handlerPc = h.2.2.2 ∧ z.catchType ≠ 0 ∧ 0 < h.2.2.1 ∧ h.2.2.1 < 6 ∧ Cond.classLink own z.catchType (so_x h.2.2.1) ∈ zT Z ∧ Cond.castable (so_x h.2.2.1) (so_x h.2.2.1) ∈ zT Z ∧ so_hx Z own zs hs
  | _, _ => False
def so_hh (Z : so_Z) (m : Nat) (c : Code) : Prop := so_hx Z (zY Z m).cls c.exceptionTable.toList (am_hs (zP Z) m)
/-- every number that is held has been given -/
def so_v (n : Nat) : Value → Prop
  | .ref a => a < n
  | _ => True
def so_W (A : am_A) : Prop := 64 ≤ am_N A ∧ ∀ a j x, am_R A a j = some x → x < am_N A
def so_L (n : Nat) (ls : List (Option Value)) (st : List Value) : Prop := (∀ j v, am_nth ls j = some (some v) → so_v n v) ∧ ∀ v ∈ st, so_v n v
def so_o (r : (Option Value ⊕ Nat) × am_A) : Prop := match r.1 with
  | .inl (some v) => so_v (am_N r.2) v
  | .inr x => 0 < x ∧ x < 6
  | _ => True
/-- SOUND: from here the machine comes to what the abstract machine says -/
def so_T (Z : so_Z) (l : Launch) (d m pc : Nat) (ls : List (Option Value)) (st : List Value) (A : am_A) (r : (Option Value ⊕ Nat) × am_A) : Prop :=
  so_W A → so_L (am_N A) ls st → (am_N A ≤ am_N r.2 ∧ am_C A ≤ am_C r.2 ∧ am_S A ≤ am_S r.2 ∧ so_W r.2 ∧ so_o r) ∧
  ∀ (p : Program) (e : Env) (R : Room) (s : State) (mid : MethodId) (args : Array Value) (below : List Frame) (meth : Method) (c : Code) (Q : State → Prop) (H : Heap) (locs : List Loc) (cells slots : Nat) (arr : Array Slot) (ρ : Nat → Nat) (C0 S0 : Nat),
    so_M Z l m p s mid args meth c → so_hh Z m c → d + 24 ≤ R.frames → 64 * d + 512 ≤ R.locals → cells + C0 = am_C A → slots + S0 = am_S A → am_C r.2 ≤ R.cells + C0 → am_S r.2 ≤ R.slots + S0 →
    so_R Z ρ A H → va_S (so_A Z) s.heap H locs → rl_has ρ arr (so_ml Z m) ls →
    so_E Z l m p e R s mid args below meth c Q C0 S0 ρ (am_N A) r → W p l e R s mid args below meth c H locs cells slots Q (F0 mid pc arr (st.map (rl_cv ρ)))
theorem so_v_mono {n k : Nat} {v : Value} (h : so_v n v) (hn : n ≤ k) : so_v k v := by
  cases v <;> first | trivial | exact Nat.lt_of_lt_of_le h hn
theorem so_E_mono {Z : so_Z} {l : Launch} {m : Nat} {p : Program} {e : Env} {R : Room} {s : State} {mid : MethodId} {args : Array Value} {below : List Frame} {meth : Method} {c : Code} {Q : State → Prop} {C0 S0 : Nat} {ρ ρ1 : Nat → Nat} {n k : Nat} {r : (Option Value ⊕ Nat) × am_A} (h : so_E Z l m p e R s mid args below meth c Q C0 S0 ρ n r) (hn : n ≤ k) (he : ∀ i, i < n → ρ1 i = ρ i) : so_E Z l m p e R s mid args below meth c Q C0 S0 ρ1 k r := by
  obtain ⟨o, A⟩ := r
  have ag : ∀ ρ' : Nat → Nat, (∀ i, i < k → ρ' i = ρ1 i) → ∀ i, i < n → ρ' i = ρ i := fun ρ' h i hi => (h i (Nat.lt_of_lt_of_le hi hn)).trans (he i hi)
  cases o with
  | inl v => exact fun ρ' H' locs' cells' slots' pc' arr' h1 => h ρ' H' locs' cells' slots' pc' arr' (ag ρ' h1)
  | inr x => exact ⟨fun ρ' H' locs' cells' slots' pc' arr' rest q ce h1 => h.1 ρ' H' locs' cells' slots' pc' arr' rest q ce (ag ρ' h1), fun A' ρ' H' locs' cells' slots' pc' ik ic names arr' rest h0 h1 => h.2 A' ρ' H' locs' cells' slots' pc' ik ic names arr' rest h0 (ag ρ' h1)⟩
theorem so_has_mono {ρ ρ1 : Nat → Nat} {n nL : Nat} {arr : Array Slot} {ls : List (Option Value)} {st : List Value} (h : rl_has ρ arr nL ls) (hL : so_L n ls st) (he : ∀ i, i < n → ρ1 i = ρ i) : rl_has ρ1 arr nL ls := by
  refine rl_has_of h fun j v hj => (rl_lv_mem ls 0 j _).mpr ⟨j, v, by omega, hj, ?_⟩
  have hv := hL.1 j v hj
  cases v <;> first | rfl | exact congrArg Value.ref (he _ hv)
theorem so_st_mono {ρ ρ1 : Nat → Nat} {n : Nat} {st : List Value} (hL : ∀ v ∈ st, so_v n v) (he : ∀ i, i < n → ρ1 i = ρ i) : st.map (rl_cv ρ1) = st.map (rl_cv ρ) := by
  apply List.map_congr_left
  intro v hv
  have h := hL v hv
  cases v <;> first | rfl | exact congrArg Value.ref (he _ h)
/-- a step that makes nothing: the heap's next picture, the rest by what is known of it -/
theorem so_go {Z : so_Z} {l : Launch} {d m pc pc' : Nat} {ls ls' : List (Option Value)} {st st' : List Value} {A A' : am_A} {r : (Option Value ⊕ Nat) × am_A} (h : so_T Z l d m pc' ls' st' A' r)
    (hN : am_N A' = am_N A) (hC : am_C A' = am_C A) (hS : am_S A' = am_S A) (hW : so_W A → so_L (am_N A) ls st → so_W A' ∧ so_L (am_N A') ls' st')
    (k : ∀ (p : Program) (e : Env) (R : Room) (s : State) (mid : MethodId) (args : Array Value) (below : List Frame) (meth : Method) (c : Code) (Q : State → Prop) (H : Heap) (locs : List Loc) (cells slots : Nat) (arr : Array Slot) (ρ : Nat → Nat),
      so_M Z l m p s mid args meth c → d + 24 ≤ R.frames → 64 * d + 512 ≤ R.locals → so_R Z ρ A H → va_S (so_A Z) s.heap H locs → rl_has ρ arr (so_ml Z m) ls →
      (∀ (H' : Heap) (locs' : List Loc) (arr' : Array Slot), so_R Z ρ A' H' → va_S (so_A Z) s.heap H' locs' → rl_has ρ arr' (so_ml Z m) ls' → W p l e R s mid args below meth c H' locs' cells slots Q (F0 mid pc' arr' (st'.map (rl_cv ρ)))) →
      W p l e R s mid args below meth c H locs cells slots Q (F0 mid pc arr (st.map (rl_cv ρ)))) : so_T Z l d m pc ls st A r := by
  intro hw hL
  obtain ⟨hw', hL'⟩ := hW hw hL
  obtain ⟨⟨a1, a2, a3, a4⟩, b⟩ := h hw' hL'
  refine ⟨⟨by omega, by omega, by omega, a4⟩, ?_⟩
  intro p e R s mid args below meth c Q H locs cells slots arr ρ C0 S0 hM hh hd hl hc hs hRc hRs hR hV hls hE
  refine k p e R s mid args below meth c Q H locs cells slots arr ρ hM hd hl hR hV hls fun H' locs' arr' hR' hV' hls' => ?_
  exact b p e R s mid args below meth c Q H' locs' cells slots arr' ρ C0 S0 hM hh hd hl (by omega) (by omega) hRc hRs hR' hV' hls' (by rw [hN]; exact hE)
/-- a step that neither makes nor writes -/
theorem so_gp {Z : so_Z} {l : Launch} {d m pc pc' : Nat} {ls ls' : List (Option Value)} {st st' : List Value} {A : am_A} {r : (Option Value ⊕ Nat) × am_A} (h : so_T Z l d m pc' ls' st' A r)
    (hW : so_W A → so_L (am_N A) ls st → so_L (am_N A) ls' st')
    (k : ∀ (p : Program) (e : Env) (R : Room) (s : State) (mid : MethodId) (args : Array Value) (below : List Frame) (meth : Method) (c : Code) (Q : State → Prop) (H : Heap) (locs : List Loc) (cells slots : Nat) (arr : Array Slot) (ρ : Nat → Nat),
      so_M Z l m p s mid args meth c → d + 24 ≤ R.frames → 64 * d + 512 ≤ R.locals → so_R Z ρ A H → va_S (so_A Z) s.heap H locs → rl_has ρ arr (so_ml Z m) ls →
      (∀ (arr' : Array Slot), rl_has ρ arr' (so_ml Z m) ls' → W p l e R s mid args below meth c H locs cells slots Q (F0 mid pc' arr' (st'.map (rl_cv ρ)))) →
      W p l e R s mid args below meth c H locs cells slots Q (F0 mid pc arr (st.map (rl_cv ρ)))) : so_T Z l d m pc ls st A r :=
  so_go h rfl rfl rfl (fun a b => ⟨a, hW a b⟩) fun p e R s mid args below meth c Q H locs cells slots arr ρ hM hd hl hR hV hls kk => k p e R s mid args below meth c Q H locs cells slots arr ρ hM hd hl hR hV hls fun arr' hls' => kk H locs arr' hR hV hls'
theorem so_dead1 {n : Nat} {ls : List (Option Value)} {st : List Value} (d : List Nat) : ∀ {ls : List (Option Value)}, (∀ j v, am_nth ls j = some (some v) → so_v n v) → ∀ j v, am_nth (am_dead d ls) j = some (some v) → so_v n v := by
  induction d with
  | nil => exact fun h => h
  | cons i d ih => exact fun h => ih fun j v hj => h j v (rl_dead1 hj)
/-- only the stack changes -/
theorem so_gs {Z : so_Z} {l : Launch} {d m pc pc' : Nat} {ls : List (Option Value)} {st st' : List Value} {A : am_A} {dd : List Nat} {r : (Option Value ⊕ Nat) × am_A} (h : so_T Z l d m pc' (am_dead dd ls) st' A r)
    (hW : so_W A → (∀ v ∈ st, so_v (am_N A) v) → ∀ v ∈ st', so_v (am_N A) v)
    (k : ∀ (p : Program) (e : Env) (R : Room) (s : State) (mid : MethodId) (args : Array Value) (below : List Frame) (meth : Method) (c : Code) (Q : State → Prop) (H : Heap) (locs : List Loc) (cells slots : Nat) (arr : Array Slot) (ρ : Nat → Nat),
      so_M Z l m p s mid args meth c → so_R Z ρ A H → va_S (so_A Z) s.heap H locs → W p l e R s mid args below meth c H locs cells slots Q (F0 mid pc' arr (st'.map (rl_cv ρ))) →
      W p l e R s mid args below meth c H locs cells slots Q (F0 mid pc arr (st.map (rl_cv ρ)))) : so_T Z l d m pc ls st A r :=
  so_gp h (fun a b => ⟨so_dead1 (st := []) (ls := []) dd b.1, hW a b.2⟩) fun p e R s mid args below meth c Q H locs cells slots arr ρ hM _ _ hR hV hls kk => k p e R s mid args below meth c Q H locs cells slots arr ρ hM hR hV (kk arr (rl_dead dd hls))
