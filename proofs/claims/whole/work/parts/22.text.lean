/-! TEXTS: what a text's own members answer, out of their code -/
abbrev tx_y1 : MethodName := ⟨"java/lang/String", "coder", "()B"⟩
abbrev tx_y2 : MethodName := ⟨"java/lang/String", "length", "()I"⟩
abbrev tx_y3 : MethodName := ⟨"java/lang/String", "isLatin1", "()Z"⟩
abbrev tx_y4 : MethodName := ⟨"jdk/internal/util/Preconditions", "checkIndex", "(IILjava/util/function/BiFunction;)I"⟩
abbrev tx_y5 : MethodName := ⟨"java/lang/String", "checkIndex", "(II)V"⟩
abbrev tx_y6 : MethodName := ⟨"java/lang/StringLatin1", "charAt", "([BI)C"⟩
abbrev tx_y7 : MethodName := ⟨"java/lang/String", "charAt", "(I)C"⟩
def tx_ws : List Cond := [.code tx_y1 prog_26_method_152_code 1 (some .byte), .code tx_y2 prog_26_method_54_code 1 (some .int), .code tx_y3 prog_26_method_154_code 1 (some .boolean), .code tx_y4 prog_36_method_11_code 3 (some .int), .code tx_y5 prog_26_method_155_code 2 none, .code tx_y6 prog_27_method_2_code 2 (some .char), .code tx_y7 prog_26_method_56_code 2 (some .char),
  .fieldLink "java/lang/String" 38 "java/lang/String" "COMPACT_STRINGS" "Z", .fieldLink "java/lang/String" 15 "java/lang/String" "coder" "B", .fieldLink "java/lang/String" 9 "java/lang/String" "value" "[B", .fieldLink "java/lang/String" 1053 "jdk/internal/util/Preconditions" "SIOOBE_FORMATTER" "Ljava/util/function/BiFunction;",
  .methodLink "java/lang/String" 335 tx_y1, .methodLink "java/lang/String" 492 tx_y3, .methodLink "java/lang/String" 495 tx_y6, .methodLink "java/lang/StringLatin1" 9 tx_y5, .methodLink "java/lang/String" 1059 tx_y4,
  .initialized "java/lang/String", .initialized "java/lang/StringLatin1", .initialized "jdk/internal/util/Preconditions",
  .instanceMethod tx_y1, .instanceMethod tx_y2, .instanceMethod tx_y3, .instanceMethod tx_y7, .selects "java/lang/String" tx_y1 tx_y1, .selects "java/lang/String" tx_y2 tx_y2, .selects "java/lang/String" tx_y3 tx_y3, .selects "java/lang/String" tx_y7 tx_y7, .static tx_y4, .static tx_y5, .static tx_y6]
def tx_W (Z : so_Z) : Prop := ∀ w ∈ tx_ws, w ∈ zG Z
theorem tx_w {Z : so_Z} (h : tx_W Z) (i : Nat) {w : Cond} (hi : tx_ws[i]? = some w) : w ∈ zG Z := h w (List.mem_of_getElem? hi)
def tx_rm (f : Nat) : Room := { frames := f, cells := 0, slots := 0, locals := 24 * f }
def tx_Pc (Z : so_Z) (H : Heap) (As : List Value) : Array Value → State → Prop := fun a U => a = As.toArray ∧ U.heap = H ∧ so_C Z U H ∧ zb Z ≤ H.size
def tx_Qi (x : Int32) : Array Value → State → Outcome → State → Prop := va_Qi (S := Unit) (fun r _ => r = x) (fun _ _ => True) (fun _ => False)
def tx_Qv : Array Value → State → Outcome → State → Prop := va_Qv (S := Unit) (fun _ => True) (fun _ _ => True) (fun _ => False)
/-- as so_go, with the room that is left -/
theorem so_goR {Z : so_Z} {l : Launch} {d m pc pc' : Nat} {ls ls' : List (Option Value)} {st st' : List Value} {A A' : am_A} {r : (Option Value ⊕ Nat) × am_A} (h : so_T Z l d m pc' ls' st' A' r)
    (hN : am_N A' = am_N A) (hC : am_C A' = am_C A) (hS : am_S A' = am_S A) (hW : so_W A → so_L (am_N A) ls st → so_W A' ∧ so_L (am_N A') ls' st')
    (k : ∀ (p : Program) (e : Env) (R : Room) (s : State) (mid : MethodId) (args : Array Value) (below : List Frame) (meth : Method) (c : Code) (Q : State → Prop) (H : Heap) (locs : List Loc) (cells slots : Nat) (arr : Array Slot) (ρ : Nat → Nat),
      so_M Z l m p s mid args meth c → d + 24 ≤ R.frames → 64 * d + 512 ≤ R.locals → cells ≤ R.cells → slots ≤ R.slots → so_R Z ρ A H → va_S (so_A Z) s.heap H locs → rl_has ρ arr (so_ml Z m) ls →
      (∀ (H' : Heap) (locs' : List Loc) (arr' : Array Slot), so_R Z ρ A' H' → va_S (so_A Z) s.heap H' locs' → rl_has ρ arr' (so_ml Z m) ls' → W p l e R s mid args below meth c H' locs' cells slots Q (F0 mid pc' arr' (st'.map (rl_cv ρ)))) →
      W p l e R s mid args below meth c H locs cells slots Q (F0 mid pc arr (st.map (rl_cv ρ)))) : so_T Z l d m pc ls st A r := by
  intro hw hL
  obtain ⟨hw', hL'⟩ := hW hw hL
  obtain ⟨⟨a1, a2, a3, a4⟩, b⟩ := h hw' hL'
  refine ⟨⟨by omega, by omega, by omega, a4⟩, ?_⟩
  intro p e R s mid args below meth c Q H locs cells slots arr ρ C0 S0 hM hh hd hl hc hs hRc hRs hR hV hls hE
  refine k p e R s mid args below meth c Q H locs cells slots arr ρ hM hd hl (by omega) (by omega) hR hV hls fun H' locs' arr' hR' hV' hls' => ?_
  exact b p e R s mid args below meth c Q H' locs' cells slots arr' ρ C0 S0 hM hh hd hl (by omega) (by omega) hRc hRs hR' hV' hls' (by rw [hN]; exact hE)
section Texts
variable {Z : so_Z} {l : Launch} {H : Heap}
theorem tx_blind {As : List Value} : FrameBlind (tx_Pc Z H As) := fun a U g mk q => by
  obtain ⟨h1, h2, h3, h4⟩ := q
  exact ⟨h1, h2, so_C_mv (u := U) (U := U.calling g mk a) (Vm.Alike.refl U.vm) (fun own k tx a h => vk_R.same rfl h) h3, h4⟩
theorem tx_good {w : Cond} (hW : tx_W Z) (hw : w ∈ zG Z) : GoodIn (zG Z) (w :: zG Z) := fun x hx => by
  rcases List.mem_cons.mp hx with rfl | hx
  · exact ⟨hw, good_of_word (List.mem_filter.mp hw).2⟩
  · exact ⟨hx, good_of_word (List.mem_filter.mp hx).2⟩
/-- what a body stands on -/
def tx_F (Z : so_Z) (H : Heap) (y : MethodName) (cc : ByteArray) (maxL : Nat) (ret : Option FieldType) (p : Program) (s : State) (m : MethodId) (args : Array Value) (meth : Method) (c : Code) : Prop :=
  p.tables.exec = Jvm.exec ∧ c.code = cc ∧ c.maxLocals = maxL ∧ meth.sig.returnType = ret ∧ s.vm.findClass y.cls = some m.cls ∧ (∀ w ∈ zG Z, w.before args s = true) ∧ s.heap = H ∧ so_C Z s H ∧ zb Z ≤ H.size ∧ meth.locks = false
theorem tx_of {y : MethodName} {cc : ByteArray} {maxL f : Nat} {ret : Option FieldType} {As : List Value} {Qc : Array Value → State → Outcome → State → Prop} (hy : plainFor y = true) (hlen : (lg_sl As).length ≤ maxL)
    (body : ∀ (p : Program) (e : Env) (s : State) (m : MethodId) (below : List Frame) (meth : Method) (c : Code) (ls : Array Slot), tx_F Z H y cc maxL ret p s m As.toArray meth c → lv_has ls maxL (lv_args 0 As) →
      W p l e (tx_rm f) s m As.toArray below meth c s.heap [] 0 0 (MQ below Qc As.toArray s 0 0 (so_A Z)) (F0 m 0 ls [])) : Met l y (Cond.code y cc maxL ret :: zG Z) (tx_rm f) (tx_Pc Z H As) Qc 0 0 (so_A Z) :=
  va_MetF hy rfl fun p e s m args below meth c s₁ B hml hv => by
    obtain ⟨rfl, hH, hC, hz⟩ := hv
    have hts := atoms_spec (ws := Cond.code y cc maxL ret :: zG Z) B.pre
    have hl := lv_entry As (n := maxL) hlen
    rw [lg_entry_eq]
    exact body p e s m below meth c _ ⟨B.exec, B.bytes, hml, B.returns, findClass_of_methodNamed B.named, fun w hw => hts w (List.mem_cons_of_mem _ hw), hH, hC, hz, B.notSynchronized⟩ hl
theorem tx_end {s t : State} {args : Array Value} {x : Int32} {H1 : Heap} (hs : s.heap.size ≤ H1.size) (hq : ∀ q : Nat, q < s.heap.size → H1[q]? = s.heap[q]?) (ht : t.heap = H1) : tx_Qi x args s (.returned (some (.int x))) t :=
  ⟨⟨x, (), rfl, rfl, trivial⟩, by rw [ht]; exact hs, fun q h _ => by rw [ht]; exact hq q h⟩
theorem tx_endv {s t : State} {args : Array Value} {H1 : Heap} (hs : s.heap.size ≤ H1.size) (hq : ∀ q : Nat, q < s.heap.size → H1[q]? = s.heap[q]?) (ht : t.heap = H1) : tx_Qv args s (.returned none) t :=
  ⟨⟨(), rfl, trivial, trivial⟩, by rw [ht]; exact hs, fun q h _ => by rw [ht]; exact hq q h⟩
/-- before a call inside -/
theorem tx_pre {p : Program} {y : MethodName} {cc : ByteArray} {maxL : Nat} {ret : Option FieldType} {s : State} {m : MethodId} {args : Array Value} {meth : Method} {c : Code} {H1 : Heap} {As : List Value} (F : tx_F Z H y cc maxL ret p s m args meth c) (hz0 : zr Z 0 < zb Z) (h1 : H.size ≤ H1.size) (h2 : ∀ q : Nat, q < H.size → H1[q]? = H[q]?) (U : State) (hU : U.heap = H1) (hW : s.WarmedH U.vm) : tx_Pc Z H1 As As.toArray U := by
  obtain ⟨-, -, -, -, -, -, -, hC, hz, -⟩ := F
  exact ⟨rfl, hU, so_C_mv hW.alike (fun own k tx a h => vk_R.warm hW h) (so_C_kept ⟨Nat.lt_of_lt_of_le hz0 hz, Nat.not_le.mpr hz0⟩ (fun q hq _ => h2 q hq) hC), Nat.le_trans hz h1⟩
theorem tx_cb {p : Program} {y z : MethodName} {cc cz : ByteArray} {maxL mz idx f : Nat} {ret rz : Option FieldType} {s : State} {m : MethodId} {args : Array Value} {meth : Method} {c : Code} (n : Nat) (hW : tx_W Z) (F : tx_F Z H y cc maxL ret p s m args meth c) (hcw : Cond.code z cz mz rz ∈ zG Z) (hini : Cond.initialized z.cls ∈ zG Z) (hl : Cond.methodLink y.cls idx z ∈ zG Z)
    (hd : z.cls ≠ "java/lang/invoke/MethodHandle" ∧ z.cls ≠ "java/lang/invoke/VarHandle" ∧ (parseMethodDescriptor z.desc).map (fun d => d.parameters.length) = some n) (hm : mz ≤ 5) : CallB (tx_rm (f + 1)) s args y.cls idx z cz mz rz (Cond.code z cz mz rz :: zG Z) (tx_rm f) 0 0 n :=
  callB_of n F.2.2.2.2.2.1 (tx_good hW hcw) rfl rfl rfl (F.2.2.2.2.2.1 _ hini) (F.2.2.2.2.2.1 _ hl) hd ⟨Nat.le_refl _, by show 8 + (mz + 11) + 24 * f ≤ 24 * (f + 1); omega⟩
theorem tx_fix {p : Program} {y : MethodName} {cc : ByteArray} {maxL : Nat} {ret : Option FieldType} {s : State} {m : MethodId} {args : Array Value} {meth : Method} {c : Code} (F : tx_F Z H y cc maxL ret p s m args meth c) : CallFix p m c cc maxL s args (zG Z) y.cls := ⟨F.1, F.2.1, F.2.2.1, F.2.2.2.2.1, F.2.2.2.2.2.1⟩
theorem tx_S {C : so_Z} {s : State} {H : Heap} (h : so_C C s H) : vk_S so_tN (so_tl.map List.length) so_tl (fun i => zr C (2 + i)) (zV C) (so_A C) s H := h.2.2.2.2.2.2.2.2.1
theorem tx_Z1 {C : so_Z} {s : State} {H : Heap} (h : so_C C s H) : va_Z "java/lang/String" "COMPACT_STRINGS" "Z" (.int 1) (so_A C) s H := h.2.2.2.2.2.2.2.2.2.1
theorem tx_Z2 {C : so_Z} {s : State} {H : Heap} (h : so_C C s H) : va_Zq "jdk/internal/util/Preconditions" "SIOOBE_FORMATTER" "Ljava/util/function/BiFunction;" (so_A C) s H := h.2.2.2.2.2.2.2.2.2.2
theorem tx_coder (hW : tx_W Z) {k : Nat} (hk : k < so_tN) : Met l tx_y1 (Cond.code tx_y1 prog_26_method_152_code 1 (some .byte) :: zG Z) (tx_rm 0) (tx_Pc Z H [.ref (zr Z (2 + k))]) (tx_Qi 0) 0 0 (so_A Z) :=
  tx_of (by decide +kernel) (Nat.le_of_ble_eq_true rfl) fun p e s m below meth c ls F hl => by
    obtain ⟨hx, hb, hml, hr, hown, hts, hH, hC, hz, hlk⟩ := F
    subst hH
    refine va_gets hx hb (tx_Z1 hC) va_S.rf hown (hts _ (tx_w hW 7 rfl)) (fun _ h => h) (by decide +kernel : decode prog_26_method_152_code 0 = .ok (.getstatic 38, 3)) ?_
    refine lv_if_eq hx hb (off := 10) (tgt := 13) (by decide +kernel) (by decide) (fun h => absurd h (by decide)) fun _ => ?_
    refine lv_aload_n hx hb (k := 0) (by decide +kernel) rfl (lv_at hl 0 rfl) ?_
    refine vk_getf hx hb ((tx_S hC).1 k hk).2.1 va_S.rf hown (hts _ (tx_w hW 8 rfl)) (fun _ h => h) (by decide +kernel) ?_
    refine lv_goto hx hb (off := 4) (tgt := 14) (by decide +kernel) (by decide) ?_
    exact W.zret hx hb hr rfl (fun t ht _ => tx_end (Nat.le_refl _) (fun _ _ => rfl) ht) (fun q h => by cases h) (by decide +kernel)
theorem tx_latin (hW : tx_W Z) {k : Nat} (hk : k < so_tN) : Met l tx_y3 (Cond.code tx_y3 prog_26_method_154_code 1 (some .boolean) :: zG Z) (tx_rm 0) (tx_Pc Z H [.ref (zr Z (2 + k))]) (tx_Qi 1) 0 0 (so_A Z) :=
  tx_of (by decide +kernel) (Nat.le_of_ble_eq_true rfl) fun p e s m below meth c ls F hl => by
    obtain ⟨hx, hb, hml, hr, hown, hts, hH, hC, hz, hlk⟩ := F
    subst hH
    refine va_gets hx hb (tx_Z1 hC) va_S.rf hown (hts _ (tx_w hW 7 rfl)) (fun _ h => h) (by decide +kernel : decode prog_26_method_154_code 0 = .ok (.getstatic 38, 3)) ?_
    refine lv_if_eq hx hb (off := 14) (tgt := 17) (by decide +kernel) (by decide) (fun h => absurd h (by decide)) fun _ => ?_
    refine lv_aload_n hx hb (k := 0) (by decide +kernel) rfl (lv_at hl 0 rfl) ?_
    refine vk_getf hx hb ((tx_S hC).1 k hk).2.1 va_S.rf hown (hts _ (tx_w hW 8 rfl)) (fun _ h => h) (by decide +kernel) ?_
    refine lv_if_ne hx hb (off := 7) (tgt := 17) (by decide +kernel) (by decide) (fun h => absurd rfl h) fun _ => ?_
    refine lv_iconst hx hb (n := 1) (by decide +kernel) rfl ?_
    refine lv_goto hx hb (off := 4) (tgt := 18) (by decide +kernel) (by decide) ?_
    exact W.zret hx hb hr rfl (fun t ht _ => tx_end (Nat.le_refl _) (fun _ _ => rfl) ht) (fun q h => by cases h) (by decide +kernel)
theorem tx_chk (hW : tx_W Z) {j n : Int32} {v : Value} (hv : v = .null ∨ ∃ q : Nat, v = .ref q) (h0 : ¬ j < 0) (h1 : j < n) : Met l tx_y4 (Cond.code tx_y4 prog_36_method_11_code 3 (some .int) :: zG Z) (tx_rm 0) (tx_Pc Z H [.int j, .int n, v]) (tx_Qi j) 0 0 (so_A Z) := by
  rcases hv with rfl | ⟨q, rfl⟩
  · exact tx_of (by decide +kernel) (Nat.le_of_ble_eq_true rfl) fun p e s m below meth c ls F hl => by
      obtain ⟨hx, hb, hml, hr, hown, hts, hH, hC, hz, hlk⟩ := F
      subst hH
      refine lv_iload_n hx hb (k := 0) (by decide +kernel : decode prog_36_method_11_code 0 = .ok (.iload_n 0, 1)) rfl (lv_at hl 0 rfl) ?_
      refine lv_if_lt hx hb (off := 8) (tgt := 9) (by decide +kernel) (by decide) (fun h => absurd h h0) fun _ => ?_
      refine lv_iload_n hx hb (k := 0) (by decide +kernel) rfl (lv_at hl 0 rfl) ?_
      refine lv_iload_n hx hb (k := 1) (by decide +kernel) rfl (lv_at hl 1 rfl) ?_
      refine lv_icmp_lt hx hb (off := 10) (tgt := 16) (by decide +kernel) (by decide) (fun _ => ?_) fun h => absurd h1 h
      refine lv_iload_n hx hb (k := 0) (by decide +kernel) rfl (lv_at hl 0 rfl) ?_
      exact W.zret hx hb hr rfl (fun t ht _ => tx_end (Nat.le_refl _) (fun _ _ => rfl) ht) (fun q h => by cases h) (by decide +kernel)
  · exact tx_of (by decide +kernel) (Nat.le_of_ble_eq_true rfl) fun p e s m below meth c ls F hl => by
      obtain ⟨hx, hb, hml, hr, hown, hts, hH, hC, hz, hlk⟩ := F
      subst hH
      refine lv_iload_n hx hb (k := 0) (by decide +kernel : decode prog_36_method_11_code 0 = .ok (.iload_n 0, 1)) rfl (lv_at hl 0 rfl) ?_
      refine lv_if_lt hx hb (off := 8) (tgt := 9) (by decide +kernel) (by decide) (fun h => absurd h h0) fun _ => ?_
      refine lv_iload_n hx hb (k := 0) (by decide +kernel) rfl (lv_at hl 0 rfl) ?_
      refine lv_iload_n hx hb (k := 1) (by decide +kernel) rfl (lv_at hl 1 rfl) ?_
      refine lv_icmp_lt hx hb (off := 10) (tgt := 16) (by decide +kernel) (by decide) (fun _ => ?_) fun h => absurd h1 h
      refine lv_iload_n hx hb (k := 0) (by decide +kernel) rfl (lv_at hl 0 rfl) ?_
      exact W.zret hx hb hr rfl (fun t ht _ => tx_end (Nat.le_refl _) (fun _ _ => rfl) ht) (fun q h => by cases h) (by decide +kernel)
theorem tx_chk2 (hW : tx_W Z) (hz0 : zr Z 0 < zb Z) {j n : Int32} (h0 : ¬ j < 0) (h1 : j < n) : Met l tx_y5 (Cond.code tx_y5 prog_26_method_155_code 2 none :: zG Z) (tx_rm 1) (tx_Pc Z H [.int j, .int n]) tx_Qv 0 0 (so_A Z) :=
  tx_of (by decide +kernel) (Nat.le_of_ble_eq_true rfl) fun p e s m below meth c ls F hl => by
    obtain ⟨hx, hb, hml, hr, hown, hts, hH, hC, hz, hlk⟩ := id F
    subst hH
    rcases tx_Z2 hC with hq | ⟨q, hq⟩
    · refine lv_iload_n hx hb (k := 0) (by decide +kernel : decode prog_26_method_155_code 0 = .ok (.iload_n 0, 1)) rfl (lv_at hl 0 rfl) ?_
      refine lv_iload_n hx hb (k := 1) (by decide +kernel) rfl (lv_at hl 1 rfl) ?_
      refine va_gets hx hb hq va_S.rf hown (hts _ (tx_w hW 10 rfl)) (fun _ h => h) (by decide +kernel) ?_
      refine va_calli (va_runS (tx_fix F) (tx_chk hW (v := .null) (Or.inl rfl) h0 h1) ⟨tx_cb 3 hW F (tx_w hW 3 rfl) (tx_w hW 18 rfl) (tx_w hW 15 rfl) (by decide +kernel) (by decide), hts _ (tx_w hW 27 rfl)⟩ ⟨tx_blind, fun U hU hWU => tx_pre F hz0 (Nat.le_refl _) (fun _ _ => rfl) U hU hWU⟩ rfl rfl hl.1 (rest := []) rfl (lv_room (Nat.le_of_ble_eq_true rfl)) (show decode prog_26_method_155_code 5 = .ok (.invokestatic 1059, 3) by decide +kernel) ⟨Nat.le_refl _, Nat.le_refl _⟩) va_S.rf (fun _ _ h => h.elim) (fun _ h => h) fun r u t H1 locs1 ht hal hp _ hsz hkp hS1 => ?_
      refine lv_pop hx hb (by decide +kernel) rfl ?_
      exact W.vret hx hb hr (fun t ht _ => tx_endv hsz (fun q h => hkp q h (fun z => z)) ht) hS1.2.2 (by decide +kernel)
    · refine lv_iload_n hx hb (k := 0) (by decide +kernel : decode prog_26_method_155_code 0 = .ok (.iload_n 0, 1)) rfl (lv_at hl 0 rfl) ?_
      refine lv_iload_n hx hb (k := 1) (by decide +kernel) rfl (lv_at hl 1 rfl) ?_
      refine va_gets hx hb hq va_S.rf hown (hts _ (tx_w hW 10 rfl)) (fun _ h => h) (by decide +kernel) ?_
      refine va_calli (va_runS (tx_fix F) (tx_chk hW (v := .ref q) (Or.inr ⟨q, rfl⟩) h0 h1) ⟨tx_cb 3 hW F (tx_w hW 3 rfl) (tx_w hW 18 rfl) (tx_w hW 15 rfl) (by decide +kernel) (by decide), hts _ (tx_w hW 27 rfl)⟩ ⟨tx_blind, fun U hU hWU => tx_pre F hz0 (Nat.le_refl _) (fun _ _ => rfl) U hU hWU⟩ rfl rfl hl.1 (rest := []) rfl (lv_room (Nat.le_of_ble_eq_true rfl)) (show decode prog_26_method_155_code 5 = .ok (.invokestatic 1059, 3) by decide +kernel) ⟨Nat.le_refl _, Nat.le_refl _⟩) va_S.rf (fun _ _ h => h.elim) (fun _ h => h) fun r u t H1 locs1 ht hal hp _ hsz hkp hS1 => ?_
      refine lv_pop hx hb (by decide +kernel) rfl ?_
      exact W.vret hx hb hr (fun t ht _ => tx_endv hsz (fun q h => hkp q h (fun z => z)) ht) hS1.2.2 (by decide +kernel)
theorem tx_sh (x : Int32) : x >>> ((0 : Int32) &&& 31) = x := by
  rw [show (0 : Int32) &&& 31 = 0 from rfl]
  exact Int32.shiftRight_zero
theorem tx_lt {j : Int32} {L : Nat} (h : ¬ (j < 0 ∨ L ≤ j.toNatClampNeg)) (hL : L < 2 ^ 31) : j < Int32.ofNat L := by
  have h0 : ¬ j < 0 := fun q => h (Or.inl q)
  have h1 : j.toNatClampNeg < L := Nat.not_le.mp fun q => h (Or.inr q)
  have h2 : (0 : Int) ≤ j.toInt := by
    have := Int32.not_lt.mp h0
    simpa using Int32.le_iff_toInt_le.mp this
  have h3 : (Int32.ofNat L).toInt = (L : Int) := nI_toInt hL
  refine Int32.lt_iff_toInt_lt.mpr ?_
  rw [h3]
  have h4 : j.toInt.toNat < L := h1
  omega
theorem tx_len_eq : ∀ k, k < so_tN → (so_tl.map List.length).getD k 0 = (so_tl.getD k []).length ∧ (so_tl.getD k []).length < 2 ^ 31 := by decide +kernel
theorem tx_byte : ∀ k, k < so_tN → ∀ b ∈ so_tl.getD k [], b &&& 255 = b ∧ (b.toUInt32 % 65536).toInt32 = b ∧ b.toUInt32.toUInt16.toUInt32.toInt32 = b := by decide +kernel
theorem tx_mem {L : List Int32} {j : Nat} (hj : j < L.length) : L.getD j 0 ∈ L := by
  rw [List.getD_eq_getElem?_getD, List.getElem?_eq_getElem hj]
  exact List.getElem_mem hj
theorem tx_outD {L : List Int32} {j : Nat} (hj : ¬ j < L.length) : L.getD j 0 = 0 := by
  rw [List.getD_eq_getElem?_getD, List.getElem?_eq_none (Nat.not_lt.mp hj)]
  rfl
theorem tx_byteD {k j : Nat} (hk : k < so_tN) : ((so_tl.getD k []).getD j 0) &&& 255 = (so_tl.getD k []).getD j 0 ∧ (((so_tl.getD k []).getD j 0).toUInt32 % 65536).toInt32 = (so_tl.getD k []).getD j 0 ∧ ((so_tl.getD k []).getD j 0).toUInt32.toUInt16.toUInt32.toInt32 = (so_tl.getD k []).getD j 0 := by
  by_cases hj : j < (so_tl.getD k []).length
  · exact tx_byte k hk _ (tx_mem hj)
  · rw [tx_outD hj]
    exact ⟨rfl, rfl, rfl⟩
theorem tx_recv {s : State} {H1 : Heap} {k : Nat} (h : so_C Z s s.heap) (hk : k < so_tN) {locs : List Loc} (hS : va_S (so_A Z) s.heap H1 locs) : ∃ cell : Cell, H1[zr Z (2 + k)]? = some cell ∧ cell.vm.isStatics = false ∧ s.vm.findClass "java/lang/String" = some cell.cls := vk_recv (i := k) (tx_S h) hk hS
theorem tx_length (hW : tx_W Z) (hz0 : zr Z 0 < zb Z) {k : Nat} (hk : k < so_tN) : Met l tx_y2 (Cond.code tx_y2 prog_26_method_54_code 1 (some .int) :: zG Z) (tx_rm 1) (tx_Pc Z H [.ref (zr Z (2 + k))]) (tx_Qi (Int32.ofNat (so_tl.getD k []).length)) 0 0 (so_A Z) :=
  tx_of (by decide +kernel) (Nat.le_of_ble_eq_true rfl) fun p e s m below meth c ls F hl => by
    obtain ⟨hx, hb, hml, hr, hown, hts, hH, hC, hz, hlk⟩ := id F
    subst hH
    refine lv_aload_n hx hb (k := 0) (by decide +kernel : decode prog_26_method_54_code 0 = .ok (.aload_n 0, 1)) rfl (lv_at hl 0 rfl) ?_
    refine vk_getf hx hb ((tx_S hC).1 k hk).2.2.1 va_S.rf hown (hts _ (tx_w hW 9 rfl)) (fun _ h => h) (by decide +kernel) ?_
    refine va_tlen hx hb ((tx_S hC).1 k hk).2.2.2 va_S.rf rfl (by decide +kernel) ?_
    rw [(tx_len_eq k hk).1]
    refine lv_aload_n hx hb (k := 0) (by decide +kernel) rfl (lv_at hl 0 rfl) ?_
    refine va_calli (va_runV (tx_fix F) (tx_coder hW hk) ⟨tx_cb 0 hW F (tx_w hW 0 rfl) (tx_w hW 16 rfl) (tx_w hW 11 rfl) (by decide +kernel) (by decide), hts _ (tx_w hW 19 rfl), hts _ (tx_w hW 23 rfl)⟩ ⟨tx_blind, tx_recv hC hk va_S.rf, fun U hU hWU => tx_pre F hz0 (Nat.le_refl _) (fun _ _ => rfl) U hU hWU⟩ rfl rfl hl.1 (As := []) (rest := [.int _]) rfl (lv_room (Nat.le_of_ble_eq_true rfl)) (show decode prog_26_method_54_code 6 = .ok (.invokevirtual 335, 3) by decide +kernel) ⟨Nat.le_refl _, Nat.le_refl _⟩) va_S.rf (fun _ _ h => h.elim) (fun _ h => h) fun r u t H1 locs1 ht hal hp _ hsz hkp hS1 => ?_
    subst hp
    refine lv_ishr hx hb (by decide +kernel) ?_
    rw [tx_sh]
    exact W.zret hx hb hr rfl (fun t ht _ => tx_end hsz (fun q h => hkp q h (fun z => z)) ht) hS1.2.2 (by decide +kernel)
theorem tx_lcharAt (hW : tx_W Z) (hz0 : zr Z 0 < zb Z) {k : Nat} (hk : k < so_tN) {j : Int32} (hj : ¬ (j < 0 ∨ (so_tl.getD k []).length ≤ j.toNatClampNeg)) : Met l tx_y6 (Cond.code tx_y6 prog_27_method_2_code 2 (some .char) :: zG Z) (tx_rm 2) (tx_Pc Z H [.ref (zV Z k), .int j]) (tx_Qi ((so_tl.getD k []).getD j.toNatClampNeg 0)) 0 0 (so_A Z) :=
  tx_of (by decide +kernel) (Nat.le_of_ble_eq_true rfl) fun p e s m below meth c ls F hl => by
    obtain ⟨hx, hb, hml, hr, hown, hts, hH, hC, hz, hlk⟩ := id F
    subst hH
    refine lv_iload_n hx hb (k := 1) (by decide +kernel : decode prog_27_method_2_code 0 = .ok (.iload_n 1, 1)) rfl (lv_at hl 1 rfl) ?_
    refine lv_aload_n hx hb (k := 0) (by decide +kernel) rfl (lv_at hl 0 rfl) ?_
    refine va_tlen hx hb ((tx_S hC).1 k hk).2.2.2 va_S.rf rfl (by decide +kernel) ?_
    rw [(tx_len_eq k hk).1]
    refine va_callv (va_runS (tx_fix F) (tx_chk2 hW hz0 (fun q => hj (Or.inl q)) (tx_lt hj (tx_len_eq k hk).2)) ⟨tx_cb 2 hW F (tx_w hW 4 rfl) (tx_w hW 16 rfl) (tx_w hW 14 rfl) (by decide +kernel) (by decide), hts _ (tx_w hW 28 rfl)⟩ ⟨tx_blind, fun U hU hWU => tx_pre F hz0 (Nat.le_refl _) (fun _ _ => rfl) U hU hWU⟩ rfl rfl hl.1 (rest := []) rfl (lv_room (Nat.le_of_ble_eq_true rfl)) (show decode prog_27_method_2_code 3 = .ok (.invokestatic 9, 3) by decide +kernel) ⟨Nat.le_refl _, Nat.le_refl _⟩) va_S.rf (fun _ _ h => h.elim) (fun _ h => h) fun u t H1 locs1 ht hal _ _ hsz hkp hS1 => ?_
    refine lv_aload_n hx hb (k := 0) (by decide +kernel) rfl (lv_at hl 0 rfl) ?_
    refine lv_iload_n hx hb (k := 1) (by decide +kernel) rfl (lv_at hl 1 rfl) ?_
    refine va_tb hx hb ((tx_S hC).1 k hk).2.2.2 hS1 (by rw [(tx_len_eq k hk).1]; exact hj) rfl (by decide +kernel) ?_
    refine lv_sipush hx hb (n := 255) (v := 255) (by decide +kernel) rfl ?_
    refine lv_iand hx hb (by decide +kernel) ?_
    rw [(tx_byteD hk).1]
    refine lv_i2c hx hb (by decide +kernel) (tx_byteD hk).2.1 ?_
    exact W.zret hx hb hr (congrArg Value.int (tx_byteD hk).2.2) (fun t ht _ => tx_end hsz (fun q h => hkp q h (fun z => z)) ht) hS1.2.2 (by decide +kernel)
theorem tx_charAt (hW : tx_W Z) (hz0 : zr Z 0 < zb Z) {k : Nat} (hk : k < so_tN) {j : Int32} (hj : ¬ (j < 0 ∨ (so_tl.getD k []).length ≤ j.toNatClampNeg)) : Met l tx_y7 (Cond.code tx_y7 prog_26_method_56_code 2 (some .char) :: zG Z) (tx_rm 3) (tx_Pc Z H [.ref (zr Z (2 + k)), .int j]) (tx_Qi ((so_tl.getD k []).getD j.toNatClampNeg 0)) 0 0 (so_A Z) :=
  tx_of (by decide +kernel) (Nat.le_of_ble_eq_true rfl) fun p e s m below meth c ls F hl => by
    obtain ⟨hx, hb, hml, hr, hown, hts, hH, hC, hz, hlk⟩ := id F
    subst hH
    refine lv_aload_n hx hb (k := 0) (by decide +kernel : decode prog_26_method_56_code 0 = .ok (.aload_n 0, 1)) rfl (lv_at hl 0 rfl) ?_
    have cb3 : CallB (tx_rm 3) s _ "java/lang/String" 492 tx_y3 prog_26_method_154_code 1 (some .boolean) (Cond.code tx_y3 prog_26_method_154_code 1 (some .boolean) :: zG Z) (tx_rm 0) 0 0 0 := callB_of 0 hts (tx_good hW (tx_w hW 2 rfl)) rfl rfl rfl (hts _ (tx_w hW 16 rfl)) (hts _ (tx_w hW 12 rfl)) (by decide +kernel) (by decide)
    refine va_calli (va_runV (tx_fix F) (tx_latin hW hk) ⟨cb3, hts _ (tx_w hW 21 rfl), hts _ (tx_w hW 25 rfl)⟩ ⟨tx_blind, tx_recv hC hk va_S.rf, fun U hU hWU => tx_pre F hz0 (Nat.le_refl _) (fun _ _ => rfl) U hU hWU⟩ rfl rfl hl.1 (As := []) (rest := []) rfl (lv_room (Nat.le_of_ble_eq_true rfl)) (show decode prog_26_method_56_code 1 = .ok (.invokevirtual 492, 3) by decide +kernel) ⟨Nat.le_refl _, Nat.le_refl _⟩) va_S.rf (fun _ _ h => h.elim) (fun _ h => h) fun r u t H1 locs1 ht hal hp _ hsz hkp hS1 => ?_
    subst hp
    refine lv_if_eq hx hb (off := 12) (tgt := 16) (by decide +kernel) (by decide) (fun h => absurd h (by decide)) fun _ => ?_
    refine lv_aload_n hx hb (k := 0) (by decide +kernel) rfl (lv_at hl 0 rfl) ?_
    refine vk_getf hx hb ((tx_S hC).1 k hk).2.2.1 hS1 hown (hts _ (tx_w hW 9 rfl)) (fun _ h => h) (by decide +kernel) ?_
    refine lv_iload_n hx hb (k := 1) (by decide +kernel) rfl (lv_at hl 1 rfl) ?_
    refine va_calli (va_runS (tx_fix F) (tx_lcharAt hW hz0 hk hj) ⟨tx_cb 2 hW F (tx_w hW 5 rfl) (tx_w hW 17 rfl) (tx_w hW 13 rfl) (by decide +kernel) (by decide), hts _ (tx_w hW 29 rfl)⟩ ⟨tx_blind, fun U hU hWU => tx_pre F hz0 hsz (fun q h => hkp q h (fun z => z)) U hU hWU⟩ rfl rfl hl.1 (rest := []) rfl (lv_room (Nat.le_of_ble_eq_true rfl)) (show decode prog_26_method_56_code 12 = .ok (.invokestatic 495, 3) by decide +kernel) ⟨Nat.le_refl _, Nat.le_refl _⟩) hS1 (fun _ _ h => h.elim) (fun _ h => h) fun r u t H2 locs2 ht hal hp _ hsz2 hkp2 hS2 => ?_
    subst hp
    exact W.zret hx hb hr (congrArg Value.int (tx_byteD hk).2.2) (fun t ht _ => tx_end (Nat.le_trans hsz hsz2) (fun q h => (hkp2 q (Nat.lt_of_lt_of_le h hsz) (fun z => z)).trans (hkp q h (fun z => z))) ht) hS2.2.2 (by decide +kernel)
/-- the two calls of the machine -/
theorem so_R_on {ρ : Nat → Nat} {A : am_A} {H1 : Heap} (hR : so_R Z ρ A H) (hs : H.size ≤ H1.size) (hq : ∀ q : Nat, q < H.size → H1[q]? = H[q]?) : so_R Z ρ A H1 := by
  obtain ⟨⟨h1, h2, h3, h4⟩, h5⟩ := hR
  exact ⟨⟨h1, h2.kept fun k x hx => hq _ ((h2 k x hx).lt), h3, Nat.le_trans h4 hs⟩, h5⟩
theorem tx_text {ρ : Nat → Nat} {A : am_A} {a : Nat} (hZ : so_k Z) (hR : so_R Z ρ A H) (hK : am_K A a = 43) : ∃ k, k < so_tN ∧ ρ a = zr Z (2 + k) ∧ am_L A a = (so_tl.getD k []).length ∧ ∀ j, am_I A a j = (so_tl.getD k []).getD j 0 := by
  have h64 := so_lt64 hR (a := a) (by omega)
  obtain ⟨g1, g2, g3, g4⟩ := hR.2.2.2.1 a h64
  obtain ⟨-, -, -, hh, -⟩ := hZ a h64
  obtain ⟨k, hk, rfl, hL, hI⟩ := hh (by rw [← g1]; exact hK)
  exact ⟨k, hk, hR.2.1 _ h64, by rw [g2]; exact hL, fun j => by rw [g3]; exact hI j⟩
theorem tx_so_pre {m : Nat} {p : Program} {s : State} {mid : MethodId} {args : Array Value} {meth : Method} {c : Code} {locs : List Loc} {As : List Value} (hZ : so_k Z) (hM : so_M Z l m p s mid args meth c) (hV : va_S (so_A Z) s.heap H locs) (U : State) (hU : U.heap = H) (hWU : s.WarmedH U.vm) : tx_Pc Z H As As.toArray U := by
  have hC := so_C_at hM
  obtain ⟨-, -, -, -, -, -, hK, -, hbs, -⟩ := hM
  have hz := (hZ 0 (by omega)).2.2.2.2
  exact ⟨rfl, hU, so_C_mv hWU.alike (fun own k tx a h => vk_R.warm hWU h) (so_C_kept ⟨Nat.lt_of_lt_of_le hz hbs, Nat.not_le.mpr hz⟩ hV.2.1 hC), Nat.le_trans hbs hV.1⟩
theorem tx_Ln (hZ : so_k Z) (hW : tx_W Z) : so_Ln Z l := by
  intro d m pc ls A r d2 idx a rest hlk hdg hcat hK hT
  refine so_goR hT rfl rfl rfl (fun w h => ⟨w, so_dead1 (st := []) (ls := []) d2 h.1, fun v hv => ?_⟩) fun p e R s mid args below meth c Q H locs cells slots arr ρ hM hd hl hcR hsR hR hV hls kk => ?_
  · rcases List.mem_cons.mp hv with rfl | hv
    · trivial
    · exact h.2 v (List.mem_cons_of_mem _ hv)
  · obtain ⟨k, hk, hρ, hL, -⟩ := tx_text hZ hR hK
    have hts : ∀ w ∈ zG Z, w.before args s = true := fun w hw => hM.2.2.2.2.2.1 w (zG_sub hw)
    have hcat2 := am_cat_eq ρ rest
    have cb : CallB R s args (zY Z m).cls idx tx_y2 prog_26_method_54_code 1 (some .int) (Cond.code tx_y2 prog_26_method_54_code 1 (some .int) :: zG Z) (tx_rm 1) 0 0 0 := callB_of 0 hts (tx_good hW (tx_w hW 1 rfl)) rfl rfl rfl (hts _ (tx_w hW 16 rfl)) (hM.2.2.2.2.2.1 _ hlk) (by decide +kernel) ⟨by show 1 + 1 ≤ R.frames; omega, by show 8 + (1 + 11) + 24 ≤ R.locals; omega⟩
    refine va_calli (va_runV ⟨hM.1, hM.2.1, hM.2.2.1, hM.2.2.2.2.1, hts⟩ (tx_length hW (hZ 0 (by omega)).2.2.2.2 hk) ⟨cb, hts _ (tx_w hW 20 rfl), hts _ (tx_w hW 24 rfl)⟩ ⟨tx_blind, tx_recv (so_C_at hM) hk hV, fun U hU hWU => tx_so_pre hZ hM hV U hU hWU⟩ rfl rfl hls.1 (As := []) (rest := rest.map (rl_cv ρ)) (by show Value.ref (ρ a) :: _ = _; rw [hρ]; rfl) (lv_room (by rw [hcat2]; exact hcat)) hdg ⟨hcR, hsR⟩) hV (fun _ _ h => h.elim) (fun _ h => h) fun r u t H1 locs1 ht hal hp _ hsz hkp hS1 => ?_
    subst hp
    have := kk H1 locs1 arr (so_R_on hR hsz fun q h => hkp q h (fun z => z)) hS1 (rl_dead d2 hls)
    rw [hL] at this
    exact this
theorem tx_Cn (hZ : so_k Z) (hW : tx_W Z) : so_Cn Z l := by
  intro d m pc ls A r d2 idx a j rest hlk hdg hcat hK hj hT
  refine so_goR hT rfl rfl rfl (fun w h => ⟨w, so_dead1 (st := []) (ls := []) d2 h.1, fun v hv => ?_⟩) fun p e R s mid args below meth c Q H locs cells slots arr ρ hM hd hl hcR hsR hR hV hls kk => ?_
  · rcases List.mem_cons.mp hv with rfl | hv
    · trivial
    · exact h.2 v (List.mem_cons_of_mem _ (List.mem_cons_of_mem _ hv))
  · obtain ⟨k, hk, hρ, hL, hI⟩ := tx_text hZ hR hK
    have hts : ∀ w ∈ zG Z, w.before args s = true := fun w hw => hM.2.2.2.2.2.1 w (zG_sub hw)
    have hcat2 := am_cat_eq ρ rest
    rw [hL] at hj
    have cb : CallB R s args (zY Z m).cls idx tx_y7 prog_26_method_56_code 2 (some .char) (Cond.code tx_y7 prog_26_method_56_code 2 (some .char) :: zG Z) (tx_rm 3) 0 0 1 := callB_of 1 hts (tx_good hW (tx_w hW 6 rfl)) rfl rfl rfl (hts _ (tx_w hW 16 rfl)) (hM.2.2.2.2.2.1 _ hlk) (by decide +kernel) ⟨by show 3 + 1 ≤ R.frames; omega, by show 8 + (2 + 11) + 72 ≤ R.locals; omega⟩
    refine va_calli (va_runV ⟨hM.1, hM.2.1, hM.2.2.1, hM.2.2.2.2.1, hts⟩ (tx_charAt hW (hZ 0 (by omega)).2.2.2.2 hk hj) ⟨cb, hts _ (tx_w hW 22 rfl), hts _ (tx_w hW 26 rfl)⟩ ⟨tx_blind, tx_recv (so_C_at hM) hk hV, fun U hU hWU => tx_so_pre hZ hM hV U hU hWU⟩ rfl rfl hls.1 (As := [.int j]) (rest := rest.map (rl_cv ρ)) (by show Value.int j :: Value.ref (ρ a) :: _ = _; rw [hρ]; rfl) (lv_room (by rw [hcat2]; exact hcat)) hdg ⟨hcR, hsR⟩) hV (fun _ _ h => h.elim) (fun _ h => h) fun r u t H1 locs1 ht hal hp _ hsz hkp hS1 => ?_
    subst hp
    have := kk H1 locs1 arr (so_R_on hR hsz fun q h => hkp q h (fun z => z)) hS1 (rl_dead d2 hls)
    rw [hI] at this
    exact this
end Texts
