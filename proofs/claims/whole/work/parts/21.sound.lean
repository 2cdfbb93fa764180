/-! SOUND: what is asked of a row of code, and that then every step is sound -/
def so_Ln (Z : so_Z) (l : Launch) : Prop := ∀ (d m pc : Nat) (ls : List (Option Value)) (A : am_A) (r : (Option Value ⊕ Nat) × am_A) (d2 : List Nat) (idx a : Nat) (rest : List Value), Cond.methodLink (zY Z m).cls idx ⟨"java/lang/String", "length", "()I"⟩ ∈ zT Z → decode (zB Z m) pc = .ok (.invokevirtual idx, 3) → am_cat rest ≤ 8 → am_K A a = 43 →
  so_T Z l d m (pc + 3) (am_dead d2 ls) (.int (Int32.ofNat (am_L A a)) :: rest) A r → so_T Z l d m pc ls (.ref a :: rest) A r
def so_Cn (Z : so_Z) (l : Launch) : Prop := ∀ (d m pc : Nat) (ls : List (Option Value)) (A : am_A) (r : (Option Value ⊕ Nat) × am_A) (d2 : List Nat) (idx a : Nat) (j : Int32) (rest : List Value), Cond.methodLink (zY Z m).cls idx ⟨"java/lang/String", "charAt", "(I)C"⟩ ∈ zT Z → decode (zB Z m) pc = .ok (.invokevirtual idx, 3) → am_cat rest ≤ 8 → am_K A a = 43 → ¬ (j < 0 ∨ am_L A a ≤ j.toNatClampNeg) →
  so_T Z l d m (pc + 3) (am_dead d2 ls) (.int (am_I A a j.toNatClampNeg) :: rest) A r → so_T Z l d m pc ls (.int j :: .ref a :: rest) A r
def so_Mu (Z : so_Z) (l : Launch) : Prop := ∀ (d m pc : Nat) (ls : List (Option Value)) (A : am_A) (r : (Option Value ⊕ Nat) × am_A) (d2 : List Nat) (idx : Nat) (k n : Int32) (rest : List Value), Cond.classLink (zY Z m).cls idx "[[I" ∈ zT Z → decode (zB Z m) pc = .ok (.multianewarray idx 2, 4) → ¬ (n < 0 ∨ k < 0 ∨ 1000 < n.toNatClampNeg ∨ 1000 < k.toNatClampNeg) →
  so_T Z l d m (pc + 4) (am_dead d2 ls) (.ref (am_N A) :: rest) (am_gr k.toNatClampNeg (am_N A) n.toNatClampNeg 0 (am_nw A 25 n.toNatClampNeg n.toNatClampNeg)) r → so_T Z l d m pc ls (.int k :: .int n :: rest) A r
def so_fc (a b c : Nat) : Prop := (c = 0 → rl_c a b = 0) ∧ (c = 1 → rl_c a b = 1) ∧ (c = 2 → rl_c a b = 2) ∧ (3 ≤ c → rl_c a b = 4)
def so_ok (Z : so_Z) (m pc : Nat) (w : am_row) : Prop := decode (zB Z m) pc = .ok (w.1, w.2.1) ∧ match w with
  | (i, len, a, b, c, e, v0, u0, ts, _, _) => match i with
    | .aload _ => len = 2
    | .aload_n _ => len = 1
    | .iload _ => len = 2
    | .iload_n _ => len = 1
    | .lload _ => len = 2
    | .lload_n _ => len = 1
    | .istore n => len = 2 ∧ n < so_ml Z m
    | .istore_n n => len = 1 ∧ n.val < so_ml Z m
    | .lstore n => len = 2 ∧ n + 1 < so_ml Z m
    | .lstore_n n => len = 1 ∧ n.val + 1 < so_ml Z m
    | .astore n => len = 2 ∧ n < so_ml Z m
    | .astore_n n => len = 1 ∧ n.val < so_ml Z m
    | .iinc n k => len = 3 ∧ Int32.ofInt k = v0 ∧ n < so_ml Z m
    | .iconst n => len = 1 ∧ Int32.ofInt n = v0
    | .bipush n => len = 2 ∧ (Int8.ofInt n).toInt32 = v0
    | .sipush n => len = 3 ∧ (Int16.ofInt n).toInt32 = v0
    | .lconst n => len = 1 ∧ Int64.ofNat n.val = u0
    | .aconst_null => len = 1
    | .ldc idx => len = 2 ∧ ((a = 0 ∧ Cond.constant (zY Z m).cls idx v0 ∈ zT Z) ∨ (a ≠ 0 ∧ b < 64 ∧ ∃ tx, ((zY Z m).cls, idx, tx, b) ∈ so_tx))
    | .ldc_w idx => len = 3 ∧ ((a = 0 ∧ Cond.constant (zY Z m).cls idx v0 ∈ zT Z) ∨ (a ≠ 0 ∧ b < 64 ∧ ∃ tx, ((zY Z m).cls, idx, tx, b) ∈ so_tx))
    | .ldc2_w idx => len = 3 ∧ Cond.constantLong (zY Z m).cls idx u0 ∈ zT Z
    | .goto off => (pc : Int) + off = (a : Int) ∧ len = 3
    | .ifCond _ off => (pc : Int) + off = (a : Int) ∧ len = 3
    | .if_icmp _ off => (pc : Int) + off = (a : Int) ∧ len = 3
    | .ifnull off => (pc : Int) + off = (a : Int) ∧ len = 3
    | .ifnonnull off => (pc : Int) + off = (a : Int) ∧ len = 3
    | .tableswitch dflt lo hi offs => (pc : Int) + dflt = (a : Int) ∧ so_sw pc lo offs.toList ts ∧ hi = lo + offs.toList.length - 1
    | .getfield idx => len = 3 ∧ so_fl Z (zY Z m).cls idx a b ∧ so_fc a b c
    | .putfield idx => len = 3 ∧ so_fl Z (zY Z m).cls idx a b ∧ so_ff Z m idx a b ∧ so_fc a b c
    | .getstatic idx => len = 3 ∧ b = 1 ∧ Cond.fieldLink (zY Z m).cls idx "OakYard$Finder" "PLACES" "[J" ∈ zT Z
    | .new idx => (b = 0 ∧ len = 3 ∧ so_nw Z (zY Z m).cls idx a c) ∨ (b ≠ 0 ∧ len = 3 ∧ 0 < a ∧ a < 6 ∧ am_hs (zP Z) m = [] ∧ ∃ (ic : Nat) (names : List String), Bundle.fit (so_x a) = true ∧ (∀ n ∈ names, Bundle.fit n = true) ∧ names.length ≤ 6 ∧ (∀ w ∈ Cond.classLink (zY Z m).cls idx (so_x a) :: Cond.initialized (so_x a) :: vx_at0 (zY Z m).cls ic (so_x a) names, w ∈ zT Z ∧ vx_ot w = true) ∧
        decode (zB Z m) (pc + 3) = .ok (.dup, 1) ∧ decode (zB Z m) (pc + 4) = .ok (.invokespecial ic, 3) ∧ decode (zB Z m) (pc + 7) = .ok (.athrow, 1))
    | .newarray ty => len = 2 ∧ Cond.arrayClass (newarray.typeOf ty) ∈ zT Z
    | .anewarray idx => len = 3 ∧ Cond.arrayOver (.object (match a with | 26 => "OakYard$Tree" | 27 => "OakYard$Piece" | 28 => "OakYard$Ship" | _ => "OakYard$Text")) ∈ zT Z ∧ Cond.classLink (zY Z m).cls idx (match a with | 26 => "OakYard$Tree" | 27 => "OakYard$Piece" | 28 => "OakYard$Ship" | _ => "OakYard$Text") ∈ zT Z ∧ 26 ≤ a ∧ a ≤ 29
    | .multianewarray idx dm => len = 4 ∧ dm = 2 ∧ Cond.classLink (zY Z m).cls idx "[[I" ∈ zT Z
    | .aaload => len = 1 ∧ 25 ≤ a ∧ a < 30
    | .bastore => len = 1 ∧ (a = 23 ∨ a = 24)
    | .aastore => len = 1 ∧ ((a = 26 ∧ b = 10) ∨ (a = 27 ∧ b = 5) ∨ (a = 28 ∧ b = 7) ∨ (a = 29 ∧ b = 9))
    | .checkcast idx => len = 3 ∧ a = 21 ∧ Cond.classLink (zY Z m).cls idx "[I" ∈ zT Z
    | .ireturn => len = 1 ∧ ((c = 0 ∧ zR Z m = some .int) ∨ (c ≠ 0 ∧ zR Z m = some .boolean))
    | .lreturn => len = 1 ∧ zR Z m = some .long
    | .areturn => len = 1 ∧ ∃ rt, zR Z m = some rt ∧ ((∃ n, rt = .object n) ∨ ∃ t, rt = .array t)
    | .return_ => len = 1 ∧ zR Z m = none
    | .invokevirtual idx => len = 3 ∧ ((a = 0 ∧ so_iv Z (zY Z m).cls idx 0 b c e) ∨ (a = 5 ∧ Cond.methodLink (zY Z m).cls idx ⟨"java/lang/String", "length", "()I"⟩ ∈ zT Z) ∨ (a = 6 ∧ Cond.methodLink (zY Z m).cls idx ⟨"java/lang/String", "charAt", "(I)C"⟩ ∈ zT Z) ∨
        (a = 7 ∧ Cond.methodLink (zY Z m).cls idx ⟨"[I", "clone", "()Ljava/lang/Object;"⟩ ∈ zT Z ∧ Cond.sameMethod "[I" "java/lang/Object" "clone" "()Ljava/lang/Object;" ∈ zT Z ∧ Cond.native ⟨"java/lang/Object", "clone", "()Ljava/lang/Object;"⟩ ∈ zT Z ∧ Cond.instanceMethod ⟨"java/lang/Object", "clone", "()Ljava/lang/Object;"⟩ ∈ zT Z ∧ Cond.selects "[I" ⟨"[I", "clone", "()Ljava/lang/Object;"⟩ ⟨"java/lang/Object", "clone", "()Ljava/lang/Object;"⟩ ∈ zT Z ∧ Cond.castable "[I" "java/lang/Cloneable" ∈ zT Z))
    | .invokestatic idx => len = 3 ∧ ((a = 1 ∧ so_iv Z (zY Z m).cls idx 1 b c e) ∨ (a = 4 ∧ Cond.methodLink (zY Z m).cls idx arraycopyName ∈ zT Z ∧ Cond.native arraycopyName ∈ zT Z ∧ Cond.static arraycopyName ∈ zT Z ∧ Cond.initialized "java/lang/System" ∈ zT Z))
    | .invokespecial idx => len = 3 ∧ ((a = 2 ∧ so_iv Z (zY Z m).cls idx 2 b c e) ∨ (a = 3 ∧ Cond.methodLink (zY Z m).cls idx objectInit ∈ zT Z ∧ Cond.instanceMethod objectInit ∈ zT Z ∧ Cond.code objectInit ⟨#[0xb1]⟩ 1 none ∈ zT Z))
    | _ => len = 1
section Sound
variable {Z : so_Z} {l : Launch} {g : am_G} {d m pc : Nat} {ls : List (Option Value)} {st : List Value} {A : am_A} {r : (Option Value ⊕ Nat) × am_A}
theorem so_ifp {q : Prop} [Decidable q] {x : am_X} (h : (if q then x else none) = some r) : q ∧ x = some r := by
  by_cases hq : q
  · rw [if_pos hq] at h
    exact ⟨hq, h⟩
  · rw [if_neg hq] at h
    cases h
theorem so_ifn {q : Prop} [Decidable q] {x : am_X} (h : (if q then none else x) = some r) : ¬ q ∧ x = some r := by
  by_cases hq : q
  · rw [if_pos hq] at h
    cases h
  · rw [if_neg hq] at h
    exact ⟨hq, h⟩
theorem so_oinit {idx : Nat} {d2 : List Nat} {rest : List Value} {a : Nat} (hl1 : Cond.methodLink (zY Z m).cls idx objectInit ∈ zT Z) (hl2 : Cond.instanceMethod objectInit ∈ zT Z) (hl3 : Cond.code objectInit ⟨#[0xb1]⟩ 1 none ∈ zT Z) (hdg : decode (zB Z m) pc = .ok (.invokespecial idx, 3)) (hcat : am_cat rest ≤ 8) (h : so_T Z l d m (pc + 3) (am_dead d2 ls) rest A r) : so_T Z l d m pc ls (.ref a :: rest) A r := by
  refine so_gp h (fun _ h => ⟨so_dead1 (st := []) (ls := []) d2 h.1, so_t1 h.2⟩) fun p e R s mid args below meth c Q H locs cells slots arr ρ hM hd hl hR hV hls kk => ?_
  have hts := hM.2.2.2.2.2.1
  have hcat2 := am_cat_eq ρ rest
  refine W.objInit hM.1 hM.2.1 hM.2.2.2.2.1 (hts _ hl1) (hts _ hl2) (hts _ hl3) rfl (by rw [hM.2.2.1]; exact hls.1) rfl hdg (by omega) ?_ (kk arr (rl_dead d2 hls))
  show 2 * 0 + ((rest.map (rl_cv ρ)).map fun v => v.category).sum + 12 ≤ R.locals
  omega
theorem so_storeL2 {i n : Nat} {x : Int64} {rest : List Value} {d2 : List Nat} (hg : so_G Z l g)
    (row : ∀ (p : Program) (e : Env) (R : Room) (s : State) (mid : MethodId) (args : Array Value) (below : List Frame) (meth : Method) (c : Code) (Q : State → Prop) (H : Heap) (locs : List Loc) (cells slots : Nat) (arr : Array Slot) (rst : List Value) (lv : List (Nat × Value)), so_M Z l m p s mid args meth c → lv_has arr (so_ml Z m) lv →
      (∀ arr' : Array Slot, lv_has arr' (so_ml Z m) ((i, Value.long x) :: lv.filter (fun q => !(q.1 == i) && (!(q.1 == i + 1) && !(q.1 + 1 == i && q.2.category == 2)))) → W p l e R s mid args below meth c H locs cells slots Q (F0 mid (pc + n) arr' rst)) → W p l e R s mid args below meth c H locs cells slots Q (F0 mid pc arr (.long x :: rst)))
    (hs : am_st ls i (.long x) (fun l => g d m (pc + n) (am_dead d2 (l.set (i + 1) none)) rest A) = some r) : so_T Z l d m pc ls (.long x :: rest) A r := by
  obtain ⟨hp, hs⟩ := so_st_inv hs
  exact so_gp (hg _ _ _ _ _ _ _ hs) (fun _ h => ⟨so_dead1 (st := []) (ls := []) d2 fun j w hj => so_set_ok (v := .long x) h.1 trivial j w (rl_dead1 hj), so_t1 h.2⟩) fun p e R s mid args below meth c Q H locs cells slots arr ρ hM _ _ hR hV hls kk => row p e R s mid args below meth c Q H locs cells slots arr _ _ hM hls fun arr' h' => kk arr' (rl_dead d2 (rl_store2' (v := .long x) hp h'))
set_option maxHeartbeats 4000000 in
theorem so_stepA (hZ : so_k Z) (hgw : so_gw Z) (hLn : so_Ln Z l) (hCn : so_Cn Z l) (hMu : so_Mu Z l) (hg : so_G Z l g) (w : am_row) (hok : so_ok Z m pc w) (hs : am_step (zP Z) g d m pc ls st A w = some r) : so_T Z l d m pc ls st A r := by
  obtain ⟨i, len, a, b, c, e, v0, u0, ts, d1, d2⟩ := w
  obtain ⟨hdg, hok⟩ := hok
  dsimp only at hdg
  cases i <;> simp only [am_step] at hs <;> simp only at hok
  case aload n => subst hok; exact so_loadA hg (fun p e R s mid args below meth c Q H locs cells slots arr rest x hM h k => lv_aload hM.1 hM.2.1 hdg h k) (fun p e R s mid args below meth c Q H locs cells slots arr rest hM h k => lv_aloadN hM.1 hM.2.1 hdg h k) hs
  case aload_n n => subst hok; exact so_loadA hg (fun p e R s mid args below meth c Q H locs cells slots arr rest x hM h k => lv_aload_n hM.1 hM.2.1 hdg rfl h k) (fun p e R s mid args below meth c Q H locs cells slots arr rest hM h k => lv_aload_nN hM.1 hM.2.1 hdg rfl h k) hs
  case iload n => subst hok; exact so_loadI hg (fun p e R s mid args below meth c Q H locs cells slots arr rest x hM h k => lv_iload hM.1 hM.2.1 hdg h k) hs
  case iload_n n => subst hok; exact so_loadI hg (fun p e R s mid args below meth c Q H locs cells slots arr rest x hM h k => lv_iload_n hM.1 hM.2.1 hdg rfl h k) hs
  case lload n => subst hok; exact so_loadL hg (fun p e R s mid args below meth c Q H locs cells slots arr rest x hM h k => lv_lload hM.1 hM.2.1 hdg h k) hs
  case lload_n n => subst hok; exact so_loadL hg (fun p e R s mid args below meth c Q H locs cells slots arr rest x hM h k => lv_lload_n hM.1 hM.2.1 hdg rfl h k) hs
  case istore n =>
    obtain ⟨rfl, hn⟩ := hok
    split at hs
    · exact so_store hg (fun p e R s mid args below meth c Q H locs cells slots arr ρ rst lv hM h k => lv_istore hM.1 hM.2.1 hdg h hn rfl k) hs
    · cases hs
  case istore_n n =>
    obtain ⟨rfl, hn⟩ := hok
    split at hs
    · exact so_store hg (fun p e R s mid args below meth c Q H locs cells slots arr ρ rst lv hM h k => lv_istore_n hM.1 hM.2.1 hdg rfl h hn rfl k) hs
    · cases hs
  case astore n =>
    obtain ⟨rfl, hn⟩ := hok
    split at hs
    · exact so_store hg (fun p e R s mid args below meth c Q H locs cells slots arr ρ rst lv hM h k => lv_astore hM.1 hM.2.1 hdg h hn rfl k) hs
    · exact so_store hg (fun p e R s mid args below meth c Q H locs cells slots arr ρ rst lv hM h k => lv_astoreN hM.1 hM.2.1 hdg h hn rfl k) hs
    · cases hs
  case astore_n n =>
    obtain ⟨rfl, hn⟩ := hok
    split at hs
    · exact so_store hg (fun p e R s mid args below meth c Q H locs cells slots arr ρ rst lv hM h k => lv_astore_n hM.1 hM.2.1 hdg rfl h hn rfl k) hs
    · exact so_store hg (fun p e R s mid args below meth c Q H locs cells slots arr ρ rst lv hM h k => lv_astore_nN hM.1 hM.2.1 hdg rfl h hn rfl k) hs
    · cases hs
  case lstore n =>
    obtain ⟨rfl, hn⟩ := hok
    split at hs
    · exact so_storeL2 hg (fun p e R s mid args below meth c Q H locs cells slots arr rst lv hM h k => lv_lstore hM.1 hM.2.1 hdg h hn rfl k) hs
    · cases hs
  case lstore_n n =>
    obtain ⟨rfl, hn⟩ := hok
    split at hs
    · exact so_storeL2 hg (fun p e R s mid args below meth c Q H locs cells slots arr rst lv hM h k => lv_lstore_n hM.1 hM.2.1 hdg rfl h hn rfl k) hs
    · cases hs
  case iinc n k =>
    obtain ⟨rfl, hk, hn⟩ := hok
    exact so_iinc (n := 0) hg hdg hk hn hs
  case iconst n => obtain ⟨rfl, hv⟩ := hok; exact so_push (v := .int v0) hg (fun _ => trivial) (fun p e R s mid args below meth c Q H locs cells slots arr ρ rest hM hR hV k => lv_iconst hM.1 hM.2.1 hdg hv k) hs
  case bipush n => obtain ⟨rfl, hv⟩ := hok; exact so_push (v := .int v0) hg (fun _ => trivial) (fun p e R s mid args below meth c Q H locs cells slots arr ρ rest hM hR hV k => lv_bipush hM.1 hM.2.1 hdg hv k) hs
  case sipush n => obtain ⟨rfl, hv⟩ := hok; exact so_push (v := .int v0) hg (fun _ => trivial) (fun p e R s mid args below meth c Q H locs cells slots arr ρ rest hM hR hV k => lv_sipush hM.1 hM.2.1 hdg hv k) hs
  case lconst n => obtain ⟨rfl, hv⟩ := hok; exact so_push (v := .long u0) hg (fun _ => trivial) (fun p e R s mid args below meth c Q H locs cells slots arr ρ rest hM hR hV k => lv_lconst hM.1 hM.2.1 hdg hv k) hs
  case aconst_null => subst hok; exact so_push (v := .null) hg (fun _ => trivial) (fun p e R s mid args below meth c Q H locs cells slots arr ρ rest hM hR hV k => lv_null hM.1 hM.2.1 hdg k) hs
  case ldc idx =>
    obtain ⟨rfl, ⟨h0, hv⟩ | ⟨h0, h64, tx, hx⟩⟩ := hok
    · subst h0
      exact so_push (v := .int v0) hg (fun _ => trivial) (fun p e R s mid args below meth c Q H locs cells slots arr ρ rest hM hR hV k => lv_ldc hM.1 hM.2.1 hM.2.2.2.2.1 (hM.2.2.2.2.2.1 _ hv) hdg k) hs
    · cases a with
      | zero => exact absurd rfl h0
      | succ a =>
        obtain ⟨-, hs⟩ := so_ifp hs
        exact so_ldcT hdg h64 hx (hg _ _ _ _ _ _ _ hs)
  case ldc_w idx =>
    obtain ⟨rfl, ⟨h0, hv⟩ | ⟨h0, h64, tx, hx⟩⟩ := hok
    · subst h0
      exact so_push (v := .int v0) hg (fun _ => trivial) (fun p e R s mid args below meth c Q H locs cells slots arr ρ rest hM hR hV k => lv_ldcw hM.1 hM.2.1 hM.2.2.2.2.1 (hM.2.2.2.2.2.1 _ hv) hdg k) hs
    · cases a with
      | zero => exact absurd rfl h0
      | succ a =>
        obtain ⟨-, hs⟩ := so_ifp hs
        exact so_ldcTw hdg h64 hx (hg _ _ _ _ _ _ _ hs)
  case ldc2_w idx => obtain ⟨rfl, hv⟩ := hok; exact so_push (v := .long u0) hg (fun _ => trivial) (fun p e R s mid args below meth c Q H locs cells slots arr ρ rest hM hR hV k => lv_ldc2 hM.1 hM.2.1 hM.2.2.2.2.1 (hM.2.2.2.2.2.1 _ hv) hdg k) hs
  case iadd => subst hok; exact so_iadd hg hdg hs
  case isub => subst hok; exact so_isub hg hdg hs
  case imul => subst hok; exact so_imul hg hdg hs
  case idiv => subst hok; exact so_idiv hg hdg hs
  case irem => subst hok; exact so_irem hg hdg hs
  case ineg => subst hok; exact so_ineg hg hdg hs
  case ishl => subst hok; exact so_ishl hg hdg hs
  case ishr => subst hok; exact so_ishr hg hdg hs
  case iushr => subst hok; exact so_iushr hg hdg hs
  case iand => subst hok; exact so_iand hg hdg hs
  case ior => subst hok; exact so_ior hg hdg hs
  case ixor => subst hok; exact so_ixor hg hdg hs
  case ladd => subst hok; exact so_ladd hg hdg hs
  case lmul => subst hok; exact so_lmul hg hdg hs
  case ldiv => subst hok; exact so_ldiv hg hdg hs
  case lrem => subst hok; exact so_lrem hg hdg hs
  case lcmp => subst hok; exact so_lcmp hg hdg hs
  case i2l => subst hok; exact so_i2l hg hdg hs
  case l2i => subst hok; exact so_l2i hg hdg hs
  case i2b => subst hok; exact so_i2b hg hdg hs
  case dup => subst hok; exact so_dup hg hdg hs
  case dup_x1 => subst hok; exact so_dup_x1 hg hdg hs
  case dup2 => subst hok; exact so_dup2 hg hdg hs
  case pop => subst hok; exact so_pop hg hdg hs
  case goto off => obtain ⟨h1, rfl⟩ := hok; exact so_goto hg hdg h1 hs
  case ifCond cc off => obtain ⟨h1, rfl⟩ := hok; exact so_cond1 hg hdg h1 hs
  case if_icmp cc off => obtain ⟨h1, rfl⟩ := hok; exact so_cond2 hg hdg h1 hs
  case ifnull off => obtain ⟨h1, rfl⟩ := hok; exact so_ifnull hg hdg h1 hs
  case ifnonnull off => obtain ⟨h1, rfl⟩ := hok; exact so_ifnonnull hg hdg h1 hs
  case tableswitch dflt lo hi offs => obtain ⟨h1, h2, h3⟩ := hok; exact so_switch hg hdg h1 h2 h3 hs
  case getfield idx =>
    obtain ⟨rfl, hf, hc0, hc1, hc2, hc3⟩ := hok
    split at hs
    · rename_i q rest
      obtain ⟨hq, hs⟩ := so_ifp hs
      have fvI : ∀ ρ, rl_c a b ≠ 2 → rl_c a b ≠ 4 → rl_fv ρ A q b = .int (am_I A q b) := fun ρ h2 h4 => by unfold rl_fv; rw [hq, if_neg h2, if_neg h4]
      have fvJ : ∀ ρ, rl_c a b = 2 → rl_fv ρ A q b = .long (am_J A q b) := fun ρ h2 => by unfold rl_fv; rw [hq, if_pos h2]
      have fvR : ∀ ρ, rl_c a b = 4 → rl_fv ρ A q b = va_rf ((am_R A q b).map ρ) := fun ρ h4 => by unfold rl_fv; rw [hq, if_neg (by omega), if_pos h4]
      split at hs
      · exact so_getf (v := .int (am_I A q b)) hf hdg hq (fun _ => trivial) (fun ρ => fvI ρ (by have := hc0 rfl; omega) (by have := hc0 rfl; omega)) (hg _ _ _ _ _ _ _ hs)
      · exact so_getf (v := .int (am_I A q b)) hf hdg hq (fun _ => trivial) (fun ρ => fvI ρ (by have := hc1 rfl; omega) (by have := hc1 rfl; omega)) (hg _ _ _ _ _ _ _ hs)
      · exact so_getf (v := .long (am_J A q b)) hf hdg hq (fun _ => trivial) (fun ρ => fvJ ρ (hc2 rfl)) (hg _ _ _ _ _ _ _ hs)
      · cases hx : am_R A q b with
        | none =>
          rw [hx] at hs
          exact so_getf (v := .null) hf hdg hq (fun _ => trivial) (fun ρ => by rw [fvR ρ (hc3 (by omega)), hx]; rfl) (hg _ _ _ _ _ _ _ hs)
        | some x =>
          rw [hx] at hs
          exact so_getf (v := .ref x) hf hdg hq (fun hw => hw.2 q b x hx) (fun ρ => by rw [fvR ρ (hc3 (by omega)), hx]; rfl) (hg _ _ _ _ _ _ _ hs)
      · rename_i z0 z1 z2 z3
        have h4 : rl_c a b = 4 := hc3 (by
          rcases Nat.lt_or_ge c 3 with h | h
          · exfalso
            have : c = 0 ∨ c = 1 ∨ c = 2 := by omega
            rcases this with h | h | h
            · exact z0 h
            · exact z1 h
            · exact z2 h
          · exact h)
        cases hx : am_R A q b with
        | none => rw [hx] at hs; cases hs
        | some x =>
          rw [hx] at hs
          exact so_getf (v := .ref x) hf hdg hq (fun hw => hw.2 q b x hx) (fun ρ => by rw [fvR ρ h4, hx]; rfl) (hg _ _ _ _ _ _ _ hs)
    · cases hs
  case putfield idx =>
    obtain ⟨rfl, hf, hff, hc0, hc1, hc2, hc3⟩ := hok
    have setI : ∀ (q : Nat) (x : Int32) (rest : List Value), am_K A q = a → (rl_c a b = 0 ∨ (rl_c a b = 1 ∧ (x = 0 ∨ x = 1))) → g d m (pc + 3) (am_dead d2 ls) rest (am_sI A q b x) = some r → so_T Z l d m pc ls (.int x :: .ref q :: rest) A r := by
      intro q x rest hq hx hs
      have hself : am_I (am_sI A q b x) q b = x := by rw [am_sI_self]; simp [upd]
      refine so_putf (v := .int x) (A' := am_sI A q b x) hZ hf hff hdg hq (fun ty ρ t0 t1 t2 t4 => ?_) rfl rfl rfl rfl rfl (fun b hb => am_sI_ne hb) (fun _ _ => rfl) (fun ρ b hb => rl_elI hb) (fun ρ => ?_) (fun ρ j hj => ?_) (fun hw _ => hw) (hg _ _ _ _ _ _ _ hs)
      · rcases hx with hx | ⟨hx, h01⟩
        · rw [t0 hx]
          exact ⟨rfl, rfl⟩
        · rw [t1 hx]
          rcases h01 with h | h <;> (subst h; show narrow FieldType.boolean (Value.int _) = Value.int _ ∧ fits FieldType.boolean (Value.int _) = true; exact ⟨by decide +kernel, by decide +kernel⟩)
      · unfold rl_fv
        rw [show am_K (am_sI A q b x) q = a from hq, if_neg (by omega), if_neg (by omega), hself]
        rfl
      · unfold rl_fv
        rw [show am_I (am_sI A q b x) q j = am_I A q j by rw [am_sI_self]; simp [upd, hj]]
        rfl
    split at hs
    · split at hs
      · obtain ⟨hq, hs⟩ := so_ifp hs
        exact setI _ _ _ hq (Or.inl (hc0 rfl)) hs
      · cases hs
    · split at hs
      · obtain ⟨hq, hs⟩ := so_ifp hs
        obtain ⟨h01, hs⟩ := so_ifp hs
        exact setI _ _ _ hq (Or.inr ⟨hc1 rfl, h01⟩) hs
      · cases hs
    · split at hs
      · rename_i x q rest
        obtain ⟨hq, hs⟩ := so_ifp hs
        have hself : am_J (am_sJ A q b x) q b = x := by rw [am_sJ_self]; simp [vp_updL]
        have h2 := hc2 rfl
        refine so_putf (v := .long x) (A' := am_sJ A q b x) hZ hf hff hdg hq (fun ty ρ t0 t1 t2 t4 => ?_) rfl rfl rfl rfl rfl (fun _ _ => rfl) (fun b hb => am_sJ_ne hb) (fun ρ b hb => rl_elJ hb) (fun ρ => ?_) (fun ρ j hj => ?_) (fun hw _ => hw) (hg _ _ _ _ _ _ _ hs)
        · rw [t2 h2]
          exact ⟨rfl, rfl⟩
        · unfold rl_fv
          rw [show am_K (am_sJ A q b x) q = a from hq, if_pos h2, hself]
          rfl
        · unfold rl_fv
          rw [show am_J (am_sJ A q b x) q j = am_J A q j by rw [am_sJ_self]; simp [vp_updL, hj]]
          rfl
      · cases hs
    · rename_i z0 z1 z2
      have h4 : rl_c a b = 4 := hc3 (by
        rcases Nat.lt_or_ge c 3 with h | h
        · exfalso
          have : c = 0 ∨ c = 1 ∨ c = 2 := by omega
          rcases this with h | h | h
          · exact z0 h
          · exact z1 h
          · exact z2 h
        · exact h)
      have setR : ∀ (q : Nat) (x : Option Nat) (v : Value) (rest : List Value), (∀ ρ, va_rf (x.map ρ) = rl_cv ρ v) → (so_v (am_N A) v → ∀ y, x = some y → y < am_N A) → (v = .null ∨ ∃ y, v = .ref y) → am_K A q = a → g d m (pc + 3) (am_dead d2 ls) rest (am_sR A q b x) = some r → so_T Z l d m pc ls (v :: .ref q :: rest) A r := by
        intro q x v rest hxv hvo hvr hq hs
        have hself : am_R (am_sR A q b x) q b = x := by show am_up2 (am_R A) q b x q b = x; simp [am_up2]
        refine so_putf (v := v) (A' := am_sR A q b x) hZ hf hff hdg hq (fun ty ρ t0 t1 t2 t4 => ?_) rfl rfl rfl rfl rfl (fun _ _ => rfl) (fun _ _ => rfl) (fun ρ b hb => rl_elR hb) (fun ρ => ?_) (fun ρ j hj => ?_) (fun hw hv => ⟨hw.1, fun a j y hy => ?_⟩) (hg _ _ _ _ _ _ _ hs)
        · rcases t4 h4 with ⟨n, rfl⟩ | ⟨n, rfl⟩ <;> rcases hvr with rfl | ⟨y, rfl⟩ <;> exact ⟨rfl, rfl⟩
        · unfold rl_fv
          rw [show am_K (am_sR A q b x) q = a from hq, if_neg (by omega), if_pos h4, hself]
          exact hxv ρ
        · unfold rl_fv
          rw [show am_R (am_sR A q b x) q j = am_R A q j by show am_up2 (am_R A) q b x q j = _; simp [am_up2, hj]]
          rfl
        · have hy : am_up2 (am_R A) q b x a j = some y := hy
          unfold am_up2 at hy
          split at hy
          · exact hvo hv y hy
          · exact hw.2 a j y hy
      split at hs
      · obtain ⟨hq, hs⟩ := so_ifp hs
        exact setR _ _ _ _ (fun ρ => rfl) (fun hv y hy => by cases hy; exact hv) (Or.inr ⟨_, rfl⟩) hq hs
      · obtain ⟨hq, hs⟩ := so_ifp hs
        exact setR _ _ _ _ (fun ρ => rfl) (fun hv y hy => by cases hy) (Or.inl rfl) hq hs
      · cases hs
  case getstatic idx =>
    obtain ⟨rfl, rfl, hl⟩ := hok
    obtain ⟨hq, hs⟩ := so_ifp hs
    exact so_gets hZ hdg hl hq (hg _ _ _ _ _ _ _ hs)
  case new idx =>
    rcases hok with ⟨rfl, rfl, hn⟩ | ⟨hb, rfl, ha0, ha6, hno, ic, names, h1, h2, h3, h4, h5, h6, h7⟩
    · exact so_new hn hdg (hg _ _ _ _ _ _ _ hs)
    · cases b with
      | zero => exact absurd rfl hb
      | succ b =>
        obtain ⟨hcat, hs⟩ := so_ifp hs
        exact so_raise ⟨ha0, ha6⟩ hcat h1 h2 h3 h4 hdg h5 h6 h7 hno hs
  case newarray ty =>
    obtain ⟨rfl, hw⟩ := hok
    split at hs
    · split at hs
      · obtain ⟨hn, hs⟩ := so_ifn hs
        exact so_newa (t0 := 0) (w := 4) rfl rfl (Or.inl ⟨rfl, rfl, rfl⟩) hw hdg hn (hg _ _ _ _ _ _ _ hs)
      · obtain ⟨hn, hs⟩ := so_ifn hs
        exact so_newa (t0 := 1) (w := 8) rfl rfl (Or.inr (Or.inl ⟨rfl, rfl, rfl⟩)) hw hdg hn (hg _ _ _ _ _ _ _ hs)
      · obtain ⟨hn, hs⟩ := so_ifn hs
        exact so_newa (t0 := 2) (w := 1) rfl rfl (Or.inr (Or.inr (Or.inl ⟨rfl, rfl, rfl⟩))) hw hdg hn (hg _ _ _ _ _ _ _ hs)
      · obtain ⟨hn, hs⟩ := so_ifn hs
        exact so_newa (t0 := 3) (w := 1) rfl rfl (Or.inr (Or.inr (Or.inr ⟨rfl, rfl, rfl⟩))) hw hdg hn (hg _ _ _ _ _ _ _ hs)
      · cases hs
    · cases hs
  case anewarray idx =>
    obtain ⟨rfl, h1, h2, h26, h29⟩ := hok
    split at hs
    · obtain ⟨hn, hs⟩ := so_ifn hs
      have : a = 26 ∨ a = 27 ∨ a = 28 ∨ a = 29 := by omega
      rcases this with rfl | rfl | rfl | rfl
      · exact so_newq (Or.inl ⟨rfl, rfl⟩) h2 h1 hdg hn (hg _ _ _ _ _ _ _ hs)
      · exact so_newq (Or.inr (Or.inl ⟨rfl, rfl⟩)) h2 h1 hdg hn (hg _ _ _ _ _ _ _ hs)
      · exact so_newq (Or.inr (Or.inr (Or.inl ⟨rfl, rfl⟩))) h2 h1 hdg hn (hg _ _ _ _ _ _ _ hs)
      · exact so_newq (Or.inr (Or.inr (Or.inr ⟨rfl, rfl⟩))) h2 h1 hdg hn (hg _ _ _ _ _ _ _ hs)
    · cases hs
  case multianewarray idx dm =>
    obtain ⟨rfl, rfl, hl⟩ := hok
    split at hs
    · obtain ⟨hn, hs⟩ := so_ifn hs
      exact hMu _ _ _ _ _ _ _ _ _ _ _ hl hdg hn (hg _ _ _ _ _ _ _ hs)
    · cases hs
  case arraylength =>
    subst hok
    split at hs
    · obtain ⟨hq, hs⟩ := so_ifp hs
      exact so_alen hZ hdg hq (hg _ _ _ _ _ _ _ hs)
    · cases hs
  case iaload =>
    subst hok
    split at hs
    · obtain ⟨hq, hs⟩ := so_ifp hs
      obtain ⟨hin, hs⟩ := so_ifn hs
      exact so_iald hZ hdg hq hin (hg _ _ _ _ _ _ _ hs)
    · cases hs
  case laload =>
    subst hok
    split at hs
    · obtain ⟨hq, hs⟩ := so_ifp hs
      obtain ⟨hin, hs⟩ := so_ifn hs
      exact so_lald hZ hdg hq hin (hg _ _ _ _ _ _ _ hs)
    · cases hs
  case baload =>
    subst hok
    split at hs
    · obtain ⟨hq, hs⟩ := so_ifp hs
      obtain ⟨hin, hs⟩ := so_ifn hs
      exact so_bald hdg hq hin (hg _ _ _ _ _ _ _ hs)
    · cases hs
  case aaload =>
    obtain ⟨rfl, h25, h30⟩ := hok
    split at hs
    · rename_i j q rest
      obtain ⟨hq, hs⟩ := so_ifp hs
      obtain ⟨hin, hs⟩ := so_ifn hs
      cases hx : am_R A q j.toNatClampNeg with
      | none =>
        rw [hx] at hs
        cases c with
        | zero => cases hs
        | succ c => exact so_aald (v := .null) ⟨h25, h30⟩ hdg hq hin (fun _ => trivial) (fun ρ => by rw [hx]; rfl) (hg _ _ _ _ _ _ _ hs)
      | some x =>
        rw [hx] at hs
        exact so_aald (v := .ref x) ⟨h25, h30⟩ hdg hq hin (fun hw => hw.2 q _ x hx) (fun ρ => by rw [hx]; rfl) (hg _ _ _ _ _ _ _ hs)
    · cases hs
  case iastore =>
    subst hok
    split at hs
    · obtain ⟨hq, hs⟩ := so_ifp hs
      obtain ⟨hin, hs⟩ := so_ifn hs
      exact so_iast hZ hdg hq hin (hg _ _ _ _ _ _ _ hs)
    · cases hs
  case lastore =>
    subst hok
    split at hs
    · obtain ⟨hq, hs⟩ := so_ifp hs
      obtain ⟨hin, hs⟩ := so_ifn hs
      exact so_last hZ hdg hq hin (hg _ _ _ _ _ _ _ hs)
    · cases hs
  case bastore =>
    obtain ⟨rfl, ha⟩ := hok
    split at hs
    · obtain ⟨hq, hs⟩ := so_ifp hs
      obtain ⟨hin, hs⟩ := so_ifn hs
      rcases ha with rfl | rfl
      · exact so_bast hZ hdg hq hin (hg _ _ _ _ _ _ _ hs)
      · obtain ⟨h01, hs⟩ := so_ifp hs
        exact so_zast hZ hdg hq h01 hin (hg _ _ _ _ _ _ _ hs)
    · cases hs
  case aastore =>
    obtain ⟨rfl, hab⟩ := hok
    split at hs
    · obtain ⟨hq, hs⟩ := so_ifp hs
      obtain ⟨hx0, hs⟩ := so_ifp hs
      obtain ⟨hin, hs⟩ := so_ifn hs
      exact so_aast hZ hab hdg hq hx0 hin (hg _ _ _ _ _ _ _ hs)
    · cases hs
  case checkcast idx =>
    obtain ⟨rfl, rfl, hl⟩ := hok
    split at hs
    · obtain ⟨hq, hs⟩ := so_ifp hs
      exact so_cast hl hdg hq (hg _ _ _ _ _ _ _ hs)
    · cases hs
  case ireturn =>
    obtain ⟨rfl, h⟩ := hok
    split at hs
    · rename_i x
      rcases h with ⟨rfl, hr⟩ | ⟨hc, hr⟩
      · exact so_end (v := some (.int x)) hdg ⟨_, hr, rfl⟩ rfl hs
      · cases c with
        | zero => exact absurd rfl hc
        | succ c =>
          obtain ⟨h01, hs⟩ := so_ifp hs
          exact so_end (v := some (.int x)) hdg ⟨_, hr, by rcases h01 with h | h <;> (subst h; decide +kernel)⟩ rfl hs
    · cases hs
  case lreturn =>
    obtain ⟨rfl, hr⟩ := hok
    split at hs
    · rename_i x
      exact so_end (v := some (.long x)) hdg hr rfl hs
    · cases hs
  case areturn =>
    obtain ⟨rfl, rt, hr⟩ := hok
    split at hs
    · rename_i x
      exact so_end (v := some (.ref x)) hdg ⟨rt, hr⟩ rfl hs
    · exact so_end (v := some .null) hdg ⟨rt, hr⟩ rfl hs
    · cases hs
  case return_ =>
    obtain ⟨rfl, hr⟩ := hok
    split at hs
    · exact so_end (v := none) hdg hr rfl hs
    · cases hs
  case invokevirtual idx =>
    obtain ⟨rfl, ⟨rfl, h⟩ | ⟨rfl, h⟩ | ⟨rfl, h⟩ | ⟨rfl, h1, h2, h3, h4, h5, h6⟩⟩ := hok
    · exact so_inv hZ hgw h (by omega) ⟨fun _ => hdg, fun q => by omega, fun q => by omega⟩ hg hs
    · simp only [am_invk] at hs
      split at hs
      · obtain ⟨hcat, hs⟩ := so_ifp hs
        obtain ⟨hq, hs⟩ := so_ifp hs
        exact hLn _ _ _ _ _ _ _ _ _ _ h hdg hcat hq (hg _ _ _ _ _ _ _ hs)
      · cases hs
    · simp only [am_invk] at hs
      split at hs
      · obtain ⟨hcat, hs⟩ := so_ifp hs
        obtain ⟨hq, hs⟩ := so_ifp hs
        obtain ⟨hin, hs⟩ := so_ifn hs
        exact hCn _ _ _ _ _ _ _ _ _ _ _ h hdg hcat hq hin (hg _ _ _ _ _ _ _ hs)
      · cases hs
    · simp only [am_invk] at hs
      split at hs
      · obtain ⟨hcat, hs⟩ := so_ifp hs
        obtain ⟨hq, hs⟩ := so_ifp hs
        exact so_clone h1 h2 h3 h4 h5 h6 hdg hcat hq (hg _ _ _ _ _ _ _ hs)
      · cases hs
  case invokestatic idx =>
    obtain ⟨rfl, ⟨rfl, h⟩ | ⟨rfl, h1, h2, h3, h4⟩⟩ := hok
    · exact so_inv hZ hgw h (by omega) ⟨fun q => by omega, fun _ => hdg, fun q => by omega⟩ hg hs
    · simp only [am_invk] at hs
      split at hs
      · obtain ⟨ha, hs⟩ := so_ifp hs
        obtain ⟨hb, hs⟩ := so_ifp hs
        obtain ⟨hn, hs⟩ := so_ifn hs
        exact so_copy hZ h1 h2 h3 h4 hdg ha hb hn (hg _ _ _ _ _ _ _ hs)
      · cases hs
  case invokespecial idx =>
    obtain ⟨rfl, ⟨rfl, h⟩ | ⟨rfl, h1, h2, h3⟩⟩ := hok
    · exact so_inv hZ hgw h (by omega) ⟨fun q => by omega, fun q => by omega, fun _ => hdg⟩ hg hs
    · simp only [am_invk] at hs
      split at hs
      · obtain ⟨hcat, hs⟩ := so_ifp hs
        exact so_oinit h1 h2 h3 hdg hcat (hg _ _ _ _ _ _ _ hs)
      · cases hs
  all_goals cases hs
/-- SOUND: whatever the abstract machine says, the machine does -/
theorem so_sound (hZ : so_k Z) (hgw : so_gw Z) (hLn : so_Ln Z l) (hCn : so_Cn Z l) (hMu : so_Mu Z l) (hok : ∀ m pc w, am_code (zP Z) m pc = some w → so_ok Z m pc w) {d m pc : Nat} {ls : List (Option Value)} {st : List Value} {A : am_A} {r : (Option Value ⊕ Nat) × am_A} (h : am_fx (zP Z) d m pc ls st A = some r) : so_T Z l d m pc ls st A r := by
  refine am_fx_ind (zP Z) (so_T Z l) (fun g hg d m pc ls st A r hs => ?_) d m pc ls st A r h
  unfold am_F at hs
  split at hs
  · cases hs
  · rename_i w hw
    exact so_stepA hZ hgw hLn hCn hMu hg w (hok m pc w hw) hs
end Sound
