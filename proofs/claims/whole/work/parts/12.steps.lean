/-! STEPS that neither make nor write -/
theorem so_t1 {P : Value → Prop} {a : Value} {r : List Value} (h : ∀ v ∈ a :: r, P v) : ∀ v ∈ r, P v := fun v hv => h v (List.mem_cons_of_mem _ hv)
theorem so_h1 {P : Value → Prop} {a : Value} {r : List Value} (h : ∀ v ∈ a :: r, P v) : P a := h a List.mem_cons_self
theorem so_cs {P : Value → Prop} {a : Value} {r : List Value} (ha : P a) (h : ∀ v ∈ r, P v) : ∀ v ∈ a :: r, P v := fun v hv => (List.mem_cons.mp hv).elim (fun e => e ▸ ha) (h v)
def so_G (Z : so_Z) (l : Launch) (g : am_G) : Prop := ∀ d m pc ls st A r, g d m pc ls st A = some r → so_T Z l d m pc ls st A r
section Steps
variable {Z : so_Z} {l : Launch} {g : am_G} {d m pc : Nat} {ls : List (Option Value)} {st : List Value} {A : am_A} {r : (Option Value ⊕ Nat) × am_A} {d1 d2 : List Nat}
theorem so_push {n : Nat} {v : Value} (hg : so_G Z l g) (hv : so_W A → so_v (am_N A) v) (row : ∀ (p : Program) (e : Env) (R : Room) (s : State) (mid : MethodId) (args : Array Value) (below : List Frame) (meth : Method) (c : Code) (Q : State → Prop) (H : Heap) (locs : List Loc) (cells slots : Nat) (arr : Array Slot) (ρ : Nat → Nat) (rest : List Value), so_M Z l m p s mid args meth c → so_R Z ρ A H → va_S (so_A Z) s.heap H locs →
      W p l e R s mid args below meth c H locs cells slots Q (F0 mid (pc + n) arr (rl_cv ρ v :: rest)) → W p l e R s mid args below meth c H locs cells slots Q (F0 mid pc arr rest))
    (hs : g d m (pc + n) (am_dead d2 ls) (v :: st) A = some r) : so_T Z l d m pc ls st A r :=
  so_gs (hg _ _ _ _ _ _ _ hs) (fun hw h => so_cs (hv hw) h) fun p e R s mid args below meth c Q H locs cells slots arr ρ hM hR hV kk => row p e R s mid args below meth c Q H locs cells slots arr ρ _ hM hR hV kk
theorem so_op2 {f : Int32 → Int32 → Int32} (hg : so_G Z l g) (row : ∀ (p : Program) (e : Env) (R : Room) (s : State) (mid : MethodId) (args : Array Value) (below : List Frame) (meth : Method) (c : Code) (Q : State → Prop) (H : Heap) (locs : List Loc) (cells slots : Nat) (arr : Array Slot) (rest : List Value) (x y : Int32), so_M Z l m p s mid args meth c →
      W p l e R s mid args below meth c H locs cells slots Q (F0 mid (pc + 1) arr (.int (f x y) :: rest)) → W p l e R s mid args below meth c H locs cells slots Q (F0 mid pc arr (.int y :: .int x :: rest)))
    (hs : (match st with
      | .int y :: .int x :: rest => g d m (pc + 1) (am_dead d2 ls) (.int (f x y) :: rest) A
      | _ => none) = some r) : so_T Z l d m pc ls st A r := by
  split at hs
  · exact so_gs (hg _ _ _ _ _ _ _ hs) (fun _ h => so_cs trivial (so_t1 (so_t1 h))) fun p e R s mid args below meth c Q H locs cells slots arr ρ hM hR hV kk => row p e R s mid args below meth c Q H locs cells slots arr _ _ _ hM kk
  · cases hs
theorem so_iadd (hg : so_G Z l g) (hdg : decode (zB Z m) pc = .ok (.iadd, 1)) (hs : (match st with
      | .int y :: .int x :: rest => g d m (pc + 1) (am_dead d2 ls) (.int (x + y) :: rest) A
      | _ => none) = some r) : so_T Z l d m pc ls st A r := so_op2 (f := fun x y => x + y) hg (fun p e R s mid args below meth c Q H locs cells slots arr rest x y hM kk => lv_iadd hM.1 hM.2.1 hdg kk) hs
theorem so_isub (hg : so_G Z l g) (hdg : decode (zB Z m) pc = .ok (.isub, 1)) (hs : (match st with
      | .int y :: .int x :: rest => g d m (pc + 1) (am_dead d2 ls) (.int (x - y) :: rest) A
      | _ => none) = some r) : so_T Z l d m pc ls st A r := so_op2 (f := fun x y => x - y) hg (fun p e R s mid args below meth c Q H locs cells slots arr rest x y hM kk => lv_isub hM.1 hM.2.1 hdg kk) hs
theorem so_imul (hg : so_G Z l g) (hdg : decode (zB Z m) pc = .ok (.imul, 1)) (hs : (match st with
      | .int y :: .int x :: rest => g d m (pc + 1) (am_dead d2 ls) (.int (x * y) :: rest) A
      | _ => none) = some r) : so_T Z l d m pc ls st A r := so_op2 (f := fun x y => x * y) hg (fun p e R s mid args below meth c Q H locs cells slots arr rest x y hM kk => lv_imul hM.1 hM.2.1 hdg kk) hs
theorem so_iand (hg : so_G Z l g) (hdg : decode (zB Z m) pc = .ok (.iand, 1)) (hs : (match st with
      | .int y :: .int x :: rest => g d m (pc + 1) (am_dead d2 ls) (.int (x &&& y) :: rest) A
      | _ => none) = some r) : so_T Z l d m pc ls st A r := so_op2 (f := fun x y => x &&& y) hg (fun p e R s mid args below meth c Q H locs cells slots arr rest x y hM kk => lv_iand hM.1 hM.2.1 hdg kk) hs
theorem so_ior (hg : so_G Z l g) (hdg : decode (zB Z m) pc = .ok (.ior, 1)) (hs : (match st with
      | .int y :: .int x :: rest => g d m (pc + 1) (am_dead d2 ls) (.int (x ||| y) :: rest) A
      | _ => none) = some r) : so_T Z l d m pc ls st A r := so_op2 (f := fun x y => x ||| y) hg (fun p e R s mid args below meth c Q H locs cells slots arr rest x y hM kk => lv_ior hM.1 hM.2.1 hdg kk) hs
theorem so_ixor (hg : so_G Z l g) (hdg : decode (zB Z m) pc = .ok (.ixor, 1)) (hs : (match st with
      | .int y :: .int x :: rest => g d m (pc + 1) (am_dead d2 ls) (.int (x ^^^ y) :: rest) A
      | _ => none) = some r) : so_T Z l d m pc ls st A r := so_op2 (f := fun x y => x ^^^ y) hg (fun p e R s mid args below meth c Q H locs cells slots arr rest x y hM kk => lv_ixor hM.1 hM.2.1 hdg kk) hs
theorem so_ishl (hg : so_G Z l g) (hdg : decode (zB Z m) pc = .ok (.ishl, 1)) (hs : (match st with
      | .int y :: .int x :: rest => g d m (pc + 1) (am_dead d2 ls) (.int (x <<< (y &&& 31)) :: rest) A
      | _ => none) = some r) : so_T Z l d m pc ls st A r := so_op2 (f := fun x y => x <<< (y &&& 31)) hg (fun p e R s mid args below meth c Q H locs cells slots arr rest x y hM kk => lv_ishl hM.1 hM.2.1 hdg kk) hs
theorem so_ishr (hg : so_G Z l g) (hdg : decode (zB Z m) pc = .ok (.ishr, 1)) (hs : (match st with
      | .int y :: .int x :: rest => g d m (pc + 1) (am_dead d2 ls) (.int (x >>> (y &&& 31)) :: rest) A
      | _ => none) = some r) : so_T Z l d m pc ls st A r := so_op2 (f := fun x y => x >>> (y &&& 31)) hg (fun p e R s mid args below meth c Q H locs cells slots arr rest x y hM kk => lv_ishr hM.1 hM.2.1 hdg kk) hs
theorem so_iushr (hg : so_G Z l g) (hdg : decode (zB Z m) pc = .ok (.iushr, 1)) (hs : (match st with
      | .int y :: .int x :: rest => g d m (pc + 1) (am_dead d2 ls) (.int (x.toUInt32 >>> (y.toUInt32 &&& Int32.toUInt32 31)).toInt32 :: rest) A
      | _ => none) = some r) : so_T Z l d m pc ls st A r := so_op2 (f := fun x y => (x.toUInt32 >>> (y.toUInt32 &&& Int32.toUInt32 31)).toInt32) hg (fun p e R s mid args below meth c Q H locs cells slots arr rest x y hM kk => lv_iushr hM.1 hM.2.1 hdg rfl kk) hs
theorem so_idiv (hg : so_G Z l g) (hdg : decode (zB Z m) pc = .ok (.idiv, 1)) (hs : (match st with
      | .int y :: .int x :: rest => am_nz y (g d m (pc + 1) (am_dead d2 ls) (.int (x / y) :: rest) A)
      | _ => none) = some r) : so_T Z l d m pc ls st A r := by
  split at hs
  · rename_i y x rest
    by_cases hy : y = 0
    · rw [am_nz, if_pos hy] at hs
      cases hs
    · rw [am_nz, if_neg hy] at hs
      exact so_gs (hg _ _ _ _ _ _ _ hs) (fun _ h => so_cs trivial (so_t1 (so_t1 h))) fun p e R s mid args below meth c Q H locs cells slots arr ρ hM hR hV kk => lv_idiv hM.1 hM.2.1 hdg hy kk
  · cases hs
theorem so_irem (hg : so_G Z l g) (hdg : decode (zB Z m) pc = .ok (.irem, 1)) (hs : (match st with
      | .int y :: .int x :: rest => am_nz y (g d m (pc + 1) (am_dead d2 ls) (.int (x - x / y * y) :: rest) A)
      | _ => none) = some r) : so_T Z l d m pc ls st A r := by
  split at hs
  · rename_i y x rest
    by_cases hy : y = 0
    · rw [am_nz, if_pos hy] at hs
      cases hs
    · rw [am_nz, if_neg hy] at hs
      exact so_gs (hg _ _ _ _ _ _ _ hs) (fun _ h => so_cs trivial (so_t1 (so_t1 h))) fun p e R s mid args below meth c Q H locs cells slots arr ρ hM hR hV kk => lv_irem hM.1 hM.2.1 hdg hy kk
  · cases hs
theorem so_ineg (hg : so_G Z l g) (hdg : decode (zB Z m) pc = .ok (.ineg, 1)) (hs : (match st with
      | .int x :: rest => g d m (pc + 1) (am_dead d2 ls) (.int (-x) :: rest) A
      | _ => none) = some r) : so_T Z l d m pc ls st A r := by
  split at hs
  · exact so_gs (hg _ _ _ _ _ _ _ hs) (fun _ h => so_cs trivial (so_t1 h)) fun p e R s mid args below meth c Q H locs cells slots arr ρ hM hR hV kk => lv_ineg hM.1 hM.2.1 hdg kk
  · cases hs
theorem so_i2l (hg : so_G Z l g) (hdg : decode (zB Z m) pc = .ok (.i2l, 1)) (hs : (match st with
      | .int x :: rest => g d m (pc + 1) (am_dead d2 ls) (.long x.toInt64 :: rest) A
      | _ => none) = some r) : so_T Z l d m pc ls st A r := by
  split at hs
  · exact so_gs (hg _ _ _ _ _ _ _ hs) (fun _ h => so_cs trivial (so_t1 h)) fun p e R s mid args below meth c Q H locs cells slots arr ρ hM hR hV kk => lv_i2l hM.1 hM.2.1 hdg rfl kk
  · cases hs
theorem so_l2i (hg : so_G Z l g) (hdg : decode (zB Z m) pc = .ok (.l2i, 1)) (hs : (match st with
      | .long x :: rest => g d m (pc + 1) (am_dead d2 ls) (.int x.toInt32 :: rest) A
      | _ => none) = some r) : so_T Z l d m pc ls st A r := by
  split at hs
  · exact so_gs (hg _ _ _ _ _ _ _ hs) (fun _ h => so_cs trivial (so_t1 h)) fun p e R s mid args below meth c Q H locs cells slots arr ρ hM hR hV kk => lv_l2i hM.1 hM.2.1 hdg rfl kk
  · cases hs
theorem so_i2b (hg : so_G Z l g) (hdg : decode (zB Z m) pc = .ok (.i2b, 1)) (hs : (match st with
      | .int x :: rest => g d m (pc + 1) (am_dead d2 ls) (.int x.toInt8.toInt32 :: rest) A
      | _ => none) = some r) : so_T Z l d m pc ls st A r := by
  split at hs
  · exact so_gs (hg _ _ _ _ _ _ _ hs) (fun _ h => so_cs trivial (so_t1 h)) fun p e R s mid args below meth c Q H locs cells slots arr ρ hM hR hV kk => lv_i2b hM.1 hM.2.1 hdg rfl kk
  · cases hs
theorem so_ladd (hg : so_G Z l g) (hdg : decode (zB Z m) pc = .ok (.ladd, 1)) (hs : (match st with
      | .long y :: .long x :: rest => g d m (pc + 1) (am_dead d2 ls) (.long (x + y) :: rest) A
      | _ => none) = some r) : so_T Z l d m pc ls st A r := by
  split at hs
  · exact so_gs (hg _ _ _ _ _ _ _ hs) (fun _ h => so_cs trivial (so_t1 (so_t1 h))) fun p e R s mid args below meth c Q H locs cells slots arr ρ hM hR hV kk => lv_ladd hM.1 hM.2.1 hdg kk
  · cases hs
theorem so_lmul (hg : so_G Z l g) (hdg : decode (zB Z m) pc = .ok (.lmul, 1)) (hs : (match st with
      | .long y :: .long x :: rest => g d m (pc + 1) (am_dead d2 ls) (.long (x * y) :: rest) A
      | _ => none) = some r) : so_T Z l d m pc ls st A r := by
  split at hs
  · exact so_gs (hg _ _ _ _ _ _ _ hs) (fun _ h => so_cs trivial (so_t1 (so_t1 h))) fun p e R s mid args below meth c Q H locs cells slots arr ρ hM hR hV kk => lv_lmul hM.1 hM.2.1 hdg kk
  · cases hs
theorem so_ldiv (hg : so_G Z l g) (hdg : decode (zB Z m) pc = .ok (.ldiv, 1)) (hs : (match st with
      | .long y :: .long x :: rest => am_nzl y (g d m (pc + 1) (am_dead d2 ls) (.long (x / y) :: rest) A)
      | _ => none) = some r) : so_T Z l d m pc ls st A r := by
  split at hs
  · rename_i y x rest
    by_cases hy : y = 0
    · rw [am_nzl, if_pos hy] at hs
      cases hs
    · rw [am_nzl, if_neg hy] at hs
      exact so_gs (hg _ _ _ _ _ _ _ hs) (fun _ h => so_cs trivial (so_t1 (so_t1 h))) fun p e R s mid args below meth c Q H locs cells slots arr ρ hM hR hV kk => lv_ldiv hM.1 hM.2.1 hdg hy kk
  · cases hs
theorem so_lrem (hg : so_G Z l g) (hdg : decode (zB Z m) pc = .ok (.lrem, 1)) (hs : (match st with
      | .long y :: .long x :: rest => am_nzl y (g d m (pc + 1) (am_dead d2 ls) (.long (x - x / y * y) :: rest) A)
      | _ => none) = some r) : so_T Z l d m pc ls st A r := by
  split at hs
  · rename_i y x rest
    by_cases hy : y = 0
    · rw [am_nzl, if_pos hy] at hs
      cases hs
    · rw [am_nzl, if_neg hy] at hs
      exact so_gs (hg _ _ _ _ _ _ _ hs) (fun _ h => so_cs trivial (so_t1 (so_t1 h))) fun p e R s mid args below meth c Q H locs cells slots arr ρ hM hR hV kk => lv_lrem hM.1 hM.2.1 hdg hy kk
  · cases hs
theorem so_lcmp (hg : so_G Z l g) (hdg : decode (zB Z m) pc = .ok (.lcmp, 1)) (hs : (match st with
      | .long y :: .long x :: rest => g d m (pc + 1) (am_dead d2 ls) (.int (if x < y then -1 else if x = y then 0 else 1) :: rest) A
      | _ => none) = some r) : so_T Z l d m pc ls st A r := by
  split at hs
  · rename_i y x rest
    refine so_gs (hg _ _ _ _ _ _ _ hs) (fun _ h => so_cs trivial (so_t1 (so_t1 h))) fun p e R s mid args below meth c Q H locs cells slots arr ρ hM hR hV kk => W.lcmp hM.1 hM.2.1 hdg ?_
    have e : lg_cmp x y = (if x < y then -1 else if x = y then 0 else 1) := by
      unfold lg_cmp
      by_cases h1 : y < x
      · have h2 : ¬ x < y := fun q => by rw [Int64.lt_iff_toInt_lt] at h1 q; omega
        have h3 : ¬ x = y := fun q => by subst q; exact h2 h1
        simp [h1, h2, h3]
      · by_cases h2 : x < y
        · have h3 : ¬ x = y := fun q => by subst q; exact h1 h2
          simp [h1, h2, h3]
        · have h3 : x = y := by
            apply Int64.toInt_inj.mp
            rw [Int64.lt_iff_toInt_lt] at h1 h2
            omega
          simp [h3]
    rw [e]
    exact kk
  · cases hs
theorem so_dup (hg : so_G Z l g) (hdg : decode (zB Z m) pc = .ok (.dup, 1)) (hs : (match st with
      | .int x :: rest => g d m (pc + 1) (am_dead d2 ls) (.int x :: .int x :: rest) A
      | .ref x :: rest => g d m (pc + 1) (am_dead d2 ls) (.ref x :: .ref x :: rest) A
      | _ => none) = some r) : so_T Z l d m pc ls st A r := by
  split at hs
  · exact so_gs (hg _ _ _ _ _ _ _ hs) (fun _ h => so_cs (so_h1 h) h) fun p e R s mid args below meth c Q H locs cells slots arr ρ hM hR hV kk => lv_dup hM.1 hM.2.1 hdg rfl kk
  · exact so_gs (hg _ _ _ _ _ _ _ hs) (fun _ h => so_cs (so_h1 h) h) fun p e R s mid args below meth c Q H locs cells slots arr ρ hM hR hV kk => lv_dup hM.1 hM.2.1 hdg rfl kk
  · cases hs
theorem so_dup_x1 (hg : so_G Z l g) (hdg : decode (zB Z m) pc = .ok (.dup_x1, 1)) (hs : (match st with
      | .int x :: .ref y :: rest => g d m (pc + 1) (am_dead d2 ls) (.int x :: .ref y :: .int x :: rest) A
      | .int x :: .int y :: rest => g d m (pc + 1) (am_dead d2 ls) (.int x :: .int y :: .int x :: rest) A
      | _ => none) = some r) : so_T Z l d m pc ls st A r := by
  split at hs
  · exact so_gs (hg _ _ _ _ _ _ _ hs) (fun _ h => so_cs trivial (so_cs (so_h1 (so_t1 h)) (so_cs trivial (so_t1 (so_t1 h))))) fun p e R s mid args below meth c Q H locs cells slots arr ρ hM hR hV kk => lv_dup_x1 hM.1 hM.2.1 hdg rfl rfl kk
  · exact so_gs (hg _ _ _ _ _ _ _ hs) (fun _ h => so_cs trivial (so_cs trivial (so_cs trivial (so_t1 (so_t1 h))))) fun p e R s mid args below meth c Q H locs cells slots arr ρ hM hR hV kk => lv_dup_x1 hM.1 hM.2.1 hdg rfl rfl kk
  · cases hs
theorem so_dup2 (hg : so_G Z l g) (hdg : decode (zB Z m) pc = .ok (.dup2, 1)) (hs : (match st with
      | .int x :: .ref y :: rest => g d m (pc + 1) (am_dead d2 ls) (.int x :: .ref y :: .int x :: .ref y :: rest) A
      | .int x :: .int y :: rest => g d m (pc + 1) (am_dead d2 ls) (.int x :: .int y :: .int x :: .int y :: rest) A
      | _ => none) = some r) : so_T Z l d m pc ls st A r := by
  split at hs
  · exact so_gs (hg _ _ _ _ _ _ _ hs) (fun _ h => so_cs trivial (so_cs (so_h1 (so_t1 h)) h)) fun p e R s mid args below meth c Q H locs cells slots arr ρ hM hR hV kk => lv_dup2_11 hM.1 hM.2.1 hdg rfl rfl kk
  · exact so_gs (hg _ _ _ _ _ _ _ hs) (fun _ h => so_cs trivial (so_cs trivial h)) fun p e R s mid args below meth c Q H locs cells slots arr ρ hM hR hV kk => lv_dup2_11 hM.1 hM.2.1 hdg rfl rfl kk
  · cases hs
theorem so_pop (hg : so_G Z l g) (hdg : decode (zB Z m) pc = .ok (.pop, 1)) (hs : (match st with
      | .int _ :: rest => g d m (pc + 1) (am_dead d2 ls) rest A
      | .ref _ :: rest => g d m (pc + 1) (am_dead d2 ls) rest A
      | _ => none) = some r) : so_T Z l d m pc ls st A r := by
  split at hs
  · exact so_gs (hg _ _ _ _ _ _ _ hs) (fun _ h => so_t1 h) fun p e R s mid args below meth c Q H locs cells slots arr ρ hM hR hV kk => lv_pop hM.1 hM.2.1 hdg rfl kk
  · exact so_gs (hg _ _ _ _ _ _ _ hs) (fun _ h => so_t1 h) fun p e R s mid args below meth c Q H locs cells slots arr ρ hM hR hV kk => lv_pop hM.1 hM.2.1 hdg rfl kk
  · cases hs
/-! loads -/
theorem so_loadI {i n : Nat} (hg : so_G Z l g) (row : ∀ (p : Program) (e : Env) (R : Room) (s : State) (mid : MethodId) (args : Array Value) (below : List Frame) (meth : Method) (c : Code) (Q : State → Prop) (H : Heap) (locs : List Loc) (cells slots : Nat) (arr : Array Slot) (rest : List Value) (x : Int32), so_M Z l m p s mid args meth c → arr[i]? = some (.val (.int x)) →
      W p l e R s mid args below meth c H locs cells slots Q (F0 mid (pc + n) arr (.int x :: rest)) → W p l e R s mid args below meth c H locs cells slots Q (F0 mid pc arr rest))
    (hs : am_ld ls i (fun v => am_ldI v (g d m (pc + n) (am_dead d2 ls) (v :: st) A)) = some r) : so_T Z l d m pc ls st A r := by
  unfold am_ld at hs
  split at hs
  · rename_i v hv
    cases v with
    | int x => exact so_gp (hg _ _ _ _ _ _ _ hs) (fun _ h => ⟨so_dead1 (st := []) (ls := []) d2 h.1, so_cs trivial h.2⟩) fun p e R s mid args below meth c Q H locs cells slots arr ρ hM _ _ hR hV hls kk => row p e R s mid args below meth c Q H locs cells slots arr _ x hM (rl_has_at hls hv) (kk arr (rl_dead d2 hls))
    | _ => cases hs
  · cases hs
theorem so_loadL {i n : Nat} (hg : so_G Z l g) (row : ∀ (p : Program) (e : Env) (R : Room) (s : State) (mid : MethodId) (args : Array Value) (below : List Frame) (meth : Method) (c : Code) (Q : State → Prop) (H : Heap) (locs : List Loc) (cells slots : Nat) (arr : Array Slot) (rest : List Value) (x : Int64), so_M Z l m p s mid args meth c → arr[i]? = some (.val (.long x)) →
      W p l e R s mid args below meth c H locs cells slots Q (F0 mid (pc + n) arr (.long x :: rest)) → W p l e R s mid args below meth c H locs cells slots Q (F0 mid pc arr rest))
    (hs : am_ld ls i (fun v => am_ldL v (g d m (pc + n) (am_dead d2 ls) (v :: st) A)) = some r) : so_T Z l d m pc ls st A r := by
  unfold am_ld at hs
  split at hs
  · rename_i v hv
    cases v with
    | long x => exact so_gp (hg _ _ _ _ _ _ _ hs) (fun _ h => ⟨so_dead1 (st := []) (ls := []) d2 h.1, so_cs trivial h.2⟩) fun p e R s mid args below meth c Q H locs cells slots arr ρ hM _ _ hR hV hls kk => row p e R s mid args below meth c Q H locs cells slots arr _ x hM (rl_has_at hls hv) (kk arr (rl_dead d2 hls))
    | _ => cases hs
  · cases hs
theorem so_loadA {i n : Nat} (hg : so_G Z l g) (row : ∀ (p : Program) (e : Env) (R : Room) (s : State) (mid : MethodId) (args : Array Value) (below : List Frame) (meth : Method) (c : Code) (Q : State → Prop) (H : Heap) (locs : List Loc) (cells slots : Nat) (arr : Array Slot) (rest : List Value) (x : Nat), so_M Z l m p s mid args meth c → arr[i]? = some (.val (.ref x)) →
      W p l e R s mid args below meth c H locs cells slots Q (F0 mid (pc + n) arr (.ref x :: rest)) → W p l e R s mid args below meth c H locs cells slots Q (F0 mid pc arr rest))
    (rowN : ∀ (p : Program) (e : Env) (R : Room) (s : State) (mid : MethodId) (args : Array Value) (below : List Frame) (meth : Method) (c : Code) (Q : State → Prop) (H : Heap) (locs : List Loc) (cells slots : Nat) (arr : Array Slot) (rest : List Value), so_M Z l m p s mid args meth c → arr[i]? = some (.val .null) →
      W p l e R s mid args below meth c H locs cells slots Q (F0 mid (pc + n) arr (.null :: rest)) → W p l e R s mid args below meth c H locs cells slots Q (F0 mid pc arr rest))
    (hs : am_ld ls i (fun v => am_ldA v (g d m (pc + n) (am_dead d2 ls) (v :: st) A)) = some r) : so_T Z l d m pc ls st A r := by
  unfold am_ld at hs
  split at hs
  · rename_i v hv
    cases v with
    | ref x => exact so_gp (hg _ _ _ _ _ _ _ hs) (fun _ h => ⟨so_dead1 (st := []) (ls := []) d2 h.1, so_cs (h.1 i _ hv) h.2⟩) fun p e R s mid args below meth c Q H locs cells slots arr ρ hM _ _ hR hV hls kk => row p e R s mid args below meth c Q H locs cells slots arr _ (ρ x) hM (rl_has_at hls hv) (kk arr (rl_dead d2 hls))
    | null => exact so_gp (hg _ _ _ _ _ _ _ hs) (fun _ h => ⟨so_dead1 (st := []) (ls := []) d2 h.1, so_cs trivial h.2⟩) fun p e R s mid args below meth c Q H locs cells slots arr ρ hM _ _ hR hV hls kk => rowN p e R s mid args below meth c Q H locs cells slots arr _ hM (rl_has_at hls hv) (kk arr (rl_dead d2 hls))
    | _ => cases hs
  · cases hs
end Steps
