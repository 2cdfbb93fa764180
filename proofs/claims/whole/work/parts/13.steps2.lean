/-! STEPS: stores, constants, branches, switches -/
section Steps2
variable {Z : so_Z} {l : Launch} {g : am_G} {d m pc : Nat} {ls : List (Option Value)} {st : List Value} {A : am_A} {r : (Option Value ⊕ Nat) × am_A} {d1 d2 : List Nat}
theorem so_st_inv {i : Nat} {v : Value} {k : List (Option Value) → am_X} (hs : am_st ls i v k = some r) : (∀ (j : Nat) (w : Value), i = j + 1 → am_nth ls j = some (some w) → w.category ≠ 2) ∧ k (ls.set i (some v)) = some r := by
  cases i with
  | zero => exact ⟨fun j w h => by omega, hs⟩
  | succ j =>
    simp only [am_st] at hs
    split at hs
    · cases hs
    · cases hs
    · rename_i h1 h2
      refine ⟨fun j' w hj hw => ?_, hs⟩
      have e : j' = j := by omega
      subst e
      cases w <;> first | exact absurd hw (h1 _) | exact absurd hw (h2 _) | (intro q; cases q)
theorem so_set_ok {n i : Nat} {v : Value} (h : ∀ j w, am_nth ls j = some (some w) → so_v n w) (hv : so_v n v) : ∀ j w, am_nth (ls.set i (some v)) j = some (some w) → so_v n w := by
  intro j w hj
  rw [am_nth_set] at hj
  split at hj
  · cases hj
    exact hv
  · exact h j w hj
theorem so_store {i n : Nat} {v : Value} {rest : List Value} (hg : so_G Z l g)
    (row : ∀ (p : Program) (e : Env) (R : Room) (s : State) (mid : MethodId) (args : Array Value) (below : List Frame) (meth : Method) (c : Code) (Q : State → Prop) (H : Heap) (locs : List Loc) (cells slots : Nat) (arr : Array Slot) (ρ : Nat → Nat) (rst : List Value) (lv : List (Nat × Value)), so_M Z l m p s mid args meth c → lv_has arr (so_ml Z m) lv →
      (∀ arr' : Array Slot, lv_has arr' (so_ml Z m) ((i, rl_cv ρ v) :: lv.filter (fun q => !(q.1 == i) && !(q.1 + 1 == i && q.2.category == 2))) → W p l e R s mid args below meth c H locs cells slots Q (F0 mid (pc + n) arr' rst)) → W p l e R s mid args below meth c H locs cells slots Q (F0 mid pc arr (rl_cv ρ v :: rst)))
    (hs : am_st ls i v (fun l => g d m (pc + n) (am_dead d2 l) rest A) = some r) : so_T Z l d m pc ls (v :: rest) A r := by
  obtain ⟨hp, hs⟩ := so_st_inv hs
  exact so_gp (hg _ _ _ _ _ _ _ hs) (fun _ h => ⟨so_dead1 (st := []) (ls := []) d2 (so_set_ok h.1 (so_h1 h.2)), so_t1 h.2⟩) fun p e R s mid args below meth c Q H locs cells slots arr ρ hM _ _ hR hV hls kk => row p e R s mid args below meth c Q H locs cells slots arr ρ _ _ hM hls fun arr' h' => kk arr' (rl_dead d2 (rl_store1 hp h'))
theorem so_storeL {i n : Nat} {x : Int64} {rest : List Value} (hg : so_G Z l g) (hi : i < ls.length)
    (row : ∀ (p : Program) (e : Env) (R : Room) (s : State) (mid : MethodId) (args : Array Value) (below : List Frame) (meth : Method) (c : Code) (Q : State → Prop) (H : Heap) (locs : List Loc) (cells slots : Nat) (arr : Array Slot) (rst : List Value) (lv : List (Nat × Value)), so_M Z l m p s mid args meth c → lv_has arr (so_ml Z m) lv →
      (∀ arr' : Array Slot, lv_has arr' (so_ml Z m) ((i, Value.long x) :: lv.filter (fun q => !(q.1 == i) && (!(q.1 == i + 1) && !(q.1 + 1 == i && q.2.category == 2)))) → W p l e R s mid args below meth c H locs cells slots Q (F0 mid (pc + n) arr' rst)) → W p l e R s mid args below meth c H locs cells slots Q (F0 mid pc arr (.long x :: rst)))
    (hs : am_st ls i (.long x) (fun l => g d m (pc + n) (am_dead d2 (l.set (i + 1) none)) rest A) = some r) : so_T Z l d m pc ls (.long x :: rest) A r := by
  obtain ⟨hp, hs⟩ := so_st_inv hs
  exact so_gp (hg _ _ _ _ _ _ _ hs) (fun _ h => ⟨so_dead1 (st := []) (ls := []) d2 fun j w hj => so_set_ok (v := .long x) h.1 trivial j w (rl_dead1 hj), so_t1 h.2⟩) fun p e R s mid args below meth c Q H locs cells slots arr ρ hM _ _ hR hV hls kk => row p e R s mid args below meth c Q H locs cells slots arr _ _ hM hls fun arr' h' => kk arr' (rl_dead d2 (rl_store2 (v := .long x) hp hi h'))
theorem so_iinc {i n : Nat} {k : Int} {v0 : Int32} (hg : so_G Z l g) (hdg : decode (zB Z m) pc = .ok (.iinc i k, 3)) (hk : Int32.ofInt k = v0) (hi : i < so_ml Z m) (hs : am_ld ls i (fun v => match v with
      | .int x => g d m (pc + 3) (am_dead d2 (ls.set i (some (.int (x + v0))))) st A
      | _ => none) = some r) : so_T Z l d m pc ls st A r := by
  unfold am_ld at hs
  split at hs
  · rename_i v hv
    cases v with
    | int x =>
      refine so_gp (hg _ _ _ _ _ _ _ hs) (fun _ h => ⟨so_dead1 (st := []) (ls := []) d2 (so_set_ok h.1 trivial), h.2⟩) fun p e R s mid args below meth c Q H locs cells slots arr ρ hM _ _ hR hV hls kk => ?_
      obtain ⟨q0, hq0⟩ := List.mem_iff_getElem?.mp ((rl_lv_mem (ρ := ρ) ls 0 i _).mpr ⟨i, _, by omega, hv, rfl⟩)
      refine lv_iinc (v := x + v0) hM.1 hM.2.1 hdg hls hq0 (by rw [hk]) hi rfl fun arr' h' => kk arr' (rl_dead d2 (rl_store1 (v := .int (x + v0)) (fun j w hj hw => ?_) h'))
      intro hc
      have h1 := hls.2.1.1 j (rl_cv ρ w) (rl_has_at hls hw) (by cases w <;> first | exact hc | cases hc)
      have h2 := rl_has_at hls hv
      rw [hj] at h2
      rw [h1] at h2
      cases h2
    | _ => cases hs
  · cases hs
theorem so_goto {off : Int} {a : Nat} (hg : so_G Z l g) (hdg : decode (zB Z m) pc = .ok (.goto off, 3)) (ht : (pc : Int) + off = (a : Int)) (hs : g d m a (am_dead d1 ls) st A = some r) : so_T Z l d m pc ls st A r :=
  so_gs (hg _ _ _ _ _ _ _ hs) (fun _ h => h) fun p e R s mid args below meth c Q H locs cells slots arr ρ hM hR hV kk => lv_goto hM.1 hM.2.1 hdg ht kk
/-- two ways -/
theorem so_two {q : Prop} [Decidable q] {a b : Nat} {st1 : List Value} (hg : so_G Z l g) (hW : (∀ v ∈ st, so_v (am_N A) v) → ∀ v ∈ st1, so_v (am_N A) v)
    (row : ∀ (p : Program) (e : Env) (R : Room) (s : State) (mid : MethodId) (args : Array Value) (below : List Frame) (meth : Method) (c : Code) (Q : State → Prop) (H : Heap) (locs : List Loc) (cells slots : Nat) (arr : Array Slot) (ρ : Nat → Nat), so_M Z l m p s mid args meth c →
      (q → W p l e R s mid args below meth c H locs cells slots Q (F0 mid a arr (st1.map (rl_cv ρ)))) → (¬ q → W p l e R s mid args below meth c H locs cells slots Q (F0 mid b arr (st1.map (rl_cv ρ)))) → W p l e R s mid args below meth c H locs cells slots Q (F0 mid pc arr (st.map (rl_cv ρ))))
    (hs : (if q then g d m a (am_dead d1 ls) st1 A else g d m b (am_dead d2 ls) st1 A) = some r) : so_T Z l d m pc ls st A r := by
  by_cases hq : q
  · rw [if_pos hq] at hs
    exact so_gs (hg _ _ _ _ _ _ _ hs) (fun _ h => hW h) fun p e R s mid args below meth c Q H locs cells slots arr ρ hM hR hV kk => row p e R s mid args below meth c Q H locs cells slots arr ρ hM (fun _ => kk) (fun n => absurd hq n)
  · rw [if_neg hq] at hs
    exact so_gs (hg _ _ _ _ _ _ _ hs) (fun _ h => hW h) fun p e R s mid args below meth c Q H locs cells slots arr ρ hM hR hV kk => row p e R s mid args below meth c Q H locs cells slots arr ρ hM (fun y => absurd y hq) (fun _ => kk)
theorem so_cond2 {cc : Jvm.ClassFile.Cond} {off : Int} {a : Nat} (hg : so_G Z l g) (hdg : decode (zB Z m) pc = .ok (.if_icmp cc off, 3)) (ht : (pc : Int) + off = (a : Int)) (hs : (match st with
      | .int y :: .int x :: rest => am_cond cc x y (g d m a (am_dead d1 ls) rest A) (g d m (pc + 3) (am_dead d2 ls) rest A)
      | _ => none) = some r) : so_T Z l d m pc ls st A r := by
  split at hs
  · rename_i y x rest
    have t2 : (∀ v ∈ Value.int y :: Value.int x :: rest, so_v (am_N A) v) → ∀ v ∈ rest, so_v (am_N A) v := fun h => so_t1 (so_t1 h)
    cases cc
    · exact so_two (q := x = y) hg t2 (fun p e R s mid args below meth c Q H locs cells slots arr ρ hM k1 k2 => lv_icmp_eq hM.1 hM.2.1 hdg ht k1 k2) hs
    · exact so_two (q := x = y) (d1 := d2) (d2 := d1) hg t2 (fun p e R s mid args below meth c Q H locs cells slots arr ρ hM k1 k2 => lv_icmp_ne hM.1 hM.2.1 hdg ht k2 k1) hs
    · exact so_two (q := x < y) hg t2 (fun p e R s mid args below meth c Q H locs cells slots arr ρ hM k1 k2 => lv_icmp_lt hM.1 hM.2.1 hdg ht k1 k2) hs
    · exact so_two (q := x < y) (d1 := d2) (d2 := d1) hg t2 (fun p e R s mid args below meth c Q H locs cells slots arr ρ hM k1 k2 => lv_icmp_ge hM.1 hM.2.1 hdg ht (fun h => k2 (Int32.not_lt.mpr h)) (fun h => k1 (Int32.not_le.mp h))) hs
    · exact so_two (q := y < x) hg t2 (fun p e R s mid args below meth c Q H locs cells slots arr ρ hM k1 k2 => lv_icmp_gt hM.1 hM.2.1 hdg ht k1 k2) hs
    · exact so_two (q := y < x) (d1 := d2) (d2 := d1) hg t2 (fun p e R s mid args below meth c Q H locs cells slots arr ρ hM k1 k2 => lv_icmp_le hM.1 hM.2.1 hdg ht (fun h => k2 (Int32.not_lt.mpr h)) (fun h => k1 (Int32.not_le.mp h))) hs
  · cases hs
theorem so_cond1 {cc : Jvm.ClassFile.Cond} {off : Int} {a : Nat} (hg : so_G Z l g) (hdg : decode (zB Z m) pc = .ok (.ifCond cc off, 3)) (ht : (pc : Int) + off = (a : Int)) (hs : (match st with
      | .int x :: rest => am_cond cc x 0 (g d m a (am_dead d1 ls) rest A) (g d m (pc + 3) (am_dead d2 ls) rest A)
      | _ => none) = some r) : so_T Z l d m pc ls st A r := by
  split at hs
  · rename_i x rest
    have t2 : (∀ v ∈ Value.int x :: rest, so_v (am_N A) v) → ∀ v ∈ rest, so_v (am_N A) v := fun h => so_t1 h
    cases cc
    · exact so_two (q := x = 0) hg t2 (fun p e R s mid args below meth c Q H locs cells slots arr ρ hM k1 k2 => lv_if_eq hM.1 hM.2.1 hdg ht k1 k2) hs
    · exact so_two (q := x = 0) (d1 := d2) (d2 := d1) hg t2 (fun p e R s mid args below meth c Q H locs cells slots arr ρ hM k1 k2 => lv_if_ne hM.1 hM.2.1 hdg ht k2 k1) hs
    · exact so_two (q := x < 0) hg t2 (fun p e R s mid args below meth c Q H locs cells slots arr ρ hM k1 k2 => lv_if_lt hM.1 hM.2.1 hdg ht k1 k2) hs
    · exact so_two (q := x < 0) (d1 := d2) (d2 := d1) hg t2 (fun p e R s mid args below meth c Q H locs cells slots arr ρ hM k1 k2 => lv_if_ge hM.1 hM.2.1 hdg ht (fun h => k2 (Int32.not_lt.mpr h)) (fun h => k1 (Int32.not_le.mp h))) hs
    · exact so_two (q := 0 < x) hg t2 (fun p e R s mid args below meth c Q H locs cells slots arr ρ hM k1 k2 => lv_if_gt hM.1 hM.2.1 hdg ht k1 k2) hs
    · exact so_two (q := 0 < x) (d1 := d2) (d2 := d1) hg t2 (fun p e R s mid args below meth c Q H locs cells slots arr ρ hM k1 k2 => lv_if_le hM.1 hM.2.1 hdg ht (fun h => k2 (Int32.not_lt.mpr h)) (fun h => k1 (Int32.not_le.mp h))) hs
  · cases hs
theorem so_ifnull {off : Int} {a : Nat} (hg : so_G Z l g) (hdg : decode (zB Z m) pc = .ok (.ifnull off, 3)) (ht : (pc : Int) + off = (a : Int)) (hs : (match st with
      | .null :: rest => g d m a (am_dead d1 ls) rest A
      | .ref _ :: rest => g d m (pc + 3) (am_dead d2 ls) rest A
      | _ => none) = some r) : so_T Z l d m pc ls st A r := by
  split at hs
  · exact so_gs (hg _ _ _ _ _ _ _ hs) (fun _ h => so_t1 h) fun p e R s mid args below meth c Q H locs cells slots arr ρ hM hR hV kk => lv_ifnullN hM.1 hM.2.1 hdg ht kk
  · exact so_gs (hg _ _ _ _ _ _ _ hs) (fun _ h => so_t1 h) fun p e R s mid args below meth c Q H locs cells slots arr ρ hM hR hV kk => lv_ifnull hM.1 hM.2.1 hdg kk
  · cases hs
theorem so_ifnonnull {off : Int} {a : Nat} (hg : so_G Z l g) (hdg : decode (zB Z m) pc = .ok (.ifnonnull off, 3)) (ht : (pc : Int) + off = (a : Int)) (hs : (match st with
      | .ref _ :: rest => g d m a (am_dead d1 ls) rest A
      | .null :: rest => g d m (pc + 3) (am_dead d2 ls) rest A
      | _ => none) = some r) : so_T Z l d m pc ls st A r := by
  split at hs
  · exact so_gs (hg _ _ _ _ _ _ _ hs) (fun _ h => so_t1 h) fun p e R s mid args below meth c Q H locs cells slots arr ρ hM hR hV kk => lv_ifnonnull hM.1 hM.2.1 hdg ht kk
  · exact so_gs (hg _ _ _ _ _ _ _ hs) (fun _ h => so_t1 h) fun p e R s mid args below meth c Q H locs cells slots arr ρ hM hR hV kk => lv_ifnonnullN hM.1 hM.2.1 hdg kk
  · cases hs
/-- a switch's targets from lo on are those of the table -/
def so_sw (pc : Nat) (lo : Int) (offs : List Int) : List (Int32 × Nat) → Prop
  | [] => offs = []
  | (v, t) :: r => v.toInt = lo ∧ ∃ o os, offs = o :: os ∧ (pc : Int) + o = (t : Int) ∧ so_sw pc (lo + 1) os r
theorem so_switch {dflt lo hi : Int} {offs : Array Int} {len a : Nat} {ts : List (Int32 × Nat)} (hg : so_G Z l g) (hdg : decode (zB Z m) pc = .ok (.tableswitch dflt lo hi offs, len)) (ht : (pc : Int) + dflt = (a : Int)) (hsw : so_sw pc lo offs.toList ts) (hhi : hi = lo + offs.toList.length - 1) (hs : (match st with
      | .int x :: rest => am_sw g d m d1 ls rest A x a ts
      | _ => none) = some r) : so_T Z l d m pc ls st A r := by
  split at hs
  · rename_i x rest
    have key : ∀ (ts : List (Int32 × Nat)) (lo' : Int) (os : List Int) (k : Nat), so_sw pc lo' os ts → lo' = lo + k → offs.toList.drop k = os → (x.toInt < lo ∨ lo' ≤ x.toInt) → am_sw g d m d1 ls rest A x a ts = some r → so_T Z l d m pc ls (.int x :: rest) A r := by
      intro ts
      induction ts with
      | nil =>
        intro lo' os k h1 h2 h3 h4 h5
        have hk : offs.toList.length ≤ k := by
          rw [show os = [] from h1] at h3
          exact List.drop_eq_nil_iff.mp h3
        exact so_gs (hg _ _ _ _ _ _ _ h5) (fun _ h => so_t1 h) fun p e R s mid args below meth c Q H locs cells slots arr ρ hM hR hV kk => lv_tableOut hM.1 hM.2.1 hdg (by rcases h4 with h | h; exact Or.inl h; exact Or.inr (by omega)) ht kk
      | cons y ts ih =>
        obtain ⟨v, t⟩ := y
        intro lo' os k h1 h2 h3 h4 h5
        obtain ⟨e1, o, os', e2, e3, e4⟩ := h1
        rw [am_sw] at h5
        by_cases hx : x = v
        · rw [if_pos hx] at h5
          subst hx
          have hk : k < offs.toList.length := by
            rcases Nat.lt_or_ge k offs.toList.length with q | q
            · exact q
            · rw [List.drop_eq_nil_iff.mpr q, e2] at h3
              cases h3
          have ho : offs.toList[k]? = some o := by
            have := congrArg List.head? h3
            rw [List.head?_drop, e2] at this
            exact this
          refine so_gs (hg _ _ _ _ _ _ _ h5) (fun _ h => so_t1 h) fun p e R s mid args below meth c Q H locs cells slots arr ρ hM hR hV kk => lv_tableIn (off := o) hM.1 hM.2.1 hdg (by omega) (by omega) ?_ e3 kk
          rw [show (x.toInt - lo).toNat = k by omega, ← Array.getElem?_toList]
          exact ho
        · rw [if_neg hx] at h5
          refine ih (lo' + 1) os' (k + 1) e4 (by omega) ?_ ?_ h5
          · rw [← List.drop_drop, h3, e2]
            rfl
          · rcases h4 with h | h
            · exact Or.inl h
            · right
              have : x.toInt ≠ v.toInt := fun q => hx (Int32.toInt_inj.mp q)
              omega
    exact key ts lo offs.toList 0 hsw (by omega) rfl (by omega) hs
  · cases hs
end Steps2
