/-! CALLS: the step -/
section Calls2
variable {Z : so_Z} {l : Launch} {g : am_G} {d m pc : Nat} {ls : List (Option Value)} {st : List Value} {A : am_A} {r : (Option Value ⊕ Nat) × am_A} {d1 d2 : List Nat}
/-- what a call's row asks; k: 0 of an object, 1 of none, 2 a constructor -/
def so_iv (Z : so_Z) (own : String) (idx k y n z : Nat) : Prop := so_my Z y ∧ so_ml Z y ≤ 41 ∧ Cond.initialized (zY Z y).cls ∈ zT Z ∧ ((zY Z y).cls ≠ "java/lang/invoke/MethodHandle" ∧ (zY Z y).cls ≠ "java/lang/invoke/VarHandle" ∧ (parseMethodDescriptor (zY Z y).desc).map (fun d => d.parameters.length) = some n) ∧
  (Cond.methodLink own idx (zY Z y) ∈ zT Z ∨ (am_hs (zP Z) y = [] ∧ ∃ host, Cond.methodLinkNest own idx (zY Z y) host ∈ zT Z)) ∧ (am_hs (zP Z) y ≠ [] → k = 1) ∧
  (k = 1 → Cond.static (zY Z y) ∈ zT Z) ∧ (k = 0 → Cond.instanceMethod (zY Z y) ∈ zT Z ∧ Cond.selects (zY Z y).cls (zY Z y) (zY Z y) ∈ zT Z ∧ 0 < z ∧ z < 20 ∧ ∃ T N, rl_cl[z - 1]? = some ((zY Z y).cls, T, N)) ∧
  (k = 2 → (zY Z y).name = "<init>" ∧ zR Z y = none ∧ Cond.instanceMethod (zY Z y) ∈ zT Z)
/-- both ways on, out of a call's run -/
theorem so_after {p : Program} {e : Env} {R : Room} {s : State} {mid : MethodId} {args : Array Value} {below : List Frame} {meth : Method} {c : Code} {H : Heap} {locs : List Loc} {cells slots mc ms : Nat} {Q : State → Prop} {arr : Array Slot} {st0 rest : List Value} {ρ : Nat → Nat} {n : Nat} {r1 : (Option Value ⊕ Nat) × am_A} {a : Array Value}
    (hr : vx_Run p l e R s mid args below meth c H locs cells slots mc ms (F0 mid pc arr st0) rest (so_Qc Z ρ n r1 a) (so_XC Z ρ n r1) (so_A Z)) (hV : va_S (so_A Z) s.heap H locs)
    (kk : ∀ (v : Option Value) (ρ' : Nat → Nat) (H1 : Heap) (locs1 : List Loc), r1.1 = .inl v → (∀ i, i < n → ρ' i = ρ i) → so_R Z ρ' r1.2 H1 → va_S (so_A Z) s.heap H1 locs1 → W p l e R s mid args below meth c H1 locs1 (cells + mc) (slots + ms) Q (F0 mid (pc + 3) arr ((v.map (rl_cv ρ')).toList ++ rest)))
    (kx : ∀ (x : Nat) (ρ' : Nat → Nat) (H1 : Heap) (locs1 : List Loc) (q : Nat) (ce : Cell), r1.1 = .inr x → (∀ i, i < n → ρ' i = ρ i) → so_R Z ρ' r1.2 H1 → va_S (so_A Z) s.heap H1 locs1 → H1[q]? = some ce → ce.vm = .none → s.vm.findClass (so_x x) = some ce.cls → vx_W p l e R s mid args below meth c H1 locs1 (cells + mc) (slots + ms) Q (F0 mid pc arr rest) q) :
    W p l e R s mid args below meth c H locs cells slots Q (F0 mid pc arr st0) := by
  intro T hT X
  rcases hr T hT X with ⟨v, st₀, t, T', L, h0, X', hL, e1, e2, ⟨v', ρ', h1, h2, h3, h4, h5⟩, stp⟩ | ⟨q, st₀, t, T', L, E, ce, h0, X', hL, e1, e2, ⟨x, ρ', h1, h2, h3, h4, h5⟩, hce, hcv, hcl, stp⟩
  · cases h2
    obtain ⟨-, -, k3⟩ := vx_keep h0 e1 hV (fun _ _ h => h) (fun _ h => h) hL h5
    obtain ⟨t2, a1, b1⟩ := kk v' ρ' T'.heap (locs ++ L) h1 h3 (by rw [e1]; exact h4) k3 T' rfl X'
    exact ⟨t2, stp t2 a1, b1⟩
  · subst h2
    obtain ⟨-, -, k3⟩ := vx_keep h0 e1 hV (fun _ _ h => h) (fun _ h => h) hL h5
    obtain ⟨t2, a1, b1⟩ := kx x ρ' T'.heap (locs ++ L) q ce h1 h3 (by rw [e1]; exact h4) k3 (by rw [e1]; exact hce) hcv hcl T' rfl X'
    exact ⟨t2, stp.trans a1, b1⟩
def so_hd (Z : so_Z) (l : Launch) (d m pc : Nat) (d1 : List Nat) (ls : List (Option Value)) (own : String) (x : Nat) (A1 : am_A) (hs : List (Nat × Nat × Nat × Nat)) (r : (Option Value ⊕ Nat) × am_A) : Prop :=
  ∃ h : Nat, so_T Z l d m h (am_dead d1 ls) [.ref (am_N A1)] (am_nx A1) r ∧ ∀ (zs : List ExceptionTableEntry), so_hx Z own zs hs → ∃ (pre : List ExceptionTableEntry) (z : ExceptionTableEntry) (suf : List ExceptionTableEntry), zs = pre ++ z :: suf ∧ (∀ y ∈ pre, covers y pc = false ∨ (y.catchType ≠ 0 ∧ ∃ k, 0 < k ∧ k < 6 ∧ x ≠ k ∧ Cond.classLink own y.catchType (so_x k) ∈ zT Z)) ∧ covers z pc = true ∧ z.catchType ≠ 0 ∧ Cond.classLink own z.catchType (so_x x) ∈ zT Z ∧ Cond.castable (so_x x) (so_x x) ∈ zT Z ∧ z.handlerPc = h
/-- an exception comes: the handlers -/
theorem so_handle {own : String} {x : Nat} (A1 : am_A) (hg : so_G Z l g) : ∀ (hs : List (Nat × Nat × Nat × Nat)) (r : (Option Value ⊕ Nat) × am_A), am_exh g d m pc d1 ls hs x A1 = some r → so_hd Z l d m pc d1 ls own x A1 hs r := by
  intro hs
  induction hs with
  | nil => intro r hr; cases hr
  | cons h0 hs ih =>
    obtain ⟨a, b, k, h⟩ := h0
    intro r hr
    have hcov : ∀ z : ExceptionTableEntry, z.startPc = a → z.endPc = b → covers z pc = (Nat.ble a pc && Nat.blt pc b) := by
      intro z h1 h2
      show (decide (z.startPc ≤ pc) && decide (pc < z.endPc)) = _
      rw [h1, h2]
      congr 1
      · exact Bool.eq_iff_iff.mpr (by rw [decide_eq_true_iff, Nat.ble_eq])
      · exact Bool.eq_iff_iff.mpr (by rw [decide_eq_true_iff]; show pc + 1 ≤ b ↔ Nat.ble (pc + 1) b = true; rw [Nat.ble_eq])
    have later : (∀ z : ExceptionTableEntry, z.startPc = a → z.endPc = b → z.catchType ≠ 0 → 0 < k → k < 6 → Cond.classLink own z.catchType (so_x k) ∈ zT Z → covers z pc = false ∨ (z.catchType ≠ 0 ∧ ∃ k, 0 < k ∧ k < 6 ∧ x ≠ k ∧ Cond.classLink own z.catchType (so_x k) ∈ zT Z)) → am_exh g d m pc d1 ls hs x A1 = some r → so_hd Z l d m pc d1 ls own x A1 ((a, b, k, h) :: hs) r := fun hz hr => by
      obtain ⟨h1, hT, hh⟩ := ih r hr
      refine ⟨h1, hT, fun zs hzs => ?_⟩
      cases zs with
      | nil => exact hzs.elim
      | cons z0 zs =>
        obtain ⟨e1, e2, e3, e4, e5, e6, e7, e9, e8⟩ := hzs
        obtain ⟨pre, z, suf, f1, f2, f3⟩ := hh zs e8
        refine ⟨z0 :: pre, z, suf, by rw [f1]; rfl, fun y hy => ?_, f3⟩
        rcases List.mem_cons.mp hy with rfl | hy
        · exact hz _ e1 e2 e4 e5 e6 e7
        · exact f2 y hy
    simp only [am_exh] at hr
    split at hr
    · rename_i hb
      by_cases hxk : x = k
      · rw [if_pos hxk] at hr
        refine ⟨h, hg _ _ _ _ _ _ _ hr, fun zs hzs => ?_⟩
        cases zs with
        | nil => exact hzs.elim
        | cons z0 zs =>
          obtain ⟨e1, e2, e3, e4, e5, e6, e7, e9, e8⟩ := hzs
          exact ⟨[], z0, zs, rfl, (fun y hy => by cases hy), by rw [hcov z0 e1 e2]; exact hb, e4, by rw [hxk]; exact e7, by rw [hxk]; exact e9, e3⟩
      · rw [if_neg hxk] at hr
        exact later (fun z _ _ h3 h4 h5 h6 => Or.inr ⟨h3, k, h4, h5, hxk, h6⟩) hr
    · rename_i hb
      exact later (fun z h1 h2 _ _ _ _ => Or.inl (by rw [hcov z h1 h2]; exact hb)) hr
/-- what a call's end is worth to the caller: the ways on -/
theorem so_step {d' idx k y n z : Nat} {As rest st0 : List Value} {A : am_A} {r1 r : (Option Value ⊕ Nat) × am_A} (hgw : so_gw Z) (hiv : so_iv Z (zY Z m).cls idx k y n z) (hlen : (am_ent As).length ≤ so_ml Z y) (hcat : am_cat rest ≤ 12)
    (hT1 : so_T Z l d' y 0 (am_pad (so_ml Z y) (am_ent As)) [] A r1) (hst0 : ∀ P : Value → Prop, (∀ v ∈ st0, P v) → (∀ v ∈ As, P v) ∧ ∀ v ∈ rest, P v)
    (hrun : ∀ (p : Program) (e : Env) (R : Room) (s : State) (mid : MethodId) (args : Array Value) (below : List Frame) (meth : Method) (c : Code) (H : Heap) (locs : List Loc) (cells slots : Nat) (arr : Array Slot) (ρ : Nat → Nat) (mc ms : Nat) (rm : Room) (Qc : Array Value → State → Outcome → State → Prop) (XC : String → State → State → Prop), so_M Z l m p s mid args meth c → so_R Z ρ A H → va_S (so_A Z) s.heap H locs → arr.size = so_ml Z m →
      rm.cells = mc → rm.slots = ms → rm.frames + 1 ≤ R.frames → 12 + (so_ml Z y + 11) + rm.locals ≤ R.locals → cells + mc ≤ R.cells → slots + ms ≤ R.slots →
      ((vx_Met l (zY Z y) (Cond.code (zY Z y) (zB Z y) (so_ml Z y) (zR Z y) :: zG Z) rm (so_Pc Z ρ H As) Qc XC mc ms (so_A Z) ∧ Cond.code (zY Z y) (zB Z y) (so_ml Z y) (zR Z y) ∈ zT Z) ∨ ∃ hh, vx_Met l (zY Z y) (Cond.codeWith (zY Z y) (zB Z y) (so_ml Z y) (zR Z y) hh :: zG Z) rm (so_Pc Z ρ H As) Qc XC mc ms (so_A Z) ∧ Cond.codeWith (zY Z y) (zB Z y) (so_ml Z y) (zR Z y) hh ∈ zT Z ∧ am_hs (zP Z) y ≠ []) →
      vx_Run p l e R s mid args below meth c H locs cells slots mc ms (F0 mid pc arr (st0.map (rl_cv ρ))) (rest.map (rl_cv ρ)) (Qc (As.map (rl_cv ρ)).toArray) XC (so_A Z))
    (hret : ∀ v, r1.1 = .inl v → so_T Z l (d' + 1) m (pc + 3) (am_dead d2 ls) (v.toList ++ rest) r1.2 r)
    (hexc : ∀ x, r1.1 = .inr x → (am_hs (zP Z) m = [] ∧ r = r1) ∨ (0 < x → x < 6 → so_hd Z l (d' + 1) m pc d1 ls (zY Z m).cls x r1.2 (am_hs (zP Z) m) r)) : so_T Z l (d' + 1) m pc ls st0 A r := by
  intro hw hL
  have hAs := (hst0 _ hL.2).1
  have hrs := (hst0 _ hL.2).2
  obtain ⟨⟨m1, m2, m3, m4, m5⟩, -⟩ := hT1 hw ⟨so_pad_ok hAs, fun v hv => by cases hv⟩
  have hL1 : ∀ j v, am_nth ls j = some (some v) → so_v (am_N r1.2) v := fun j v hj => so_v_mono (hL.1 j v hj) m1
  have hr1 : ∀ v ∈ rest, so_v (am_N r1.2) v := fun v hv => so_v_mono (hrs v hv) m1
  -- the ends' facts
  have fin : (am_N A ≤ am_N r.2 ∧ am_C A ≤ am_C r.2 ∧ am_S A ≤ am_S r.2 ∧ so_W r.2 ∧ so_o r) ∧ am_C r1.2 ≤ am_C r.2 ∧ am_S r1.2 ≤ am_S r.2 := by
    cases h1 : r1.1 with
    | inl v =>
      have hv : ∀ w ∈ v.toList ++ rest, so_v (am_N r1.2) w := by
        intro w hw2
        rcases List.mem_append.mp hw2 with h | h
        · cases v with
          | none => cases h
          | some v =>
            rw [List.mem_singleton.mp h]
            unfold so_o at m5
            rw [h1] at m5
            exact m5
        · exact hr1 w h
      obtain ⟨⟨a1, a2, a3, a4, a5⟩, -⟩ := hret v h1 m4 ⟨so_dead1 (st := []) (ls := []) d2 hL1, hv⟩
      exact ⟨⟨by omega, by omega, by omega, a4, a5⟩, a2, a3⟩
    | inr x =>
      have hx06 : 0 < x ∧ x < 6 := by
        unfold so_o at m5
        rw [h1] at m5
        exact m5
      rcases hexc x h1 with ⟨-, e⟩ | hh1
      · subst e
        exact ⟨⟨m1, m2, m3, m4, m5⟩, Nat.le_refl _, Nat.le_refl _⟩
      · obtain ⟨h, hT2, -⟩ := hh1 hx06.1 hx06.2
        have hw3 : so_W (am_nx r1.2) := ⟨by have := m4.1; show 64 ≤ am_N r1.2 + 1; omega, fun a j q hq => Nat.lt_succ_of_lt (m4.2 a j q hq)⟩
        obtain ⟨⟨a1, a2, a3, a4, a5⟩, -⟩ := hT2 hw3 ⟨so_dead1 (st := []) (ls := []) d1 fun j v hj => so_v_mono (hL1 j v hj) (Nat.le_succ _), so_cs (Nat.lt_succ_self _) (fun v hv => by cases hv)⟩
        have a1 : am_N r1.2 + 1 ≤ am_N r.2 := a1
        exact ⟨⟨by omega, Nat.le_trans m2 a2, Nat.le_trans m3 a3, a4, a5⟩, a2, a3⟩
  refine ⟨fin.1, ?_⟩
  intro p e R s mid args below meth c Q H locs cells slots arr ρ C0 S0 hM hh hd hl hc hs hRc hRs hR hV hls hE
  have htr : l.stackTraces = false := hM.2.2.2.2.2.2.2.2.2.2.2
  have hsC : cells + (am_C r1.2 - am_C A) ≤ R.cells := by omega
  have hsS : slots + (am_S r1.2 - am_S A) ≤ R.slots := by omega
  have hmet := so_met hgw htr hiv.1 hT1 hw hAs hlen hR
  have hrun := hrun p e R s mid args below meth c H locs cells slots arr ρ (am_C r1.2 - am_C A) (am_S r1.2 - am_S A) (so_rm d' (am_C r1.2 - am_C A) (am_S r1.2 - am_S A)) (so_Qc Z ρ (am_N A) r1) (so_XC Z ρ (am_N A) r1) hM hR hV hls.1 rfl rfl (by have := so_rm_f (d := d') (a := am_C r1.2 - am_C A) (b := am_S r1.2 - am_S A); omega) (by have := hiv.2.1; have := so_rm_l (d := d') (a := am_C r1.2 - am_C A) (b := am_S r1.2 - am_S A); omega) hsC hsS
    (by rcases hmet with ⟨ws', h1, h2, h3⟩ | h1
        · subst h2
          exact Or.inl ⟨h1, h3⟩
        · exact Or.inr h1)
  refine so_after hrun hV ?_ ?_
  · intro v ρ' H1 locs1 h1 hag hR1 hV1
    have hv : ∀ w ∈ v.toList ++ rest, so_v (am_N r1.2) w := by
      intro w hw2
      rcases List.mem_append.mp hw2 with h | h
      · cases v with
        | none => cases h
        | some v =>
          rw [List.mem_singleton.mp h]
          unfold so_o at m5
          rw [h1] at m5
          exact m5
      · exact hr1 w h
    obtain ⟨-, hT2⟩ := hret v h1 m4 ⟨so_dead1 (st := []) (ls := []) d2 hL1, hv⟩
    have := hT2 p e R s mid args below meth c Q H1 locs1 (cells + (am_C r1.2 - am_C A)) (slots + (am_S r1.2 - am_S A)) arr ρ' C0 S0 hM hh hd hl (by omega) (by omega) hRc hRs hR1 hV1 (rl_dead d2 (so_has_mono (st := []) hls ⟨hL.1, fun v hv => by cases hv⟩ hag)) (so_E_mono hE m1 hag)
    rw [List.map_append, so_st_mono (ρ := ρ) hrs hag] at this
    have e2 : v.toList.map (rl_cv ρ') = (v.map (rl_cv ρ')).toList := by cases v <;> rfl
    rw [e2] at this
    exact this
  · intro x ρ' H1 locs1 q ce h1 hag hR1 hV1 hce hcv hcl
    obtain ⟨hx0, hx6⟩ : 0 < x ∧ x < 6 := by
      unfold so_o at m5
      rw [h1] at m5
      exact m5
    rcases hexc x h1 with ⟨hno, e⟩ | hh1
    · subst e
      obtain ⟨o, A1⟩ := r
      cases h1
      refine hE.1 ρ' H1 locs1 _ _ pc arr _ q ce hag hR1 hV1 (by show cells + (am_C A1 - am_C A) + C0 = am_C A1; have m2 : am_C A ≤ am_C A1 := m2; omega) (by show slots + (am_S A1 - am_S A) + S0 = am_S A1; have m3 : am_S A ≤ am_S A1 := m3; omega) hce hcv hcl ?_
      intro z hz
      exfalso
      unfold so_hh at hh
      rw [hno] at hh
      cases he : c.exceptionTable.toList with
      | nil => rw [he] at hz; cases hz
      | cons z0 zs => rw [he] at hh; exact hh
    · obtain ⟨h, hT2, hhx⟩ := hh1 hx0 hx6
      obtain ⟨pre, z, suf, f1, f2, f3, f4, f5, f7, f6⟩ := hhx _ hh
      have hC := so_C_at hM
      have hw3 : so_W (am_nx r1.2) := ⟨by have := m4.1; show 64 ≤ am_N r1.2 + 1; omega, fun a j q hq => Nat.lt_succ_of_lt (m4.2 a j q hq)⟩
      have hag2 : ∀ i, i < am_N A → so_up ρ' (am_N r1.2) q i = ρ i := fun i hi => (so_up_lt (by omega)).trans (hag i hi)
      obtain ⟨-, hT3⟩ := hT2 hw3 ⟨so_dead1 (st := []) (ls := []) d1 fun j v hj => so_v_mono (hL1 j v hj) (Nat.le_succ _), so_cs (Nat.lt_succ_self _) (fun v hv => by cases hv)⟩
      have hts := hM.2.2.2.2.2.1
      refine vx_catch hM.2.2.2.2.1 pre z suf f1 (fun y0 hy0 => ?_) f3 f4 (hts _ f5) (hts _ f7) hce hcv hcl ?_
      · rcases f2 y0 hy0 with h9 | ⟨h9, k0, g1, g2, g3, g4⟩
        · exact Or.inl h9
        · exact Or.inr ⟨h9, so_x k0, hts _ g4, hC.2.2.2.2.2.2.2.1 x k0 hx0 hx6 g1 g2 g3⟩
      · rw [f6]
        have hR3 : so_R Z (so_up ρ' (am_N r1.2) q) (am_nx r1.2) H1 := so_R_nx m4 hR1
        have := hT3 p e R s mid args below meth c Q H1 locs1 (cells + (am_C r1.2 - am_C A)) (slots + (am_S r1.2 - am_S A)) arr (so_up ρ' (am_N r1.2) q) C0 S0 hM hh hd hl (by show cells + (am_C r1.2 - am_C A) + C0 = am_C r1.2; omega) (by show slots + (am_S r1.2 - am_S A) + S0 = am_S r1.2; omega) hRc hRs hR3 hV1 (rl_dead d1 (so_has_mono (st := []) hls ⟨hL.1, fun v hv => by cases hv⟩ hag2)) (so_E_mono hE (by show am_N A ≤ am_N r1.2 + 1; omega) hag2)
        rw [List.map_cons, List.map_nil, show rl_cv (so_up ρ' (am_N r1.2) q) (.ref (am_N r1.2)) = .ref q from congrArg Value.ref so_up_at] at this
        exact this
theorem so_ways {y : Nat} {As rest : List Value} (hg : so_G Z l g) (hs : am_call (zP Z) g d m pc 3 y d1 d2 ls As rest A = some r) : ∃ (d' : Nat) (r1 : (Option Value ⊕ Nat) × am_A), d = d' + 1 ∧ am_cat rest ≤ 12 ∧ (am_ent As).length ≤ so_ml Z y ∧ so_T Z l d' y 0 (am_pad (so_ml Z y) (am_ent As)) [] A r1 ∧
    (∀ v, r1.1 = .inl v → so_T Z l (d' + 1) m (pc + 3) (am_dead d2 ls) (v.toList ++ rest) r1.2 r) ∧ (∀ x, r1.1 = .inr x → (am_hs (zP Z) m = [] ∧ r = r1) ∨ (0 < x → x < 6 → so_hd Z l (d' + 1) m pc d1 ls (zY Z m).cls x r1.2 (am_hs (zP Z) m) r)) := by
  unfold am_call at hs
  by_cases hcat : am_cat rest ≤ 12
  · rw [if_pos hcat] at hs
    cases d with
    | zero => cases hs
    | succ d' =>
      cases hM : zP Z y with
      | none => rw [hM] at hs; cases hs
      | some M =>
        rw [hM] at hs
        dsimp only at hs
        have hml : so_ml Z y = M.2.1 := by unfold so_ml; rw [hM]
        by_cases hlen : (am_ent As).length ≤ M.2.1
        · rw [if_pos hlen] at hs
          have hx : ∀ (x : Nat) (A1 : am_A), am_excY (zP Z) g (d' + 1) m pc d1 ls M.2.2.2 x A1 = some r → (am_hs (zP Z) m = [] ∧ r = (.inr x, A1)) ∨ (0 < x → x < 6 → so_hd Z l (d' + 1) m pc d1 ls (zY Z m).cls x A1 (am_hs (zP Z) m) r) := by
            intro x A1 hx
            cases hY : M.2.2.2 with
            | nil =>
              rw [hY] at hx
              have hx : am_exc (zP Z) g (d' + 1) m pc d1 ls x A1 = some r := hx
              cases he : am_hs (zP Z) m with
              | nil =>
                have hx2 : some (Sum.inr x, A1) = some r := by
                  unfold am_exc at hx
                  rw [he] at hx
                  exact hx
                cases hx2
                exact Or.inl ⟨rfl, rfl⟩
              | cons h0 r0 =>
                have hx2 : am_exh g (d' + 1) m pc d1 ls (h0 :: r0) x A1 = some r := by
                  unfold am_exc at hx
                  rw [he] at hx
                  exact hx
                exact Or.inr fun _ _ => so_handle A1 hg _ _ hx2
            | cons y0 ys =>
              rw [hY] at hx
              cases hx
          cases h1 : g d' y 0 (am_pad M.2.1 (am_ent As)) [] A with
          | none =>
            rw [h1] at hs
            split at hs <;> cases hs
          | some r1 =>
            rw [h1] at hs
            refine ⟨d', r1, rfl, hcat, by rw [hml]; exact hlen, by rw [hml]; exact hg _ _ _ _ _ _ _ h1, ?_, ?_⟩
            · intro v hv
              obtain ⟨o, A1⟩ := r1
              cases hv
              split at hs
              · rcases v with _ | w
                · exact hg _ _ _ _ _ _ _ hs
                · cases w <;> cases hs
              · rcases v with _ | w
                · cases hs
                · cases w <;> first | cases hs | exact hg _ _ _ _ _ _ _ hs
              · rcases v with _ | w
                · cases hs
                · cases w <;> first | cases hs | exact hg _ _ _ _ _ _ _ hs
              · rcases v with _ | w
                · cases hs
                · cases w <;> first | cases hs | exact hg _ _ _ _ _ _ _ hs
              · rcases v with _ | w
                · cases hs
                · cases w <;> first | cases hs | exact hg _ _ _ _ _ _ _ hs
            · intro x hv
              obtain ⟨o, A1⟩ := r1
              cases hv
              split at hs <;> exact hx x A1 hs
        · rw [if_neg hlen] at hs
          cases hs
  · rw [if_neg hcat] at hs
    cases hs
end Calls2
