/-! CALLS: a method's contract out of its first step; the call's two ways on -/
theorem so_C_mv {Z : so_Z} {u U : State} {H : Heap} (hal : u.vm.Alike U.vm) (hr : ∀ own k tx a, vk_R own k tx a u → vk_R own k tx a U) (h : so_C Z u H) : so_C Z U H := by
  obtain ⟨h1, h2, h3, h4, h5, h6, h7, h8, h9, h10, h11⟩ := h
  exact ⟨h1.moved hal, h2, h3.moved hal, h4.moved hal, h5.moved hal, h6.moved hal, fun own idx tx i hi => hr _ _ _ _ (h7 own idx tx i hi), fun x y a b c d e => (h8 x y a b c d e).moved hal, h9.moved hal, h10.moved hal, h11.moved hal⟩
theorem so_C_kept {Z : so_Z} {U : State} {H H1 : Heap} (hz : zr Z 0 < H.size ∧ ¬ so_A Z (zr Z 0)) (hq : ∀ a : Nat, a < H.size → ¬ so_A Z a → H1[a]? = H[a]?) (h : so_C Z U H) : so_C Z U H1 := by
  obtain ⟨h1, h2, h3, h4, h5, h6, h7, h8, h9, h10, h11⟩ := h
  exact ⟨h1.kept (hq _ hz.1 hz.2), h2, h3.kept hq, h4.kept hq, h5.kept hq, h6.kept hq, h7, h8, h9.kept hq, h10.kept hq, h11.kept hq⟩
/-- the places with which a method begins -/
theorem so_args {ρ : Nat → Nat} (As : List Value) : ∀ (i j : Nat) (v : Value), am_nth (am_ent As) j = some (some v) → (i + j, rl_cv ρ v) ∈ lv_args i (As.map (rl_cv ρ)) := by
  induction As with
  | nil => intro i j v h; cases h
  | cons a r ih =>
    intro i j v h
    cases a with
    | long x =>
      match j, h with
      | 0, h => cases h; exact List.mem_cons_self
      | 1, h => cases h
      | j + 2, h =>
        have := ih (i + 2) j v h
        rw [show i + 2 + j = i + (j + 2) by omega] at this
        exact List.mem_cons_of_mem _ this
    | double x =>
      match j, h with
      | 0, h => cases h; exact List.mem_cons_self
      | 1, h => cases h
      | j + 2, h =>
        have := ih (i + 2) j v h
        rw [show i + 2 + j = i + (j + 2) by omega] at this
        exact List.mem_cons_of_mem _ this
    | _ =>
      match j, h with
      | 0, h => cases h; exact List.mem_cons_self
      | j + 1, h =>
        have := ih (i + 1) j v h
        rw [show i + 1 + j = i + (j + 1) by omega] at this
        exact List.mem_cons_of_mem _ this
theorem so_argsl {ρ : Nat → Nat} (As : List Value) : (lg_sl (As.map (rl_cv ρ))).length = (am_ent As).length := by
  induction As with
  | nil => rfl
  | cons a r ih =>
    have e : lg_sl ((a :: r).map (rl_cv ρ)) = (if (rl_cv ρ a).category = 2 then [.val (rl_cv ρ a), .second] else [.val (rl_cv ρ a)]) ++ lg_sl (r.map (rl_cv ρ)) := rfl
    rw [e, List.length_append, ih]
    cases a <;> simp [rl_cv, Value.category, am_ent] <;> omega
theorem so_nth_app {l r : List (Option Value)} (hr : ∀ x ∈ r, x = none) : ∀ {j : Nat} {v : Value}, am_nth (l ++ r) j = some (some v) → am_nth l j = some (some v) := by
  induction l with
  | nil =>
    intro j v h
    exfalso
    induction r generalizing j with
    | nil => cases h
    | cons x r ih =>
      cases j with
      | zero =>
        have := hr x List.mem_cons_self
        subst this
        cases h
      | succ j => exact ih (fun y hy => hr y (List.mem_cons_of_mem _ hy)) h
  | cons x l ih =>
    intro j v h
    cases j with
    | zero => exact h
    | succ j => exact ih h
theorem so_entry {ρ : Nat → Nat} {arr : Array Slot} {n : Nat} {As : List Value} (h : lv_has arr n (lv_args 0 (As.map (rl_cv ρ)))) : rl_has ρ arr n (am_pad n (am_ent As)) := by
  refine rl_has_of h fun j v hj => ?_
  have := so_args (ρ := ρ) As 0 j v (so_nth_app (fun x hx => List.eq_of_mem_replicate hx) hj)
  rwa [Nat.zero_add] at this
theorem so_pad_ok {n k : Nat} {As : List Value} (h : ∀ v ∈ As, so_v n v) : ∀ j v, am_nth (am_pad k (am_ent As)) j = some (some v) → so_v n v := by
  intro j v hj
  have hj := so_nth_app (fun x hx => List.eq_of_mem_replicate hx) hj
  have := so_args (ρ := id) As 0 j v hj
  have key : ∀ (l : List Value) (i : Nat) (q : Nat × Value), q ∈ lv_args i l → q.2 ∈ l := by
    intro l
    induction l with
    | nil => intro i q hq; cases hq
    | cons a r ih =>
      intro i q hq
      rcases List.mem_cons.mp hq with e | hq
      · subst e
        exact List.mem_cons_self
      · exact List.mem_cons_of_mem _ (ih _ q hq)
  have hm := key _ _ _ this
  obtain ⟨w, hw, e⟩ := List.mem_map.mp hm
  have hid : ∀ v : Value, rl_cv id v = v := fun v => by cases v <;> rfl
  rw [hid, hid] at e
  subst e
  exact h _ hw
def so_Qc (Z : so_Z) (ρ : Nat → Nat) (n : Nat) (r : (Option Value ⊕ Nat) × am_A) : Array Value → State → Outcome → State → Prop := fun _ st oc t =>
  ∃ (v : Option Value) (ρ' : Nat → Nat), r.1 = .inl v ∧ oc = .returned (v.map (rl_cv ρ')) ∧ (∀ i, i < n → ρ' i = ρ i) ∧ so_R Z ρ' r.2 t.heap ∧ va_F (so_A Z) st t
def so_XC (Z : so_Z) (ρ : Nat → Nat) (n : Nat) (r : (Option Value ⊕ Nat) × am_A) : String → State → State → Prop := fun E st t =>
  ∃ (x : Nat) (ρ' : Nat → Nat), r.1 = .inr x ∧ E = so_x x ∧ (∀ i, i < n → ρ' i = ρ i) ∧ so_R Z ρ' r.2 t.heap ∧ va_F (so_A Z) st t
/-- the words that go on from state to state as words; the others as facts -/
def zG (Z : so_Z) : List Cond := (zT Z).filter goodWord
theorem zG_sub {Z : so_Z} {w : Cond} (h : w ∈ zG Z) : w ∈ zT Z := (List.mem_filter.mp h).1
def so_N (Z : so_Z) (U : State) : Prop := ∀ w ∈ zT Z, goodWord w = false → va_Nw w U
def so_gw (Z : so_Z) : Prop := ∀ w ∈ zT Z, goodWord w = false → (∀ (A A' : Array Value) (u U : State), u.vm = U.vm → w.before A u = true → w.before A' U = true) ∧ ∀ s U : State, s.WarmedH U.vm → va_Nw w s → va_Nw w U
def so_Pc (Z : so_Z) (ρ : Nat → Nat) (H : Heap) (As : List Value) : Array Value → State → Prop := fun args U => args = (As.map (rl_cv ρ)).toArray ∧ U.heap = H ∧ va_K (zD Z) rl_cl (rl_tys (zA Z)) U ∧ so_C Z U H ∧ so_N Z U
def so_rm (d mc ms : Nat) : Room := { frames := d + 24, cells := mc, slots := ms, locals := 64 * d + 512 }
theorem so_rm_f {d a b : Nat} : (so_rm d a b).frames = d + 24 := rfl
theorem so_rm_l {d a b : Nat} : (so_rm d a b).locals = 64 * d + 512 := rfl
theorem so_R_nx {Z : so_Z} {ρ : Nat → Nat} {A : am_A} {H : Heap} {q : Nat} (hw : so_W A) (hR : so_R Z ρ A H) : so_R Z (so_up ρ (am_N A) q) (am_nx A) H := by
  have h64 := hR.2.2.1
  have hK : am_K (am_nx A) = am_up1 (am_K A) (am_N A) 0 := rfl
  have e : rl_ws (zA Z) (so_up ρ (am_N A) q) (am_nx A) = rl_ws (zA Z) ρ A := by
    have hids : rl_ids (am_nx A) = rl_ids A := by
      unfold rl_ids
      rw [show am_N (am_nx A) = am_N A + 1 from rfl, List.range_succ, List.filter_append, hK]
      rw [show List.filter (fun a => decide (0 < am_up1 (am_K A) (am_N A) 0 a) && decide (am_up1 (am_K A) (am_N A) 0 a < 40)) [am_N A] = [] by simp [am_up1], List.append_nil]
      apply List.filter_congr
      intro x hx
      have hx := List.mem_range.mp hx
      simp [am_up1, Nat.ne_of_lt hx]
    unfold rl_ws
    rw [hids]
    apply List.map_congr_left
    intro a ha
    have ha := (rl_mem.mp ha).1
    have hne : a ≠ am_N A := Nat.ne_of_lt ha
    have hKa : am_K (am_nx A) a = am_K A a := by rw [hK]; simp [am_up1, hne]
    have hm : rl_el (zA Z) (so_up ρ (am_N A) q) (am_nx A) a = rl_el (zA Z) ρ A a := by
      refine rl_el_mono hKa rfl rfl rfl fun j => ?_
      show Option.map (so_up ρ (am_N A) q) (am_R A a j) = Option.map ρ (am_R A a j)
      cases hx : am_R A a j with
      | none => rfl
      | some x => exact congrArg some (so_up_lt (hw.2 a j x hx))
    rw [so_up_lt ha, hm]
  obtain ⟨⟨h1, h2, h3, h4⟩, h5, h6, h7, h8⟩ := hR
  refine ⟨⟨fun b hb => ?_, by rw [e]; exact h2, by rw [e]; exact h3, h4⟩, fun i hi => (so_up_lt (by omega)).trans (h5 i hi), by show 64 ≤ am_N A + 1; omega, fun i hi => ?_, fun a ha => ?_⟩
  · have hb : am_N A + 1 ≤ b := hb
    rw [hK]
    simp only [am_up1]
    rw [if_neg (by omega)]
    exact h1 b (by omega)
  · obtain ⟨g1, g2, g3, g4⟩ := h7 i hi
    have hne : i ≠ am_N A := by omega
    exact ⟨by rw [hK]; simp [am_up1, hne]; exact g1, g2, g3, g4⟩
  · rw [hK]
    simp only [am_up1]
    split
    · omega
    · exact h8 a ha
theorem so_R_xx {Z : so_Z} {ρ : Nat → Nat} {A : am_A} {c k : Nat} {H H1 : Heap} (hR : so_R Z ρ A H) (hs : H.size ≤ H1.size) (hq : ∀ q : Nat, q < H.size → H1[q]? = H[q]?) : so_R Z ρ (am_xx A c k) H1 := by
  obtain ⟨⟨h1, h2, h3, h4⟩, h5⟩ := hR
  exact ⟨⟨h1, h2.kept fun k x hx => hq _ ((h2 k x hx).lt), h3, Nat.le_trans h4 hs⟩, h5⟩
/-- a body's contract where the class has natives of its own, this method not -/
theorem so_ofW {l : Launch} {y : MethodName} {ws ws' : List Cond} {rm : Room} {Pc : Array Value → State → Prop} {Qc : Array Value → State → Outcome → State → Prop} {XC : String → State → State → Prop} {mc ms : Nat} {free : Addr → Prop} {cc : ByteArray} {maxL : Nat} {ret : Option FieldType}
    (hy : plainFor y = true) (hw : ws = Cond.code y cc maxL ret :: ws')
    (body : ∀ p e s m args below meth c s₁, BodyLoose p l y (headSpec ws rm) cc maxL ret e s m args below meth c s₁ → c.maxLocals = maxL → (∀ x ∈ c.exceptionTable.toList, False) → Pc args s →
      W p l e (headSpec ws rm).room s m args below meth c s.heap [] 0 0 (vx_MQ below Qc XC args s mc ms free) (entryFrame m args maxL)) : vx_Met l y ws rm Pc Qc XC mc ms free := by
  have hin : Cond.code y cc maxL ret ∈ ws := by rw [hw]; exact List.mem_cons_self
  refine MetFree.of_bodySF (code := cc) (maxLocals := maxL) (ret := ret) hy ?_ ?_
  · intro args s m h hn
    obtain ⟨meth, c, h1, h2, h3, h4, h5, h6, -, -⟩ := Cond.code_spec hn (atoms_spec (ws := ws) h _ hin)
    exact ⟨meth, c, h1, h2, h3, h4, h5, h6⟩
  · intro p e s m args below meth c s₁ B hml hP _
    have ht : ∀ x ∈ c.exceptionTable.toList, False := by
      obtain ⟨meth9, c9, h1, h2, -, -, -, -, h7, -⟩ := Cond.code_spec B.named (atoms_spec (ws := ws) B.pre _ hin)
      cases Option.some.inj (h1.symm.trans B.method)
      cases Option.some.inj (h2.symm.trans (Stand.of_body B).code)
      intro x hx
      rw [Array.isEmpty_iff.mp h7] at hx
      cases hx
    obtain ⟨t, a1, o, b1, b2, b3⟩ := body p e s m args below meth c s₁ B hml ht hP s₁ (by rw [B.state]; rfl) (Stand.of_body B)
    exact ⟨t, o, a1, b1, b2, b3⟩
/-- what is asked of a method that is called -/
def so_my (Z : so_Z) (y : Nat) : Prop := plainFor (zY Z y) = true ∧ ((am_hs (zP Z) y = [] ∧ Cond.code (zY Z y) (zB Z y) (so_ml Z y) (zR Z y) ∈ zT Z) ∨ ∃ hh, Cond.codeWith (zY Z y) (zB Z y) (so_ml Z y) (zR Z y) hh ∈ zT Z ∧ am_hs (zP Z) y ≠ [] ∧ so_hx Z (zY Z y).cls (tableOf hh) (am_hs (zP Z) y) ∧ plainName (zY Z y).cls = true)
theorem so_ends {Z : so_Z} {l : Launch} {y : Nat} {p : Program} {e : Env} {R : Room} {s : State} {mid : MethodId} {args : Array Value} {below : List Frame} {meth : Method} {c : Code} {ρ : Nat → Nat} {n : Nat} {r : (Option Value ⊕ Nat) × am_A} {C0 S0 : Nat} (hM : so_M Z l y p s mid args meth c) (hC0 : C0 ≤ am_C r.2) (hS0 : S0 ≤ am_S r.2) (hRf : 10 ≤ R.frames) (hRl : 200 ≤ R.locals) (hRc : am_C r.2 ≤ R.cells + C0) (hRs : am_S r.2 ≤ R.slots + S0) :
    so_E Z l y p e R s mid args below meth c (vx_MQ below (so_Qc Z ρ n r) (so_XC Z ρ n r) args s (am_C r.2 - C0) (am_S r.2 - S0) (so_A Z)) C0 S0 ρ n r := by
  have hC := so_C_at hM
  obtain ⟨hx, hb, hml, hr, hown, hts, hK, -, hbs, hlk, hnm, htr⟩ := hM
  obtain ⟨o, A⟩ := r
  cases o with
  | inl v =>
    intro ρ' H' locs' cells' slots' pc' arr' hag hR' hV' hc' hs' hdg hrt
    have hc' : cells' + C0 = am_C A := hc'
    have hs' : slots' + S0 = am_S A := hs'
    have ec : am_C A - C0 = cells' := by omega
    have es : am_S A - S0 = slots' := by omega
    refine vx_ret ?_
    show W p l e R s mid args below meth c H' locs' cells' slots' (MQ below (so_Qc Z ρ n (.inl v, A)) args s (am_C A - C0) (am_S A - S0) (so_A Z)) _
    rw [ec, es]
    have hq : ∀ (w : Option Value), w = v.map (rl_cv ρ') → ∀ t : State, t.heap = H' → s.WarmedH t.vm → so_Qc Z ρ n (.inl v, A) args s (.returned w) t := fun w hw t ht _ => ⟨v, ρ', rfl, by rw [hw], hag, by rw [ht]; exact hR', hV'.F ht⟩
    cases v with
    | none => exact W.vret hx hb (hr.trans hrt) (hq none rfl) hV'.2.2 hdg
    | some v =>
      cases v with
      | int x =>
        obtain ⟨ty, h1, h2⟩ := hrt
        exact W.zret hx hb (hr.trans h1) h2 (hq (some (.int x)) rfl) hV'.2.2 hdg
      | long x => exact W.lret hx hb (hr.trans hrt) (hq (some (.long x)) rfl) hV'.2.2 hdg
      | null =>
        obtain ⟨rt, h1, h2⟩ := hrt
        exact W.aret hx hb (hr.trans h1) h2 (Or.inl rfl) (hq (some .null) rfl) hV'.2.2 hdg
      | ref a =>
        obtain ⟨rt, h1, h2⟩ := hrt
        exact W.aret hx hb (hr.trans h1) h2 (Or.inr ⟨_, rfl⟩) (hq (some (.ref (ρ' a))) rfl) hV'.2.2 hdg
      | _ => cases hrt
  | inr x =>
    refine ⟨?_, ?_⟩
    · intro ρ' H' locs' cells' slots' pc' arr' rest q ce hag hR' hV' hc' hs' hce hvm hcl hout
      have hc' : cells' + C0 = am_C A := hc'
      have hs' : slots' + S0 = am_S A := hs'
      exact vx_out hout hlk hce hvm hcl (fun t ht _ => ⟨x, ρ', rfl, rfl, hag, by rw [ht]; exact hR', hV'.F ht⟩) hV'.2.2 (by show cells' ≤ am_C A - C0; omega) (by show slots' ≤ am_S A - S0; omega)
    · intro A' ρ' H' locs' cells' slots' pc' ik ic names arr' rest hxx hag hR' hV' hc' hs' harr hfit hnames hlen hws h0 h3 h4 h7 hout hcat
      have e2 : am_xx A' 1 6 = A := hxx
      have ec : am_C A = am_C A' + 1 := by rw [← e2]; rfl
      have es : am_S A = am_S A' + 6 := by rw [← e2]; rfl
      have hRc : am_C A ≤ R.cells + C0 := hRc
      have hRs : am_S A ≤ R.slots + S0 := hRs
      refine vx_throw0 hx hb htr hown hfit hnames (hts _ (hws _ List.mem_cons_self).1) (hts _ (hws _ (List.mem_cons_of_mem _ List.mem_cons_self)).1) (fun w hw => hts _ (hws _ (List.mem_cons_of_mem _ (List.mem_cons_of_mem _ hw))).1) (fun w hw => (hws w hw).2) hC.2.2.2.2.1 hC.2.2.2.2.2.1 hV' (by rw [harr, hml]) h0 h3 h4 h7 hout (by omega) ?_ (by omega) (by omega) hlk (fun t _ hsz hkp => ⟨x, ρ', rfl, rfl, hag, ?_, ?_⟩) hV'.2.2 (by show cells' + 1 ≤ am_C A - C0; omega) (by show slots' + 6 ≤ am_S A - S0; omega)
      · rw [am_cat_eq]
        omega
      · show so_R Z ρ' A t.heap
        rw [← e2]
        exact so_R_xx hR' hsz hkp
      · exact ⟨Nat.le_trans hV'.1 hsz, fun q h1 h2 => (hkp q (Nat.lt_of_lt_of_le h1 hV'.1)).trans (hV'.2.1 q h1 h2)⟩
theorem so_met {Z : so_Z} {l : Launch} (hgw : so_gw Z) (htr : l.stackTraces = false) {d y : Nat} {As : List Value} {A : am_A} {r : (Option Value ⊕ Nat) × am_A} {ρ : Nat → Nat} {H : Heap} (hy : so_my Z y) (hT : so_T Z l d y 0 (am_pad (so_ml Z y) (am_ent As)) [] A r) (hw : so_W A) (hAs : ∀ v ∈ As, so_v (am_N A) v) (hlen : (am_ent As).length ≤ so_ml Z y) (hR : so_R Z ρ A H) :
    (∃ ws', vx_Met l (zY Z y) (Cond.code (zY Z y) (zB Z y) (so_ml Z y) (zR Z y) :: ws') (so_rm d (am_C r.2 - am_C A) (am_S r.2 - am_S A)) (so_Pc Z ρ H As) (so_Qc Z ρ (am_N A) r) (so_XC Z ρ (am_N A) r) (am_C r.2 - am_C A) (am_S r.2 - am_S A) (so_A Z) ∧ ws' = zG Z ∧ Cond.code (zY Z y) (zB Z y) (so_ml Z y) (zR Z y) ∈ zT Z) ∨
    (∃ hh, vx_Met l (zY Z y) (Cond.codeWith (zY Z y) (zB Z y) (so_ml Z y) (zR Z y) hh :: zG Z) (so_rm d (am_C r.2 - am_C A) (am_S r.2 - am_S A)) (so_Pc Z ρ H As) (so_Qc Z ρ (am_N A) r) (so_XC Z ρ (am_N A) r) (am_C r.2 - am_C A) (am_S r.2 - am_S A) (so_A Z) ∧ Cond.codeWith (zY Z y) (zB Z y) (so_ml Z y) (zR Z y) hh ∈ zT Z ∧ am_hs (zP Z) y ≠ []) := by
  obtain ⟨⟨m1, m2, m3, m4⟩, hT⟩ := hT hw ⟨so_pad_ok hAs, fun v hv => by cases hv⟩
  have body : ∀ (ws : List Cond) (p : Program) (e : Env) (s : State) (m : MethodId) (args : Array Value) (below : List Frame) (meth : Method) (c : Code) (s₁ : State), (∀ w ∈ zG Z, w ∈ ws) → BodyLoose p l (zY Z y) (headSpec ws (so_rm d (am_C r.2 - am_C A) (am_S r.2 - am_S A))) (zB Z y) (so_ml Z y) (zR Z y) e s m args below meth c s₁ → c.maxLocals = so_ml Z y → so_hh Z y c → so_Pc Z ρ H As args s →
      W p l e (so_rm d (am_C r.2 - am_C A) (am_S r.2 - am_S A)) s m args below meth c s.heap [] 0 0 (vx_MQ below (so_Qc Z ρ (am_N A) r) (so_XC Z ρ (am_N A) r) args s (am_C r.2 - am_C A) (am_S r.2 - am_S A) (so_A Z)) (entryFrame m args (so_ml Z y)) := by
    intro ws p e s m args below meth c s₁ hws B hml hh hv
    obtain ⟨rfl, hH, hK, hC, hN⟩ := hv
    have hts := atoms_spec (ws := ws) B.pre
    have hM : so_M Z l y p s m (As.map (rl_cv ρ)).toArray meth c := ⟨B.exec, B.bytes, hml, B.returns, findClass_of_methodNamed B.named, (fun w hw => by
      cases hg : goodWord w with
      | true => exact hts w (hws w (List.mem_filter.mpr ⟨hw, hg⟩))
      | false => exact (hgw w hw hg).1 _ _ _ _ rfl (hN w hw hg)), hK, by rw [hH]; exact hC, by rw [hH]; exact hR.1.2.2.2, B.notSynchronized, (name_of_methodNamed B.named B.method).1, htr⟩
    have hl := lv_entry (As.map (rl_cv ρ)) (n := so_ml Z y) (by rw [so_argsl]; exact hlen)
    rw [lg_entry_eq]
    refine hT p e _ s m _ below meth c _ s.heap [] 0 0 _ ρ (am_C A) (am_S A) hM hh (Nat.le_refl _) (Nat.le_refl _) (by omega) (by omega) ?_ ?_ (by rw [hH]; exact hR) va_S.rf (so_entry hl) (so_ends hM m2 m3 ?_ ?_ ?_ ?_)
    · show am_C r.2 ≤ (am_C r.2 - am_C A) + am_C A
      omega
    · show am_S r.2 ≤ (am_S r.2 - am_S A) + am_S A
      omega
    · show 10 ≤ d + 24
      omega
    · show 200 ≤ 64 * d + 512
      omega
    · show am_C r.2 ≤ (am_C r.2 - am_C A) + am_C A
      omega
    · show am_S r.2 ≤ (am_S r.2 - am_S A) + am_S A
      omega
  rcases hy with ⟨hpl, ⟨hno, hcw⟩ | ⟨hh, hcw, hne, hhx, hpn⟩⟩
  · refine Or.inl ⟨zG Z, so_ofW hpl rfl fun p e s m args below meth c s₁ B hml hex hv => ?_, rfl, hcw⟩
    refine body _ p e s m args below meth c s₁ (fun w hw => List.mem_cons_of_mem _ hw) B hml ?_ hv
    unfold so_hh
    rw [hno]
    cases he : c.exceptionTable.toList with
    | nil => trivial
    | cons z0 zs => exact (hex z0 (by rw [he]; exact List.mem_cons_self)).elim
  · refine Or.inr ⟨hh, vx_ofWH hpn rfl fun p e s m args below meth c s₁ B hml hv => ?_, hcw, hne⟩
    refine body _ p e s m args below meth c s₁ (fun w hw => List.mem_cons_of_mem _ hw) B hml ?_ hv
    unfold so_hh
    rw [vx_table (x := zY Z y) B (atoms_spec (ws := Cond.codeWith (zY Z y) (zB Z y) (so_ml Z y) (zR Z y) hh :: zG Z) B.pre _ List.mem_cons_self)]
    exact hhx
