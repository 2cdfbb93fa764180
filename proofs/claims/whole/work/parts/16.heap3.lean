/-! STEPS that make cells -/
def so_up (ρ : Nat → Nat) (n q : Nat) : Nat → Nat := fun i => if i = n then q else ρ i
theorem so_up_lt {ρ : Nat → Nat} {n q i : Nat} (h : i < n) : so_up ρ n q i = ρ i := if_neg (Nat.ne_of_lt h)
theorem so_up_at {ρ : Nat → Nat} {n q : Nat} : so_up ρ n q n = q := if_pos rfl
theorem am_nw_K (A : am_A) (t len sl : Nat) : am_K (am_nw A t len sl) = am_up1 (am_K A) (am_N A) t := rfl
theorem rl_el_mono {dA : Nat → ClassId} {ρ ρ1 : Nat → Nat} {A A' : am_A} {a : Nat} (hK : am_K A' a = am_K A a) (hL : am_L A' a = am_L A a) (hI : am_I A' a = am_I A a) (hJ : am_J A' a = am_J A a) (hR : ∀ j, (am_R A' a j).map ρ1 = (am_R A a j).map ρ) : rl_el dA ρ1 A' a = rl_el dA ρ A a := by
  have e2 : rl_fv ρ1 A' a = rl_fv ρ A a := by
    funext j
    unfold rl_fv
    rw [hK, hI, hJ, hR]
  unfold rl_el
  rw [hK, hL, hI, hJ, e2, funext hR]
/-- a new cell -/
theorem so_Rpush {Z : so_Z} {ρ : Nat → Nat} {A A' : am_A} {H H1 : Heap} (hw : so_W A) (hR : so_R Z ρ A H) {t q : Nat} (ht : 0 < t ∧ t < 40) (hN : am_N A' = am_N A + 1) (hK : am_K A' = am_up1 (am_K A) (am_N A) t) (hL : ∀ a, a ≠ am_N A → am_L A' a = am_L A a) (hI : ∀ a, a ≠ am_N A → am_I A' a = am_I A a) (hJ : ∀ a, a ≠ am_N A → am_J A' a = am_J A a) (hRr : ∀ a, a ≠ am_N A → am_R A' a = am_R A a)
    (hP : va_P (zD Z) rl_cl (rl_ws (zA Z) ρ A ++ [(q, rl_el (zA Z) (so_up ρ (am_N A) q) A' (am_N A))]) H1) (hD : va_D (so_A Z) (rl_ws (zA Z) ρ A ++ [(q, rl_el (zA Z) (so_up ρ (am_N A) q) A' (am_N A))])) (hs : zb Z ≤ H1.size) : so_R Z (so_up ρ (am_N A) q) A' H1 := by
  have h64 := hR.2.2.1
  have e : rl_ws (zA Z) (so_up ρ (am_N A) q) A' = rl_ws (zA Z) ρ A ++ [(q, rl_el (zA Z) (so_up ρ (am_N A) q) A' (am_N A))] := by
    have hids : rl_ids A' = rl_ids A ++ [am_N A] := by
      unfold rl_ids
      rw [hN, List.range_succ, List.filter_append, hK]
      congr 1
      · apply List.filter_congr
        intro x hx
        have hx := List.mem_range.mp hx
        simp [am_up1, Nat.ne_of_lt hx]
      · simp [am_up1, ht.1, ht.2]
    unfold rl_ws
    rw [hids, List.map_append]
    congr 1
    · apply List.map_congr_left
      intro a ha
      have ha := (rl_mem.mp ha).1
      have hne : a ≠ am_N A := Nat.ne_of_lt ha
      rw [so_up_lt ha, rl_el_mono (A := A) (ρ := ρ) (by rw [hK]; simp [am_up1, hne]) (hL a hne) (hI a hne) (hJ a hne) ?_]
      intro j
      rw [hRr a hne]
      cases hx : am_R A a j with
      | none => rfl
      | some x => exact congrArg some (so_up_lt (hw.2 a j x hx))
    · simp [so_up_at]
  refine ⟨⟨fun b hb => ?_, by rw [e]; exact hP, by rw [e]; exact hD, hs⟩, fun i hi => (so_up_lt (by omega)).trans (hR.2.1 i hi), by rw [hN]; omega, fun i hi => ?_, fun a ha => ?_⟩
  · rw [hN] at hb
    rw [hK]
    simp only [am_up1]
    rw [if_neg (by omega)]
    exact hR.1.1 b (by omega)
  · have hne : i ≠ am_N A := by omega
    obtain ⟨h1, h2, h3, h4⟩ := hR.2.2.2.1 i hi
    exact ⟨by rw [hK]; simp [am_up1, hne]; exact h1, by rw [hL i hne]; exact h2, by rw [hI i hne]; exact h3, by rw [hJ i hne]; exact h4⟩
  · rw [hK]
    simp only [am_up1]
    split
    · omega
    · exact hR.2.2.2.2 a ha
/-- a step that makes one cell of n places -/
theorem so_mk {Z : so_Z} {l : Launch} {d m pc pc' n : Nat} {ls : List (Option Value)} {st rest : List Value} {A A' : am_A} {dd : List Nat} {r : (Option Value ⊕ Nat) × am_A} (h : so_T Z l d m pc' (am_dead dd ls) (.ref (am_N A) :: rest) A' r)
    (hN : am_N A' = am_N A + 1) (hC : am_C A' = am_C A + 1) (hS : am_S A' = am_S A + n) (hst : ∀ P : Value → Prop, (∀ v ∈ st, P v) → ∀ v ∈ rest, P v) (hRn : so_W A → ∀ a j x, am_R A' a j = some x → x < am_N A)
    (k : ∀ (p : Program) (e : Env) (R : Room) (s : State) (mid : MethodId) (args : Array Value) (below : List Frame) (meth : Method) (c : Code) (Q : State → Prop) (H : Heap) (locs : List Loc) (cells slots : Nat) (arr : Array Slot) (ρ : Nat → Nat), so_W A →
      so_M Z l m p s mid args meth c → d + 24 ≤ R.frames → 64 * d + 512 ≤ R.locals → arr.size = so_ml Z m → so_R Z ρ A H → va_S (so_A Z) s.heap H locs → cells + 1 ≤ R.cells → slots + n ≤ R.slots →
      (∀ (q : Nat) (H' : Heap) (locs' : List Loc), so_R Z (so_up ρ (am_N A) q) A' H' → va_S (so_A Z) s.heap H' locs' → W p l e R s mid args below meth c H' locs' (cells + 1) (slots + n) Q (F0 mid pc' arr (.ref q :: rest.map (rl_cv ρ)))) →
      W p l e R s mid args below meth c H locs cells slots Q (F0 mid pc arr (st.map (rl_cv ρ)))) : so_T Z l d m pc ls st A r := by
  intro hw hL
  have hvm : ∀ v, so_v (am_N A) v → so_v (am_N A') v := fun v hv => so_v_mono hv (by omega)
  obtain ⟨⟨a1, a2, a3, a4⟩, b⟩ := h ⟨by have := hw.1; omega, fun a j x hx => by have := hRn hw a j x hx; omega⟩ ⟨so_dead1 (st := []) (ls := []) dd fun j v hj => hvm v (hL.1 j v hj), so_cs (by show am_N A < am_N A'; omega) (hst _ fun v hv => hvm v (hL.2 v hv))⟩
  refine ⟨⟨by omega, by omega, by omega, a4⟩, ?_⟩
  intro p e R s mid args below meth c Q H locs cells slots arr ρ C0 S0 hM hh hd hl hc hs hRc hRs hR hV hls hE
  refine k p e R s mid args below meth c Q H locs cells slots arr ρ hw hM hd hl hls.1 hR hV (by omega) (by omega) fun q H' locs' hR' hV' => ?_
  have := b p e R s mid args below meth c Q H' locs' (cells + 1) (slots + n) arr (so_up ρ (am_N A) q) C0 S0 hM hh hd hl (by omega) (by omega) hRc hRs hR' hV' (rl_dead dd (so_has_mono (st := st) hls hL fun i hi => so_up_lt hi)) (so_E_mono hE (by omega) fun i hi => so_up_lt hi)
  rw [List.map_cons, so_st_mono (ρ := ρ) (n := am_N A) (hst _ hL.2) (fun i hi => so_up_lt hi)] at this
  rw [show rl_cv (so_up ρ (am_N A) q) (.ref (am_N A)) = .ref q from congrArg Value.ref so_up_at] at this
  exact this
theorem am_nw_R {A : am_A} {t len sl : Nat} (hw : so_W A) : ∀ a j x, am_R (am_nw A t len sl) a j = some x → x < am_N A := by
  intro a j x hx
  have hx : am_up1 (am_R A) (am_N A) (fun _ => none) a j = some x := hx
  unfold am_up1 at hx
  split at hx
  · cases hx
  · exact hw.2 a j x hx
section Heap3
variable {Z : so_Z} {l : Launch} {g : am_G} {d m pc : Nat} {ls : List (Option Value)} {st : List Value} {A : am_A} {r : (Option Value ⊕ Nat) × am_A} {d1 d2 : List Nat}
/-- what 'new' asks -/
def so_nw (Z : so_Z) (own : String) (idx a n : Nat) : Prop := ∃ (C : String) (T : u_T) (ty0 : Nat → FieldType), rl_cl[a - 1]? = some (C, T, n) ∧ 0 < a ∧ a < 20 ∧ rl_n a = n ∧ (∀ w ∈ u_ws C T n, w ∈ zT Z) ∧ (∀ k, k < n → parseFieldDescriptor (T k).2.2.1 = some (ty0 k)) ∧
  Cond.classLink own idx C ∈ zT Z ∧ Cond.instantiable C n ∈ zT Z ∧ Cond.initialized C ∈ zT Z ∧ ∀ k, k < n → defaultValue (ty0 k) = (if rl_c a k = 2 then .long 0 else if rl_c a k = 4 then .null else .int 0)
theorem so_new {idx a n : Nat} (hf : so_nw Z (zY Z m).cls idx a n) (hdg : decode (zB Z m) pc = .ok (.new idx, 3)) (h : so_T Z l d m (pc + 3) (am_dead d2 ls) (.ref (am_N A) :: st) (am_nw A a 0 n) r) : so_T Z l d m pc ls st A r := by
  refine so_mk (n := n) h rfl rfl rfl (fun P h => h) (fun hw => am_nw_R hw) fun p e R s mid args below meth c Q H locs cells slots arr ρ hw hM hd hl hsz hR hV hc hs kk => ?_
  obtain ⟨hx, hb, -, -, hown, hts, hK, -, hbs, -⟩ := hM
  obtain ⟨C, T, ty0, hcl, h0, h20, hn, hin, hty, hl1, hl2, hl3, hdf⟩ := hf
  have hKn : am_K (am_nw A a 0 n) (am_N A) = a := by rw [am_nw_K]; simp [am_up1]
  have hfs : ∀ q, rl_el (zA Z) (so_up ρ (am_N A) q) (am_nw A a 0 n) (am_N A) = .inr (a - 1, (List.range n).map (fun k => if rl_c a k = 2 then Value.long 0 else if rl_c a k = 4 then .null else .int 0)) := by
    intro q
    rw [rl_el_o (by rw [hKn]; exact h20), hKn, hn]
    congr 2
    apply List.map_congr_left
    intro k _
    unfold rl_fv
    rw [hKn]
    have e1 : am_J (am_nw A a 0 n) (am_N A) k = 0 := by show am_up1 (am_J A) (am_N A) (fun _ => 0) (am_N A) k = 0; simp [am_up1]
    have e2 : am_R (am_nw A a 0 n) (am_N A) k = none := by show am_up1 (am_R A) (am_N A) (fun _ => none) (am_N A) k = none; simp [am_up1]
    have e3 : am_I (am_nw A a 0 n) (am_N A) k = 0 := by show am_up1 (am_I A) (am_N A) (fun _ => 0) (am_N A) k = 0; simp [am_up1]
    rw [e1, e2, e3]
    rfl
  refine va_new (fs := (List.range n).map (fun k => if rl_c a k = 2 then Value.long 0 else if rl_c a k = 4 then .null else .int 0)) hx hb hts hin ty0 hty hown (hts _ hl1) (hts _ hl2) (hts _ hl3) hK hR.1.2.1 hR.1.2.2.1 hV (fun q hq => Nat.le_trans hbs hq) hcl (fun j hj => ?_) hc hs hdg fun q H1 hP hD hS => ?_
  · rw [hdf j hj]
    simp [vp_V, hj]
  · rw [← hfs q] at hP hD
    exact kk q H1 locs (so_Rpush hw hR ⟨h0, by omega⟩ rfl (am_nw_K A a 0 n) (fun x hx => by show am_up1 _ _ _ x = _; simp [am_up1, hx]; rfl) (fun x hx => by show am_up1 _ _ _ x = _; simp [am_up1, hx]; rfl) (fun x hx => by show am_up1 _ _ _ x = _; simp [am_up1, hx]; rfl) (fun x hx => by show am_up1 _ _ _ x = _; simp [am_up1, hx]; rfl) hP hD (Nat.le_trans hbs hS.1)) hS
/-- the class of a row of such places is the one that the tables know -/
theorem so_cA {D : va_G} {cl : List vw_C} {tys : List (ClassId × FieldType)} {s : State} {t0 : Nat} {c1 c2 : ClassId} {ty : FieldType} (h1 : va_K D cl tys s) (ht : tys[t0]? = some (c1, ty)) (h2 : va_K D cl (tys ++ [(c2, ty)]) s) (hty : ∀ t, ty = .array t → True) : c2 = c1 := by
  have e1 := (h1.2 t0 _ ht).2
  have e2 := (h2.2 tys.length (c2, ty) (by simp)).2
  cases ty with
  | object C =>
    obtain ⟨_, _, -, -, -, a4⟩ := e1
    obtain ⟨_, _, -, -, -, b4⟩ := e2
    exact Option.some.inj (b4.symm.trans a4)
  | _ => exact Option.some.inj (Eq.trans (Eq.symm e2) e1)
/-- a row of numbers -/
theorem so_newa {at1 : ArrayType} {ty : FieldType} {t w t0 : Nat} {n : Int32} {rest : List Value} (hat : newarray.typeOf at1 = ty) (hw0 : componentBytes ty = w) (ht : (t = 21 ∧ t0 = 0 ∧ ty = .int) ∨ (t = 22 ∧ t0 = 1 ∧ ty = .long) ∨ (t = 23 ∧ t0 = 2 ∧ ty = .byte) ∨ (t = 24 ∧ t0 = 3 ∧ ty = .boolean)) (hwd : Cond.arrayClass ty ∈ zT Z) (hdg : decode (zB Z m) pc = .ok (.newarray at1, 2)) (hn : ¬ (n < 0 ∨ 536870912 < n.toNatClampNeg * w)) (h : so_T Z l d m (pc + 2) (am_dead d2 ls) (.ref (am_N A) :: rest) (am_nw A t n.toNatClampNeg n.toNatClampNeg) r) : so_T Z l d m pc ls (.int n :: rest) A r := by
  refine so_mk (n := n.toNatClampNeg) h rfl rfl rfl (fun P h => so_t1 h) (fun hw => am_nw_R hw) fun p e R s mid args below meth c Q H locs cells slots arr ρ hw hM hd hl hsz hR hV hc hs kk => ?_
  obtain ⟨hx, hb, -, -, hown, hts, hK, -, hbs, -⟩ := hM
  have h40 : 0 < t ∧ t < 40 := by omega
  have hKn : am_K (am_nw A t n.toNatClampNeg n.toNatClampNeg) (am_N A) = t := by rw [am_nw_K]; simp [am_up1]
  have hLn : am_L (am_nw A t n.toNatClampNeg n.toNatClampNeg) (am_N A) = n.toNatClampNeg := by show am_up1 _ _ _ _ = _; simp [am_up1]
  have e1 : am_J (am_nw A t n.toNatClampNeg n.toNatClampNeg) (am_N A) = fun _ => 0 := by show am_up1 (am_J A) (am_N A) (fun _ => 0) (am_N A) = _; simp [am_up1]
  have e3 : am_I (am_nw A t n.toNatClampNeg n.toNatClampNeg) (am_N A) = fun _ => 0 := by show am_up1 (am_I A) (am_N A) (fun _ => 0) (am_N A) = _; simp [am_up1]
  have fin : ∀ (a0 : vp_A) (q : Nat) (H1 : Heap), (∀ ρ1, rl_el (zA Z) ρ1 (am_nw A t n.toNatClampNeg n.toNatClampNeg) (am_N A) = .inl (zA Z t0, a0)) → va_P (zD Z) rl_cl (rl_ws (zA Z) ρ A ++ [(q, .inl (zA Z t0, a0))]) H1 → va_D (so_A Z) (rl_ws (zA Z) ρ A ++ [(q, .inl (zA Z t0, a0))]) → va_S (so_A Z) s.heap H1 locs → W p l e R s mid args below meth c H1 locs (cells + 1) (slots + n.toNatClampNeg) Q (F0 mid (pc + 2) arr (.ref q :: rest.map (rl_cv ρ))) := by
    intro a0 q H1 he hP hD hS
    rw [← he (so_up ρ (am_N A) q)] at hP hD
    exact kk q H1 locs (so_Rpush hw hR h40 rfl (am_nw_K A t n.toNatClampNeg n.toNatClampNeg) (fun x hx => by show am_up1 _ _ _ x = _; simp [am_up1, hx]; rfl) (fun x hx => by show am_up1 _ _ _ x = _; simp [am_up1, hx]; rfl) (fun x hx => by show am_up1 _ _ _ x = _; simp [am_up1, hx]; rfl) (fun x hx => by show am_up1 _ _ _ x = _; simp [am_up1, hx]; rfl) hP hD (Nat.le_trans hbs hS.1)) hS
  have hn0 : ¬ n < 0 := fun q => hn (Or.inl q)
  have hnb : n.toNatClampNeg * componentBytes ty ≤ 536870912 := by rw [hw0]; exact Nat.not_lt.mp fun q => hn (Or.inr q)
  rcases ht with ⟨rfl, rfl, rfl⟩ | ⟨rfl, rfl, rfl⟩ | ⟨rfl, rfl, rfl⟩ | ⟨rfl, rfl, rfl⟩
  · refine va_newa (a0 := (n.toNatClampNeg, .inl (fun _ => 0))) hx hb (by rw [hat]; exact hts _ hwd) hat hK hR.1.2.1 hR.1.2.2.1 hV (fun q hq => Nat.le_trans hbs hq) (fun cA => rfl) hn0 rfl hnb hc hs hdg fun q cA H1 hK1 hP hD hS => ?_
    have := so_cA (t0 := 0) hK rfl hK1 (fun _ _ => trivial)
    subst this
    exact fin _ q H1 (fun ρ1 => by rw [rl_el_i (by rw [hKn]; omega), hKn, hLn, e3]) hP hD hS
  · refine va_newa (a0 := (n.toNatClampNeg, .inr (.inl (fun _ => 0)))) hx hb (by rw [hat]; exact hts _ hwd) hat hK hR.1.2.1 hR.1.2.2.1 hV (fun q hq => Nat.le_trans hbs hq) (fun cA => rfl) hn0 rfl hnb hc hs hdg fun q cA H1 hK1 hP hD hS => ?_
    have := so_cA (t0 := 1) hK rfl hK1 (fun _ _ => trivial)
    subst this
    exact fin _ q H1 (fun ρ1 => by rw [rl_el_j hKn, hLn, e1]) hP hD hS
  · refine va_newa (a0 := (n.toNatClampNeg, .inl (fun _ => 0))) hx hb (by rw [hat]; exact hts _ hwd) hat hK hR.1.2.1 hR.1.2.2.1 hV (fun q hq => Nat.le_trans hbs hq) (fun cA => rfl) hn0 rfl hnb hc hs hdg fun q cA H1 hK1 hP hD hS => ?_
    have := so_cA (t0 := 2) hK rfl hK1 (fun _ _ => trivial)
    subst this
    exact fin _ q H1 (fun ρ1 => by rw [rl_el_i (by rw [hKn]; omega), hKn, hLn, e3]) hP hD hS
  · refine va_newa (a0 := (n.toNatClampNeg, .inl (fun _ => 0))) hx hb (by rw [hat]; exact hts _ hwd) hat hK hR.1.2.1 hR.1.2.2.1 hV (fun q hq => Nat.le_trans hbs hq) (fun cA => rfl) hn0 rfl hnb hc hs hdg fun q cA H1 hK1 hP hD hS => ?_
    have := so_cA (t0 := 3) hK rfl hK1 (fun _ _ => trivial)
    subst this
    exact fin _ q H1 (fun ρ1 => by rw [rl_el_i (by rw [hKn]; omega), hKn, hLn, e3]) hP hD hS
/-- a row of objects -/
theorem so_newq {idx t : Nat} {C : String} {n : Int32} {rest : List Value} (ht : (t = 26 ∧ C = "OakYard$Tree") ∨ (t = 27 ∧ C = "OakYard$Piece") ∨ (t = 28 ∧ C = "OakYard$Ship") ∨ (t = 29 ∧ C = "OakYard$Text")) (hl1 : Cond.classLink (zY Z m).cls idx C ∈ zT Z) (hl2 : Cond.arrayOver (.object C) ∈ zT Z) (hdg : decode (zB Z m) pc = .ok (.anewarray idx, 3)) (hn : ¬ (n < 0 ∨ 536870912 < n.toNatClampNeg * 4)) (h : so_T Z l d m (pc + 3) (am_dead d2 ls) (.ref (am_N A) :: rest) (am_nw A t n.toNatClampNeg n.toNatClampNeg) r) : so_T Z l d m pc ls (.int n :: rest) A r := by
  refine so_mk (n := n.toNatClampNeg) h rfl rfl rfl (fun P h => so_t1 h) (fun hw => am_nw_R hw) fun p e R s mid args below meth c Q H locs cells slots arr ρ hw hM hd hl hsz hR hV hc hs kk => ?_
  obtain ⟨hx, hb, -, -, hown, hts, hK, -, hbs, -⟩ := hM
  have h40 : 0 < t ∧ t < 40 := by omega
  have hKn : am_K (am_nw A t n.toNatClampNeg n.toNatClampNeg) (am_N A) = t := by rw [am_nw_K]; simp [am_up1]
  have hLn : am_L (am_nw A t n.toNatClampNeg n.toNatClampNeg) (am_N A) = n.toNatClampNeg := by show am_up1 _ _ _ _ = _; simp [am_up1]
  have e2 : ∀ ρ1 : Nat → Nat, (fun j => (am_R (am_nw A t n.toNatClampNeg n.toNatClampNeg) (am_N A) j).map ρ1) = fun _ => none := by
    intro ρ1
    funext j
    show Option.map ρ1 (am_up1 (am_R A) (am_N A) (fun _ => none) (am_N A) j) = none
    simp [am_up1]
  have hn0 : ¬ n < 0 := fun q => hn (Or.inl q)
  have hnb : n.toNatClampNeg * 4 ≤ 536870912 := Nat.not_lt.mp fun q => hn (Or.inr q)
  have htt : (rl_tys (zA Z))[t - 21]? = some (zA Z (t - 21), .object C) := by rcases ht with ⟨rfl, rfl⟩ | ⟨rfl, rfl⟩ | ⟨rfl, rfl⟩ | ⟨rfl, rfl⟩ <;> rfl
  refine va_newq hx hb hown (hts _ hl1) (va_AO.of (A := args) (hts _ hl2)) hK hR.1.2.1 hR.1.2.2.1 hV (fun q hq => Nat.le_trans hbs hq) hn0 rfl hnb hc hs hdg fun q cA H1 hK1 hP hD hS => ?_
  have := so_cA hK htt hK1 (fun _ _ => trivial)
  subst this
  have he : rl_el (zA Z) (so_up ρ (am_N A) q) (am_nw A t n.toNatClampNeg n.toNatClampNeg) (am_N A) = .inl (zA Z (t - 21), n.toNatClampNeg, .inr (.inr (.inr (.inr (fun _ => none))))) := by rw [rl_el_q (by rw [hKn]; omega), hKn, hLn, e2]
  rw [← he] at hP hD
  exact kk q H1 locs (so_Rpush hw hR h40 rfl (am_nw_K A t n.toNatClampNeg n.toNatClampNeg) (fun x hx => by show am_up1 _ _ _ x = _; simp [am_up1, hx]; rfl) (fun x hx => by show am_up1 _ _ _ x = _; simp [am_up1, hx]; rfl) (fun x hx => by show am_up1 _ _ _ x = _; simp [am_up1, hx]; rfl) (fun x hx => by show am_up1 _ _ _ x = _; simp [am_up1, hx]; rfl) hP hD (Nat.le_trans hbs hS.1)) hS
end Heap3
