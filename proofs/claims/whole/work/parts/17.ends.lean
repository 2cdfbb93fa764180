/-! ENDS of a method, raised exceptions, rows copied -/
section Ends9
variable {Z : so_Z} {l : Launch} {g : am_G} {d m pc : Nat} {ls : List (Option Value)} {st : List Value} {A : am_A} {r : (Option Value ⊕ Nat) × am_A} {d1 d2 : List Nat}
theorem so_end {v : Option Value} (hdg : decode (zB Z m) pc = .ok (so_ri v, 1)) (hrt : so_rt Z m v) (hst : st = v.toList) (hs : some (Sum.inl v, A) = some r) : so_T Z l d m pc ls st A r := by
  cases hs
  subst hst
  intro hw hL
  refine ⟨⟨Nat.le_refl _, Nat.le_refl _, Nat.le_refl _, hw, ?_⟩, ?_⟩
  · cases v with
    | none => trivial
    | some v => exact hL.2 v (by simp)
  · intro p e R s mid args below meth c Q H locs cells slots arr ρ C0 S0 hM hh hd hl hc hs hRc hRs hR hV hls hE
    exact hE ρ H locs cells slots pc arr (fun _ _ => rfl) hR hV hc hs hdg hrt
theorem so_raise {ik ic x : Nat} {names : List String} (hx6 : 0 < x ∧ x < 6) (hcat : am_cat st ≤ 8) (hfit : Bundle.fit (so_x x) = true) (hnames : ∀ n ∈ names, Bundle.fit n = true) (hlen : names.length ≤ 6) (hws : ∀ w ∈ Cond.classLink (zY Z m).cls ik (so_x x) :: Cond.initialized (so_x x) :: vx_at0 (zY Z m).cls ic (so_x x) names, w ∈ zT Z ∧ vx_ot w = true)
    (h0 : decode (zB Z m) pc = .ok (.new ik, 3)) (h3 : decode (zB Z m) (pc + 3) = .ok (.dup, 1)) (h4 : decode (zB Z m) (pc + 4) = .ok (.invokespecial ic, 3)) (h7 : decode (zB Z m) (pc + 7) = .ok (.athrow, 1)) (hno : am_hs (zP Z) m = []) (hs : some (Sum.inr x, am_xx A 1 6) = some r) : so_T Z l d m pc ls st A r := by
  cases hs
  intro hw hL
  refine ⟨⟨Nat.le_refl _, by show am_C A ≤ am_C A + 1; omega, by show am_S A ≤ am_S A + 6; omega, hw, hx6⟩, ?_⟩
  intro p e R s mid args below meth c Q H locs cells slots arr ρ C0 S0 hM hh hd hl hc hs hRc hRs hR hV hls hE
  refine hE.2 A ρ H locs cells slots pc ik ic names arr st rfl (fun _ _ => rfl) hR hV hc hs hls.1 hfit hnames hlen hws h0 h3 h4 h7 ?_ hcat
  intro z hz
  exfalso
  unfold so_hh at hh
  rw [hno] at hh
  cases he : c.exceptionTable.toList with
  | nil => rw [he] at hz; cases hz
  | cons z0 zs => rw [he] at hh; exact hh
theorem am_cat_eq (ρ : Nat → Nat) (st : List Value) : ((st.map (rl_cv ρ)).map fun v => v.category).sum = am_cat st := by
  induction st with
  | nil => rfl
  | cons v r ih =>
    rw [List.map_cons, List.map_cons, List.sum_cons, ih]
    cases v <;> rfl
/-- places of one row are written over another's -/
theorem so_copy {idx a b : Nat} {n dp sp : Int32} {rest : List Value} (hZ : so_k Z) (hl1 : Cond.methodLink (zY Z m).cls idx arraycopyName ∈ zT Z) (hl2 : Cond.native arraycopyName ∈ zT Z) (hl3 : Cond.static arraycopyName ∈ zT Z) (hl4 : Cond.initialized "java/lang/System" ∈ zT Z) (hdg : decode (zB Z m) pc = .ok (.invokestatic idx, 3)) (ha : am_K A a = 21) (hb : am_K A b = 21)
    (hn : ¬ (8 < am_cat rest ∨ n < 0 ∨ dp < 0 ∨ sp < 0 ∨ am_L A a < sp.toNatClampNeg + n.toNatClampNeg ∨ am_L A b < dp.toNatClampNeg + n.toNatClampNeg)) (h : so_T Z l d m (pc + 3) (am_dead d2 ls) rest (am_cp A a sp.toNatClampNeg b dp.toNatClampNeg n.toNatClampNeg) r) : so_T Z l d m pc ls (.int n :: .int dp :: .ref b :: .int sp :: .ref a :: rest) A r := by
  refine so_go h rfl rfl rfl (fun hw hL => ⟨hw, so_dead1 (st := []) (ls := []) d2 hL.1, so_t1 (so_t1 (so_t1 (so_t1 (so_t1 hL.2))))⟩) fun p e R s mid args below meth c Q H locs cells slots arr ρ hM hd hl hR hV hls kk => ?_
  obtain ⟨hx, hbb, hml, -, hown, hts, hK, -, hbs, -⟩ := hM
  simp only [not_or, Nat.not_lt] at hn
  obtain ⟨n0, n1, n2, n3, n4, n5⟩ := hn
  obtain ⟨q0, hi, hw⟩ := rl_get hR.1 (a := a) (by omega) (by omega)
  obtain ⟨q1, hi1, hw1⟩ := rl_get hR.1 (a := b) (by omega) (by omega)
  rw [rl_el_i (Or.inl ha), ha] at hw
  rw [rl_el_i (Or.inl hb), hb] at hw1
  have hfun : am_I (am_cp A a sp.toNatClampNeg b dp.toNatClampNeg n.toNatClampNeg) b = va_cpy (am_I A a) (am_I A b) sp.toNatClampNeg dp.toNatClampNeg n.toNatClampNeg := by
    funext k
    show (if b = b ∧ _ then _ else _) = _
    unfold va_cpy
    simp
  have hne : ∀ x, x ≠ b → am_I (am_cp A a sp.toNatClampNeg b dp.toNatClampNeg n.toNatClampNeg) x = am_I A x := by
    intro x hx
    funext k
    show (if x = b ∧ _ then _ else _) = _
    simp [hx]
  have he' : rl_el (zA Z) ρ (am_cp A a sp.toNatClampNeg b dp.toNatClampNeg n.toNatClampNeg) b = .inl (zA Z 0, am_L A b, .inl (va_cpy (am_I A a) (am_I A b) sp.toNatClampNeg dp.toNatClampNeg n.toNatClampNeg)) := by
    rw [rl_el_i (A := am_cp A a sp.toNatClampNeg b dp.toNatClampNeg n.toNatClampNeg) (Or.inl hb), hfun]
    show Sum.inl (zA Z (am_K A b - 21), _) = _
    rw [hb]
    rfl
  refine va_copyi hx hbb (by rw [hml]; exact hls.1.symm) hown (hts _ hl1) (hts _ hl2) (hts _ hl3) (hts _ hl4) hK hR.1.2.1 hR.1.2.2.1 hV q0 q1 0 0 hw hw1 rfl rfl rfl n3 n2 n1 n4 n5 (fun i hi => rfl) (by omega) ?_ hdg fun H1 locs1 hP hD hS => ?_
  · rw [am_cat_eq]
    have : nativeFrameWords "java/lang/System" "arraycopy" 5 = 7 := by decide +kernel
    omega
  · rw [← he'] at hP hD
    exact kk H1 locs1 arr (so_put hR (so_big hZ hR (by omega) (by omega)) hi1 rfl rfl rfl (fun x hx => hne x hx) (fun x hx => rfl) (fun x hx => rl_el_mono rfl rfl (hne x hx) rfl (fun _ => rfl)) hP hD (Nat.le_trans hbs hS.1)) hS (rl_dead d2 hls)
theorem so_named {D : va_G} {cl : List vw_C} {dA : Nat → ClassId} {s : State} (hK : va_K D cl (rl_tys dA) s) : s.vm.findClass "[I" = some (dA 0) := (hK.2 0 _ rfl).2
theorem so_clone {idx a : Nat} {rest : List Value} (hl1 : Cond.methodLink (zY Z m).cls idx ⟨"[I", "clone", "()Ljava/lang/Object;"⟩ ∈ zT Z) (hl2 : Cond.sameMethod "[I" "java/lang/Object" "clone" "()Ljava/lang/Object;" ∈ zT Z) (hl3 : Cond.native ⟨"java/lang/Object", "clone", "()Ljava/lang/Object;"⟩ ∈ zT Z) (hl4 : Cond.instanceMethod ⟨"java/lang/Object", "clone", "()Ljava/lang/Object;"⟩ ∈ zT Z)
    (hl5 : Cond.selects "[I" ⟨"[I", "clone", "()Ljava/lang/Object;"⟩ ⟨"java/lang/Object", "clone", "()Ljava/lang/Object;"⟩ ∈ zT Z) (hl6 : Cond.castable "[I" "java/lang/Cloneable" ∈ zT Z) (hdg : decode (zB Z m) pc = .ok (.invokevirtual idx, 3)) (hcat : am_cat rest ≤ 8) (ha : am_K A a = 21) (h : so_T Z l d m (pc + 3) (am_dead d2 ls) (.ref (am_N A) :: rest) (am_cl A a) r) : so_T Z l d m pc ls (.ref a :: rest) A r := by
  refine so_mk (n := am_L A a) h rfl rfl rfl (fun P h => so_t1 h) (fun hw b j x hx => ?_) fun p e R s mid args below meth c Q H locs cells slots arr ρ hw hM hd hl hsz hR hV hc hs kk => ?_
  · have hx : am_up1 (am_R A) (am_N A) (fun _ => none) b j = some x := hx
    unfold am_up1 at hx
    split at hx
    · cases hx
    · exact hw.2 b j x hx
  · obtain ⟨hx, hbb, hml, -, hown, hts, hK, -, hbs, -⟩ := hM
    obtain ⟨q0, hi, hw0⟩ := rl_get hR.1 (a := a) (by omega) (by omega)
    rw [rl_el_i (Or.inl ha), ha] at hw0
    have hKn : am_K (am_cl A a) (am_N A) = 21 := by show am_up1 (am_K A) (am_N A) 21 (am_N A) = 21; simp [am_up1]
    have he : rl_el (zA Z) (so_up ρ (am_N A) 0) (am_cl A a) (am_N A) = .inl (zA Z 0, am_L A a, .inl (am_I A a)) := by
      rw [rl_el_i (Or.inl hKn), hKn]
      have e1 : am_L (am_cl A a) (am_N A) = am_L A a := by show am_up1 (am_L A) (am_N A) (am_L A a) (am_N A) = _; simp [am_up1]
      have e2 : am_I (am_cl A a) (am_N A) = am_I A a := by show am_up1 (am_I A) (am_N A) (am_I A a) (am_N A) = _; simp [am_up1]
      rw [e1, e2]
    refine va_clone hx hbb (by rw [hml]; exact hsz.symm) hown (hts _ hl1) (hts _ hl2) (hts _ hl3) (hts _ hl4) (hts _ hl5) (va_Nw.of rfl (hts _ hl6)) hK hR.1.2.1 hR.1.2.2.1 hV (fun q hq => Nat.le_trans hbs hq) q0 0 hw0 rfl (so_named hK) ?_ (by omega) ?_ hc hs hdg fun q H1 hK1 hP hD hS => ?_
    · intro i v hv
      have hv : (arrV (zA Z 0) (am_L A a) (fun j => Value.int (am_I A a j))).slots[i]? = some v := hv
      have hlt : i < am_L A a := by
        have := (Array.getElem?_eq_some_iff.mp hv).1
        rw [arrV_size] at this
        exact this
      rw [arrV_read _ _ hlt] at hv
      cases hv
      rfl
    · rw [am_cat_eq]
      omega
    · have he2 : rl_el (zA Z) (so_up ρ (am_N A) q) (am_cl A a) (am_N A) = .inl (zA Z 0, am_L A a, .inl (am_I A a)) := by
        rw [← he, rl_el_i (Or.inl hKn), rl_el_i (Or.inl hKn)]
      have hP : va_P (zD Z) rl_cl (rl_ws (zA Z) ρ A ++ [(q, .inl (zA Z 0, am_L A a, .inl (am_I A a)))]) H1 := hP
      have hD : va_D (so_A Z) (rl_ws (zA Z) ρ A ++ [(q, .inl (zA Z 0, am_L A a, .inl (am_I A a)))]) := hD
      rw [← he2] at hP hD
      exact kk q H1 locs (so_Rpush hw hR ⟨by omega, by omega⟩ rfl rfl (fun x hx => by show am_up1 _ _ _ x = _; simp [am_up1, hx]; rfl) (fun x hx => by show am_up1 _ _ _ x = _; simp [am_up1, hx]; rfl) (fun x hx => by show am_up1 _ _ _ x = _; simp [am_up1, hx]; rfl) (fun x hx => by show am_up1 _ _ _ x = _; simp [am_up1, hx]; rfl) hP hD (Nat.le_trans hbs hS.1)) hS
theorem so_cast {idx a : Nat} {rest : List Value} (hl1 : Cond.classLink (zY Z m).cls idx "[I" ∈ zT Z) (hdg : decode (zB Z m) pc = .ok (.checkcast idx, 3)) (ha : am_K A a = 21) (h : so_T Z l d m (pc + 3) (am_dead d2 ls) (.ref a :: rest) A r) : so_T Z l d m pc ls (.ref a :: rest) A r := by
  refine so_gs h (fun _ h => h) fun p e R s mid args below meth c Q H locs cells slots arr ρ hM hR hV kk => ?_
  obtain ⟨hx, hb, -, -, hown, hts, hK, -, hbs, -⟩ := hM
  obtain ⟨q0, hi, hw0⟩ := rl_get hR.1 (a := a) (by omega) (by omega)
  rw [rl_el_i (Or.inl ha), ha] at hw0
  exact va_castA hx hb hown (hts _ hl1) hR.1.2.1 q0 hw0 (so_named hK) hdg kk
end Ends9
