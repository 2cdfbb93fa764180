/-! STEPS: rows read, constants of the pool, new cells, ends -/
section Heap2
variable {Z : so_Z} {l : Launch} {g : am_G} {d m pc : Nat} {ls : List (Option Value)} {st : List Value} {A : am_A} {r : (Option Value ⊕ Nat) × am_A} {d1 d2 : List Nat}
theorem so_rho {ρ : Nat → Nat} {H : Heap} {i : Nat} (hR : so_R Z ρ A H) (hi : i < 64) : ρ i = zr Z i := hR.2.1 i hi
theorem so_lt64 {ρ : Nat → Nat} {H : Heap} {a : Nat} (hR : so_R Z ρ A H) (h : 41 ≤ am_K A a) : a < 64 := by
  rcases Nat.lt_or_ge a 64 with q | q
  · exact q
  · have := hR.2.2.2.2 a q
    omega
theorem so_iald {q : Nat} {j : Int32} {rest : List Value} (hZ : so_k Z) (hdg : decode (zB Z m) pc = .ok (.iaload, 1)) (hq : am_K A q = 21 ∨ am_K A q = 41) (hin : ¬ (j < 0 ∨ am_L A q ≤ j.toNatClampNeg)) (h : so_T Z l d m (pc + 1) (am_dead d2 ls) (.int (am_I A q j.toNatClampNeg) :: rest) A r) : so_T Z l d m pc ls (.int j :: .ref q :: rest) A r := by
  refine so_gs h (fun hw h => so_cs trivial (so_t1 (so_t1 h))) fun p e R s mid args below meth c Q H locs cells slots arr ρ hM hR hV kk => ?_
  have hC := so_C_at hM
  obtain ⟨hx, hb, -, -, hown, hts, hK, -, hbs, -⟩ := hM
  rcases hq with hq | hq
  · obtain ⟨q0, hi, hw⟩ := rl_get hR.1 (a := q) (by omega) (by omega)
    rw [rl_el_i (Or.inl hq), hq] at hw
    exact va_iald hx hb hK hR.1.2.1 q0 0 hw rfl hin hdg kk
  · have h64 := so_lt64 hR (a := q) (by omega)
    obtain ⟨e1, e2, e3, e4⟩ := hR.2.2.2.1 q h64
    have hq0 : q = 0 := (hZ q h64).2.1 (by rw [← e1]; exact hq)
    subst hq0
    show W p l e R s mid args below meth c H locs cells slots Q (F0 mid pc arr (.int j :: .ref (ρ 0) :: _))
    rw [so_rho hR h64]
    rw [e2] at hin
    have hz := (hZ 0 h64).2.2.2.2
    refine va_sld hx hb hC.1 (Nat.lt_of_lt_of_le hz hbs) (Nat.not_le.mpr hz) hV hin hdg ?_
    rw [← e3]
    exact kk
theorem so_lald {q : Nat} {j : Int32} {rest : List Value} (hZ : so_k Z) (hdg : decode (zB Z m) pc = .ok (.laload, 1)) (hq : am_K A q = 22 ∨ am_K A q = 42) (hin : ¬ (j < 0 ∨ am_L A q ≤ j.toNatClampNeg)) (h : so_T Z l d m (pc + 1) (am_dead d2 ls) (.long (am_J A q j.toNatClampNeg) :: rest) A r) : so_T Z l d m pc ls (.int j :: .ref q :: rest) A r := by
  refine so_gs h (fun hw h => so_cs trivial (so_t1 (so_t1 h))) fun p e R s mid args below meth c Q H locs cells slots arr ρ hM hR hV kk => ?_
  have hC := so_C_at hM
  obtain ⟨hx, hb, -, -, hown, hts, hK, -, hbs, -⟩ := hM
  rcases hq with hq | hq
  · obtain ⟨q0, hi, hw⟩ := rl_get hR.1 (a := q) (by omega) (by omega)
    rw [rl_el_j hq] at hw
    exact va_lald hx hb hK hR.1.2.1 q0 1 hw rfl hin hdg kk
  · have h64 := so_lt64 hR (a := q) (by omega)
    obtain ⟨e1, e2, e3, e4⟩ := hR.2.2.2.1 q h64
    have hq0 : q = 1 := (hZ q h64).2.2.1 (by rw [← e1]; exact hq)
    subst hq0
    show W p l e R s mid args below meth c H locs cells slots Q (F0 mid pc arr (.int j :: .ref (ρ 1) :: _))
    rw [so_rho hR h64]
    rw [e2] at hin
    refine va_tl hx hb hC.2.2.1 hV hin rfl hdg ?_
    rw [← e4]
    exact kk
theorem so_bald {q : Nat} {j : Int32} {rest : List Value} (hdg : decode (zB Z m) pc = .ok (.baload, 1)) (hq : am_K A q = 23 ∨ am_K A q = 24) (hin : ¬ (j < 0 ∨ am_L A q ≤ j.toNatClampNeg)) (h : so_T Z l d m (pc + 1) (am_dead d2 ls) (.int (am_I A q j.toNatClampNeg) :: rest) A r) : so_T Z l d m pc ls (.int j :: .ref q :: rest) A r := by
  refine so_gs h (fun hw h => so_cs trivial (so_t1 (so_t1 h))) fun p e R s mid args below meth c Q H locs cells slots arr ρ hM hR hV kk => ?_
  obtain ⟨hx, hb, -, -, hown, hts, hK, -, hbs, -⟩ := hM
  obtain ⟨q0, hi, hw⟩ := rl_get hR.1 (a := q) (by omega) (by omega)
  rw [rl_el_i (Or.inr hq)] at hw
  rcases hq with hq | hq
  · rw [hq] at hw
    exact va_bald hx hb hK hR.1.2.1 q0 2 hw rfl hin hdg kk
  · rw [hq] at hw
    exact va_zald hx hb hK hR.1.2.1 q0 3 hw rfl hin hdg kk
theorem so_aald {q a : Nat} {j : Int32} {rest : List Value} (ha : 25 ≤ a ∧ a < 30) (hdg : decode (zB Z m) pc = .ok (.aaload, 1)) (hq : am_K A q = a) (hin : ¬ (j < 0 ∨ am_L A q ≤ j.toNatClampNeg)) {v : Value} (ho : so_W A → so_v (am_N A) v) (hv : ∀ ρ, va_rf ((am_R A q j.toNatClampNeg).map ρ) = rl_cv ρ v) (h : so_T Z l d m (pc + 1) (am_dead d2 ls) (v :: rest) A r) : so_T Z l d m pc ls (.int j :: .ref q :: rest) A r := by
  refine so_gs h (fun hw h => so_cs (ho hw) (so_t1 (so_t1 h))) fun p e R s mid args below meth c Q H locs cells slots arr ρ hM hR hV kk => ?_
  obtain ⟨hx, hb, -, -, hown, hts, hK, -, hbs, -⟩ := hM
  obtain ⟨q0, hi, hw⟩ := rl_get hR.1 (a := q) (by omega) (by omega)
  rw [rl_el_q (by omega), hq] at hw
  have hlt : j.toNatClampNeg < am_L A q := Nat.not_le.mp fun z => hin (Or.inr z)
  have go : ∀ (t0 : Nat) (ty : FieldType), (rl_tys (zA Z))[t0]? = some (zA Z (a - 21), ty) → ty.isReference = true → W p l e R s mid args below meth c H locs cells slots Q (F0 mid pc arr (.int j :: .ref (ρ q) :: rest.map (rl_cv ρ))) := by
    intro t0 ty ht hty
    exact W.aald (v := rl_cv ρ v) (ty := ty) hx hb (hR.1.2.1 q0 _ hw) ((hK.2 t0 _ ht).1 (am_L A q) (fun j => va_rf ((am_R A q j).map ρ))) hty (fun z => by cases z) (by show ¬ (j < 0 ∨ (arrV _ _ _).slots.size ≤ _); rw [arrV_size]; exact hin) (by show (arrV _ _ _).slots[_]? = _; rw [arrV_read _ _ hlt, hv ρ]) rfl rfl hdg kk
  obtain ⟨h1, h2⟩ := ha
  have : a = 25 ∨ a = 26 ∨ a = 27 ∨ a = 28 ∨ a = 29 := by omega
  rcases this with rfl | rfl | rfl | rfl | rfl
  · exact go 4 _ rfl rfl
  · exact go 5 _ rfl rfl
  · exact go 6 _ rfl rfl
  · exact go 7 _ rfl rfl
  · exact go 8 _ rfl rfl
theorem so_alen {q : Nat} {rest : List Value} (hZ : so_k Z) (hdg : decode (zB Z m) pc = .ok (.arraylength, 1)) (hq : 21 ≤ am_K A q ∧ am_K A q ≤ 29 ∨ am_K A q = 41) (h : so_T Z l d m (pc + 1) (am_dead d2 ls) (.int (Int32.ofNat (am_L A q)) :: rest) A r) : so_T Z l d m pc ls (.ref q :: rest) A r := by
  refine so_gs h (fun hw h => so_cs trivial (so_t1 h)) fun p e R s mid args below meth c Q H locs cells slots arr ρ hM hR hV kk => ?_
  have hC := so_C_at hM
  obtain ⟨hx, hb, -, -, hown, hts, hK, -, hbs, -⟩ := hM
  rcases hq with ⟨h21, h29⟩ | hq
  · obtain ⟨q0, hi, hw⟩ := rl_get hR.1 (a := q) (by omega) (by omega)
    have cs : am_K A q = 21 ∨ am_K A q = 22 ∨ am_K A q = 23 ∨ am_K A q = 24 ∨ am_K A q = 25 ∨ am_K A q = 26 ∨ am_K A q = 27 ∨ am_K A q = 28 ∨ am_K A q = 29 := by omega
    rcases cs with c1 | c1 | c1 | c1 | c1 | c1 | c1 | c1 | c1
    · rw [rl_el_i (Or.inl c1), c1] at hw
      exact va_alen (ty := .int) hx hb hK hR.1.2.1 q0 0 hw rfl rfl hdg kk
    · rw [rl_el_j c1] at hw
      exact va_alen (ty := .long) hx hb hK hR.1.2.1 q0 1 hw rfl rfl hdg kk
    · rw [rl_el_i (Or.inr (Or.inl c1)), c1] at hw
      exact va_alen (ty := .byte) hx hb hK hR.1.2.1 q0 2 hw rfl rfl hdg kk
    · rw [rl_el_i (Or.inr (Or.inr c1)), c1] at hw
      exact va_alen (ty := .boolean) hx hb hK hR.1.2.1 q0 3 hw rfl rfl hdg kk
    · rw [rl_el_q (by omega), c1] at hw
      exact va_alen (ty := .array .int) hx hb hK hR.1.2.1 q0 4 hw rfl rfl hdg kk
    · rw [rl_el_q (by omega), c1] at hw
      exact va_alen (ty := .object "OakYard$Tree") hx hb hK hR.1.2.1 q0 5 hw rfl rfl hdg kk
    · rw [rl_el_q (by omega), c1] at hw
      exact va_alen (ty := .object "OakYard$Piece") hx hb hK hR.1.2.1 q0 6 hw rfl rfl hdg kk
    · rw [rl_el_q (by omega), c1] at hw
      exact va_alen (ty := .object "OakYard$Ship") hx hb hK hR.1.2.1 q0 7 hw rfl rfl hdg kk
    · rw [rl_el_q (by omega), c1] at hw
      exact va_alen (ty := .object "OakYard$Text") hx hb hK hR.1.2.1 q0 8 hw rfl rfl hdg kk
  · have h64 := so_lt64 hR (a := q) (by omega)
    obtain ⟨e1, e2, e3, e4⟩ := hR.2.2.2.1 q h64
    have hq0 : q = 0 := (hZ q h64).2.1 (by rw [← e1]; exact hq)
    subst hq0
    show W p l e R s mid args below meth c H locs cells slots Q (F0 mid pc arr (.ref (ρ 0) :: _))
    rw [so_rho hR h64]
    have hz := (hZ 0 h64).2.2.2.2
    refine va_slen hx hb hC.1 (Nat.lt_of_lt_of_le hz hbs) (Nat.not_le.mpr hz) hV hdg ?_
    rw [← e2]
    exact kk
/-- a row of objects is written -/
theorem so_aast {q x a b : Nat} {j : Int32} {rest : List Value} (hZ : so_k Z) (hab : (a = 26 ∧ b = 10) ∨ (a = 27 ∧ b = 5) ∨ (a = 28 ∧ b = 7) ∨ (a = 29 ∧ b = 9)) (hdg : decode (zB Z m) pc = .ok (.aastore, 1)) (hq : am_K A q = a) (hx0 : am_K A x = b) (hin : ¬ (j < 0 ∨ am_L A q ≤ j.toNatClampNeg)) (h : so_T Z l d m (pc + 1) (am_dead d2 ls) rest (am_sR A q j.toNatClampNeg (some x)) r) : so_T Z l d m pc ls (.ref x :: .int j :: .ref q :: rest) A r := by
  refine so_go h rfl rfl rfl (fun hw hL => ⟨⟨hw.1, fun a k y hy => ?_⟩, so_dead1 (st := []) (ls := []) d2 hL.1, so_t1 (so_t1 (so_t1 hL.2))⟩) fun p e R s mid args below meth c Q H locs cells slots arr ρ hM hd hl hR hV hls kk => ?_
  · have hy : am_up2 (am_R A) q j.toNatClampNeg (some x) a k = some y := hy
    unfold am_up2 at hy
    split at hy
    · cases hy
      exact so_h1 hL.2
    · exact hw.2 a k y hy
  · obtain ⟨hx, hb, -, -, hown, hts, hK, -, hbs, -⟩ := hM
    obtain ⟨q0, hi, hw⟩ := rl_get hR.1 (a := q) (by omega) (by omega)
    obtain ⟨q1, hi1, hw1⟩ := rl_get hR.1 (a := x) (by omega) (by omega)
    rw [rl_el_q (by omega), hq] at hw
    rw [rl_el_o (by omega), hx0] at hw1
    have hfun : (fun k => (am_R (am_sR A q j.toNatClampNeg (some x)) q k).map ρ) = va_up (fun k => (am_R A q k).map ρ) j.toNatClampNeg (some (ρ x)) := by
      funext k
      show Option.map ρ (am_up2 (am_R A) q j.toNatClampNeg (some x) q k) = va_up _ _ _ k
      unfold am_up2 va_up
      by_cases hk : k = j.toNatClampNeg
      · simp [hk]
      · simp [hk]
    have he' : rl_el (zA Z) ρ (am_sR A q j.toNatClampNeg (some x)) q = .inl (zA Z (a - 21), am_L A q, .inr (.inr (.inr (.inr (va_up (fun k => (am_R A q k).map ρ) j.toNatClampNeg (some (ρ x))))))) := by
      rw [rl_el_q (A := am_sR A q j.toNatClampNeg (some x)) (by show 25 ≤ am_K A q; omega), hfun]
      show Sum.inl (zA Z (am_K A q - 21), _) = _
      rw [hq]
      rfl
    have key : ∀ (H1 : Heap) (locs1 : List Loc), va_P (zD Z) rl_cl ((rl_ws (zA Z) ρ A).set q0 (ρ q, .inl (zA Z (a - 21), am_L A q, .inr (.inr (.inr (.inr (va_up (fun k => (am_R A q k).map ρ) j.toNatClampNeg (some (ρ x))))))))) H1 → va_D (so_A Z) ((rl_ws (zA Z) ρ A).set q0 (ρ q, .inl (zA Z (a - 21), am_L A q, .inr (.inr (.inr (.inr (va_up (fun k => (am_R A q k).map ρ) j.toNatClampNeg (some (ρ x))))))))) → va_S (so_A Z) s.heap H1 locs1 → W p l e R s mid args below meth c H1 locs1 cells slots Q (F0 mid (pc + 1) arr (rest.map (rl_cv ρ))) := by
      intro H1 locs1 hP hD hS
      rw [← he'] at hP hD
      exact kk H1 locs1 arr (so_put hR (so_big hZ hR (by omega) (by omega)) hi rfl rfl rfl (fun b hb => rfl) (fun b hb => rfl) (fun b hb => rl_elR hb) hP hD (Nat.le_trans hbs hS.1)) hS (rl_dead d2 hls)
    rcases hab with ⟨rfl, rfl⟩ | ⟨rfl, rfl⟩ | ⟨rfl, rfl⟩ | ⟨rfl, rfl⟩
    · exact va_astq (r := ("OakYard$Tree", F_9, 7)) hx hb hK hR.1.2.1 hR.1.2.2.1 hV q0 5 q1 9 hw rfl hw1 rfl hin hdg key
    · exact va_astq hx hb hK hR.1.2.1 hR.1.2.2.1 hV q0 6 q1 4 hw rfl hw1 rfl hin hdg key
    · exact va_astq hx hb hK hR.1.2.1 hR.1.2.2.1 hV q0 7 q1 6 hw rfl hw1 rfl hin hdg key
    · exact va_astq hx hb hK hR.1.2.1 hR.1.2.2.1 hV q0 8 q1 8 hw rfl hw1 rfl hin hdg key
theorem so_gets {idx : Nat} (hZ : so_k Z) (hdg : decode (zB Z m) pc = .ok (.getstatic idx, 3)) (hl : Cond.fieldLink (zY Z m).cls idx "OakYard$Finder" "PLACES" "[J" ∈ zT Z) (hq : am_K A 1 = 42) (h : so_T Z l d m (pc + 3) (am_dead d2 ls) (.ref 1 :: st) A r) : so_T Z l d m pc ls st A r := by
  refine so_gs h (fun hw h => so_cs (Nat.lt_of_lt_of_le (by omega) hw.1) h) fun p e R s mid args below meth c Q H locs cells slots arr ρ hM hR hV kk => ?_
  have hC := so_C_at hM
  obtain ⟨hx, hb, -, -, hown, hts, hK, -, hbs, -⟩ := hM
  have kk : W p l e R s mid args below meth c H locs cells slots Q (F0 mid (pc + 3) arr (.ref (ρ 1) :: st.map (rl_cv ρ))) := kk
  rw [so_rho hR (by omega)] at kk
  exact va_gets hx hb hC.2.2.2.1 hV hown (hts _ hl) (fun _ h => h) hdg kk
theorem so_ldcT {idx b : Nat} {tx : String} (hdg : decode (zB Z m) pc = .ok (.ldc idx, 2)) (hb64 : b < 64) (hx : ((zY Z m).cls, idx, tx, b) ∈ so_tx) (h : so_T Z l d m (pc + 2) (am_dead d2 ls) (.ref b :: st) A r) : so_T Z l d m pc ls st A r := by
  refine so_gs h (fun hw h => so_cs (Nat.lt_of_lt_of_le hb64 hw.1) h) fun p e R s mid args below meth c Q H locs cells slots arr ρ hM hR hV kk => ?_
  have hC := so_C_at hM
  have kk : W p l e R s mid args below meth c H locs cells slots Q (F0 mid (pc + 2) arr (.ref (ρ b) :: st.map (rl_cv ρ))) := kk
  rw [so_rho hR hb64] at kk
  exact va_ldcS hM.1 hM.2.1 hM.2.2.2.2.1 (hC.2.2.2.2.2.2.1 _ _ _ _ hx) hdg kk
theorem so_ldcTw {idx b : Nat} {tx : String} (hdg : decode (zB Z m) pc = .ok (.ldc_w idx, 3)) (hb64 : b < 64) (hx : ((zY Z m).cls, idx, tx, b) ∈ so_tx) (h : so_T Z l d m (pc + 3) (am_dead d2 ls) (.ref b :: st) A r) : so_T Z l d m pc ls st A r := by
  refine so_gs h (fun hw h => so_cs (Nat.lt_of_lt_of_le hb64 hw.1) h) fun p e R s mid args below meth c Q H locs cells slots arr ρ hM hR hV kk => ?_
  have hC := so_C_at hM
  have hZ := hC.2.2.2.2.2.2.1 _ _ _ _ hx
  have kk : W p l e R s mid args below meth c H locs cells slots Q (F0 mid (pc + 3) arr (.ref (ρ b) :: st.map (rl_cv ρ))) := kk
  rw [so_rho hR hb64] at kk
  intro T hT X
  obtain ⟨t, a1, b1⟩ := kk T hT X
  have h1 : (Cond.stringRef (zY Z m).cls idx tx).before args s = true := by have := hZ.1; exact this
  have h2 : (Term.string (zY Z m).cls idx).eval args s none [] s = some (.ref (zr Z b)) := by have := hZ.2; exact this
  exact ⟨t, X.ldcStringW hM.1 hM.2.2.2.2.1 (text := tx) (a := zr Z b) h1 h2 (g := F0 mid pc arr _) rfl (by rw [hM.2.1]; exact hdg) t a1, b1⟩
end Heap2
