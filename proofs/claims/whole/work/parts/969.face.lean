/-! THE START: the face. Made by wip/whole/math/969.py. -/
def Fcf (A : am_A) : Prop :=
  (am_K A 64 = 1 ∧ am_R A 64 0 = some 65 ∧ am_R A 64 1 = some 71 ∧ am_R A 64 2 = some 94 ∧ am_R A 64 3 = some 354 ∧ am_R A 64 4 = some 614) ∧
  (am_K A 65 = 8 ∧ am_R A 65 0 = some 66 ∧ am_R A 65 8 = some 67 ∧ am_R A 65 9 = some 68 ∧ am_R A 65 10 = some 69 ∧ am_R A 65 12 = some 70) ∧ (am_K A 66 = 21 ∧ am_L A 66 = 400) ∧ (am_K A 67 = 21 ∧ am_L A 67 = 12) ∧ (am_K A 68 = 21 ∧ am_L A 68 = 12) ∧ (am_K A 69 = 21 ∧ am_L A 69 = 12) ∧ (am_K A 70 = 21 ∧ am_L A 70 = 400) ∧
  (am_K A 71 = 3 ∧ am_R A 71 0 = some 72 ∧ am_R A 71 2 = some 73 ∧ am_R A 71 3 = some 74 ∧ am_R A 71 4 = some 75 ∧ am_R A 71 5 = some 76 ∧ am_R A 71 7 = some 77 ∧ am_R A 71 8 = some 78 ∧ am_R A 71 9 = some 79 ∧ am_R A 71 10 = some 89 ∧ am_R A 71 12 = some 90 ∧ am_R A 71 13 = some 91 ∧ am_R A 71 14 = some 92 ∧ am_R A 71 15 = some 93) ∧
  (am_K A 72 = 21 ∧ am_L A 72 = 8) ∧ (am_K A 73 = 21 ∧ am_L A 73 = 8) ∧ (am_K A 74 = 21 ∧ am_L A 74 = 256) ∧ (am_K A 75 = 22 ∧ am_L A 75 = 256) ∧ (am_K A 76 = 21 ∧ am_L A 76 = 8) ∧ (am_K A 77 = 21 ∧ am_L A 77 = 4) ∧ (am_K A 78 = 21 ∧ am_L A 78 = 4) ∧ (am_K A 79 = 25 ∧ am_L A 79 = 9) ∧ (∀ j, j < 9 → am_R A 79 j = some (80 + j)) ∧ (∀ j, j < 9 → am_K A (80 + j) = 21) ∧ (∀ j, j < 9 → am_L A (80 + j) = 120) ∧ (am_K A 89 = 21 ∧ am_L A 89 = 120) ∧ (am_K A 90 = 21 ∧ am_L A 90 = 120) ∧ (am_K A 91 = 21 ∧ am_L A 91 = 120) ∧ (am_K A 92 = 21 ∧ am_L A 92 = 64) ∧ (am_K A 93 = 21 ∧ am_L A 93 = 64)
section Face1
variable {B B1 B2 : am_A} {i i1 i2 : Nat → Nat → Int32} {d x n m k : Nat}
/-- below n all is as it was, but the fields of the face -/
def Ol (n : Nat) (B : am_A) (i : Nat → Nat → Int32) (B' : am_A) (i' : Nat → Nat → Int32) : Prop := (∀ q, q < n → am_K B' q = am_K B q ∧ am_L B' q = am_L B q ∧ am_J B' q = am_J B q) ∧ (∀ q, q < n → q ≠ 64 → am_R B' q = am_R B q) ∧ ∀ q l, q < n → i' q l = i q l
theorem Ol.tr (h1 : Ol n B i B1 i1) (h2 : Ol m B1 i1 B2 i2) (h : n ≤ m) : Ol n B i B2 i2 := by
  refine ⟨fun q hq => ?_, fun q hq h6 => (h2.2.1 q (by omega) h6).trans (h1.2.1 q hq h6), fun q l hq => (h2.2.2 q l (by omega)).trans (h1.2.2 q l hq)⟩
  obtain ⟨a1, a2, a3⟩ := h1.1 q hq
  obtain ⟨b1, b2, b3⟩ := h2.1 q (by omega)
  exact ⟨b1.trans a1, b2.trans a2, b3.trans a3⟩
theorem Yd_cg {b : Nat} (hK : ∀ q, b ≤ q → q < b + 260 → am_K B1 q = am_K B q) (hL : ∀ q, b ≤ q → q < b + 260 → am_L B1 q = am_L B q) (hR : ∀ q, b ≤ q → q < b + 260 → am_R B1 q = am_R B q) (hF : Yd B b) : Yd B1 b := by
  unfold Yd at hF ⊢
  simp (contextual := true) (disch := omega) only [hK, hL, hR]
  exact hF
theorem Yd_ol {b : Nat} (h : Ol n B i B1 i1) (hb : 64 < b) (hn : b + 260 ≤ n) (hF : Yd B b) : Yd B1 b := Yd_cg (fun q h1 h2 => (h.1 q (by omega)).1) (fun q h1 h2 => (h.1 q (by omega)).2.1) (fun q h1 h2 => h.2.1 q (by omega) (by omega)) hF
theorem Yi_ol {b : Nat} (h : Ol n B i B1 i1) (hn : b + 260 ≤ n) (hF : Yi i b) : Yi i1 b := ⟨(h.2.2 _ _ (by omega)).trans hF.1, (h.2.2 _ _ (by omega)).trans hF.2.1, fun l h6 h9 => (h.2.2 _ _ (by omega)).trans (hF.2.2.1 l h6 h9), fun k hk => (h.2.2 _ _ (by omega)).trans (hF.2.2.2.1 k hk), fun q l h1 h2 => (h.2.2 _ _ (by omega)).trans (hF.2.2.2.2 q l h1 h2)⟩
/-- a yard, a field of the face -/
theorem yard_st (hN : am_N B = x) (hx : 64 < x) (h64 : am_K B 64 = 1) : ∃ D i', am_fx am_P (d + 1) 235 0 [some (.ref (am_N (am_wI B i))), none] [] (am_nw (am_wI B i) 12 0 20) = some (.inl none, am_wI D i') ∧ (am_N (am_sR D 64 k (some x)) = x + 260 ∧ am_C (am_sR D 64 k (some x)) = am_C B + 260 ∧ am_S (am_sR D 64 k (some x)) = am_S B + 3974) ∧ Ol x B i (am_sR D 64 k (some x)) i' ∧ (∀ l, l ≠ k → am_R (am_sR D 64 k (some x)) 64 l = am_R B 64 l) ∧ am_R (am_sR D 64 k (some x)) 64 k = some x ∧ am_K D 64 = 1 ∧ Yd (am_sR D 64 k (some x)) x ∧ Yi i' x := by
  obtain ⟨D, i', E, ⟨n1, n2, n3⟩, a1, a2, a3, Y, I⟩ := i_235 (B := am_nw B 12 0 20) (i := rI B i) (d := d) (x := x) (by rw [← hN]; exact y_nwK0) (by rw [← hN]; rfl) (fun l => by rw [← hN]; exact congrFun (if_pos rfl) l)
  have c1 : am_C (am_nw B 12 0 20) = am_C B + 1 := rfl
  have c2 : am_S (am_nw B 12 0 20) = am_S B + 20 := rfl
  have R64 : ∀ q, q ≠ 64 → am_R (am_sR D 64 k (some x)) q = am_R D q := fun q hq => y_sRo hq
  refine ⟨D, i', ?_, ⟨n1, ?_, ?_⟩, ⟨fun q hq => ?_, fun q hq h6 => ?_, fun q l hq => ?_⟩, fun l hl => ?_, ?_, ?_, ?_, I⟩
  · rw [show am_N (am_wI B i) = x from hN]
    exact E
  · show am_C D = _
    omega
  · show am_S D = _
    omega
  · obtain ⟨p1, p2, p3⟩ := a1 q (by omega)
    exact ⟨p1.trans (if_neg (by omega)), p2.trans (if_neg (by omega)), p3.trans (if_neg (by omega))⟩
  · exact (R64 q h6).trans ((a2 q hq).trans (if_neg (by omega)))
  · exact (a3 q l hq).trans (congrFun (if_neg (by omega)) l)
  · exact (show am_up2 (am_R D) 64 k (some x) 64 l = am_R D 64 l from y_up2 (Or.inr hl)).trans (congrFun ((a2 64 hx).trans (if_neg (by omega))) l)
  · exact (show am_up2 (am_R D) 64 k (some x) 64 k = some x from y_up1 rfl rfl)
  · exact (a1 64 (by omega)).1.trans ((if_neg (by omega)).trans h64)
  · exact Yd_cg (B := D) (B1 := am_sR D 64 k (some x)) (fun _ _ _ => rfl) (fun _ _ _ => rfl) (fun q h1 h2 => R64 q (by omega)) Y
theorem i_290 (hN : am_N B = 65) (h64 : am_K B 64 = 1) (hz : ∀ l, i 64 l = 0) : ∃ B' i', am_fx am_P (d + 2) 290 0 [some (.ref 64)] [] (am_wI B i) = some (.inl none, am_wI B' i') ∧ (am_N B' = 874 ∧ am_C B' = am_C B + 809 ∧ am_S B' = am_S B + 14909) ∧ Ol 65 B i B' i' ∧ Fcf B' ∧ (Yd B' 94 ∧ Yd B' 354 ∧ Yd B' 614) ∧ (Yi i' 94 ∧ Yi i' 354 ∧ Yi i' 614) ∧ i' 65 2 = -1 ∧ ∀ l, l ≠ 2 → i' 65 l = 0 := by
  -- the tape
  obtain ⟨T1, i1, E1, G1, ⟨t66, t67, t68, t69, t70⟩, v2⟩ := i_195 (B := am_nw B 8 0 13) (i := rI B i) (d := d + 1) (x := 65) (by rw [← hN]; exact y_nwK0) (by show 65 < am_N B + 1; omega)
  have n1 : am_N (am_nw B 8 0 13) = 66 := by show am_N B + 1 = 66; omega
  have c1 : am_C (am_nw B 8 0 13) = am_C B + 1 := rfl
  have s1 : am_S (am_nw B 8 0 13) = am_S B + 13 := rfl
  rw [n1] at t66 t67 t68 t69 t70
  have nT1 : am_N T1 = 71 := by have := G1.1.1; omega
  have k65 : am_K T1 65 = 8 := (G1.2.1 65 (by omega)).1.trans (by rw [← hN]; exact y_nwK0)
  have z65 : ∀ l, l ≠ 2 → i1 65 l = 0 := fun l hl => (G1.2.2.2.1 65 l (by omega) fun _ => by rw [List.mem_singleton]; exact hl).trans (by rw [← hN]; exact congrFun (if_pos rfl) l)
  have O1 : Ol 65 B i (am_sR T1 64 0 (some 65)) i1 := ⟨fun q hq => by
    obtain ⟨p1, p2, p3⟩ := G1.2.1 q (by omega)
    exact ⟨p1.trans (if_neg (by omega)), p2.trans (if_neg (by omega)), p3.trans (if_neg (by omega))⟩, fun q hq h6 => (y_sRo h6).trans (funext fun l => (G1.2.2.1 q l (by omega) fun e => by omega).trans (congrFun (if_neg (by omega)) l)), fun q l hq => (G1.2.2.2.1 q l (by omega) fun e => by omega).trans (congrFun (if_neg (by omega)) l)⟩
  have t66 := t66.fld (x := 64) (k := 0) (v := some 65) (by omega)
  have t67 := t67.fld (x := 64) (k := 0) (v := some 65) (by omega)
  have t68 := t68.fld (x := 64) (k := 0) (v := some 65) (by omega)
  have t69 := t69.fld (x := 64) (k := 0) (v := some 65) (by omega)
  have t70 := t70.fld (x := 64) (k := 0) (v := some 65) (by omega)
  have r0 : am_R (am_sR T1 64 0 (some 65)) 64 0 = some 65 := (show am_up2 (am_R T1) 64 0 (some 65) 64 0 = some 65 from y_up1 rfl rfl)
  have k65 : am_K (am_sR T1 64 0 (some 65)) 65 = 8 := k65
  have nC1 : am_N (am_sR T1 64 0 (some 65)) = 71 := nT1
  have cC1 : am_C (am_sR T1 64 0 (some 65)) = am_C B + 6 := by show am_C T1 = _; have := G1.1.2.1; omega
  have sC1 : am_S (am_sR T1 64 0 (some 65)) = am_S B + 849 := by show am_S T1 = _; have := G1.1.2.2; omega
  have k64 : am_K (am_sR T1 64 0 (some 65)) 64 = 1 := (O1.1 64 (by omega)).1.trans h64
  generalize eC1 : am_sR T1 64 0 (some 65) = C1 at *
  -- the finder
  obtain ⟨T2, i2, E2, G2, f72, f73, f74, f75, f76, f77, f78, f79, f80, f89, f90, f91, f92, f93⟩ := i_270 (B := am_nw C1 3 0 17) (i := rI C1 i1) (d := d + 1) (x := 71) (by rw [← nC1]; exact y_nwK0) (by show 71 < am_N C1 + 1; omega)
  have n2 : am_N (am_nw C1 3 0 17) = 72 := by show am_N C1 + 1 = 72; omega
  have c2 : am_C (am_nw C1 3 0 17) = am_C C1 + 1 := rfl
  have s2 : am_S (am_nw C1 3 0 17) = am_S C1 + 17 := rfl
  rw [n2] at f72 f73 f74 f75 f76 f77 f78 f79 f80 f89 f90 f91 f92 f93
  have k71 : am_K (am_sR T2 64 1 (some 71)) 71 = 3 := (G2.2.1 71 (by omega)).1.trans (by rw [← nC1]; exact y_nwK0)
  have O2 : Ol 71 C1 i1 (am_sR T2 64 1 (some 71)) i2 := ⟨fun q hq => by
    obtain ⟨p1, p2, p3⟩ := G2.2.1 q (by omega)
    exact ⟨p1.trans (if_neg (by omega)), p2.trans (if_neg (by omega)), p3.trans (if_neg (by omega))⟩, fun q hq h6 => (y_sRo h6).trans (funext fun l => (G2.2.2.1 q l (by omega) fun e => by omega).trans (congrFun (if_neg (by omega)) l)), fun q l hq => (G2.2.2.2.1 q l (by omega) fun e => by omega).trans (congrFun (if_neg (by omega)) l)⟩
  have f72 := f72.fld (x := 64) (k := 1) (v := some 71) (by omega)
  have f73 := f73.fld (x := 64) (k := 1) (v := some 71) (by omega)
  have f74 := f74.fld (x := 64) (k := 1) (v := some 71) (by omega)
  have f75 := f75.fld (x := 64) (k := 1) (v := some 71) (by omega)
  have f76 := f76.fld (x := 64) (k := 1) (v := some 71) (by omega)
  have f77 := f77.fld (x := 64) (k := 1) (v := some 71) (by omega)
  have f78 := f78.fld (x := 64) (k := 1) (v := some 71) (by omega)
  have f79 := f79.fld (x := 64) (k := 1) (v := some 71) (by omega)
  have f89 := f89.fld (x := 64) (k := 1) (v := some 71) (by omega)
  have f90 := f90.fld (x := 64) (k := 1) (v := some 71) (by omega)
  have f91 := f91.fld (x := 64) (k := 1) (v := some 71) (by omega)
  have f92 := f92.fld (x := 64) (k := 1) (v := some 71) (by omega)
  have f93 := f93.fld (x := 64) (k := 1) (v := some 71) (by omega)
  have f80 := fun j hj => (f80 j hj).fld (x := 64) (k := 1) (v := some 71) (by omega)
  have r1 : am_R (am_sR T2 64 1 (some 71)) 64 1 = some 71 := (show am_up2 (am_R T2) 64 1 (some 71) 64 1 = some 71 from y_up1 rfl rfl)
  have r0 : am_R (am_sR T2 64 1 (some 71)) 64 0 = some 65 := (show am_up2 (am_R T2) 64 1 (some 71) 64 0 = am_R T2 64 0 from y_up2 (by omega)).trans ((G2.2.2.1 64 0 (by omega) fun e => by omega).trans ((congrFun (if_neg (by omega)) 0).trans r0))
  have nC2 : am_N (am_sR T2 64 1 (some 71)) = 94 := by show am_N T2 = _; have := G2.1.1; omega
  have cC2 : am_C (am_sR T2 64 1 (some 71)) = am_C B + 29 := by show am_C T2 = _; have := G2.1.2.1; omega
  have sC2 : am_S (am_sR T2 64 1 (some 71)) = am_S B + 2987 := by show am_S T2 = _; have := G2.1.2.2; omega
  have k64b : am_K (am_sR T2 64 1 (some 71)) 64 = 1 := (O2.1 64 (by omega)).1.trans k64
  generalize eC2 : am_sR T2 64 1 (some 71) = C2 at *
  -- the yards
  obtain ⟨D3, i3, E3, ⟨N3, c3, s3⟩, O3, p3, q3, k3, Y3, I3⟩ := yard_st (B := C2) (i := i2) (d := d) (k := 2) nC2 (by omega) k64b
  have k3' : am_K (am_sR D3 64 2 (some 94)) 64 = 1 := k3
  generalize eC3 : am_sR D3 64 2 (some 94) = C3 at *
  obtain ⟨D4, i4, E4, ⟨N4, c4, s4⟩, O4, p4, q4, k4, Y4, I4⟩ := yard_st (B := C3) (i := i3) (d := d) (k := 3) N3 (by omega) k3'
  have k4' : am_K (am_sR D4 64 3 (some (94 + 260))) 64 = 1 := k4
  generalize eC4 : am_sR D4 64 3 (some (94 + 260)) = C4 at *
  obtain ⟨D5, i5, E5, ⟨N5, c5, s5⟩, O5, p5, q5, k5, Y5, I5⟩ := yard_st (B := C4) (i := i4) (d := d) (k := 4) N4 (by omega) k4'
  have k5' : am_K (am_sR D5 64 4 (some (94 + 260 + 260))) 64 = 1 := k5
  generalize eC5 : am_sR D5 64 4 (some (94 + 260 + 260)) = C5 at *
  have O25 : Ol 94 C2 i2 C5 i5 := (O3.tr O4 (by omega)).tr O5 (by omega)
  have O15 : Ol 71 C1 i1 C5 i5 := O2.tr O25 (by omega)
  have O05 : Ol 65 B i C5 i5 := O1.tr O15 (by omega)
  have z64 : ∀ l, i5 64 l = 0 := fun l => (O05.2.2 64 l (by omega)).trans (hz l)
  have up56 : am_up2 (am_up2 i5 64 5 0) 64 6 0 = i5 := by
    funext q l
    by_cases h6 : q = 64 ∧ l = 6
    · rw [y_up1 h6.1 h6.2, h6.1, z64]
    · rw [y_up2 (by omega)]
      by_cases h5 : q = 64 ∧ l = 5
      · rw [y_up1 h5.1 h5.2, h5.1, z64]
      · rw [y_up2 (by omega)]
  refine ⟨C5, i5, ?_, ⟨by omega, by omega, by omega⟩, O05, ?_, ⟨Yd_ol (O4.tr O5 (by omega)) (by omega) (by omega) Y3, Yd_ol O5 (by omega) (by omega) Y4, Y5⟩, ⟨Yi_ol (O4.tr O5 (by omega)) (by omega) I3, Yi_ol O5 (by omega) I4, I5⟩, (O15.2.2 65 2 (by omega)).trans v2, fun l hl => (O15.2.2 65 l (by omega)).trans (z65 l hl)⟩
  · have Q1 : am_fx am_P (d + 1) 195 0 [some (.ref (am_N (am_wI B i)))] [] (am_nw (am_wI B i) 8 0 13) = some (.inl none, am_wI T1 i1) := by
      rw [show am_N (am_wI B i) = 65 from hN]
      exact E1
    have Q2 : am_fx am_P (d + 1) 270 0 [some (.ref (am_N (am_wI C1 i1)))] [] (am_nw (am_wI C1 i1) 3 0 17) = some (.inl none, am_wI T2 i2) := by
      rw [show am_N (am_wI C1 i1) = 71 from nC1]
      exact E2
    rw [show d + 2 = d + 1 + 1 by omega, bk_290_0]
    refine (y_ck y_nwK0).trans ?_
    rw [Q1, y_oV]
    refine (y_ck ?_).trans ?_
    · have q := k64
      rw [← eC1] at q
      exact q
    rw [show am_sR (am_wI T1 i1) 64 0 (some (am_N (am_wI B i))) = am_wI C1 i1 by rw [← eC1, show am_N (am_wI B i) = 65 from hN]; rfl]
    refine (y_ck y_nwK0).trans ?_
    rw [Q2, y_oV]
    refine (y_ck ?_).trans ?_
    · have q := k64b
      rw [← eC2] at q
      exact q
    rw [show am_sR (am_wI T2 i2) 64 1 (some (am_N (am_wI C1 i1))) = am_wI C2 i2 by rw [← eC2, show am_N (am_wI C1 i1) = 71 from nC1]; rfl]
    refine (y_ck y_nwK0).trans ?_
    rw [E3, y_oV]
    refine (y_ck ?_).trans ?_
    · exact k3
    rw [show am_sR (am_wI D3 i3) 64 2 (some (am_N (am_wI C2 i2))) = am_wI C3 i3 by rw [← eC3, show am_N (am_wI C2 i2) = 94 from nC2]; rfl]
    refine (y_ck y_nwK0).trans ?_
    rw [E4, y_oV]
    refine (y_ck ?_).trans ?_
    · exact k4
    rw [show am_sR (am_wI D4 i4) 64 3 (some (am_N (am_wI C3 i3))) = am_wI C4 i4 by rw [← eC4, show am_N (am_wI C3 i3) = 94 + 260 from N3]; rfl]
    rw [bk_290_48]
    refine (y_ck y_nwK0).trans ?_
    rw [E5, y_oV]
    refine (y_ck ?_).trans ?_
    · exact k5
    rw [show am_sR (am_wI D5 i5) 64 4 (some (am_N (am_wI C4 i4))) = am_wI C5 i5 by rw [← eC5, show am_N (am_wI C4 i4) = 94 + 260 + 260 from N4]; rfl]
    refine (y_ck ?_).trans ?_
    · exact k5'
    rw [y_b0, bk_290_64]
    refine (y_ck ?_).trans ?_
    · exact k5'
    rw [y_b0, show am_sI (am_sI (am_wI C5 i5) 64 5 0) 64 6 0 = am_wI C5 (am_up2 (am_up2 i5 64 5 0) 64 6 0) from rfl, up56]
  · have mv := fun q h1 h2 => O25.2.1 q h1 h2
    have mk := fun q h1 => O25.1 q h1
    have R64 : am_R C5 64 0 = some 65 ∧ am_R C5 64 1 = some 71 ∧ am_R C5 64 2 = some 94 ∧ am_R C5 64 3 = some 354 ∧ am_R C5 64 4 = some 614 := ⟨(p5 0 (by omega)).trans ((p4 0 (by omega)).trans ((p3 0 (by omega)).trans r0)), (p5 1 (by omega)).trans ((p4 1 (by omega)).trans ((p3 1 (by omega)).trans r1)), (p5 2 (by omega)).trans ((p4 2 (by omega)).trans q3), (p5 3 (by omega)).trans q4, q5⟩
    exact ⟨⟨k5', R64⟩, ⟨(O15.1 65 (by omega)).1.trans k65, (congrFun (O15.2.1 65 (by omega) (by omega)) _).trans t66.2.2, (congrFun (O15.2.1 65 (by omega) (by omega)) _).trans t67.2.2, (congrFun (O15.2.1 65 (by omega) (by omega)) _).trans t68.2.2, (congrFun (O15.2.1 65 (by omega) (by omega)) _).trans t69.2.2, (congrFun (O15.2.1 65 (by omega) (by omega)) _).trans t70.2.2⟩, ⟨(O15.1 66 (by omega)).1.trans t66.1, (O15.1 66 (by omega)).2.1.trans t66.2.1⟩, ⟨(O15.1 67 (by omega)).1.trans t67.1, (O15.1 67 (by omega)).2.1.trans t67.2.1⟩, ⟨(O15.1 68 (by omega)).1.trans t68.1, (O15.1 68 (by omega)).2.1.trans t68.2.1⟩, ⟨(O15.1 69 (by omega)).1.trans t69.1, (O15.1 69 (by omega)).2.1.trans t69.2.1⟩, ⟨(O15.1 70 (by omega)).1.trans t70.1, (O15.1 70 (by omega)).2.1.trans t70.2.1⟩, ⟨(O25.1 71 (by omega)).1.trans k71, (congrFun (O25.2.1 71 (by omega) (by omega)) _).trans f72.2.2, (congrFun (O25.2.1 71 (by omega) (by omega)) _).trans f73.2.2, (congrFun (O25.2.1 71 (by omega) (by omega)) _).trans f74.2.2, (congrFun (O25.2.1 71 (by omega) (by omega)) _).trans f75.2.2, (congrFun (O25.2.1 71 (by omega) (by omega)) _).trans f76.2.2, (congrFun (O25.2.1 71 (by omega) (by omega)) _).trans f77.2.2, (congrFun (O25.2.1 71 (by omega) (by omega)) _).trans f78.2.2, (congrFun (O25.2.1 71 (by omega) (by omega)) _).trans f79.2.2, (congrFun (O25.2.1 71 (by omega) (by omega)) _).trans f89.2.2, (congrFun (O25.2.1 71 (by omega) (by omega)) _).trans f90.2.2, (congrFun (O25.2.1 71 (by omega) (by omega)) _).trans f91.2.2, (congrFun (O25.2.1 71 (by omega) (by omega)) _).trans f92.2.2, (congrFun (O25.2.1 71 (by omega) (by omega)) _).trans f93.2.2⟩, ⟨(O25.1 72 (by omega)).1.trans f72.1, (O25.1 72 (by omega)).2.1.trans f72.2.1⟩, ⟨(O25.1 73 (by omega)).1.trans f73.1, (O25.1 73 (by omega)).2.1.trans f73.2.1⟩, ⟨(O25.1 74 (by omega)).1.trans f74.1, (O25.1 74 (by omega)).2.1.trans f74.2.1⟩, ⟨(O25.1 75 (by omega)).1.trans f75.1, (O25.1 75 (by omega)).2.1.trans f75.2.1⟩, ⟨(O25.1 76 (by omega)).1.trans f76.1, (O25.1 76 (by omega)).2.1.trans f76.2.1⟩, ⟨(O25.1 77 (by omega)).1.trans f77.1, (O25.1 77 (by omega)).2.1.trans f77.2.1⟩, ⟨(O25.1 78 (by omega)).1.trans f78.1, (O25.1 78 (by omega)).2.1.trans f78.2.1⟩, ⟨(O25.1 79 (by omega)).1.trans f79.1, (O25.1 79 (by omega)).2.1.trans f79.2.1⟩, fun j hj => (congrFun (O25.2.1 79 (by omega) (by omega)) j).trans (f80 j hj).2.2, fun j hj => (O25.1 (80 + j) (by omega)).1.trans (f80 j hj).1, fun j hj => (O25.1 (80 + j) (by omega)).2.1.trans (f80 j hj).2.1, ⟨(O25.1 89 (by omega)).1.trans f89.1, (O25.1 89 (by omega)).2.1.trans f89.2.1⟩, ⟨(O25.1 90 (by omega)).1.trans f90.1, (O25.1 90 (by omega)).2.1.trans f90.2.1⟩, ⟨(O25.1 91 (by omega)).1.trans f91.1, (O25.1 91 (by omega)).2.1.trans f91.2.1⟩, ⟨(O25.1 92 (by omega)).1.trans f92.1, (O25.1 92 (by omega)).2.1.trans f92.2.1⟩, ⟨(O25.1 93 (by omega)).1.trans f93.1, (O25.1 93 (by omega)).2.1.trans f93.2.1⟩⟩
end Face1
