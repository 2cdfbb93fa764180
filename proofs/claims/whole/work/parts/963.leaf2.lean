/-! THE START: plan, tape, finder. Made by wip/whole/math/963.py. -/
section Leaf2
variable {B B1 : am_A} {i i1 : Nat → Nat → Int32} {d x n k t len o p s : Nat} {ks js : List Nat}
/-- a row of rows, a field of x -/
theorem gr_step (hx : x < am_N B) : ∃ C1 c1, am_gr len (am_N B) n 0 (am_wI (am_nw B 25 n n) (rI B i)) = am_wI C1 c1 ∧ Nr x [k] [] (1 + n) (n + n * len) B i (am_sR C1 x k (some (am_N B))) c1 ∧ Rf (am_sR C1 x k (some (am_N B))) (am_N B) x k 25 n ∧ ∀ j, j < n → Rf (am_sR C1 x k (some (am_N B))) (am_N B + 1 + j) (am_N B) j 21 len := by
  obtain ⟨C1, c1, E, ⟨b1, b2, b3⟩, b4, b5, b6, b7, b8⟩ := gr_nr (o := am_N B) (len := len) n 0 (am_nw B 25 n n) (rI B i) (Nat.lt_succ_self _)
  have n1 : am_N (am_nw B 25 n n) = am_N B + 1 := rfl
  have n2 : am_C (am_nw B 25 n n) = am_C B + 1 := rfl
  have n3 : am_S (am_nw B 25 n n) = am_S B + n := rfl
  rw [n1] at b1 b4 b5 b6 b7 b8
  refine ⟨C1, c1, E, ⟨⟨?_, ?_, ?_⟩, fun q hq => ?_, fun q l hq h => ?_, fun q l hq _ => ?_, fun q l h1 h2 => ?_⟩, ⟨?_, ?_, ?_⟩, fun j hj => ?_⟩
  · show am_N C1 = _
    omega
  · show am_C C1 = _
    omega
  · show am_S C1 = _
    omega
  · obtain ⟨c1, c2, c3⟩ := b4 q (by omega)
    exact ⟨c1.trans (if_neg (by omega)), c2.trans (if_neg (by omega)), c3.trans (if_neg (by omega))⟩
  · show am_up2 (am_R C1) x k (some (am_N B)) q l = _
    rw [y_up2 (by
      by_cases e : q = x
      · exact Or.inr fun e2 => h e (by rw [e2]; exact List.mem_singleton_self k)
      · exact Or.inl e), b5 q l (by omega) fun e => by omega]
    exact congrFun (if_neg (by omega)) l
  · rw [b6 q l (by omega)]
    exact congrFun (if_neg (by omega)) l
  · by_cases g : q = am_N B
    · rw [b6 q l (by omega)]
      exact congrFun (if_pos g) l
    · exact b7 q l (by omega) (by omega)
  · exact (b4 _ (by omega)).1.trans (if_pos rfl)
  · exact (b4 _ (by omega)).2.1.trans (if_pos rfl)
  · show am_up2 (am_R C1) x k (some (am_N B)) x k = _
    exact y_up1 rfl rfl
  · obtain ⟨f1, f2, f3⟩ := b8 j hj
    refine ⟨f1, f2, ?_⟩
    show am_up2 (am_R C1) x k (some (am_N B)) (am_N B) j = _
    rw [y_up2 (by omega)]
    rw [Nat.zero_add] at f3
    exact f3
/-- of another object -/
theorem Rf.mvo (h : Rf B n o k t len) (hN : Nr x ks js p s B i B1 i1) (hn : n < am_N B) (ho : o < am_N B) (hx : o ≠ x) : Rf B1 n o k t len := ⟨(hN.2.1 n hn).1.trans h.1, (hN.2.1 n hn).2.1.trans h.2.1, (hN.2.2.1 o k ho fun e => absurd e hx).trans h.2.2⟩
theorem i_167 (K0 : am_K B x = 6) (H0 : x < am_N B) : ∃ B' i', am_fx am_P d 167 0 [some (.ref x)] [] (am_wI B i) = some (.inl none, am_wI B' i') ∧ Nr x [0, 1, 2, 3, 5] [] 8 65 B i B' i' ∧ (Rf B' (am_N B + 0) x 0 21 8 ∧ Rf B' (am_N B + 1) x 1 21 8 ∧ Rf B' (am_N B + 2) x 2 21 8 ∧ Rf B' (am_N B + 3) x 3 21 8 ∧ Rf B' (am_N B + 4) x 5 25 3 ∧ (∀ j, j < 3 → Rf B' (am_N B + 5 + j) (am_N B + 4) j 21 10)) := by
  generalize hB : B = B0 at *
  generalize hi : i = i0 at *
  have E0 : am_fx am_P d 167 0 [some (.ref x)] [] (am_wI B0 i0) = am_fx am_P d 167 12 [some (.ref x)] [] (am_wI (rB B0 x 0 21 8) (rI B0 i0)) := by
    rw [bk_167_0]
    rw [if_neg (by decide)]
    refine (y_ck ?_).trans ?_
    · exact (y_nwK (n := (8 : Int32).toNatClampNeg) (sl := (8 : Int32).toNatClampNeg) (Nat.ne_of_lt H0)).trans K0
    · rfl
  obtain ⟨G0, F0⟩ := row_nr (B := B0) (i := i0) (x := x) (k := 0) (t := 21) (len := 8) H0
  generalize rB B0 x 0 21 8 = B1 at E0 G0 F0
  generalize rI B0 i0 = i1 at E0 G0
  have H1 : x < am_N B1 := by have := G0.1.1; omega
  have K1 : am_K B1 x = 6 := (G0.2.1 x H0).1.trans K0
  have E1 : am_fx am_P d 167 12 [some (.ref x)] [] (am_wI B1 i1) = am_fx am_P d 167 20 [some (.ref x)] [] (am_wI (rB B1 x 1 21 8) (rI B1 i1)) := by
    rw [bk_167_12]
    rw [if_neg (by decide)]
    refine (y_ck ?_).trans ?_
    · exact (y_nwK (n := (8 : Int32).toNatClampNeg) (sl := (8 : Int32).toNatClampNeg) (Nat.ne_of_lt H1)).trans K1
    · rfl
  obtain ⟨G1, F1⟩ := row_nr (B := B1) (i := i1) (x := x) (k := 1) (t := 21) (len := 8) H1
  generalize rB B1 x 1 21 8 = B2 at E1 G1 F1
  generalize rI B1 i1 = i2 at E1 G1
  have H2 : x < am_N B2 := by have := G1.1.1; omega
  have K2 : am_K B2 x = 6 := (G1.2.1 x H1).1.trans K1
  have E2 : am_fx am_P d 167 20 [some (.ref x)] [] (am_wI B2 i2) = am_fx am_P d 167 28 [some (.ref x)] [] (am_wI (rB B2 x 2 21 8) (rI B2 i2)) := by
    rw [bk_167_20]
    rw [if_neg (by decide)]
    refine (y_ck ?_).trans ?_
    · exact (y_nwK (n := (8 : Int32).toNatClampNeg) (sl := (8 : Int32).toNatClampNeg) (Nat.ne_of_lt H2)).trans K2
    · rfl
  obtain ⟨G2, F2⟩ := row_nr (B := B2) (i := i2) (x := x) (k := 2) (t := 21) (len := 8) H2
  generalize rB B2 x 2 21 8 = B3 at E2 G2 F2
  generalize rI B2 i2 = i3 at E2 G2
  have H3 : x < am_N B3 := by have := G2.1.1; omega
  have K3 : am_K B3 x = 6 := (G2.2.1 x H2).1.trans K2
  have E3 : am_fx am_P d 167 28 [some (.ref x)] [] (am_wI B3 i3) = am_fx am_P d 167 36 [some (.ref x)] [] (am_wI (rB B3 x 3 21 8) (rI B3 i3)) := by
    rw [bk_167_28]
    rw [if_neg (by decide)]
    refine (y_ck ?_).trans ?_
    · exact (y_nwK (n := (8 : Int32).toNatClampNeg) (sl := (8 : Int32).toNatClampNeg) (Nat.ne_of_lt H3)).trans K3
    · rfl
  obtain ⟨G3, F3⟩ := row_nr (B := B3) (i := i3) (x := x) (k := 3) (t := 21) (len := 8) H3
  generalize rB B3 x 3 21 8 = B4 at E3 G3 F3
  generalize rI B3 i3 = i4 at E3 G3
  have H4 : x < am_N B4 := by have := G3.1.1; omega
  have K4 : am_K B4 x = 6 := (G3.2.1 x H3).1.trans K3
  obtain ⟨C4, i5, e4, G4, F4, W4⟩ := gr_step (B := B4) (i := i4) (x := x) (k := 5) (n := 3) (len := 10) H4
  have e4 : am_gr (10 : Int32).toNatClampNeg (am_N (am_wI B4 i4)) (3 : Int32).toNatClampNeg 0 (am_nw (am_wI B4 i4) 25 (3 : Int32).toNatClampNeg (3 : Int32).toNatClampNeg) = am_wI C4 i5 := e4
  have E4 : am_fx am_P d 167 36 [some (.ref x)] [] (am_wI B4 i4) = am_fx am_P d 167 47 [none] [] (am_wI (am_sR C4 x 5 (some (am_N B4))) i5) := by
    rw [bk_167_36, if_neg (by decide), e4]
    refine (y_ck ?_).trans ?_
    · exact (G4.2.1 x H4).1.trans K4
    · rfl
  clear e4
  generalize am_sR C4 x 5 (some (am_N B4)) = B5 at E4 G4 F4 W4
  have H5 : x < am_N B5 := by have := G4.1.1; omega
  have K5 : am_K B5 x = 6 := (G4.2.1 x H4).1.trans K4
  have A0 := G0
  have A1 := A0.tr G1 H0
  have A2 := A1.tr G2 H0
  have A3 := A2.tr G3 H0
  have A4 := A3.tr G4 H0
  have Z5 : Nr x [] [] 0 0 B5 i5 B5 i5 := Nr.rf
  have Z4 := G4.tr Z5 H4
  have Z3 := G3.tr Z4 H3
  have Z2 := G2.tr Z3 H2
  have Z1 := G1.tr Z2 H1
  refine ⟨B5, i5, ?_, A4, ⟨by have q := F0.mv Z1 (by have := G0.1.1; omega) H1 (by decide); rw [show am_N B0 + 0 = am_N B0 by have := Nat.le_refl 0; omega]; exact q, by have q := F1.mv Z2 (by have := G1.1.1; omega) H2 (by decide); rw [show am_N B0 + 1 = am_N B1 by have := A0.1.1; omega]; exact q, by have q := F2.mv Z3 (by have := G2.1.1; omega) H3 (by decide); rw [show am_N B0 + 2 = am_N B2 by have := A1.1.1; omega]; exact q, by have q := F3.mv Z4 (by have := G3.1.1; omega) H4 (by decide); rw [show am_N B0 + 3 = am_N B3 by have := A2.1.1; omega]; exact q, by have q := F4.mv Z5 (by have := G4.1.1; omega) H5 (by decide); rw [show am_N B0 + 4 = am_N B4 by have := A3.1.1; omega]; exact q, fun j hj => by have q := (W4 j hj).mvo Z5 (by have := G4.1.1; omega) (by have := G4.1.1; omega) (by have := H4; omega); rw [show am_N B0 + 5 + j = am_N B4 + 1 + j by have := A3.1.1; omega, show am_N B0 + 4 = am_N B4 by have := A3.1.1; omega]; exact q⟩⟩
  rw [E0, E1, E2, E3, E4, bk_167_47]
theorem i_195 (K0 : am_K B x = 8) (H0 : x < am_N B) : ∃ B' i', am_fx am_P d 195 0 [some (.ref x)] [] (am_wI B i) = some (.inl none, am_wI B' i') ∧ Nr x [0, 8, 9, 10, 12] [2] 5 836 B i B' i' ∧ (Rf B' (am_N B + 0) x 0 21 400 ∧ Rf B' (am_N B + 1) x 8 21 12 ∧ Rf B' (am_N B + 2) x 9 21 12 ∧ Rf B' (am_N B + 3) x 10 21 12 ∧ Rf B' (am_N B + 4) x 12 21 400) ∧ i' x 2 = -1 := by
  generalize hB : B = B0 at *
  generalize hi : i = i0 at *
  have E0 : am_fx am_P d 195 0 [some (.ref x)] [] (am_wI B0 i0) = am_fx am_P d 195 13 [some (.ref x)] [] (am_wI (rB B0 x 0 21 400) (rI B0 i0)) := by
    rw [bk_195_0]
    rw [if_neg (by decide)]
    refine (y_ck ?_).trans ?_
    · exact (y_nwK (n := (400 : Int32).toNatClampNeg) (sl := (400 : Int32).toNatClampNeg) (Nat.ne_of_lt H0)).trans K0
    · rfl
  obtain ⟨G0, F0⟩ := row_nr (B := B0) (i := i0) (x := x) (k := 0) (t := 21) (len := 400) H0
  generalize rB B0 x 0 21 400 = B1 at E0 G0 F0
  generalize rI B0 i0 = i1 at E0 G0
  have H1 : x < am_N B1 := by have := G0.1.1; omega
  have K1 : am_K B1 x = 8 := (G0.2.1 x H0).1.trans K0
  have S1 : Nr x [] [2] 0 0 B1 i1 B1 (am_up2 i1 x 2 (-1)) := si_nr
  have E1 : am_fx am_P d 195 13 [some (.ref x)] [] (am_wI B1 i1) = am_fx am_P d 195 26 [some (.ref x)] [] (am_wI (rB B1 x 8 21 12) (rI B1 (am_up2 i1 x 2 (-1)))) := by
    rw [bk_195_13]
    refine (y_ck (by exact K1)).trans ?_
    rw [if_neg (by decide)]
    refine (y_ck ?_).trans ?_
    · exact (y_nwK (n := (12 : Int32).toNatClampNeg) (sl := (12 : Int32).toNatClampNeg) (Nat.ne_of_lt H1)).trans K1
    · rfl
  obtain ⟨G1, F1⟩ := row_nr (B := B1) (i := (am_up2 i1 x 2 (-1))) (x := x) (k := 8) (t := 21) (len := 12) H1
  have G1 := S1.tr G1 H1
  clear S1
  generalize rB B1 x 8 21 12 = B2 at E1 G1 F1
  have V1 : rI B1 (am_up2 i1 x 2 (-1)) x 2 = -1 := (congrFun (if_neg (Nat.ne_of_lt H1)) 2).trans (y_up1 rfl rfl)
  generalize rI B1 (am_up2 i1 x 2 (-1)) = i2 at E1 G1 V1
  have H2 : x < am_N B2 := by have := G1.1.1; omega
  have K2 : am_K B2 x = 8 := (G1.2.1 x H1).1.trans K1
  have E2 : am_fx am_P d 195 26 [some (.ref x)] [] (am_wI B2 i2) = am_fx am_P d 195 34 [some (.ref x)] [] (am_wI (rB B2 x 9 21 12) (rI B2 i2)) := by
    rw [bk_195_26]
    rw [if_neg (by decide)]
    refine (y_ck ?_).trans ?_
    · exact (y_nwK (n := (12 : Int32).toNatClampNeg) (sl := (12 : Int32).toNatClampNeg) (Nat.ne_of_lt H2)).trans K2
    · rfl
  obtain ⟨G2, F2⟩ := row_nr (B := B2) (i := i2) (x := x) (k := 9) (t := 21) (len := 12) H2
  generalize rB B2 x 9 21 12 = B3 at E2 G2 F2
  generalize rI B2 i2 = i3 at E2 G2
  have H3 : x < am_N B3 := by have := G2.1.1; omega
  have K3 : am_K B3 x = 8 := (G2.2.1 x H2).1.trans K2
  have E3 : am_fx am_P d 195 34 [some (.ref x)] [] (am_wI B3 i3) = am_fx am_P d 195 42 [some (.ref x)] [] (am_wI (rB B3 x 10 21 12) (rI B3 i3)) := by
    rw [bk_195_34]
    rw [if_neg (by decide)]
    refine (y_ck ?_).trans ?_
    · exact (y_nwK (n := (12 : Int32).toNatClampNeg) (sl := (12 : Int32).toNatClampNeg) (Nat.ne_of_lt H3)).trans K3
    · rfl
  obtain ⟨G3, F3⟩ := row_nr (B := B3) (i := i3) (x := x) (k := 10) (t := 21) (len := 12) H3
  generalize rB B3 x 10 21 12 = B4 at E3 G3 F3
  generalize rI B3 i3 = i4 at E3 G3
  have H4 : x < am_N B4 := by have := G3.1.1; omega
  have K4 : am_K B4 x = 8 := (G3.2.1 x H3).1.trans K3
  have E4 : am_fx am_P d 195 42 [some (.ref x)] [] (am_wI B4 i4) = am_fx am_P d 195 51 [none] [] (am_wI (rB B4 x 12 21 400) (rI B4 i4)) := by
    rw [bk_195_42]
    rw [if_neg (by decide)]
    refine (y_ck ?_).trans ?_
    · exact (y_nwK (n := (400 : Int32).toNatClampNeg) (sl := (400 : Int32).toNatClampNeg) (Nat.ne_of_lt H4)).trans K4
    · rfl
  obtain ⟨G4, F4⟩ := row_nr (B := B4) (i := i4) (x := x) (k := 12) (t := 21) (len := 400) H4
  generalize rB B4 x 12 21 400 = B5 at E4 G4 F4
  generalize rI B4 i4 = i5 at E4 G4
  have H5 : x < am_N B5 := by have := G4.1.1; omega
  have K5 : am_K B5 x = 8 := (G4.2.1 x H4).1.trans K4
  have A0 := G0
  have A1 := A0.tr G1 H0
  have A2 := A1.tr G2 H0
  have A3 := A2.tr G3 H0
  have A4 := A3.tr G4 H0
  have Z5 : Nr x [] [] 0 0 B5 i5 B5 i5 := Nr.rf
  have Z4 := G4.tr Z5 H4
  have Z3 := G3.tr Z4 H3
  have Z2 := G2.tr Z3 H2
  have Z1 := G1.tr Z2 H1
  refine ⟨B5, i5, ?_, A4, ⟨by have q := F0.mv Z1 (by have := G0.1.1; omega) H1 (by decide); rw [show am_N B0 + 0 = am_N B0 by have := Nat.le_refl 0; omega]; exact q, by have q := F1.mv Z2 (by have := G1.1.1; omega) H2 (by decide); rw [show am_N B0 + 1 = am_N B1 by have := A0.1.1; omega]; exact q, by have q := F2.mv Z3 (by have := G2.1.1; omega) H3 (by decide); rw [show am_N B0 + 2 = am_N B2 by have := A1.1.1; omega]; exact q, by have q := F3.mv Z4 (by have := G3.1.1; omega) H4 (by decide); rw [show am_N B0 + 3 = am_N B3 by have := A2.1.1; omega]; exact q, by have q := F4.mv Z5 (by have := G4.1.1; omega) H5 (by decide); rw [show am_N B0 + 4 = am_N B4 by have := A3.1.1; omega]; exact q⟩, ((Z2.2.2.2.1 x 2 H2 (fun _ => by decide)).trans V1)⟩
  rw [E0, E1, E2, E3, E4, bk_195_51]
theorem i_270 (K0 : am_K B x = 3) (H0 : x < am_N B) : ∃ B' i', am_fx am_P d 270 0 [some (.ref x)] [] (am_wI B i) = some (.inl none, am_wI B' i') ∧ Nr x [0, 2, 3, 4, 5, 7, 8, 9, 10, 12, 13, 14, 15] [] 22 2121 B i B' i' ∧ (Rf B' (am_N B + 0) x 0 21 8 ∧ Rf B' (am_N B + 1) x 2 21 8 ∧ Rf B' (am_N B + 2) x 3 21 256 ∧ Rf B' (am_N B + 3) x 4 22 256 ∧ Rf B' (am_N B + 4) x 5 21 8 ∧ Rf B' (am_N B + 5) x 7 21 4 ∧ Rf B' (am_N B + 6) x 8 21 4 ∧ Rf B' (am_N B + 7) x 9 25 9 ∧ (∀ j, j < 9 → Rf B' (am_N B + 8 + j) (am_N B + 7) j 21 120) ∧ Rf B' (am_N B + 17) x 10 21 120 ∧ Rf B' (am_N B + 18) x 12 21 120 ∧ Rf B' (am_N B + 19) x 13 21 120 ∧ Rf B' (am_N B + 20) x 14 21 64 ∧ Rf B' (am_N B + 21) x 15 21 64) := by
  generalize hB : B = B0 at *
  generalize hi : i = i0 at *
  have E0 : am_fx am_P d 270 0 [some (.ref x)] [] (am_wI B0 i0) = am_fx am_P d 270 12 [some (.ref x)] [] (am_wI (rB B0 x 0 21 8) (rI B0 i0)) := by
    rw [bk_270_0]
    rw [if_neg (by decide)]
    refine (y_ck ?_).trans ?_
    · exact (y_nwK (n := (8 : Int32).toNatClampNeg) (sl := (8 : Int32).toNatClampNeg) (Nat.ne_of_lt H0)).trans K0
    · rfl
  obtain ⟨G0, F0⟩ := row_nr (B := B0) (i := i0) (x := x) (k := 0) (t := 21) (len := 8) H0
  generalize rB B0 x 0 21 8 = B1 at E0 G0 F0
  generalize rI B0 i0 = i1 at E0 G0
  have H1 : x < am_N B1 := by have := G0.1.1; omega
  have K1 : am_K B1 x = 3 := (G0.2.1 x H0).1.trans K0
  have E1 : am_fx am_P d 270 12 [some (.ref x)] [] (am_wI B1 i1) = am_fx am_P d 270 20 [some (.ref x)] [] (am_wI (rB B1 x 2 21 8) (rI B1 i1)) := by
    rw [bk_270_12]
    rw [if_neg (by decide)]
    refine (y_ck ?_).trans ?_
    · exact (y_nwK (n := (8 : Int32).toNatClampNeg) (sl := (8 : Int32).toNatClampNeg) (Nat.ne_of_lt H1)).trans K1
    · rfl
  obtain ⟨G1, F1⟩ := row_nr (B := B1) (i := i1) (x := x) (k := 2) (t := 21) (len := 8) H1
  generalize rB B1 x 2 21 8 = B2 at E1 G1 F1
  generalize rI B1 i1 = i2 at E1 G1
  have H2 : x < am_N B2 := by have := G1.1.1; omega
  have K2 : am_K B2 x = 3 := (G1.2.1 x H1).1.trans K1
  have E2 : am_fx am_P d 270 20 [some (.ref x)] [] (am_wI B2 i2) = am_fx am_P d 270 29 [some (.ref x)] [] (am_wI (rB B2 x 3 21 256) (rI B2 i2)) := by
    rw [bk_270_20]
    rw [if_neg (by decide)]
    refine (y_ck ?_).trans ?_
    · exact (y_nwK (n := (256 : Int32).toNatClampNeg) (sl := (256 : Int32).toNatClampNeg) (Nat.ne_of_lt H2)).trans K2
    · rfl
  obtain ⟨G2, F2⟩ := row_nr (B := B2) (i := i2) (x := x) (k := 3) (t := 21) (len := 256) H2
  generalize rB B2 x 3 21 256 = B3 at E2 G2 F2
  generalize rI B2 i2 = i3 at E2 G2
  have H3 : x < am_N B3 := by have := G2.1.1; omega
  have K3 : am_K B3 x = 3 := (G2.2.1 x H2).1.trans K2
  have E3 : am_fx am_P d 270 29 [some (.ref x)] [] (am_wI B3 i3) = am_fx am_P d 270 38 [some (.ref x)] [] (am_wI (rB B3 x 4 22 256) (rI B3 i3)) := by
    rw [bk_270_29]
    rw [if_neg (by decide)]
    refine (y_ck ?_).trans ?_
    · exact (y_nwK (n := (256 : Int32).toNatClampNeg) (sl := (256 : Int32).toNatClampNeg) (Nat.ne_of_lt H3)).trans K3
    · rfl
  obtain ⟨G3, F3⟩ := row_nr (B := B3) (i := i3) (x := x) (k := 4) (t := 22) (len := 256) H3
  generalize rB B3 x 4 22 256 = B4 at E3 G3 F3
  generalize rI B3 i3 = i4 at E3 G3
  have H4 : x < am_N B4 := by have := G3.1.1; omega
  have K4 : am_K B4 x = 3 := (G3.2.1 x H3).1.trans K3
  have E4 : am_fx am_P d 270 38 [some (.ref x)] [] (am_wI B4 i4) = am_fx am_P d 270 46 [some (.ref x)] [] (am_wI (rB B4 x 5 21 8) (rI B4 i4)) := by
    rw [bk_270_38]
    rw [if_neg (by decide)]
    refine (y_ck ?_).trans ?_
    · exact (y_nwK (n := (8 : Int32).toNatClampNeg) (sl := (8 : Int32).toNatClampNeg) (Nat.ne_of_lt H4)).trans K4
    · rfl
  obtain ⟨G4, F4⟩ := row_nr (B := B4) (i := i4) (x := x) (k := 5) (t := 21) (len := 8) H4
  generalize rB B4 x 5 21 8 = B5 at E4 G4 F4
  generalize rI B4 i4 = i5 at E4 G4
  have H5 : x < am_N B5 := by have := G4.1.1; omega
  have K5 : am_K B5 x = 3 := (G4.2.1 x H4).1.trans K4
  have E5 : am_fx am_P d 270 46 [some (.ref x)] [] (am_wI B5 i5) = am_fx am_P d 270 53 [some (.ref x)] [] (am_wI (rB B5 x 7 21 4) (rI B5 i5)) := by
    rw [bk_270_46]
    rw [if_neg (by decide)]
    refine (y_ck ?_).trans ?_
    · exact (y_nwK (n := (4 : Int32).toNatClampNeg) (sl := (4 : Int32).toNatClampNeg) (Nat.ne_of_lt H5)).trans K5
    · rfl
  obtain ⟨G5, F5⟩ := row_nr (B := B5) (i := i5) (x := x) (k := 7) (t := 21) (len := 4) H5
  generalize rB B5 x 7 21 4 = B6 at E5 G5 F5
  generalize rI B5 i5 = i6 at E5 G5
  have H6 : x < am_N B6 := by have := G5.1.1; omega
  have K6 : am_K B6 x = 3 := (G5.2.1 x H5).1.trans K5
  have E6 : am_fx am_P d 270 53 [some (.ref x)] [] (am_wI B6 i6) = am_fx am_P d 270 60 [some (.ref x)] [] (am_wI (rB B6 x 8 21 4) (rI B6 i6)) := by
    rw [bk_270_53]
    rw [if_neg (by decide)]
    refine (y_ck ?_).trans ?_
    · exact (y_nwK (n := (4 : Int32).toNatClampNeg) (sl := (4 : Int32).toNatClampNeg) (Nat.ne_of_lt H6)).trans K6
    · rfl
  obtain ⟨G6, F6⟩ := row_nr (B := B6) (i := i6) (x := x) (k := 8) (t := 21) (len := 4) H6
  generalize rB B6 x 8 21 4 = B7 at E6 G6 F6
  generalize rI B6 i6 = i7 at E6 G6
  have H7 : x < am_N B7 := by have := G6.1.1; omega
  have K7 : am_K B7 x = 3 := (G6.2.1 x H6).1.trans K6
  obtain ⟨C7, i8, e7, G7, F7, W7⟩ := gr_step (B := B7) (i := i7) (x := x) (k := 9) (n := 9) (len := 120) H7
  have e7 : am_gr (120 : Int32).toNatClampNeg (am_N (am_wI B7 i7)) (9 : Int32).toNatClampNeg 0 (am_nw (am_wI B7 i7) 25 (9 : Int32).toNatClampNeg (9 : Int32).toNatClampNeg) = am_wI C7 i8 := e7
  have E7 : am_fx am_P d 270 60 [some (.ref x)] [] (am_wI B7 i7) = am_fx am_P d 270 72 [some (.ref x)] [] (am_wI (am_sR C7 x 9 (some (am_N B7))) i8) := by
    rw [bk_270_60, if_neg (by decide), e7]
    refine (y_ck ?_).trans ?_
    · exact (G7.2.1 x H7).1.trans K7
    · rfl
  clear e7
  generalize am_sR C7 x 9 (some (am_N B7)) = B8 at E7 G7 F7 W7
  have H8 : x < am_N B8 := by have := G7.1.1; omega
  have K8 : am_K B8 x = 3 := (G7.2.1 x H7).1.trans K7
  have E8 : am_fx am_P d 270 72 [some (.ref x)] [] (am_wI B8 i8) = am_fx am_P d 270 80 [some (.ref x)] [] (am_wI (rB B8 x 10 21 120) (rI B8 i8)) := by
    rw [bk_270_72]
    rw [if_neg (by decide)]
    refine (y_ck ?_).trans ?_
    · exact (y_nwK (n := (120 : Int32).toNatClampNeg) (sl := (120 : Int32).toNatClampNeg) (Nat.ne_of_lt H8)).trans K8
    · rfl
  obtain ⟨G8, F8⟩ := row_nr (B := B8) (i := i8) (x := x) (k := 10) (t := 21) (len := 120) H8
  generalize rB B8 x 10 21 120 = B9 at E8 G8 F8
  generalize rI B8 i8 = i9 at E8 G8
  have H9 : x < am_N B9 := by have := G8.1.1; omega
  have K9 : am_K B9 x = 3 := (G8.2.1 x H8).1.trans K8
  have E9 : am_fx am_P d 270 80 [some (.ref x)] [] (am_wI B9 i9) = am_fx am_P d 270 88 [some (.ref x)] [] (am_wI (rB B9 x 12 21 120) (rI B9 i9)) := by
    rw [bk_270_80]
    rw [if_neg (by decide)]
    refine (y_ck ?_).trans ?_
    · exact (y_nwK (n := (120 : Int32).toNatClampNeg) (sl := (120 : Int32).toNatClampNeg) (Nat.ne_of_lt H9)).trans K9
    · rfl
  obtain ⟨G9, F9⟩ := row_nr (B := B9) (i := i9) (x := x) (k := 12) (t := 21) (len := 120) H9
  generalize rB B9 x 12 21 120 = B10 at E9 G9 F9
  generalize rI B9 i9 = i10 at E9 G9
  have H10 : x < am_N B10 := by have := G9.1.1; omega
  have K10 : am_K B10 x = 3 := (G9.2.1 x H9).1.trans K9
  have E10 : am_fx am_P d 270 88 [some (.ref x)] [] (am_wI B10 i10) = am_fx am_P d 270 96 [some (.ref x)] [] (am_wI (rB B10 x 13 21 120) (rI B10 i10)) := by
    rw [bk_270_88]
    rw [if_neg (by decide)]
    refine (y_ck ?_).trans ?_
    · exact (y_nwK (n := (120 : Int32).toNatClampNeg) (sl := (120 : Int32).toNatClampNeg) (Nat.ne_of_lt H10)).trans K10
    · rfl
  obtain ⟨G10, F10⟩ := row_nr (B := B10) (i := i10) (x := x) (k := 13) (t := 21) (len := 120) H10
  generalize rB B10 x 13 21 120 = B11 at E10 G10 F10
  generalize rI B10 i10 = i11 at E10 G10
  have H11 : x < am_N B11 := by have := G10.1.1; omega
  have K11 : am_K B11 x = 3 := (G10.2.1 x H10).1.trans K10
  have E11 : am_fx am_P d 270 96 [some (.ref x)] [] (am_wI B11 i11) = am_fx am_P d 270 104 [some (.ref x)] [] (am_wI (rB B11 x 14 21 64) (rI B11 i11)) := by
    rw [bk_270_96]
    rw [if_neg (by decide)]
    refine (y_ck ?_).trans ?_
    · exact (y_nwK (n := (64 : Int32).toNatClampNeg) (sl := (64 : Int32).toNatClampNeg) (Nat.ne_of_lt H11)).trans K11
    · rfl
  obtain ⟨G11, F11⟩ := row_nr (B := B11) (i := i11) (x := x) (k := 14) (t := 21) (len := 64) H11
  generalize rB B11 x 14 21 64 = B12 at E11 G11 F11
  generalize rI B11 i11 = i12 at E11 G11
  have H12 : x < am_N B12 := by have := G11.1.1; omega
  have K12 : am_K B12 x = 3 := (G11.2.1 x H11).1.trans K11
  have E12 : am_fx am_P d 270 104 [some (.ref x)] [] (am_wI B12 i12) = am_fx am_P d 270 112 [none] [] (am_wI (rB B12 x 15 21 64) (rI B12 i12)) := by
    rw [bk_270_104]
    rw [if_neg (by decide)]
    refine (y_ck ?_).trans ?_
    · exact (y_nwK (n := (64 : Int32).toNatClampNeg) (sl := (64 : Int32).toNatClampNeg) (Nat.ne_of_lt H12)).trans K12
    · rfl
  obtain ⟨G12, F12⟩ := row_nr (B := B12) (i := i12) (x := x) (k := 15) (t := 21) (len := 64) H12
  generalize rB B12 x 15 21 64 = B13 at E12 G12 F12
  generalize rI B12 i12 = i13 at E12 G12
  have H13 : x < am_N B13 := by have := G12.1.1; omega
  have K13 : am_K B13 x = 3 := (G12.2.1 x H12).1.trans K12
  have A0 := G0
  have A1 := A0.tr G1 H0
  have A2 := A1.tr G2 H0
  have A3 := A2.tr G3 H0
  have A4 := A3.tr G4 H0
  have A5 := A4.tr G5 H0
  have A6 := A5.tr G6 H0
  have A7 := A6.tr G7 H0
  have A8 := A7.tr G8 H0
  have A9 := A8.tr G9 H0
  have A10 := A9.tr G10 H0
  have A11 := A10.tr G11 H0
  have A12 := A11.tr G12 H0
  have Z13 : Nr x [] [] 0 0 B13 i13 B13 i13 := Nr.rf
  have Z12 := G12.tr Z13 H12
  have Z11 := G11.tr Z12 H11
  have Z10 := G10.tr Z11 H10
  have Z9 := G9.tr Z10 H9
  have Z8 := G8.tr Z9 H8
  have Z7 := G7.tr Z8 H7
  have Z6 := G6.tr Z7 H6
  have Z5 := G5.tr Z6 H5
  have Z4 := G4.tr Z5 H4
  have Z3 := G3.tr Z4 H3
  have Z2 := G2.tr Z3 H2
  have Z1 := G1.tr Z2 H1
  refine ⟨B13, i13, ?_, A12, ⟨by have q := F0.mv Z1 (by have := G0.1.1; omega) H1 (by decide); rw [show am_N B0 + 0 = am_N B0 by have := Nat.le_refl 0; omega]; exact q, by have q := F1.mv Z2 (by have := G1.1.1; omega) H2 (by decide); rw [show am_N B0 + 1 = am_N B1 by have := A0.1.1; omega]; exact q, by have q := F2.mv Z3 (by have := G2.1.1; omega) H3 (by decide); rw [show am_N B0 + 2 = am_N B2 by have := A1.1.1; omega]; exact q, by have q := F3.mv Z4 (by have := G3.1.1; omega) H4 (by decide); rw [show am_N B0 + 3 = am_N B3 by have := A2.1.1; omega]; exact q, by have q := F4.mv Z5 (by have := G4.1.1; omega) H5 (by decide); rw [show am_N B0 + 4 = am_N B4 by have := A3.1.1; omega]; exact q, by have q := F5.mv Z6 (by have := G5.1.1; omega) H6 (by decide); rw [show am_N B0 + 5 = am_N B5 by have := A4.1.1; omega]; exact q, by have q := F6.mv Z7 (by have := G6.1.1; omega) H7 (by decide); rw [show am_N B0 + 6 = am_N B6 by have := A5.1.1; omega]; exact q, by have q := F7.mv Z8 (by have := G7.1.1; omega) H8 (by decide); rw [show am_N B0 + 7 = am_N B7 by have := A6.1.1; omega]; exact q, fun j hj => by have q := (W7 j hj).mvo Z8 (by have := G7.1.1; omega) (by have := G7.1.1; omega) (by have := H7; omega); rw [show am_N B0 + 8 + j = am_N B7 + 1 + j by have := A6.1.1; omega, show am_N B0 + 7 = am_N B7 by have := A6.1.1; omega]; exact q, by have q := F8.mv Z9 (by have := G8.1.1; omega) H9 (by decide); rw [show am_N B0 + 17 = am_N B8 by have := A7.1.1; omega]; exact q, by have q := F9.mv Z10 (by have := G9.1.1; omega) H10 (by decide); rw [show am_N B0 + 18 = am_N B9 by have := A8.1.1; omega]; exact q, by have q := F10.mv Z11 (by have := G10.1.1; omega) H11 (by decide); rw [show am_N B0 + 19 = am_N B10 by have := A9.1.1; omega]; exact q, by have q := F11.mv Z12 (by have := G11.1.1; omega) H12 (by decide); rw [show am_N B0 + 20 = am_N B11 by have := A10.1.1; omega]; exact q, by have q := F12.mv Z13 (by have := G12.1.1; omega) H13 (by decide); rw [show am_N B0 + 21 = am_N B12 by have := A11.1.1; omega]; exact q⟩⟩
  rw [E0, E1, E2, E3, E4, E5, E6, E7, E8, E9, E10, E11, E12, bk_270_112]
end Leaf2
