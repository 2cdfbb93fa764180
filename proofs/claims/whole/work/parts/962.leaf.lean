/-! THE START: objects that hold rows alone. Made by wip/whole/math/962.py. -/
section Leaf
variable {B : am_A} {i : Nat → Nat → Int32} {d x : Nat}
theorem i_187 (K0 : am_K B x = 11) (H0 : x < am_N B) : ∃ B' i', am_fx am_P d 187 0 [some (.ref x)] [] (am_wI B i) = some (.inl none, am_wI B' i') ∧ Nr x [0, 1, 4] [] 3 26 B i B' i' ∧ (Rf B' (am_N B + 0) x 0 29 10 ∧ Rf B' (am_N B + 1) x 1 21 10 ∧ Rf B' (am_N B + 2) x 4 21 6) := by
  generalize hB : B = B0 at *
  generalize hi : i = i0 at *
  have E0 : am_fx am_P d 187 0 [some (.ref x)] [] (am_wI B0 i0) = am_fx am_P d 187 13 [some (.ref x)] [] (am_wI (rB B0 x 0 29 10) (rI B0 i0)) := by
    rw [bk_187_0]
    rw [if_neg (by decide)]
    refine (y_ck ?_).trans ?_
    · exact (y_nwK (n := (10 : Int32).toNatClampNeg) (sl := (10 : Int32).toNatClampNeg) (Nat.ne_of_lt H0)).trans K0
    · rfl
  obtain ⟨G0, F0⟩ := row_nr (B := B0) (i := i0) (x := x) (k := 0) (t := 29) (len := 10) H0
  generalize rB B0 x 0 29 10 = B1 at E0 G0 F0
  generalize rI B0 i0 = i1 at E0 G0
  have H1 : x < am_N B1 := by have := G0.1.1; omega
  have K1 : am_K B1 x = 11 := (G0.2.1 x H0).1.trans K0
  have E1 : am_fx am_P d 187 13 [some (.ref x)] [] (am_wI B1 i1) = am_fx am_P d 187 21 [some (.ref x)] [] (am_wI (rB B1 x 1 21 10) (rI B1 i1)) := by
    rw [bk_187_13]
    rw [if_neg (by decide)]
    refine (y_ck ?_).trans ?_
    · exact (y_nwK (n := (10 : Int32).toNatClampNeg) (sl := (10 : Int32).toNatClampNeg) (Nat.ne_of_lt H1)).trans K1
    · rfl
  obtain ⟨G1, F1⟩ := row_nr (B := B1) (i := i1) (x := x) (k := 1) (t := 21) (len := 10) H1
  generalize rB B1 x 1 21 10 = B2 at E1 G1 F1
  generalize rI B1 i1 = i2 at E1 G1
  have H2 : x < am_N B2 := by have := G1.1.1; omega
  have K2 : am_K B2 x = 11 := (G1.2.1 x H1).1.trans K1
  have E2 : am_fx am_P d 187 21 [some (.ref x)] [] (am_wI B2 i2) = am_fx am_P d 187 29 [none] [] (am_wI (rB B2 x 4 21 6) (rI B2 i2)) := by
    rw [bk_187_21]
    rw [if_neg (by decide)]
    refine (y_ck ?_).trans ?_
    · exact (y_nwK (n := (6 : Int32).toNatClampNeg) (sl := (6 : Int32).toNatClampNeg) (Nat.ne_of_lt H2)).trans K2
    · rfl
  obtain ⟨G2, F2⟩ := row_nr (B := B2) (i := i2) (x := x) (k := 4) (t := 21) (len := 6) H2
  generalize rB B2 x 4 21 6 = B3 at E2 G2 F2
  generalize rI B2 i2 = i3 at E2 G2
  have H3 : x < am_N B3 := by have := G2.1.1; omega
  have K3 : am_K B3 x = 11 := (G2.2.1 x H2).1.trans K2
  have A0 := G0
  have A1 := A0.tr G1 H0
  have A2 := A1.tr G2 H0
  have Z3 : Nr x [] [] 0 0 B3 i3 B3 i3 := Nr.rf
  have Z2 := G2.tr Z3 H2
  have Z1 := G1.tr Z2 H1
  refine ⟨B3, i3, ?_, A2, ⟨by have q := F0.mv Z1 (by have := G0.1.1; omega) H1 (by decide); rw [show am_N B0 + 0 = am_N B0 by have := Nat.le_refl 0; omega]; exact q, by have q := F1.mv Z2 (by have := G1.1.1; omega) H2 (by decide); rw [show am_N B0 + 1 = am_N B1 by have := A0.1.1; omega]; exact q, by have q := F2.mv Z3 (by have := G2.1.1; omega) H3 (by decide); rw [show am_N B0 + 2 = am_N B2 by have := A1.1.1; omega]; exact q⟩⟩
  rw [E0, E1, E2, bk_187_29]
theorem i_216 (K0 : am_K B x = 4) (H0 : x < am_N B) : ∃ B' i', am_fx am_P d 216 0 [some (.ref x)] [] (am_wI B i) = some (.inl none, am_wI B' i') ∧ Nr x [0, 2] [] 2 32 B i B' i' ∧ (Rf B' (am_N B + 0) x 0 21 4 ∧ Rf B' (am_N B + 1) x 2 21 28) := by
  generalize hB : B = B0 at *
  generalize hi : i = i0 at *
  have E0 : am_fx am_P d 216 0 [some (.ref x)] [] (am_wI B0 i0) = am_fx am_P d 216 11 [some (.ref x)] [] (am_wI (rB B0 x 0 21 4) (rI B0 i0)) := by
    rw [bk_216_0]
    rw [if_neg (by decide)]
    refine (y_ck ?_).trans ?_
    · exact (y_nwK (n := (4 : Int32).toNatClampNeg) (sl := (4 : Int32).toNatClampNeg) (Nat.ne_of_lt H0)).trans K0
    · rfl
  obtain ⟨G0, F0⟩ := row_nr (B := B0) (i := i0) (x := x) (k := 0) (t := 21) (len := 4) H0
  generalize rB B0 x 0 21 4 = B1 at E0 G0 F0
  generalize rI B0 i0 = i1 at E0 G0
  have H1 : x < am_N B1 := by have := G0.1.1; omega
  have K1 : am_K B1 x = 4 := (G0.2.1 x H0).1.trans K0
  have E1 : am_fx am_P d 216 11 [some (.ref x)] [] (am_wI B1 i1) = am_fx am_P d 216 19 [none] [] (am_wI (rB B1 x 2 21 28) (rI B1 i1)) := by
    rw [bk_216_11]
    rw [if_neg (by decide)]
    refine (y_ck ?_).trans ?_
    · exact (y_nwK (n := (28 : Int32).toNatClampNeg) (sl := (28 : Int32).toNatClampNeg) (Nat.ne_of_lt H1)).trans K1
    · rfl
  obtain ⟨G1, F1⟩ := row_nr (B := B1) (i := i1) (x := x) (k := 2) (t := 21) (len := 28) H1
  generalize rB B1 x 2 21 28 = B2 at E1 G1 F1
  generalize rI B1 i1 = i2 at E1 G1
  have H2 : x < am_N B2 := by have := G1.1.1; omega
  have K2 : am_K B2 x = 4 := (G1.2.1 x H1).1.trans K1
  have A0 := G0
  have A1 := A0.tr G1 H0
  have Z2 : Nr x [] [] 0 0 B2 i2 B2 i2 := Nr.rf
  have Z1 := G1.tr Z2 H1
  refine ⟨B2, i2, ?_, A1, ⟨by have q := F0.mv Z1 (by have := G0.1.1; omega) H1 (by decide); rw [show am_N B0 + 0 = am_N B0 by have := Nat.le_refl 0; omega]; exact q, by have q := F1.mv Z2 (by have := G1.1.1; omega) H2 (by decide); rw [show am_N B0 + 1 = am_N B1 by have := A0.1.1; omega]; exact q⟩⟩
  rw [E0, E1, bk_216_19]
theorem i_143 (K0 : am_K B x = 2) (H0 : x < am_N B) : ∃ B' i', am_fx am_P d 143 0 [some (.ref x)] [] (am_wI B i) = some (.inl none, am_wI B' i') ∧ Nr x [0, 1, 2, 3, 5, 6, 8] [] 7 450 B i B' i' ∧ (Rf B' (am_N B + 0) x 0 21 100 ∧ Rf B' (am_N B + 1) x 1 21 100 ∧ Rf B' (am_N B + 2) x 2 21 100 ∧ Rf B' (am_N B + 3) x 3 21 100 ∧ Rf B' (am_N B + 4) x 5 21 20 ∧ Rf B' (am_N B + 5) x 6 21 20 ∧ Rf B' (am_N B + 6) x 8 21 10) := by
  generalize hB : B = B0 at *
  generalize hi : i = i0 at *
  have E0 : am_fx am_P d 143 0 [some (.ref x)] [] (am_wI B0 i0) = am_fx am_P d 143 12 [some (.ref x)] [] (am_wI (rB B0 x 0 21 100) (rI B0 i0)) := by
    rw [bk_143_0]
    rw [if_neg (by decide)]
    refine (y_ck ?_).trans ?_
    · exact (y_nwK (n := (100 : Int32).toNatClampNeg) (sl := (100 : Int32).toNatClampNeg) (Nat.ne_of_lt H0)).trans K0
    · rfl
  obtain ⟨G0, F0⟩ := row_nr (B := B0) (i := i0) (x := x) (k := 0) (t := 21) (len := 100) H0
  generalize rB B0 x 0 21 100 = B1 at E0 G0 F0
  generalize rI B0 i0 = i1 at E0 G0
  have H1 : x < am_N B1 := by have := G0.1.1; omega
  have K1 : am_K B1 x = 2 := (G0.2.1 x H0).1.trans K0
  have E1 : am_fx am_P d 143 12 [some (.ref x)] [] (am_wI B1 i1) = am_fx am_P d 143 20 [some (.ref x)] [] (am_wI (rB B1 x 1 21 100) (rI B1 i1)) := by
    rw [bk_143_12]
    rw [if_neg (by decide)]
    refine (y_ck ?_).trans ?_
    · exact (y_nwK (n := (100 : Int32).toNatClampNeg) (sl := (100 : Int32).toNatClampNeg) (Nat.ne_of_lt H1)).trans K1
    · rfl
  obtain ⟨G1, F1⟩ := row_nr (B := B1) (i := i1) (x := x) (k := 1) (t := 21) (len := 100) H1
  generalize rB B1 x 1 21 100 = B2 at E1 G1 F1
  generalize rI B1 i1 = i2 at E1 G1
  have H2 : x < am_N B2 := by have := G1.1.1; omega
  have K2 : am_K B2 x = 2 := (G1.2.1 x H1).1.trans K1
  have E2 : am_fx am_P d 143 20 [some (.ref x)] [] (am_wI B2 i2) = am_fx am_P d 143 28 [some (.ref x)] [] (am_wI (rB B2 x 2 21 100) (rI B2 i2)) := by
    rw [bk_143_20]
    rw [if_neg (by decide)]
    refine (y_ck ?_).trans ?_
    · exact (y_nwK (n := (100 : Int32).toNatClampNeg) (sl := (100 : Int32).toNatClampNeg) (Nat.ne_of_lt H2)).trans K2
    · rfl
  obtain ⟨G2, F2⟩ := row_nr (B := B2) (i := i2) (x := x) (k := 2) (t := 21) (len := 100) H2
  generalize rB B2 x 2 21 100 = B3 at E2 G2 F2
  generalize rI B2 i2 = i3 at E2 G2
  have H3 : x < am_N B3 := by have := G2.1.1; omega
  have K3 : am_K B3 x = 2 := (G2.2.1 x H2).1.trans K2
  have E3 : am_fx am_P d 143 28 [some (.ref x)] [] (am_wI B3 i3) = am_fx am_P d 143 36 [some (.ref x)] [] (am_wI (rB B3 x 3 21 100) (rI B3 i3)) := by
    rw [bk_143_28]
    rw [if_neg (by decide)]
    refine (y_ck ?_).trans ?_
    · exact (y_nwK (n := (100 : Int32).toNatClampNeg) (sl := (100 : Int32).toNatClampNeg) (Nat.ne_of_lt H3)).trans K3
    · rfl
  obtain ⟨G3, F3⟩ := row_nr (B := B3) (i := i3) (x := x) (k := 3) (t := 21) (len := 100) H3
  generalize rB B3 x 3 21 100 = B4 at E3 G3 F3
  generalize rI B3 i3 = i4 at E3 G3
  have H4 : x < am_N B4 := by have := G3.1.1; omega
  have K4 : am_K B4 x = 2 := (G3.2.1 x H3).1.trans K3
  have E4 : am_fx am_P d 143 36 [some (.ref x)] [] (am_wI B4 i4) = am_fx am_P d 143 44 [some (.ref x)] [] (am_wI (rB B4 x 5 21 20) (rI B4 i4)) := by
    rw [bk_143_36]
    rw [if_neg (by decide)]
    refine (y_ck ?_).trans ?_
    · exact (y_nwK (n := (20 : Int32).toNatClampNeg) (sl := (20 : Int32).toNatClampNeg) (Nat.ne_of_lt H4)).trans K4
    · rfl
  obtain ⟨G4, F4⟩ := row_nr (B := B4) (i := i4) (x := x) (k := 5) (t := 21) (len := 20) H4
  generalize rB B4 x 5 21 20 = B5 at E4 G4 F4
  generalize rI B4 i4 = i5 at E4 G4
  have H5 : x < am_N B5 := by have := G4.1.1; omega
  have K5 : am_K B5 x = 2 := (G4.2.1 x H4).1.trans K4
  have E5 : am_fx am_P d 143 44 [some (.ref x)] [] (am_wI B5 i5) = am_fx am_P d 143 52 [some (.ref x)] [] (am_wI (rB B5 x 6 21 20) (rI B5 i5)) := by
    rw [bk_143_44]
    rw [if_neg (by decide)]
    refine (y_ck ?_).trans ?_
    · exact (y_nwK (n := (20 : Int32).toNatClampNeg) (sl := (20 : Int32).toNatClampNeg) (Nat.ne_of_lt H5)).trans K5
    · rfl
  obtain ⟨G5, F5⟩ := row_nr (B := B5) (i := i5) (x := x) (k := 6) (t := 21) (len := 20) H5
  generalize rB B5 x 6 21 20 = B6 at E5 G5 F5
  generalize rI B5 i5 = i6 at E5 G5
  have H6 : x < am_N B6 := by have := G5.1.1; omega
  have K6 : am_K B6 x = 2 := (G5.2.1 x H5).1.trans K5
  have E6 : am_fx am_P d 143 52 [some (.ref x)] [] (am_wI B6 i6) = am_fx am_P d 143 60 [none] [] (am_wI (rB B6 x 8 21 10) (rI B6 i6)) := by
    rw [bk_143_52]
    rw [if_neg (by decide)]
    refine (y_ck ?_).trans ?_
    · exact (y_nwK (n := (10 : Int32).toNatClampNeg) (sl := (10 : Int32).toNatClampNeg) (Nat.ne_of_lt H6)).trans K6
    · rfl
  obtain ⟨G6, F6⟩ := row_nr (B := B6) (i := i6) (x := x) (k := 8) (t := 21) (len := 10) H6
  generalize rB B6 x 8 21 10 = B7 at E6 G6 F6
  generalize rI B6 i6 = i7 at E6 G6
  have H7 : x < am_N B7 := by have := G6.1.1; omega
  have K7 : am_K B7 x = 2 := (G6.2.1 x H6).1.trans K6
  have A0 := G0
  have A1 := A0.tr G1 H0
  have A2 := A1.tr G2 H0
  have A3 := A2.tr G3 H0
  have A4 := A3.tr G4 H0
  have A5 := A4.tr G5 H0
  have A6 := A5.tr G6 H0
  have Z7 : Nr x [] [] 0 0 B7 i7 B7 i7 := Nr.rf
  have Z6 := G6.tr Z7 H6
  have Z5 := G5.tr Z6 H5
  have Z4 := G4.tr Z5 H4
  have Z3 := G3.tr Z4 H3
  have Z2 := G2.tr Z3 H2
  have Z1 := G1.tr Z2 H1
  refine ⟨B7, i7, ?_, A6, ⟨by have q := F0.mv Z1 (by have := G0.1.1; omega) H1 (by decide); rw [show am_N B0 + 0 = am_N B0 by have := Nat.le_refl 0; omega]; exact q, by have q := F1.mv Z2 (by have := G1.1.1; omega) H2 (by decide); rw [show am_N B0 + 1 = am_N B1 by have := A0.1.1; omega]; exact q, by have q := F2.mv Z3 (by have := G2.1.1; omega) H3 (by decide); rw [show am_N B0 + 2 = am_N B2 by have := A1.1.1; omega]; exact q, by have q := F3.mv Z4 (by have := G3.1.1; omega) H4 (by decide); rw [show am_N B0 + 3 = am_N B3 by have := A2.1.1; omega]; exact q, by have q := F4.mv Z5 (by have := G4.1.1; omega) H5 (by decide); rw [show am_N B0 + 4 = am_N B4 by have := A3.1.1; omega]; exact q, by have q := F5.mv Z6 (by have := G5.1.1; omega) H6 (by decide); rw [show am_N B0 + 5 = am_N B5 by have := A4.1.1; omega]; exact q, by have q := F6.mv Z7 (by have := G6.1.1; omega) H7 (by decide); rw [show am_N B0 + 6 = am_N B6 by have := A5.1.1; omega]; exact q⟩⟩
  rw [E0, E1, E2, E3, E4, E5, E6, bk_143_60]
theorem i_223 (K0 : am_K B x = 7) (H0 : x < am_N B) : ∃ B' i', am_fx am_P d 223 0 [some (.ref x)] [] (am_wI B i) = some (.inl none, am_wI B' i') ∧ Nr x [9, 10, 11, 12, 13] [] 5 40 B i B' i' ∧ (Rf B' (am_N B + 0) x 9 21 8 ∧ Rf B' (am_N B + 1) x 10 21 8 ∧ Rf B' (am_N B + 2) x 11 21 8 ∧ Rf B' (am_N B + 3) x 12 21 8 ∧ Rf B' (am_N B + 4) x 13 21 8) := by
  generalize hB : B = B0 at *
  generalize hi : i = i0 at *
  have E0 : am_fx am_P d 223 0 [some (.ref x)] [] (am_wI B0 i0) = am_fx am_P d 223 12 [some (.ref x)] [] (am_wI (rB B0 x 9 21 8) (rI B0 i0)) := by
    rw [bk_223_0]
    rw [if_neg (by decide)]
    refine (y_ck ?_).trans ?_
    · exact (y_nwK (n := (8 : Int32).toNatClampNeg) (sl := (8 : Int32).toNatClampNeg) (Nat.ne_of_lt H0)).trans K0
    · rfl
  obtain ⟨G0, F0⟩ := row_nr (B := B0) (i := i0) (x := x) (k := 9) (t := 21) (len := 8) H0
  generalize rB B0 x 9 21 8 = B1 at E0 G0 F0
  generalize rI B0 i0 = i1 at E0 G0
  have H1 : x < am_N B1 := by have := G0.1.1; omega
  have K1 : am_K B1 x = 7 := (G0.2.1 x H0).1.trans K0
  have E1 : am_fx am_P d 223 12 [some (.ref x)] [] (am_wI B1 i1) = am_fx am_P d 223 20 [some (.ref x)] [] (am_wI (rB B1 x 10 21 8) (rI B1 i1)) := by
    rw [bk_223_12]
    rw [if_neg (by decide)]
    refine (y_ck ?_).trans ?_
    · exact (y_nwK (n := (8 : Int32).toNatClampNeg) (sl := (8 : Int32).toNatClampNeg) (Nat.ne_of_lt H1)).trans K1
    · rfl
  obtain ⟨G1, F1⟩ := row_nr (B := B1) (i := i1) (x := x) (k := 10) (t := 21) (len := 8) H1
  generalize rB B1 x 10 21 8 = B2 at E1 G1 F1
  generalize rI B1 i1 = i2 at E1 G1
  have H2 : x < am_N B2 := by have := G1.1.1; omega
  have K2 : am_K B2 x = 7 := (G1.2.1 x H1).1.trans K1
  have E2 : am_fx am_P d 223 20 [some (.ref x)] [] (am_wI B2 i2) = am_fx am_P d 223 28 [some (.ref x)] [] (am_wI (rB B2 x 11 21 8) (rI B2 i2)) := by
    rw [bk_223_20]
    rw [if_neg (by decide)]
    refine (y_ck ?_).trans ?_
    · exact (y_nwK (n := (8 : Int32).toNatClampNeg) (sl := (8 : Int32).toNatClampNeg) (Nat.ne_of_lt H2)).trans K2
    · rfl
  obtain ⟨G2, F2⟩ := row_nr (B := B2) (i := i2) (x := x) (k := 11) (t := 21) (len := 8) H2
  generalize rB B2 x 11 21 8 = B3 at E2 G2 F2
  generalize rI B2 i2 = i3 at E2 G2
  have H3 : x < am_N B3 := by have := G2.1.1; omega
  have K3 : am_K B3 x = 7 := (G2.2.1 x H2).1.trans K2
  have E3 : am_fx am_P d 223 28 [some (.ref x)] [] (am_wI B3 i3) = am_fx am_P d 223 36 [some (.ref x)] [] (am_wI (rB B3 x 12 21 8) (rI B3 i3)) := by
    rw [bk_223_28]
    rw [if_neg (by decide)]
    refine (y_ck ?_).trans ?_
    · exact (y_nwK (n := (8 : Int32).toNatClampNeg) (sl := (8 : Int32).toNatClampNeg) (Nat.ne_of_lt H3)).trans K3
    · rfl
  obtain ⟨G3, F3⟩ := row_nr (B := B3) (i := i3) (x := x) (k := 12) (t := 21) (len := 8) H3
  generalize rB B3 x 12 21 8 = B4 at E3 G3 F3
  generalize rI B3 i3 = i4 at E3 G3
  have H4 : x < am_N B4 := by have := G3.1.1; omega
  have K4 : am_K B4 x = 7 := (G3.2.1 x H3).1.trans K3
  have E4 : am_fx am_P d 223 36 [some (.ref x)] [] (am_wI B4 i4) = am_fx am_P d 223 44 [none] [] (am_wI (rB B4 x 13 21 8) (rI B4 i4)) := by
    rw [bk_223_36]
    rw [if_neg (by decide)]
    refine (y_ck ?_).trans ?_
    · exact (y_nwK (n := (8 : Int32).toNatClampNeg) (sl := (8 : Int32).toNatClampNeg) (Nat.ne_of_lt H4)).trans K4
    · rfl
  obtain ⟨G4, F4⟩ := row_nr (B := B4) (i := i4) (x := x) (k := 13) (t := 21) (len := 8) H4
  generalize rB B4 x 13 21 8 = B5 at E4 G4 F4
  generalize rI B4 i4 = i5 at E4 G4
  have H5 : x < am_N B5 := by have := G4.1.1; omega
  have K5 : am_K B5 x = 7 := (G4.2.1 x H4).1.trans K4
  have A0 := G0
  have A1 := A0.tr G1 H0
  have A2 := A1.tr G2 H0
  have A3 := A2.tr G3 H0
  have A4 := A3.tr G4 H0
  have Z5 : Nr x [] [] 0 0 B5 i5 B5 i5 := Nr.rf
  have Z4 := G4.tr Z5 H4
  have Z3 := G3.tr Z4 H3
  have Z2 := G2.tr Z3 H2
  have Z1 := G1.tr Z2 H1
  refine ⟨B5, i5, ?_, A4, ⟨by have q := F0.mv Z1 (by have := G0.1.1; omega) H1 (by decide); rw [show am_N B0 + 0 = am_N B0 by have := Nat.le_refl 0; omega]; exact q, by have q := F1.mv Z2 (by have := G1.1.1; omega) H2 (by decide); rw [show am_N B0 + 1 = am_N B1 by have := A0.1.1; omega]; exact q, by have q := F2.mv Z3 (by have := G2.1.1; omega) H3 (by decide); rw [show am_N B0 + 2 = am_N B2 by have := A1.1.1; omega]; exact q, by have q := F3.mv Z4 (by have := G3.1.1; omega) H4 (by decide); rw [show am_N B0 + 3 = am_N B3 by have := A2.1.1; omega]; exact q, by have q := F4.mv Z5 (by have := G4.1.1; omega) H5 (by decide); rw [show am_N B0 + 4 = am_N B4 by have := A3.1.1; omega]; exact q⟩⟩
  rw [E0, E1, E2, E3, E4, bk_223_44]
end Leaf
