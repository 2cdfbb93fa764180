/-! THE START: the model. Made by wip/whole/math/964.py. -/
section Leaf3
variable {B B1 : am_A} {i i1 : Nat → Nat → Int32} {d x n k t len o p s : Nat} {ks js : List Nat}
theorem i_12a (K0 : am_K B x = 13) (H0 : x < am_N B) : ∃ B' i', am_fx am_P d 12 0 [some (.ref x), none] [] (am_wI B i) = am_fx am_P d 12 148 [some (.ref x), none] [] (am_wI B' i') ∧ Nr x [1, 2, 3, 6, 13, 15, 16, 17, 18, 19, 20, 22, 27, 28, 29, 30, 31] [12] 17 38578 B i B' i' ∧ (Rf B' (am_N B + 0) x 1 21 12892 ∧ Rf B' (am_N B + 1) x 2 21 12042 ∧ Rf B' (am_N B + 2) x 3 21 12042 ∧ Rf B' (am_N B + 3) x 6 23 400 ∧ Rf B' (am_N B + 4) x 13 21 5 ∧ Rf B' (am_N B + 5) x 15 24 5 ∧ Rf B' (am_N B + 6) x 16 21 6 ∧ Rf B' (am_N B + 7) x 17 24 400 ∧ Rf B' (am_N B + 8) x 18 21 256 ∧ Rf B' (am_N B + 9) x 19 22 256 ∧ Rf B' (am_N B + 10) x 20 21 8 ∧ Rf B' (am_N B + 11) x 22 21 8 ∧ Rf B' (am_N B + 12) x 27 21 4 ∧ Rf B' (am_N B + 13) x 28 21 4 ∧ Rf B' (am_N B + 14) x 29 21 120 ∧ Rf B' (am_N B + 15) x 30 24 120 ∧ Rf B' (am_N B + 16) x 31 21 10) ∧ i' x 12 = -1 := by
  generalize hB : B = B0 at *
  generalize hi : i = i0 at *
  have E0 : am_fx am_P d 12 0 [some (.ref x), none] [] (am_wI B0 i0) = am_fx am_P d 12 13 [some (.ref x), none] [] (am_wI (rB B0 x 1 21 12892) (rI B0 i0)) := by
    rw [bk_12_0]
    rw [if_neg (by decide)]
    refine (y_ck ?_).trans ?_
    · exact (y_nwK (n := (12892 : Int32).toNatClampNeg) (sl := (12892 : Int32).toNatClampNeg) (Nat.ne_of_lt H0)).trans K0
    · rfl
  obtain ⟨G0, F0⟩ := row_nr (B := B0) (i := i0) (x := x) (k := 1) (t := 21) (len := 12892) H0
  generalize rB B0 x 1 21 12892 = B1 at E0 G0 F0
  generalize rI B0 i0 = i1 at E0 G0
  have H1 : x < am_N B1 := by have := G0.1.1; omega
  have K1 : am_K B1 x = 13 := (G0.2.1 x H0).1.trans K0
  have E1 : am_fx am_P d 12 13 [some (.ref x), none] [] (am_wI B1 i1) = am_fx am_P d 12 22 [some (.ref x), none] [] (am_wI (rB B1 x 2 21 12042) (rI B1 i1)) := by
    rw [bk_12_13]
    rw [if_neg (by decide)]
    refine (y_ck ?_).trans ?_
    · exact (y_nwK (n := (12042 : Int32).toNatClampNeg) (sl := (12042 : Int32).toNatClampNeg) (Nat.ne_of_lt H1)).trans K1
    · rfl
  obtain ⟨G1, F1⟩ := row_nr (B := B1) (i := i1) (x := x) (k := 2) (t := 21) (len := 12042) H1
  generalize rB B1 x 2 21 12042 = B2 at E1 G1 F1
  generalize rI B1 i1 = i2 at E1 G1
  have H2 : x < am_N B2 := by have := G1.1.1; omega
  have K2 : am_K B2 x = 13 := (G1.2.1 x H1).1.trans K1
  have E2 : am_fx am_P d 12 22 [some (.ref x), none] [] (am_wI B2 i2) = am_fx am_P d 12 31 [some (.ref x), none] [] (am_wI (rB B2 x 3 21 12042) (rI B2 i2)) := by
    rw [bk_12_22]
    rw [if_neg (by decide)]
    refine (y_ck ?_).trans ?_
    · exact (y_nwK (n := (12042 : Int32).toNatClampNeg) (sl := (12042 : Int32).toNatClampNeg) (Nat.ne_of_lt H2)).trans K2
    · rfl
  obtain ⟨G2, F2⟩ := row_nr (B := B2) (i := i2) (x := x) (k := 3) (t := 21) (len := 12042) H2
  generalize rB B2 x 3 21 12042 = B3 at E2 G2 F2
  generalize rI B2 i2 = i3 at E2 G2
  have H3 : x < am_N B3 := by have := G2.1.1; omega
  have K3 : am_K B3 x = 13 := (G2.2.1 x H2).1.trans K2
  have E3 : am_fx am_P d 12 31 [some (.ref x), none] [] (am_wI B3 i3) = am_fx am_P d 12 40 [some (.ref x), none] [] (am_wI (rB B3 x 6 23 400) (rI B3 i3)) := by
    rw [bk_12_31]
    rw [if_neg (by decide)]
    refine (y_ck ?_).trans ?_
    · exact (y_nwK (n := (400 : Int32).toNatClampNeg) (sl := (400 : Int32).toNatClampNeg) (Nat.ne_of_lt H3)).trans K3
    · rfl
  obtain ⟨G3, F3⟩ := row_nr (B := B3) (i := i3) (x := x) (k := 6) (t := 23) (len := 400) H3
  generalize rB B3 x 6 23 400 = B4 at E3 G3 F3
  generalize rI B3 i3 = i4 at E3 G3
  have H4 : x < am_N B4 := by have := G3.1.1; omega
  have K4 : am_K B4 x = 13 := (G3.2.1 x H3).1.trans K3
  have S4 : Nr x [] [12] 0 0 B4 i4 B4 (am_up2 i4 x 12 (-1)) := si_nr
  have E4 : am_fx am_P d 12 40 [some (.ref x), none] [] (am_wI B4 i4) = am_fx am_P d 12 52 [some (.ref x), none] [] (am_wI (rB B4 x 13 21 5) (rI B4 (am_up2 i4 x 12 (-1)))) := by
    rw [bk_12_40]
    refine (y_ck (by exact K4)).trans ?_
    rw [if_neg (by decide)]
    refine (y_ck ?_).trans ?_
    · exact (y_nwK (n := (5 : Int32).toNatClampNeg) (sl := (5 : Int32).toNatClampNeg) (Nat.ne_of_lt H4)).trans K4
    · rfl
  obtain ⟨G4, F4⟩ := row_nr (B := B4) (i := (am_up2 i4 x 12 (-1))) (x := x) (k := 13) (t := 21) (len := 5) H4
  have G4 := S4.tr G4 H4
  clear S4
  generalize rB B4 x 13 21 5 = B5 at E4 G4 F4
  have V4 : rI B4 (am_up2 i4 x 12 (-1)) x 12 = -1 := (congrFun (if_neg (Nat.ne_of_lt H4)) 12).trans (y_up1 rfl rfl)
  generalize rI B4 (am_up2 i4 x 12 (-1)) = i5 at E4 G4 V4
  have H5 : x < am_N B5 := by have := G4.1.1; omega
  have K5 : am_K B5 x = 13 := (G4.2.1 x H4).1.trans K4
  have E5 : am_fx am_P d 12 52 [some (.ref x), none] [] (am_wI B5 i5) = am_fx am_P d 12 59 [some (.ref x), none] [] (am_wI (rB B5 x 15 24 5) (rI B5 i5)) := by
    rw [bk_12_52]
    rw [if_neg (by decide)]
    refine (y_ck ?_).trans ?_
    · exact (y_nwK (n := (5 : Int32).toNatClampNeg) (sl := (5 : Int32).toNatClampNeg) (Nat.ne_of_lt H5)).trans K5
    · rfl
  obtain ⟨G5, F5⟩ := row_nr (B := B5) (i := i5) (x := x) (k := 15) (t := 24) (len := 5) H5
  generalize rB B5 x 15 24 5 = B6 at E5 G5 F5
  generalize rI B5 i5 = i6 at E5 G5
  have H6 : x < am_N B6 := by have := G5.1.1; omega
  have K6 : am_K B6 x = 13 := (G5.2.1 x H5).1.trans K5
  have E6 : am_fx am_P d 12 59 [some (.ref x), none] [] (am_wI B6 i6) = am_fx am_P d 12 67 [some (.ref x), none] [] (am_wI (rB B6 x 16 21 6) (rI B6 i6)) := by
    rw [bk_12_59]
    rw [if_neg (by decide)]
    refine (y_ck ?_).trans ?_
    · exact (y_nwK (n := (6 : Int32).toNatClampNeg) (sl := (6 : Int32).toNatClampNeg) (Nat.ne_of_lt H6)).trans K6
    · rfl
  obtain ⟨G6, F6⟩ := row_nr (B := B6) (i := i6) (x := x) (k := 16) (t := 21) (len := 6) H6
  generalize rB B6 x 16 21 6 = B7 at E6 G6 F6
  generalize rI B6 i6 = i7 at E6 G6
  have H7 : x < am_N B7 := by have := G6.1.1; omega
  have K7 : am_K B7 x = 13 := (G6.2.1 x H6).1.trans K6
  have E7 : am_fx am_P d 12 67 [some (.ref x), none] [] (am_wI B7 i7) = am_fx am_P d 12 76 [some (.ref x), none] [] (am_wI (rB B7 x 17 24 400) (rI B7 i7)) := by
    rw [bk_12_67]
    rw [if_neg (by decide)]
    refine (y_ck ?_).trans ?_
    · exact (y_nwK (n := (400 : Int32).toNatClampNeg) (sl := (400 : Int32).toNatClampNeg) (Nat.ne_of_lt H7)).trans K7
    · rfl
  obtain ⟨G7, F7⟩ := row_nr (B := B7) (i := i7) (x := x) (k := 17) (t := 24) (len := 400) H7
  generalize rB B7 x 17 24 400 = B8 at E7 G7 F7
  generalize rI B7 i7 = i8 at E7 G7
  have H8 : x < am_N B8 := by have := G7.1.1; omega
  have K8 : am_K B8 x = 13 := (G7.2.1 x H7).1.trans K7
  have E8 : am_fx am_P d 12 76 [some (.ref x), none] [] (am_wI B8 i8) = am_fx am_P d 12 85 [some (.ref x), none] [] (am_wI (rB B8 x 18 21 256) (rI B8 i8)) := by
    rw [bk_12_76]
    rw [if_neg (by decide)]
    refine (y_ck ?_).trans ?_
    · exact (y_nwK (n := (256 : Int32).toNatClampNeg) (sl := (256 : Int32).toNatClampNeg) (Nat.ne_of_lt H8)).trans K8
    · rfl
  obtain ⟨G8, F8⟩ := row_nr (B := B8) (i := i8) (x := x) (k := 18) (t := 21) (len := 256) H8
  generalize rB B8 x 18 21 256 = B9 at E8 G8 F8
  generalize rI B8 i8 = i9 at E8 G8
  have H9 : x < am_N B9 := by have := G8.1.1; omega
  have K9 : am_K B9 x = 13 := (G8.2.1 x H8).1.trans K8
  have E9 : am_fx am_P d 12 85 [some (.ref x), none] [] (am_wI B9 i9) = am_fx am_P d 12 94 [some (.ref x), none] [] (am_wI (rB B9 x 19 22 256) (rI B9 i9)) := by
    rw [bk_12_85]
    rw [if_neg (by decide)]
    refine (y_ck ?_).trans ?_
    · exact (y_nwK (n := (256 : Int32).toNatClampNeg) (sl := (256 : Int32).toNatClampNeg) (Nat.ne_of_lt H9)).trans K9
    · rfl
  obtain ⟨G9, F9⟩ := row_nr (B := B9) (i := i9) (x := x) (k := 19) (t := 22) (len := 256) H9
  generalize rB B9 x 19 22 256 = B10 at E9 G9 F9
  generalize rI B9 i9 = i10 at E9 G9
  have H10 : x < am_N B10 := by have := G9.1.1; omega
  have K10 : am_K B10 x = 13 := (G9.2.1 x H9).1.trans K9
  have E10 : am_fx am_P d 12 94 [some (.ref x), none] [] (am_wI B10 i10) = am_fx am_P d 12 102 [some (.ref x), none] [] (am_wI (rB B10 x 20 21 8) (rI B10 i10)) := by
    rw [bk_12_94]
    rw [if_neg (by decide)]
    refine (y_ck ?_).trans ?_
    · exact (y_nwK (n := (8 : Int32).toNatClampNeg) (sl := (8 : Int32).toNatClampNeg) (Nat.ne_of_lt H10)).trans K10
    · rfl
  obtain ⟨G10, F10⟩ := row_nr (B := B10) (i := i10) (x := x) (k := 20) (t := 21) (len := 8) H10
  generalize rB B10 x 20 21 8 = B11 at E10 G10 F10
  generalize rI B10 i10 = i11 at E10 G10
  have H11 : x < am_N B11 := by have := G10.1.1; omega
  have K11 : am_K B11 x = 13 := (G10.2.1 x H10).1.trans K10
  have E11 : am_fx am_P d 12 102 [some (.ref x), none] [] (am_wI B11 i11) = am_fx am_P d 12 110 [some (.ref x), none] [] (am_wI (rB B11 x 22 21 8) (rI B11 i11)) := by
    rw [bk_12_102]
    rw [if_neg (by decide)]
    refine (y_ck ?_).trans ?_
    · exact (y_nwK (n := (8 : Int32).toNatClampNeg) (sl := (8 : Int32).toNatClampNeg) (Nat.ne_of_lt H11)).trans K11
    · rfl
  obtain ⟨G11, F11⟩ := row_nr (B := B11) (i := i11) (x := x) (k := 22) (t := 21) (len := 8) H11
  generalize rB B11 x 22 21 8 = B12 at E11 G11 F11
  generalize rI B11 i11 = i12 at E11 G11
  have H12 : x < am_N B12 := by have := G11.1.1; omega
  have K12 : am_K B12 x = 13 := (G11.2.1 x H11).1.trans K11
  have E12 : am_fx am_P d 12 110 [some (.ref x), none] [] (am_wI B12 i12) = am_fx am_P d 12 117 [some (.ref x), none] [] (am_wI (rB B12 x 27 21 4) (rI B12 i12)) := by
    rw [bk_12_110]
    rw [if_neg (by decide)]
    refine (y_ck ?_).trans ?_
    · exact (y_nwK (n := (4 : Int32).toNatClampNeg) (sl := (4 : Int32).toNatClampNeg) (Nat.ne_of_lt H12)).trans K12
    · rfl
  obtain ⟨G12, F12⟩ := row_nr (B := B12) (i := i12) (x := x) (k := 27) (t := 21) (len := 4) H12
  generalize rB B12 x 27 21 4 = B13 at E12 G12 F12
  generalize rI B12 i12 = i13 at E12 G12
  have H13 : x < am_N B13 := by have := G12.1.1; omega
  have K13 : am_K B13 x = 13 := (G12.2.1 x H12).1.trans K12
  have E13 : am_fx am_P d 12 117 [some (.ref x), none] [] (am_wI B13 i13) = am_fx am_P d 12 124 [some (.ref x), none] [] (am_wI (rB B13 x 28 21 4) (rI B13 i13)) := by
    rw [bk_12_117]
    rw [if_neg (by decide)]
    refine (y_ck ?_).trans ?_
    · exact (y_nwK (n := (4 : Int32).toNatClampNeg) (sl := (4 : Int32).toNatClampNeg) (Nat.ne_of_lt H13)).trans K13
    · rfl
  obtain ⟨G13, F13⟩ := row_nr (B := B13) (i := i13) (x := x) (k := 28) (t := 21) (len := 4) H13
  generalize rB B13 x 28 21 4 = B14 at E13 G13 F13
  generalize rI B13 i13 = i14 at E13 G13
  have H14 : x < am_N B14 := by have := G13.1.1; omega
  have K14 : am_K B14 x = 13 := (G13.2.1 x H13).1.trans K13
  have E14 : am_fx am_P d 12 124 [some (.ref x), none] [] (am_wI B14 i14) = am_fx am_P d 12 132 [some (.ref x), none] [] (am_wI (rB B14 x 29 21 120) (rI B14 i14)) := by
    rw [bk_12_124]
    rw [if_neg (by decide)]
    refine (y_ck ?_).trans ?_
    · exact (y_nwK (n := (120 : Int32).toNatClampNeg) (sl := (120 : Int32).toNatClampNeg) (Nat.ne_of_lt H14)).trans K14
    · rfl
  obtain ⟨G14, F14⟩ := row_nr (B := B14) (i := i14) (x := x) (k := 29) (t := 21) (len := 120) H14
  generalize rB B14 x 29 21 120 = B15 at E14 G14 F14
  generalize rI B14 i14 = i15 at E14 G14
  have H15 : x < am_N B15 := by have := G14.1.1; omega
  have K15 : am_K B15 x = 13 := (G14.2.1 x H14).1.trans K14
  have E15 : am_fx am_P d 12 132 [some (.ref x), none] [] (am_wI B15 i15) = am_fx am_P d 12 140 [some (.ref x), none] [] (am_wI (rB B15 x 30 24 120) (rI B15 i15)) := by
    rw [bk_12_132]
    rw [if_neg (by decide)]
    refine (y_ck ?_).trans ?_
    · exact (y_nwK (n := (120 : Int32).toNatClampNeg) (sl := (120 : Int32).toNatClampNeg) (Nat.ne_of_lt H15)).trans K15
    · rfl
  obtain ⟨G15, F15⟩ := row_nr (B := B15) (i := i15) (x := x) (k := 30) (t := 24) (len := 120) H15
  generalize rB B15 x 30 24 120 = B16 at E15 G15 F15
  generalize rI B15 i15 = i16 at E15 G15
  have H16 : x < am_N B16 := by have := G15.1.1; omega
  have K16 : am_K B16 x = 13 := (G15.2.1 x H15).1.trans K15
  have E16 : am_fx am_P d 12 140 [some (.ref x), none] [] (am_wI B16 i16) = am_fx am_P d 12 148 [some (.ref x), none] [] (am_wI (rB B16 x 31 21 10) (rI B16 i16)) := by
    rw [bk_12_140]
    rw [if_neg (by decide)]
    refine (y_ck ?_).trans ?_
    · exact (y_nwK (n := (10 : Int32).toNatClampNeg) (sl := (10 : Int32).toNatClampNeg) (Nat.ne_of_lt H16)).trans K16
    · rfl
  obtain ⟨G16, F16⟩ := row_nr (B := B16) (i := i16) (x := x) (k := 31) (t := 21) (len := 10) H16
  generalize rB B16 x 31 21 10 = B17 at E16 G16 F16
  generalize rI B16 i16 = i17 at E16 G16
  have H17 : x < am_N B17 := by have := G16.1.1; omega
  have K17 : am_K B17 x = 13 := (G16.2.1 x H16).1.trans K16
  have A0 := G0
  have A1 := A0.tr G1 H0
  have A2 := A1.tr G2 H0
  have A3 := A2.tr G3 H0
  have A4 := A3.tr G4 H0
  have A5 := A4.tr G5 H0
  have A6 := A5.tr G6 H0
  have A7 := A6.tr G7 H0
  have A8 := A7.tr G8 H0
  have A9 := A8.tr G9 H0
  have A10 := A9.tr G10 H0
  have A11 := A10.tr G11 H0
  have A12 := A11.tr G12 H0
  have A13 := A12.tr G13 H0
  have A14 := A13.tr G14 H0
  have A15 := A14.tr G15 H0
  have A16 := A15.tr G16 H0
  have Z17 : Nr x [] [] 0 0 B17 i17 B17 i17 := Nr.rf
  have Z16 := G16.tr Z17 H16
  have Z15 := G15.tr Z16 H15
  have Z14 := G14.tr Z15 H14
  have Z13 := G13.tr Z14 H13
  have Z12 := G12.tr Z13 H12
  have Z11 := G11.tr Z12 H11
  have Z10 := G10.tr Z11 H10
  have Z9 := G9.tr Z10 H9
  have Z8 := G8.tr Z9 H8
  have Z7 := G7.tr Z8 H7
  have Z6 := G6.tr Z7 H6
  have Z5 := G5.tr Z6 H5
  have Z4 := G4.tr Z5 H4
  have Z3 := G3.tr Z4 H3
  have Z2 := G2.tr Z3 H2
  have Z1 := G1.tr Z2 H1
  refine ⟨B17, i17, ?_, A16, ⟨by have q := F0.mv Z1 (by have := G0.1.1; omega) H1 (by decide); rw [show am_N B0 + 0 = am_N B0 by have := Nat.le_refl 0; omega]; exact q, by have q := F1.mv Z2 (by have := G1.1.1; omega) H2 (by decide); rw [show am_N B0 + 1 = am_N B1 by have := A0.1.1; omega]; exact q, by have q := F2.mv Z3 (by have := G2.1.1; omega) H3 (by decide); rw [show am_N B0 + 2 = am_N B2 by have := A1.1.1; omega]; exact q, by have q := F3.mv Z4 (by have := G3.1.1; omega) H4 (by decide); rw [show am_N B0 + 3 = am_N B3 by have := A2.1.1; omega]; exact q, by have q := F4.mv Z5 (by have := G4.1.1; omega) H5 (by decide); rw [show am_N B0 + 4 = am_N B4 by have := A3.1.1; omega]; exact q, by have q := F5.mv Z6 (by have := G5.1.1; omega) H6 (by decide); rw [show am_N B0 + 5 = am_N B5 by have := A4.1.1; omega]; exact q, by have q := F6.mv Z7 (by have := G6.1.1; omega) H7 (by decide); rw [show am_N B0 + 6 = am_N B6 by have := A5.1.1; omega]; exact q, by have q := F7.mv Z8 (by have := G7.1.1; omega) H8 (by decide); rw [show am_N B0 + 7 = am_N B7 by have := A6.1.1; omega]; exact q, by have q := F8.mv Z9 (by have := G8.1.1; omega) H9 (by decide); rw [show am_N B0 + 8 = am_N B8 by have := A7.1.1; omega]; exact q, by have q := F9.mv Z10 (by have := G9.1.1; omega) H10 (by decide); rw [show am_N B0 + 9 = am_N B9 by have := A8.1.1; omega]; exact q, by have q := F10.mv Z11 (by have := G10.1.1; omega) H11 (by decide); rw [show am_N B0 + 10 = am_N B10 by have := A9.1.1; omega]; exact q, by have q := F11.mv Z12 (by have := G11.1.1; omega) H12 (by decide); rw [show am_N B0 + 11 = am_N B11 by have := A10.1.1; omega]; exact q, by have q := F12.mv Z13 (by have := G12.1.1; omega) H13 (by decide); rw [show am_N B0 + 12 = am_N B12 by have := A11.1.1; omega]; exact q, by have q := F13.mv Z14 (by have := G13.1.1; omega) H14 (by decide); rw [show am_N B0 + 13 = am_N B13 by have := A12.1.1; omega]; exact q, by have q := F14.mv Z15 (by have := G14.1.1; omega) H15 (by decide); rw [show am_N B0 + 14 = am_N B14 by have := A13.1.1; omega]; exact q, by have q := F15.mv Z16 (by have := G15.1.1; omega) H16 (by decide); rw [show am_N B0 + 15 = am_N B15 by have := A14.1.1; omega]; exact q, by have q := F16.mv Z17 (by have := G16.1.1; omega) H17 (by decide); rw [show am_N B0 + 16 = am_N B16 by have := A15.1.1; omega]; exact q⟩, ((Z5.2.2.2.1 x 12 H5 (fun _ => by decide)).trans V4)⟩
  rw [E0, E1, E2, E3, E4, E5, E6, E7, E8, E9, E10, E11, E12, E13, E14, E15, E16]
/-- the first numbers of the model's world -/
def w00 (l : Nat) : Int32 := if l = 1 then 20 else if l = 2 then 2 else if 5 ≤ l ∧ l < 11 then 10 else 0
theorem i_12b (hK : am_K B x = 13) (hR : am_R B x 1 = some n) (hn : am_K B n = 21 ∧ am_L B n = 12892) (hz : ∀ l, i n l = 0) : ∃ i', am_fx am_P d 12 148 [some (.ref x), none] [] (am_wI B i) = some (.inl none, am_wI B i') ∧ (∀ l, i' n l = w00 l) ∧ ∀ q l, q ≠ n → i' q l = i q l := by
  obtain ⟨k21, l21⟩ := hn
  have E0 : am_fx am_P d 12 148 [some (.ref x), none] [] (am_wI B i) = am_fx am_P d 12 165 [some (.ref x), some (.int (Int32.ofNat 0))] [] (am_wI B (am_up2 (am_up2 i n 1 20) n 2 2)) := by
    rw [bk_12_148]
    simp (disch := omega) only [bk_12_163, hK, hR, k21, l21, y_ckd, y_ck2d, y_ond, y_onn, y_oI, y_oIx, y_oJ, y_oV, y_oVx, y_oR, y_oRn, y_oRx, y_b0, y_b1, y_bi, y_bid, y_wIK, y_wIL, y_wII, y_wIJ, y_wIR, y_wIN, y_wIw, y_sI, ↓reduceIte, Nat.reduceEqDiff, eq_self, true_or, or_true, false_or, or_false, and_true, true_and, false_and, and_false, not_true, not_false_eq_true, tf_T, tf_F, y_up1, y_up2, y_xx, y_nx, y_sJ, y_sR, Int32.reduceLT, y_nxK, y_nxL, y_nxR, y_sJK, y_sJL, y_sJR, y_sJN, y_sRK, y_sRL, y_sRN, Nat.add_zero, z_nat, z_lit, z_lit0, z_lit1, z_in0, z_in1, z_addl0, z_lt, z_ltl, z_llt, z_inj, z_injl, z_add, z_addl, z_ladd, z_mul, z_mull, z_lmul, z_neg, z_negl, z_in, z_inl, z_ltT, z_ltF, z_eqF, z_10, z_01, z_litne, z_ne0, z_0ne, z_ne1, z_1ne, z_lt64, z_02, z_03, z_04, z_05, z_12, z_13, z_14, z_15, z_20, z_21, z_23, z_24, z_25, z_30, z_31, z_32, z_34, z_35, z_40, z_41, z_42, z_43, z_45, z_50, z_51, z_52, z_53, z_54]
    rfl
  obtain ⟨j, E, h1, h2⟩ := lp_inv (fun k s => am_fx am_P d 12 165 [some (.ref x), some (.int (Int32.ofNat k))] [] (am_wI B s)) (fun k s => (∀ l, s n l = if l = 1 then 20 else if l = 2 then 2 else if 5 ≤ l ∧ l < 5 + k then 10 else 0) ∧ ∀ q l, q ≠ n → s q l = i q l) 6 (fun k s hk hI => by
    refine ⟨am_up2 s n (5 + k) 10, ?_, fun l => ?_, fun q l hq => by rw [y_up2 (by omega)]; exact hI.2 q l hq⟩
    · rw [bk_12_165]
      simp (disch := omega) only [hk, hK, hR, k21, l21, y_ckd, y_ck2d, y_ond, y_onn, y_oI, y_oIx, y_oJ, y_oV, y_oVx, y_oR, y_oRn, y_oRx, y_b0, y_b1, y_bi, y_bid, y_wIK, y_wIL, y_wII, y_wIJ, y_wIR, y_wIN, y_wIw, y_sI, ↓reduceIte, Nat.reduceEqDiff, eq_self, true_or, or_true, false_or, or_false, and_true, true_and, false_and, and_false, not_true, not_false_eq_true, tf_T, tf_F, y_up1, y_up2, y_xx, y_nx, y_sJ, y_sR, Int32.reduceLT, y_nxK, y_nxL, y_nxR, y_sJK, y_sJL, y_sJR, y_sJN, y_sRK, y_sRL, y_sRN, Nat.add_zero, z_nat, z_lit, z_lit0, z_lit1, z_in0, z_in1, z_addl0, z_lt, z_ltl, z_llt, z_inj, z_injl, z_add, z_addl, z_ladd, z_mul, z_mull, z_lmul, z_neg, z_negl, z_in, z_inl, z_ltT, z_ltF, z_eqF, z_10, z_01, z_litne, z_ne0, z_0ne, z_ne1, z_1ne, z_lt64, z_02, z_03, z_04, z_05, z_12, z_13, z_14, z_15, z_20, z_21, z_23, z_24, z_25, z_30, z_31, z_32, z_34, z_35, z_40, z_41, z_42, z_43, z_45, z_50, z_51, z_52, z_53, z_54]
    · by_cases e : l = 5 + k
      · rw [e, y_up1 rfl rfl, if_neg (by omega), if_neg (by omega), if_pos (by omega)]
      · rw [y_up2 (by omega), hI.1 l]
        by_cases e1 : l = 1
        · rw [if_pos e1, if_pos e1]
        · rw [if_neg e1, if_neg e1]
          by_cases e2 : l = 2
          · rw [if_pos e2, if_pos e2]
          · rw [if_neg e2, if_neg e2]
            by_cases e3 : 5 ≤ l ∧ l < 5 + k
            · rw [if_pos e3, if_pos (by omega)]
            · rw [if_neg e3, if_neg (by omega)]) (am_up2 (am_up2 i n 1 20) n 2 2) ⟨fun l => by
    by_cases e2 : l = 2
    · rw [e2, y_up1 rfl rfl, if_neg (by omega), if_pos rfl]
    · rw [y_up2 (by omega)]
      by_cases e1 : l = 1
      · rw [e1, y_up1 rfl rfl, if_pos rfl]
      · rw [y_up2 (by omega), if_neg e1, if_neg e2, if_neg (by omega)]
        exact hz l, fun q l hq => by rw [y_up2 (by omega), y_up2 (by omega)]⟩
  refine ⟨j, ?_, h1, h2⟩
  rw [E0]
  refine E.trans ?_
  rw [bk_12_165]
  simp (disch := omega) only [hK, y_ckd, y_ck2d, y_ond, y_onn, y_oI, y_oIx, y_oJ, y_oV, y_oVx, y_oR, y_oRn, y_oRx, y_b0, y_b1, y_bi, y_bid, y_wIK, y_wIL, y_wII, y_wIJ, y_wIR, y_wIN, y_wIw, y_sI, ↓reduceIte, Nat.reduceEqDiff, eq_self, true_or, or_true, false_or, or_false, and_true, true_and, false_and, and_false, not_true, not_false_eq_true, tf_T, tf_F, y_up1, y_up2, y_xx, y_nx, y_sJ, y_sR, Int32.reduceLT, y_nxK, y_nxL, y_nxR, y_sJK, y_sJL, y_sJR, y_sJN, y_sRK, y_sRL, y_sRN, Nat.add_zero, z_nat, z_lit, z_lit0, z_lit1, z_in0, z_in1, z_addl0, z_lt, z_ltl, z_llt, z_inj, z_injl, z_add, z_addl, z_ladd, z_mul, z_mull, z_lmul, z_neg, z_negl, z_in, z_inl, z_ltT, z_ltF, z_eqF, z_10, z_01, z_litne, z_ne0, z_0ne, z_ne1, z_1ne, z_lt64, z_02, z_03, z_04, z_05, z_12, z_13, z_14, z_15, z_20, z_21, z_23, z_24, z_25, z_30, z_31, z_32, z_34, z_35, z_40, z_41, z_42, z_43, z_45, z_50, z_51, z_52, z_53, z_54]
end Leaf3
