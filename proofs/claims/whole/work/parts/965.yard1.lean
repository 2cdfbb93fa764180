/-! THE START: a yard, its rows and parts. Made by wip/whole/math/965.py. -/
section Yard1
variable {B B1 : am_A} {i i1 : Nat → Nat → Int32} {d x n k t len o p s sl : Nat} {ks js : List Nat}
theorem obj_nr2 (hx : x < am_N B) (h : Nr (am_N B) ks [] p s (am_nw B t 0 sl) (rI B i) B1 i1) : Nr x [k] [] (1 + p) (sl + s) B i (am_sR B1 x k (some (am_N B))) i1 ∧ Rf (am_sR B1 x k (some (am_N B))) (am_N B) x k t 0 := by
  have n1 : am_N (am_nw B t 0 sl) = am_N B + 1 := rfl
  have hz : ∀ l, i1 (am_N B) l = 0 := fun l => (h.2.2.2.1 (am_N B) l (by omega) fun _ hm => nomatch hm).trans (congrFun (if_pos rfl) l)
  refine ⟨(obj_nr hx h).resolve_right fun ⟨q, l, h1, h2⟩ => h1 (by rw [h2]; exact hz l), ?_, ?_, ?_⟩
  · exact (h.2.1 (am_N B) (by omega)).1.trans (if_pos rfl)
  · exact (h.2.1 (am_N B) (by omega)).2.1.trans (if_pos rfl)
  · show am_up2 (am_R B1) x k (some (am_N B)) x k = _
    exact y_up1 rfl rfl
/-- a part's rows stay when it becomes a field -/
theorem Rf.fld {q y m : Nat} (h : Rf B1 q y m t len) (hy : y ≠ x) {v : Option Nat} : Rf (am_sR B1 x k v) q y m t len := ⟨h.1, h.2.1, by
  show am_up2 (am_R B1) x k v y m = _
  rw [y_up2 (Or.inl hy)]
  exact h.2.2⟩
theorem i_235a (K0 : am_K B x = 12) (H0 : x < am_N B) : ∃ B' i', am_fx am_P (d + 1) 235 0 [some (.ref x), none] [] (am_wI B i) = am_fx am_P (d + 1) 235 66 [some (.ref x), none] [] (am_wI B' i') ∧ Nr x [1, 2, 4, 7, 10, 11] [6, 9] 6 210 B i B' i' ∧ (Rf B' (am_N B + 0) x 1 21 6 ∧ Rf B' (am_N B + 1) x 2 26 60 ∧ Rf B' (am_N B + 2) x 4 27 120 ∧ Rf B' (am_N B + 3) x 7 28 8 ∧ Rf B' (am_N B + 4) x 10 21 8 ∧ Rf B' (am_N B + 5) x 11 21 8) ∧ i' x 6 = 20 ∧ i' x 9 = 2 := by
  generalize hB : B = B0 at *
  generalize hi : i = i0 at *
  have E0 : am_fx am_P (d + 1) 235 0 [some (.ref x), none] [] (am_wI B0 i0) = am_fx am_P (d + 1) 235 12 [some (.ref x), none] [] (am_wI (rB B0 x 1 21 6) (rI B0 i0)) := by
    rw [bk_235_0]
    rw [if_neg (by decide)]
    refine (y_ck ?_).trans ?_
    · exact (y_nwK (n := (6 : Int32).toNatClampNeg) (sl := (6 : Int32).toNatClampNeg) (Nat.ne_of_lt H0)).trans K0
    · rfl
  obtain ⟨G0, F0⟩ := row_nr (B := B0) (i := i0) (x := x) (k := 1) (t := 21) (len := 6) H0
  generalize rB B0 x 1 21 6 = B1 at E0 G0 F0
  generalize rI B0 i0 = i1 at E0 G0
  have H1 : x < am_N B1 := by have := G0.1.1; omega
  have K1 : am_K B1 x = 12 := (G0.2.1 x H0).1.trans K0
  have E1 : am_fx am_P (d + 1) 235 12 [some (.ref x), none] [] (am_wI B1 i1) = am_fx am_P (d + 1) 235 21 [some (.ref x), none] [] (am_wI (rB B1 x 2 26 60) (rI B1 i1)) := by
    rw [bk_235_12]
    rw [if_neg (by decide)]
    refine (y_ck ?_).trans ?_
    · exact (y_nwK (n := (60 : Int32).toNatClampNeg) (sl := (60 : Int32).toNatClampNeg) (Nat.ne_of_lt H1)).trans K1
    · rfl
  obtain ⟨G1, F1⟩ := row_nr (B := B1) (i := i1) (x := x) (k := 2) (t := 26) (len := 60) H1
  generalize rB B1 x 2 26 60 = B2 at E1 G1 F1
  generalize rI B1 i1 = i2 at E1 G1
  have H2 : x < am_N B2 := by have := G1.1.1; omega
  have K2 : am_K B2 x = 12 := (G1.2.1 x H1).1.trans K1
  have E2 : am_fx am_P (d + 1) 235 21 [some (.ref x), none] [] (am_wI B2 i2) = am_fx am_P (d + 1) 235 30 [some (.ref x), none] [] (am_wI (rB B2 x 4 27 120) (rI B2 i2)) := by
    rw [bk_235_21]
    rw [if_neg (by decide)]
    refine (y_ck ?_).trans ?_
    · exact (y_nwK (n := (120 : Int32).toNatClampNeg) (sl := (120 : Int32).toNatClampNeg) (Nat.ne_of_lt H2)).trans K2
    · rfl
  obtain ⟨G2, F2⟩ := row_nr (B := B2) (i := i2) (x := x) (k := 4) (t := 27) (len := 120) H2
  generalize rB B2 x 4 27 120 = B3 at E2 G2 F2
  generalize rI B2 i2 = i3 at E2 G2
  have H3 : x < am_N B3 := by have := G2.1.1; omega
  have K3 : am_K B3 x = 12 := (G2.2.1 x H2).1.trans K2
  have S3 : Nr x [] [6] 0 0 B3 i3 B3 (am_up2 i3 x 6 (20)) := si_nr
  have E3 : am_fx am_P (d + 1) 235 30 [some (.ref x), none] [] (am_wI B3 i3) = am_fx am_P (d + 1) 235 45 [some (.ref x), none] [] (am_wI (rB B3 x 7 28 8) (rI B3 (am_up2 i3 x 6 (20)))) := by
    rw [bk_235_30]
    refine (y_ck (by exact K3)).trans ?_
    rw [if_neg (by decide)]
    refine (y_ck ?_).trans ?_
    · exact (y_nwK (n := (8 : Int32).toNatClampNeg) (sl := (8 : Int32).toNatClampNeg) (Nat.ne_of_lt H3)).trans K3
    · rfl
  obtain ⟨G3, F3⟩ := row_nr (B := B3) (i := (am_up2 i3 x 6 (20))) (x := x) (k := 7) (t := 28) (len := 8) H3
  have G3 := S3.tr G3 H3
  clear S3
  generalize rB B3 x 7 28 8 = B4 at E3 G3 F3
  have V3 : rI B3 (am_up2 i3 x 6 (20)) x 6 = 20 := (congrFun (if_neg (Nat.ne_of_lt H3)) 6).trans (y_up1 rfl rfl)
  generalize rI B3 (am_up2 i3 x 6 (20)) = i4 at E3 G3 V3
  have H4 : x < am_N B4 := by have := G3.1.1; omega
  have K4 : am_K B4 x = 12 := (G3.2.1 x H3).1.trans K3
  have S4 : Nr x [] [9] 0 0 B4 i4 B4 (am_up2 i4 x 9 (2)) := si_nr
  have E4 : am_fx am_P (d + 1) 235 45 [some (.ref x), none] [] (am_wI B4 i4) = am_fx am_P (d + 1) 235 58 [some (.ref x), none] [] (am_wI (rB B4 x 10 21 8) (rI B4 (am_up2 i4 x 9 (2)))) := by
    rw [bk_235_45]
    refine (y_ck (by exact K4)).trans ?_
    rw [if_neg (by decide)]
    refine (y_ck ?_).trans ?_
    · exact (y_nwK (n := (8 : Int32).toNatClampNeg) (sl := (8 : Int32).toNatClampNeg) (Nat.ne_of_lt H4)).trans K4
    · rfl
  obtain ⟨G4, F4⟩ := row_nr (B := B4) (i := (am_up2 i4 x 9 (2))) (x := x) (k := 10) (t := 21) (len := 8) H4
  have G4 := S4.tr G4 H4
  clear S4
  generalize rB B4 x 10 21 8 = B5 at E4 G4 F4
  have V4 : rI B4 (am_up2 i4 x 9 (2)) x 9 = 2 := (congrFun (if_neg (Nat.ne_of_lt H4)) 9).trans (y_up1 rfl rfl)
  generalize rI B4 (am_up2 i4 x 9 (2)) = i5 at E4 G4 V4
  have H5 : x < am_N B5 := by have := G4.1.1; omega
  have K5 : am_K B5 x = 12 := (G4.2.1 x H4).1.trans K4
  have E5 : am_fx am_P (d + 1) 235 58 [some (.ref x), none] [] (am_wI B5 i5) = am_fx am_P (d + 1) 235 66 [some (.ref x), none] [] (am_wI (rB B5 x 11 21 8) (rI B5 i5)) := by
    rw [bk_235_58]
    rw [if_neg (by decide)]
    refine (y_ck ?_).trans ?_
    · exact (y_nwK (n := (8 : Int32).toNatClampNeg) (sl := (8 : Int32).toNatClampNeg) (Nat.ne_of_lt H5)).trans K5
    · rfl
  obtain ⟨G5, F5⟩ := row_nr (B := B5) (i := i5) (x := x) (k := 11) (t := 21) (len := 8) H5
  generalize rB B5 x 11 21 8 = B6 at E5 G5 F5
  generalize rI B5 i5 = i6 at E5 G5
  have H6 : x < am_N B6 := by have := G5.1.1; omega
  have K6 : am_K B6 x = 12 := (G5.2.1 x H5).1.trans K5
  have A0 := G0
  have A1 := A0.tr G1 H0
  have A2 := A1.tr G2 H0
  have A3 := A2.tr G3 H0
  have A4 := A3.tr G4 H0
  have A5 := A4.tr G5 H0
  have Z6 : Nr x [] [] 0 0 B6 i6 B6 i6 := Nr.rf
  have Z5 := G5.tr Z6 H5
  have Z4 := G4.tr Z5 H4
  have Z3 := G3.tr Z4 H3
  have Z2 := G2.tr Z3 H2
  have Z1 := G1.tr Z2 H1
  refine ⟨B6, i6, ?_, A5, ⟨by have q := F0.mv Z1 (by have := G0.1.1; omega) H1 (by decide); rw [show am_N B0 + 0 = am_N B0 by have := Nat.le_refl 0; omega]; exact q, by have q := F1.mv Z2 (by have := G1.1.1; omega) H2 (by decide); rw [show am_N B0 + 1 = am_N B1 by have := A0.1.1; omega]; exact q, by have q := F2.mv Z3 (by have := G2.1.1; omega) H3 (by decide); rw [show am_N B0 + 2 = am_N B2 by have := A1.1.1; omega]; exact q, by have q := F3.mv Z4 (by have := G3.1.1; omega) H4 (by decide); rw [show am_N B0 + 3 = am_N B3 by have := A2.1.1; omega]; exact q, by have q := F4.mv Z5 (by have := G4.1.1; omega) H5 (by decide); rw [show am_N B0 + 4 = am_N B4 by have := A3.1.1; omega]; exact q, by have q := F5.mv Z6 (by have := G5.1.1; omega) H6 (by decide); rw [show am_N B0 + 5 = am_N B5 by have := A4.1.1; omega]; exact q⟩, ((Z4.2.2.2.1 x 6 H4 (fun _ => by decide)).trans V3), ((Z5.2.2.2.1 x 9 H5 (fun _ => by decide)).trans V4)⟩
  rw [E0, E1, E2, E3, E4, E5]
theorem i_235b (K0 : am_K B x = 12) (H0 : x < am_N B) (hN : am_N B = x + 7) : ∃ B' i', am_fx am_P (d + 1) 235 66 [some (.ref x), none] [] (am_wI B i) = am_fx am_P (d + 1) 235 110 [some (.ref x), none] [] (am_wI B' i') ∧ Nr x [15, 16, 17, 18] [] 24 596 B i B' i' ∧ (Rf B' (x + 7) x 15 11 0 ∧ Rf B' (x + 8) (x + 7) 0 29 10 ∧ Rf B' (x + 9) (x + 7) 1 21 10 ∧ Rf B' (x + 10) (x + 7) 4 21 6 ∧ Rf B' (x + 11) x 16 4 0 ∧ Rf B' (x + 12) (x + 11) 0 21 4 ∧ Rf B' (x + 13) (x + 11) 2 21 28 ∧ Rf B' (x + 14) x 17 2 0 ∧ Rf B' (x + 15) (x + 14) 0 21 100 ∧ Rf B' (x + 16) (x + 14) 1 21 100 ∧ Rf B' (x + 17) (x + 14) 2 21 100 ∧ Rf B' (x + 18) (x + 14) 3 21 100 ∧ Rf B' (x + 19) (x + 14) 5 21 20 ∧ Rf B' (x + 20) (x + 14) 6 21 20 ∧ Rf B' (x + 21) (x + 14) 8 21 10 ∧ Rf B' (x + 22) x 18 6 0 ∧ Rf B' (x + 23) (x + 22) 0 21 8 ∧ Rf B' (x + 24) (x + 22) 1 21 8 ∧ Rf B' (x + 25) (x + 22) 2 21 8 ∧ Rf B' (x + 26) (x + 22) 3 21 8 ∧ Rf B' (x + 27) (x + 22) 5 25 3 ∧ (∀ j, j < 3 → Rf B' (x + 28 + j) (x + 27) j 21 10)) := by
  generalize hB : B = B0 at *
  generalize hi : i = i0 at *
  obtain ⟨D0, i1, E0, L0, R0_0, R0_1, R0_2⟩ := i_187 (d := d) (B := am_nw B0 11 0 5) (i := rI B0 i0) (x := am_N B0) (if_pos rfl) (Nat.lt_succ_self _)
  obtain ⟨G0, F0⟩ := obj_nr2 (k := 15) H0 L0
  have H1 : x < am_N (am_sR D0 x 15 (some (am_N B0))) := by have := G0.1.1; omega
  have K1 : am_K (am_sR D0 x 15 (some (am_N B0))) x = 12 := (G0.2.1 x H0).1.trans K0
  have Q0 : am_fx am_P d 187 0 [some (.ref (am_N (am_wI B0 i0)))] [] (am_nw (am_wI B0 i0) 11 0 5) = some (.inl none, am_wI D0 i1) := E0
  have n0 : am_N (am_nw B0 11 0 5) = am_N B0 + 1 := rfl
  rw [n0] at R0_0 R0_1 R0_2
  have N0 : am_N B0 = x + 7 := by exact hN
  generalize eB1 : am_sR D0 x 15 (some (am_N B0)) = B1 at G0 F0 H1 K1
  have R0_0 := R0_0.fld (x := x) (k := 15) (v := some (am_N B0)) (by omega)
  rw [eB1] at R0_0
  have R0_1 := R0_1.fld (x := x) (k := 15) (v := some (am_N B0)) (by omega)
  rw [eB1] at R0_1
  have R0_2 := R0_2.fld (x := x) (k := 15) (v := some (am_N B0)) (by omega)
  rw [eB1] at R0_2
  obtain ⟨D1, i2, E1, L1, R1_0, R1_1⟩ := i_216 (d := d) (B := am_nw B1 4 0 3) (i := rI B1 i1) (x := am_N B1) (if_pos rfl) (Nat.lt_succ_self _)
  obtain ⟨G1, F1⟩ := obj_nr2 (k := 16) H1 L1
  have H2 : x < am_N (am_sR D1 x 16 (some (am_N B1))) := by have := G1.1.1; omega
  have K2 : am_K (am_sR D1 x 16 (some (am_N B1))) x = 12 := (G1.2.1 x H1).1.trans K1
  have Q1 : am_fx am_P d 216 0 [some (.ref (am_N (am_wI B1 i1)))] [] (am_nw (am_wI B1 i1) 4 0 3) = some (.inl none, am_wI D1 i2) := E1
  have n1 : am_N (am_nw B1 4 0 3) = am_N B1 + 1 := rfl
  rw [n1] at R1_0 R1_1
  have N1 : am_N B1 = x + 11 := by have := G0.1.1; omega
  generalize eB2 : am_sR D1 x 16 (some (am_N B1)) = B2 at G1 F1 H2 K2
  have R1_0 := R1_0.fld (x := x) (k := 16) (v := some (am_N B1)) (by omega)
  rw [eB2] at R1_0
  have R1_1 := R1_1.fld (x := x) (k := 16) (v := some (am_N B1)) (by omega)
  rw [eB2] at R1_1
  obtain ⟨D2, i3, E2, L2, R2_0, R2_1, R2_2, R2_3, R2_4, R2_5, R2_6⟩ := i_143 (d := d) (B := am_nw B2 2 0 9) (i := rI B2 i2) (x := am_N B2) (if_pos rfl) (Nat.lt_succ_self _)
  obtain ⟨G2, F2⟩ := obj_nr2 (k := 17) H2 L2
  have H3 : x < am_N (am_sR D2 x 17 (some (am_N B2))) := by have := G2.1.1; omega
  have K3 : am_K (am_sR D2 x 17 (some (am_N B2))) x = 12 := (G2.2.1 x H2).1.trans K2
  have Q2 : am_fx am_P d 143 0 [some (.ref (am_N (am_wI B2 i2)))] [] (am_nw (am_wI B2 i2) 2 0 9) = some (.inl none, am_wI D2 i3) := E2
  have n2 : am_N (am_nw B2 2 0 9) = am_N B2 + 1 := rfl
  rw [n2] at R2_0 R2_1 R2_2 R2_3 R2_4 R2_5 R2_6
  have N2 : am_N B2 = x + 14 := by have := G1.1.1; omega
  generalize eB3 : am_sR D2 x 17 (some (am_N B2)) = B3 at G2 F2 H3 K3
  have R2_0 := R2_0.fld (x := x) (k := 17) (v := some (am_N B2)) (by omega)
  rw [eB3] at R2_0
  have R2_1 := R2_1.fld (x := x) (k := 17) (v := some (am_N B2)) (by omega)
  rw [eB3] at R2_1
  have R2_2 := R2_2.fld (x := x) (k := 17) (v := some (am_N B2)) (by omega)
  rw [eB3] at R2_2
  have R2_3 := R2_3.fld (x := x) (k := 17) (v := some (am_N B2)) (by omega)
  rw [eB3] at R2_3
  have R2_4 := R2_4.fld (x := x) (k := 17) (v := some (am_N B2)) (by omega)
  rw [eB3] at R2_4
  have R2_5 := R2_5.fld (x := x) (k := 17) (v := some (am_N B2)) (by omega)
  rw [eB3] at R2_5
  have R2_6 := R2_6.fld (x := x) (k := 17) (v := some (am_N B2)) (by omega)
  rw [eB3] at R2_6
  obtain ⟨D3, i4, E3, L3, R3_0, R3_1, R3_2, R3_3, R3_4, W3_4⟩ := i_167 (d := d) (B := am_nw B3 6 0 6) (i := rI B3 i3) (x := am_N B3) (if_pos rfl) (Nat.lt_succ_self _)
  obtain ⟨G3, F3⟩ := obj_nr2 (k := 18) H3 L3
  have H4 : x < am_N (am_sR D3 x 18 (some (am_N B3))) := by have := G3.1.1; omega
  have K4 : am_K (am_sR D3 x 18 (some (am_N B3))) x = 12 := (G3.2.1 x H3).1.trans K3
  have Q3 : am_fx am_P d 167 0 [some (.ref (am_N (am_wI B3 i3)))] [] (am_nw (am_wI B3 i3) 6 0 6) = some (.inl none, am_wI D3 i4) := E3
  have n3 : am_N (am_nw B3 6 0 6) = am_N B3 + 1 := rfl
  rw [n3] at R3_0 R3_1 R3_2 R3_3 R3_4 W3_4
  have N3 : am_N B3 = x + 22 := by have := G2.1.1; omega
  generalize eB4 : am_sR D3 x 18 (some (am_N B3)) = B4 at G3 F3 H4 K4
  have R3_0 := R3_0.fld (x := x) (k := 18) (v := some (am_N B3)) (by omega)
  rw [eB4] at R3_0
  have R3_1 := R3_1.fld (x := x) (k := 18) (v := some (am_N B3)) (by omega)
  rw [eB4] at R3_1
  have R3_2 := R3_2.fld (x := x) (k := 18) (v := some (am_N B3)) (by omega)
  rw [eB4] at R3_2
  have R3_3 := R3_3.fld (x := x) (k := 18) (v := some (am_N B3)) (by omega)
  rw [eB4] at R3_3
  have R3_4 := R3_4.fld (x := x) (k := 18) (v := some (am_N B3)) (by omega)
  rw [eB4] at R3_4
  have W3_4 := fun j hj => (W3_4 j hj).fld (x := x) (k := 18) (v := some (am_N B3)) (by omega)
  rw [eB4] at W3_4
  have A0 := G0
  have A1 := A0.tr G1 H0
  have A2 := A1.tr G2 H0
  have A3 := A2.tr G3 H0
  have Z4 : Nr x [] [] 0 0 B4 i4 B4 i4 := Nr.rf
  have Z3 := G3.tr Z4 H3
  have Z2 := G2.tr Z3 H2
  have Z1 := G1.tr Z2 H1
  refine ⟨B4, i4, ?_, A3, by have q := F0.mv Z1 (by have := G0.1.1; omega) H1 (by decide); rw [N0] at q; exact q, by have q := R0_0.mvo Z1 (by have := G0.1.1; omega) (by have := G0.1.1; omega) (by omega); rw [N0] at q; exact q, by have q := R0_1.mvo Z1 (by have := G0.1.1; omega) (by have := G0.1.1; omega) (by omega); rw [N0] at q; exact q, by have q := R0_2.mvo Z1 (by have := G0.1.1; omega) (by have := G0.1.1; omega) (by omega); rw [N0] at q; exact q, by have q := F1.mv Z2 (by have := G1.1.1; omega) H2 (by decide); rw [N1] at q; exact q, by have q := R1_0.mvo Z2 (by have := G1.1.1; omega) (by have := G1.1.1; omega) (by omega); rw [N1] at q; exact q, by have q := R1_1.mvo Z2 (by have := G1.1.1; omega) (by have := G1.1.1; omega) (by omega); rw [N1] at q; exact q, by have q := F2.mv Z3 (by have := G2.1.1; omega) H3 (by decide); rw [N2] at q; exact q, by have q := R2_0.mvo Z3 (by have := G2.1.1; omega) (by have := G2.1.1; omega) (by omega); rw [N2] at q; exact q, by have q := R2_1.mvo Z3 (by have := G2.1.1; omega) (by have := G2.1.1; omega) (by omega); rw [N2] at q; exact q, by have q := R2_2.mvo Z3 (by have := G2.1.1; omega) (by have := G2.1.1; omega) (by omega); rw [N2] at q; exact q, by have q := R2_3.mvo Z3 (by have := G2.1.1; omega) (by have := G2.1.1; omega) (by omega); rw [N2] at q; exact q, by have q := R2_4.mvo Z3 (by have := G2.1.1; omega) (by have := G2.1.1; omega) (by omega); rw [N2] at q; exact q, by have q := R2_5.mvo Z3 (by have := G2.1.1; omega) (by have := G2.1.1; omega) (by omega); rw [N2] at q; exact q, by have q := R2_6.mvo Z3 (by have := G2.1.1; omega) (by have := G2.1.1; omega) (by omega); rw [N2] at q; exact q, by have q := F3.mv Z4 (by have := G3.1.1; omega) H4 (by decide); rw [N3] at q; exact q, by have q := R3_0.mvo Z4 (by have := G3.1.1; omega) (by have := G3.1.1; omega) (by omega); rw [N3] at q; exact q, by have q := R3_1.mvo Z4 (by have := G3.1.1; omega) (by have := G3.1.1; omega) (by omega); rw [N3] at q; exact q, by have q := R3_2.mvo Z4 (by have := G3.1.1; omega) (by have := G3.1.1; omega) (by omega); rw [N3] at q; exact q, by have q := R3_3.mvo Z4 (by have := G3.1.1; omega) (by have := G3.1.1; omega) (by omega); rw [N3] at q; exact q, by have q := R3_4.mvo Z4 (by have := G3.1.1; omega) (by have := G3.1.1; omega) (by omega); rw [N3] at q; exact q, fun j hj => by have q := (W3_4 j hj).mvo Z4 (by have := G3.1.1; omega) (by have := G3.1.1; omega) (by omega); rw [N3] at q; exact q⟩
  rw [bk_235_66]
  refine (y_ck ?_).trans ?_
  · exact if_pos rfl
  rw [Q0, y_oV]
  refine (y_ck ?_).trans ?_
  · have q := K1
    rw [← eB1] at q
    exact q
  rw [show am_sR (am_wI D0 i1) x 15 (some (am_N (am_wI B0 i0))) = am_wI B1 i1 by rw [← eB1]; rfl]
  refine (y_ck ?_).trans ?_
  · exact if_pos rfl
  rw [Q1, y_oV]
  refine (y_ck ?_).trans ?_
  · have q := K2
    rw [← eB2] at q
    exact q
  rw [show am_sR (am_wI D1 i2) x 16 (some (am_N (am_wI B1 i1))) = am_wI B2 i2 by rw [← eB2]; rfl]
  refine (y_ck ?_).trans ?_
  · exact if_pos rfl
  rw [Q2, y_oV]
  refine (y_ck ?_).trans ?_
  · have q := K3
    rw [← eB3] at q
    exact q
  rw [show am_sR (am_wI D2 i3) x 17 (some (am_N (am_wI B2 i2))) = am_wI B3 i3 by rw [← eB3]; rfl]
  refine (y_ck ?_).trans ?_
  · exact if_pos rfl
  rw [Q3, y_oV]
  refine (y_ck ?_).trans ?_
  · have q := K4
    rw [← eB4] at q
    exact q
  rw [show am_sR (am_wI D3 i4) x 18 (some (am_N (am_wI B3 i3))) = am_wI B4 i4 by rw [← eB4]; rfl]
end Yard1
