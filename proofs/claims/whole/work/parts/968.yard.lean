/-! THE START: a yard, all of it. Made by wip/whole/math/968.py. -/
section Yard4
variable {B : am_A} {i : Nat → Nat → Int32} {d x : Nat}
/-- the first numbers of a yard -/
def Yi (i : Nat → Nat → Int32) (b : Nat) : Prop := i b 6 = 20 ∧ i b 9 = 2 ∧ (∀ l, l ≠ 6 → l ≠ 9 → i b l = 0) ∧ (∀ k, k < 6 → i (b + 1) k = 10) ∧ ∀ q l, b + 2 ≤ q → q < b + 260 → i q l = 0
theorem i_235 (K0 : am_K B x = 12) (hN : am_N B = x + 1) (hz : ∀ l, i x l = 0) : ∃ B' i', am_fx am_P (d + 1) 235 0 [some (.ref x), none] [] (am_wI B i) = some (.inl none, am_wI B' i') ∧ (am_N B' = x + 260 ∧ am_C B' = am_C B + 259 ∧ am_S B' = am_S B + 3954) ∧ (∀ q, q < x + 1 → am_K B' q = am_K B q ∧ am_L B' q = am_L B q ∧ am_J B' q = am_J B q) ∧ (∀ q, q < x → am_R B' q = am_R B q) ∧ (∀ q l, q < x → i' q l = i q l) ∧ Yd B' x ∧ Yi i' x := by
  have H0 : x < am_N B := by omega
  obtain ⟨B1, i1, E1, G1, ⟨a1, a2, a3, a4, a5, a6⟩, v6, v9⟩ := i_235a (i := i) (d := d) K0 H0
  have N1 := G1.1.1
  have H1 : x < am_N B1 := by omega
  have K1 : am_K B1 x = 12 := (G1.2.1 x H0).1.trans K0
  rw [hN] at a1 a2 a3 a4 a5 a6
  obtain ⟨B2, i2, E2, G2, b7, b8, b9, b10, b11, b12, b13, b14, b15, b16, b17, b18, b19, b20, b21, b22, b23, b24, b25, b26, b27, w28⟩ := i_235b (i := i1) (d := d) K1 H1 (by omega)
  have N2 := G2.1.1
  have H2 : x < am_N B2 := by omega
  have K2 : am_K B2 x = 12 := (G2.2.1 x H1).1.trans K1
  have a1 : Rf B1 (x + 1) x 1 21 6 := by rw [show x + 1 + 0 = x + 1 by omega] at a1; exact a1
  have a2 : Rf B1 (x + 2) x 2 26 60 := by rw [show x + 1 + 1 = x + 2 by omega] at a2; exact a2
  have a3 : Rf B1 (x + 3) x 4 27 120 := by rw [show x + 1 + 2 = x + 3 by omega] at a3; exact a3
  have a4 : Rf B1 (x + 4) x 7 28 8 := by rw [show x + 1 + 3 = x + 4 by omega] at a4; exact a4
  have a5 : Rf B1 (x + 5) x 10 21 8 := by rw [show x + 1 + 4 = x + 5 by omega] at a5; exact a5
  have a6 : Rf B1 (x + 6) x 11 21 8 := by rw [show x + 1 + 5 = x + 6 by omega] at a6; exact a6
  have a1 := a1.mv G2 (by omega) H1 (by decide)
  have a2 := a2.mv G2 (by omega) H1 (by decide)
  have a3 := a3.mv G2 (by omega) H1 (by decide)
  have a4 := a4.mv G2 (by omega) H1 (by decide)
  have a5 := a5.mv G2 (by omega) H1 (by decide)
  have a6 := a6.mv G2 (by omega) H1 (by decide)
  obtain ⟨B3, i3, E3, G3, c31, c10⟩ := i_235c (i := i2) (d := d) K2 H2 a1.2.2 ⟨a1.1, a1.2.1⟩ (by omega) (by omega)
  have N3 := G3.1.1
  have H3 : x < am_N B3 := by omega
  have K3 : am_K B3 x = 12 := (G3.2.1 x H2).1.trans K2
  rw [show am_N B2 = x + 31 by omega] at c31
  have a1 := a1.mv G3 (by omega) H2 (by decide)
  have a2 := a2.mv G3 (by omega) H2 (by decide)
  have a3 := a3.mv G3 (by omega) H2 (by decide)
  have a4 := a4.mv G3 (by omega) H2 (by decide)
  have a5 := a5.mv G3 (by omega) H2 (by decide)
  have a6 := a6.mv G3 (by omega) H2 (by decide)
  have b7 := b7.mv G3 (by omega) H2 (by decide)
  have b8 := b8.mvo G3 (by omega) (by omega) (by omega)
  have b9 := b9.mvo G3 (by omega) (by omega) (by omega)
  have b10 := b10.mvo G3 (by omega) (by omega) (by omega)
  have b11 := b11.mv G3 (by omega) H2 (by decide)
  have b12 := b12.mvo G3 (by omega) (by omega) (by omega)
  have b13 := b13.mvo G3 (by omega) (by omega) (by omega)
  have b14 := b14.mv G3 (by omega) H2 (by decide)
  have b15 := b15.mvo G3 (by omega) (by omega) (by omega)
  have b16 := b16.mvo G3 (by omega) (by omega) (by omega)
  have b17 := b17.mvo G3 (by omega) (by omega) (by omega)
  have b18 := b18.mvo G3 (by omega) (by omega) (by omega)
  have b19 := b19.mvo G3 (by omega) (by omega) (by omega)
  have b20 := b20.mvo G3 (by omega) (by omega) (by omega)
  have b21 := b21.mvo G3 (by omega) (by omega) (by omega)
  have b22 := b22.mv G3 (by omega) H2 (by decide)
  have b23 := b23.mvo G3 (by omega) (by omega) (by omega)
  have b24 := b24.mvo G3 (by omega) (by omega) (by omega)
  have b25 := b25.mvo G3 (by omega) (by omega) (by omega)
  have b26 := b26.mvo G3 (by omega) (by omega) (by omega)
  have b27 := b27.mvo G3 (by omega) (by omega) (by omega)
  have w28 := fun j hj => (w28 j hj).mvo G3 (by omega) (by omega) (by omega)
  obtain ⟨B4, i4, E4, G4, t32⟩ := i_trees (i := i3) (d := d) K3 a2.2.2 ⟨a2.1, a2.2.1⟩ H3 (by omega) (by omega)
  have N4 := G4.1.1
  rw [show am_N B3 = x + 32 by omega] at t32
  have H4 : x < am_N B4 := by omega
  have K4 : am_K B4 x = 12 := (G4.2.1 x H3).1.trans K3
  have a1 := a1.ml G4 (by omega) (by omega) (by omega)
  have a2 := a2.ml G4 (by omega) (by omega) (by omega)
  have a3 := a3.ml G4 (by omega) (by omega) (by omega)
  have a4 := a4.ml G4 (by omega) (by omega) (by omega)
  have a5 := a5.ml G4 (by omega) (by omega) (by omega)
  have a6 := a6.ml G4 (by omega) (by omega) (by omega)
  have b7 := b7.ml G4 (by omega) (by omega) (by omega)
  have b8 := b8.ml G4 (by omega) (by omega) (by omega)
  have b9 := b9.ml G4 (by omega) (by omega) (by omega)
  have b10 := b10.ml G4 (by omega) (by omega) (by omega)
  have b11 := b11.ml G4 (by omega) (by omega) (by omega)
  have b12 := b12.ml G4 (by omega) (by omega) (by omega)
  have b13 := b13.ml G4 (by omega) (by omega) (by omega)
  have b14 := b14.ml G4 (by omega) (by omega) (by omega)
  have b15 := b15.ml G4 (by omega) (by omega) (by omega)
  have b16 := b16.ml G4 (by omega) (by omega) (by omega)
  have b17 := b17.ml G4 (by omega) (by omega) (by omega)
  have b18 := b18.ml G4 (by omega) (by omega) (by omega)
  have b19 := b19.ml G4 (by omega) (by omega) (by omega)
  have b20 := b20.ml G4 (by omega) (by omega) (by omega)
  have b21 := b21.ml G4 (by omega) (by omega) (by omega)
  have b22 := b22.ml G4 (by omega) (by omega) (by omega)
  have b23 := b23.ml G4 (by omega) (by omega) (by omega)
  have b24 := b24.ml G4 (by omega) (by omega) (by omega)
  have b25 := b25.ml G4 (by omega) (by omega) (by omega)
  have b26 := b26.ml G4 (by omega) (by omega) (by omega)
  have b27 := b27.ml G4 (by omega) (by omega) (by omega)
  have c31 := c31.ml G4 (by omega) (by omega) (by omega)
  have w28 := fun j hj => (w28 j hj).ml G4 (by omega) (by omega) (by omega)
  obtain ⟨B5, i5, E5, G5, t92⟩ := i_pieces (i := i4) (d := d) K4 a3.2.2 ⟨a3.1, a3.2.1⟩ H4 (by omega) (by omega)
  have N5 := G5.1.1
  rw [show am_N B4 = x + 92 by omega] at t92
  have H5 : x < am_N B5 := by omega
  have K5 : am_K B5 x = 12 := (G5.2.1 x H4).1.trans K4
  have t32 := fun t ht => (t32 t ht).ml G5 (by omega) (by omega) (by omega)
  have a1 := a1.ml G5 (by omega) (by omega) (by omega)
  have a2 := a2.ml G5 (by omega) (by omega) (by omega)
  have a3 := a3.ml G5 (by omega) (by omega) (by omega)
  have a4 := a4.ml G5 (by omega) (by omega) (by omega)
  have a5 := a5.ml G5 (by omega) (by omega) (by omega)
  have a6 := a6.ml G5 (by omega) (by omega) (by omega)
  have b7 := b7.ml G5 (by omega) (by omega) (by omega)
  have b8 := b8.ml G5 (by omega) (by omega) (by omega)
  have b9 := b9.ml G5 (by omega) (by omega) (by omega)
  have b10 := b10.ml G5 (by omega) (by omega) (by omega)
  have b11 := b11.ml G5 (by omega) (by omega) (by omega)
  have b12 := b12.ml G5 (by omega) (by omega) (by omega)
  have b13 := b13.ml G5 (by omega) (by omega) (by omega)
  have b14 := b14.ml G5 (by omega) (by omega) (by omega)
  have b15 := b15.ml G5 (by omega) (by omega) (by omega)
  have b16 := b16.ml G5 (by omega) (by omega) (by omega)
  have b17 := b17.ml G5 (by omega) (by omega) (by omega)
  have b18 := b18.ml G5 (by omega) (by omega) (by omega)
  have b19 := b19.ml G5 (by omega) (by omega) (by omega)
  have b20 := b20.ml G5 (by omega) (by omega) (by omega)
  have b21 := b21.ml G5 (by omega) (by omega) (by omega)
  have b22 := b22.ml G5 (by omega) (by omega) (by omega)
  have b23 := b23.ml G5 (by omega) (by omega) (by omega)
  have b24 := b24.ml G5 (by omega) (by omega) (by omega)
  have b25 := b25.ml G5 (by omega) (by omega) (by omega)
  have b26 := b26.ml G5 (by omega) (by omega) (by omega)
  have b27 := b27.ml G5 (by omega) (by omega) (by omega)
  have c31 := c31.ml G5 (by omega) (by omega) (by omega)
  have w28 := fun j hj => (w28 j hj).ml G5 (by omega) (by omega) (by omega)
  obtain ⟨B6, i6, E6, G6, t212⟩ := i_ships (i := i5) (d := d) K5 a4.2.2 ⟨a4.1, a4.2.1⟩ H5 (by omega) (by omega)
  have N6 := G6.1.1
  rw [show am_N B5 = x + 212 by omega] at t212
  have K6 : am_K B6 x = 12 := (G6.2.1 x H5).1.trans K5
  have t32 := fun t ht => (t32 t ht).ml G6 (by omega) (by omega) (by omega)
  have t92 := fun t ht => (t92 t ht).ml G6 (by omega) (by omega) (by omega)
  have a1 := a1.ml G6 (by omega) (by omega) (by omega)
  have a2 := a2.ml G6 (by omega) (by omega) (by omega)
  have a3 := a3.ml G6 (by omega) (by omega) (by omega)
  have a4 := a4.ml G6 (by omega) (by omega) (by omega)
  have a5 := a5.ml G6 (by omega) (by omega) (by omega)
  have a6 := a6.ml G6 (by omega) (by omega) (by omega)
  have b7 := b7.ml G6 (by omega) (by omega) (by omega)
  have b8 := b8.ml G6 (by omega) (by omega) (by omega)
  have b9 := b9.ml G6 (by omega) (by omega) (by omega)
  have b10 := b10.ml G6 (by omega) (by omega) (by omega)
  have b11 := b11.ml G6 (by omega) (by omega) (by omega)
  have b12 := b12.ml G6 (by omega) (by omega) (by omega)
  have b13 := b13.ml G6 (by omega) (by omega) (by omega)
  have b14 := b14.ml G6 (by omega) (by omega) (by omega)
  have b15 := b15.ml G6 (by omega) (by omega) (by omega)
  have b16 := b16.ml G6 (by omega) (by omega) (by omega)
  have b17 := b17.ml G6 (by omega) (by omega) (by omega)
  have b18 := b18.ml G6 (by omega) (by omega) (by omega)
  have b19 := b19.ml G6 (by omega) (by omega) (by omega)
  have b20 := b20.ml G6 (by omega) (by omega) (by omega)
  have b21 := b21.ml G6 (by omega) (by omega) (by omega)
  have b22 := b22.ml G6 (by omega) (by omega) (by omega)
  have b23 := b23.ml G6 (by omega) (by omega) (by omega)
  have b24 := b24.ml G6 (by omega) (by omega) (by omega)
  have b25 := b25.ml G6 (by omega) (by omega) (by omega)
  have b26 := b26.ml G6 (by omega) (by omega) (by omega)
  have b27 := b27.ml G6 (by omega) (by omega) (by omega)
  have c31 := c31.ml G6 (by omega) (by omega) (by omega)
  have w28 := fun j hj => (w28 j hj).ml G6 (by omega) (by omega) (by omega)
  have old : ∀ q, q < x + 1 → am_K B6 q = am_K B q ∧ am_L B6 q = am_L B q ∧ am_J B6 q = am_J B q := fun q hq => by
    obtain ⟨p1, p2, p3⟩ := G1.2.1 q (by omega)
    obtain ⟨q1, q2, q3⟩ := G2.2.1 q (by omega)
    obtain ⟨r1, r2, r3⟩ := G3.2.1 q (by omega)
    obtain ⟨s1, s2, s3⟩ := G4.2.1 q (by omega)
    obtain ⟨u1, u2, u3⟩ := G5.2.1 q (by omega)
    obtain ⟨y1, y2, y3⟩ := G6.2.1 q (by omega)
    exact ⟨y1.trans (u1.trans (s1.trans (r1.trans (q1.trans p1)))), y2.trans (u2.trans (s2.trans (r2.trans (q2.trans p2)))), y3.trans (u3.trans (s3.trans (r3.trans (q3.trans p3))))⟩
  have i63 : ∀ q l, q < x + 32 → i6 q l = i3 q l := fun q l hq => (G6.2.2.2.1 q l (by omega)).trans ((G5.2.2.2.1 q l (by omega)).trans (G4.2.2.2.1 q l (by omega)))
  have i32 : ∀ q l, q < x + 31 → q ≠ x + 1 → i3 q l = i2 q l := fun q l hq hy => by
    have e := G3.2.2.2.1 q l (by omega) fun _ hm => nomatch hm
    rw [show am_up1 i3 (x + 1) (i2 (x + 1)) q = i3 q from y_u1 hy] at e
    exact e
  have i21 : ∀ q l, q < x + 7 → i2 q l = i1 q l := fun q l hq => G2.2.2.2.1 q l (by omega) fun _ hm => nomatch hm
  have ix : ∀ l, i6 x l = i1 x l := fun l => (i63 x l (by omega)).trans ((i32 x l (by omega) (by omega)).trans (i21 x l (by omega)))
  refine ⟨B6, i6, ?_, ⟨by omega, ?_, ?_⟩, old, fun q hq => ?_, fun q l hq => ?_, ⟨K6, a1.2.2, a2.2.2, a3.2.2, a4.2.2, a5.2.2, a6.2.2, b7.2.2, b11.2.2, b14.2.2, b22.2.2, c31.2.2, ⟨a1.1, a1.2.1⟩, ⟨a2.1, a2.2.1⟩, ⟨a3.1, a3.2.1⟩, ⟨a4.1, a4.2.1⟩, ⟨a5.1, a5.2.1⟩, ⟨a6.1, a6.2.1⟩, ⟨b7.1, b8.2.2, b9.2.2, b10.2.2⟩, ⟨b8.1, b8.2.1⟩, ⟨b9.1, b9.2.1⟩, ⟨b10.1, b10.2.1⟩, ⟨b11.1, b12.2.2, b13.2.2⟩, ⟨b12.1, b12.2.1⟩, ⟨b13.1, b13.2.1⟩, ⟨b14.1, b15.2.2, b16.2.2, b17.2.2, b18.2.2, b19.2.2, b20.2.2, b21.2.2⟩, ⟨b15.1, b15.2.1⟩, ⟨b16.1, b16.2.1⟩, ⟨b17.1, b17.2.1⟩, ⟨b18.1, b18.2.1⟩, ⟨b19.1, b19.2.1⟩, ⟨b20.1, b20.2.1⟩, ⟨b21.1, b21.2.1⟩, ⟨b22.1, b23.2.2, b24.2.2, b25.2.2, b26.2.2, b27.2.2⟩, ⟨b23.1, b23.2.1⟩, ⟨b24.1, b24.2.1⟩, ⟨b25.1, b25.2.1⟩, ⟨b26.1, b26.2.1⟩, ⟨b27.1, b27.2.1⟩, ⟨c31.1, c31.2.1⟩, fun j hj => (w28 j hj).2.2, fun j hj => (w28 j hj).1, fun j hj => (w28 j hj).2.1, fun t ht => (t32 t ht).2.2, fun t ht => (t32 t ht).1, fun t ht => (t92 t ht).2.2, fun t ht => (t92 t ht).1, fun t ht => (t212 t ht).1.2.2, fun t ht => (t212 t ht).1.1, fun t ht => (t212 t ht).2.1.2.2, fun t ht => (t212 t ht).2.2.1.2.2, fun t ht => (t212 t ht).2.2.2.1.2.2, fun t ht => (t212 t ht).2.2.2.2.1.2.2, fun t ht => (t212 t ht).2.2.2.2.2.2.2, fun t ht => ⟨(t212 t ht).2.1.1, (t212 t ht).2.1.2.1⟩, fun t ht => ⟨(t212 t ht).2.2.1.1, (t212 t ht).2.2.1.2.1⟩, fun t ht => ⟨(t212 t ht).2.2.2.1.1, (t212 t ht).2.2.2.1.2.1⟩, fun t ht => ⟨(t212 t ht).2.2.2.2.1.1, (t212 t ht).2.2.2.2.1.2.1⟩, fun t ht => ⟨(t212 t ht).2.2.2.2.2.1, (t212 t ht).2.2.2.2.2.2.1⟩⟩, (ix 6).trans v6, (ix 9).trans v9, fun l h6 h9 => (ix l).trans ((G1.2.2.2.1 x l H0 fun _ => by simp only [List.mem_cons, List.not_mem_nil, or_false]; omega).trans (hz l)), fun k hk => (i63 _ _ (by omega)).trans (c10 k hk), fun q l h1 h2 => ?_⟩
  · rw [E1, E2, E3, E4, E5, E6]
  · have := G1.1.2.1; have := G2.1.2.1; have := G3.1.2.1; have := G4.1.2.1; have := G5.1.2.1; have := G6.1.2.1
    omega
  · have := G1.1.2.2; have := G2.1.2.2; have := G3.1.2.2; have := G4.1.2.2; have := G5.1.2.2; have := G6.1.2.2
    omega
  · funext l
    exact (G6.2.2.1 q l (by omega) fun e => by omega).trans ((G5.2.2.1 q l (by omega) fun e => by omega).trans ((G4.2.2.1 q l (by omega) fun e => by omega).trans ((G3.2.2.1 q l (by omega) fun e => by omega).trans ((G2.2.2.1 q l (by omega) fun e => by omega).trans (G1.2.2.1 q l (by omega) fun e => by omega)))))
  · exact (i63 q l (by omega)).trans ((i32 q l (by omega) (by omega)).trans ((i21 q l (by omega)).trans (G1.2.2.2.1 q l (by omega) fun e => by omega)))
  · by_cases g1 : q < x + 7
    · exact (i63 q l (by omega)).trans ((i32 q l (by omega) (by omega)).trans ((i21 q l g1).trans (G1.2.2.2.2 q l (by omega) (by omega))))
    by_cases g2 : q < x + 31
    · exact (i63 q l (by omega)).trans ((i32 q l g2 (by omega)).trans (G2.2.2.2.2 q l (by omega) (by omega)))
    by_cases g3 : q < x + 32
    · have e := G3.2.2.2.2 q l (by omega) (by omega)
      rw [show am_up1 i3 (x + 1) (i2 (x + 1)) q = i3 q from y_u1 (by omega)] at e
      exact (i63 q l g3).trans e
    by_cases g4 : q < x + 92
    · exact (G6.2.2.2.1 q l (by omega)).trans ((G5.2.2.2.1 q l (by omega)).trans (G4.2.2.2.2 q l (by omega) (by omega)))
    by_cases g5 : q < x + 212
    · exact (G6.2.2.2.1 q l (by omega)).trans (G5.2.2.2.2 q l (by omega) (by omega))
    · exact G6.2.2.2.2 q l (by omega) (by omega)
end Yard4
