/-! TEXTS ON THE TAPE, the class: the text is made. Made by wip/whole/math/935.py. -/
/-- a text more: five cells -/
def Nw5 (B B1 : am_A) (i i1 : Nat → Nat → Int32) : Prop := am_N B1 = am_N B + 5 ∧ am_C B1 = am_C B + 5 ∧ am_S B1 ≤ am_S B + 450 ∧ (∀ q, q < am_N B → am_J B1 q = am_J B q ∧ am_K B1 q = am_K B q ∧ am_L B1 q = am_L B q ∧ am_R B1 q = am_R B q) ∧ ∀ q k, q < am_N B → i1 q k = i q k
section Made
variable {B : am_A} {i j : Nat → Nat → Int32} {d a n m q s : Nat} {u : Nat → Int32}
theorem c_bad94 (hF : Fc B) (h2 : ¬ j 65 2 = -1) : am_fx am_P (d + 1) 200 94 [some (.ref 65), none, none] [] (am_wI B j) = some (.inl (some .null), am_wI B (am_up2 j 65 1 0)) := by
  rw [bk_200_94]
  simp (disch := omega) only [h2, hF, y_ckd, y_ck2d, y_ond, y_onn, y_oI, y_oIx, y_oJ, y_oV, y_oVx, y_oR, y_oRn, y_oRx, y_b0, y_b1, y_bi, y_bid, y_wIK, y_wIL, y_wII, y_wIJ, y_wIR, y_wIN, y_wIw, y_sI, ↓reduceIte, Nat.reduceEqDiff, eq_self, true_or, or_true, false_or, or_false, and_true, true_and, false_and, and_false, not_true, not_false_eq_true, tf_T, tf_F, y_up1, y_up2, y_xx, y_nx, y_sJ, y_sR, Int32.reduceLT, y_nxK, y_nxL, y_nxR, y_sJK, y_sJL, y_sJR, y_sJN, y_sRK, y_sRL, y_sRN, Nat.add_zero, z_nat, z_lit, z_lit0, z_lit1, z_in0, z_in1, z_addl0, z_lt, z_ltl, z_llt, z_inj, z_injl, z_add, z_addl, z_ladd, z_mul, z_mull, z_lmul, z_neg, z_negl, z_in, z_inl, z_ltT, z_ltF, z_eqF, z_10, z_01, z_litne, z_ne0, z_0ne, z_ne1, z_1ne, z_lt64, z_02, z_03, z_04, z_05, z_12, z_13, z_14, z_15, z_20, z_21, z_23, z_24, z_25, z_30, z_31, z_32, z_34, z_35, z_40, z_41, z_42, z_43, z_45, z_50, z_51, z_52, z_53, z_54]
theorem c_made (hF : Fc B) (hN : 893 ≤ am_N B) (h2 : j 65 2 = -1) (hL : LC j n u) (hS : SC j s u) (h12 : n ≤ 12) (h4 : s ≤ 400) (hen : ∀ k, k < n → ∃ e, e ≤ s ∧ u (12044 + 4 * k + 3) = Int32.ofNat e) : ∃ B1 j1, am_fx am_P (d + 2) 200 94 [some (.ref 65), none, none] [] (am_wI B j) = some (.inl (some (.ref (am_N B))), am_wI B1 j1) ∧ Nw5 B B1 (am_up2 j 65 1 0) j1 ∧ TxR B1 j1 (am_N B) (wu u 12043 (Int32.ofNat n)) 12042 ∧ am_L B1 (am_N B + 4) ≤ 400 := by
  obtain ⟨L7, Lm⟩ := hL
  obtain ⟨S11, Sk⟩ := hS
  generalize ej : am_up2 j 65 1 0 = j0
  have k7 : j0 65 7 = Int32.ofNat n := by rw [← ej, y_up2 (by omega)]; exact L7
  have k11 : j0 65 11 = Int32.ofNat s := by rw [← ej, y_up2 (by omega)]; exact S11
  have k2 : j0 65 2 = -1 := by rw [← ej, y_up2 (by omega)]; exact h2
  have k6 : ∀ q k, q ≠ 65 → j0 q k = j q k := fun q k hq => by rw [← ej, y_up2 (by omega)]
  generalize eM : am_N B = M at hN
  -- the object
  have f0 : ∀ q, q < M → am_K (am_nw B 9 0 5) q = am_K B q ∧ am_L (am_nw B 9 0 5) q = am_L B q ∧ am_R (am_nw B 9 0 5) q = am_R B q ∧ am_J (am_nw B 9 0 5) q = am_J B q := fun q hq => ⟨if_neg (by omega), if_neg (by omega), if_neg (by omega), if_neg (by omega)⟩
  generalize eB0 : am_nw B 9 0 5 = B0 at f0
  generalize ei0 : am_up1 j0 M (fun _ => 0) = i0
  have g0 : ∀ q k, q < M → i0 q k = j0 q k := fun q k hq => by rw [← ei0, y_u1 (by omega)]
  have n0 : am_N B0 = M + 1 := by rw [← eB0, y_nwN, eM]
  have t0 : am_K B0 M = 9 := by rw [← eB0, ← eM]; exact y_nwK0
  have c0 : am_C B0 = am_C B + 1 ∧ am_S B0 = am_S B + 5 := by rw [← eB0]; exact ⟨rfl, rfl⟩
  obtain ⟨B1, i1, E1, ⟨a1, a2, a3, a4, a5, a6⟩, p1, f1⟩ := c_copyOf (B := B0) (i := i0) (d := d) (a := 67) (n := n) (m := 12) (by rw [(f0 67 (by omega)).1]; exact hF.2.2.2.1.1) (by rw [(f0 67 (by omega)).2.1]; exact hF.2.2.2.1.2) h12 (by omega) (by omega)
  obtain ⟨B2, i2, E2, ⟨b1, b2, b3, b4, b5, b6⟩, p2, f2⟩ := c_copyOf (B := B1) (i := i1) (d := d) (a := 68) (n := n) (m := 12) (by rw [(a6 68 (by omega)).1, (f0 68 (by omega)).1]; exact hF.2.2.2.2.1.1) (by rw [(a6 68 (by omega)).2.1, (f0 68 (by omega)).2.1]; exact hF.2.2.2.2.1.2) h12 (by omega) (by omega)
  obtain ⟨B3, i3, E3, ⟨c1, c2, c3, c4, c5, c6⟩, p3, f3⟩ := c_copyOf (B := B2) (i := i2) (d := d) (a := 69) (n := n) (m := 12) (by rw [(b6 69 (by omega)).1, (a6 69 (by omega)).1, (f0 69 (by omega)).1]; exact hF.2.2.2.2.2.1.1) (by rw [(b6 69 (by omega)).2.1, (a6 69 (by omega)).2.1, (f0 69 (by omega)).2.1]; exact hF.2.2.2.2.2.1.2) h12 (by omega) (by omega)
  obtain ⟨B4, i4, E4, ⟨d1, d2, d3, d4, d5, d6⟩, p4, f4⟩ := c_copyOf (B := B3) (i := i3) (d := d) (a := 70) (n := s) (m := 400) (by rw [(c6 70 (by omega)).1, (b6 70 (by omega)).1, (a6 70 (by omega)).1, (f0 70 (by omega)).1]; exact hF.2.2.2.2.2.2.1.1) (by rw [(c6 70 (by omega)).2.1, (b6 70 (by omega)).2.1, (a6 70 (by omega)).2.1, (f0 70 (by omega)).2.1]; exact hF.2.2.2.2.2.2.1.2) h4 (by omega) (by omega)
  rw [n0] at a1 a4 a5 a6 p1 f1 E1
  rw [a1] at b1 b4 b5 b6 p2 f2 E2
  rw [b1] at c1 c4 c5 c6 p3 f3 E3
  rw [c1] at d1 d4 d5 d6 p4 f4 E4
  have q0 := f0
  have q1 : ∀ q, q < M + 1 → am_K B1 q = am_K B0 q ∧ am_L B1 q = am_L B0 q ∧ am_R B1 q = am_R B0 q := fun q hq => a6 q (by omega)
  have q2 : ∀ q, q < M + 2 → am_K B2 q = am_K B1 q ∧ am_L B2 q = am_L B1 q ∧ am_R B2 q = am_R B1 q := fun q hq => b6 q (by omega)
  have q3 : ∀ q, q < M + 3 → am_K B3 q = am_K B2 q ∧ am_L B3 q = am_L B2 q ∧ am_R B3 q = am_R B2 q := fun q hq => c6 q (by omega)
  have q4 : ∀ q, q < M + 4 → am_K B4 q = am_K B3 q ∧ am_L B4 q = am_L B3 q ∧ am_R B4 q = am_R B3 q := fun q hq => d6 q (by omega)
  have K1 : am_K B4 (M + 1) = 21 ∧ am_L B4 (M + 1) = n := by
    rw [(q4 _ (by omega)).1, (q4 _ (by omega)).2.1, (q3 _ (by omega)).1, (q3 _ (by omega)).2.1, (q2 _ (by omega)).1, (q2 _ (by omega)).2.1]
    exact a5
  have K2 : am_K B4 (M + 2) = 21 ∧ am_L B4 (M + 2) = n := by
    rw [(q4 _ (by omega)).1, (q4 _ (by omega)).2.1, (q3 _ (by omega)).1, (q3 _ (by omega)).2.1]
    exact b5
  have K3 : am_K B4 (M + 3) = 21 ∧ am_L B4 (M + 3) = n := by
    rw [(q4 _ (by omega)).1, (q4 _ (by omega)).2.1]
    exact c5
  have K4 : am_K B4 (M + 4) = 21 ∧ am_L B4 (M + 4) = s := d5
  have KM : am_K B4 M = 9 := by rw [(q4 _ (by omega)).1, (q3 _ (by omega)).1, (q2 _ (by omega)).1, (q1 _ (by omega)).1]; exact t0
  have KL : ∀ q, q < M → am_K B4 q = am_K B q ∧ am_L B4 q = am_L B q ∧ am_R B4 q = am_R B q := fun q hq => by
    rw [(q4 _ (by omega)).1, (q4 _ (by omega)).2.1, (q4 _ (by omega)).2.2, (q3 _ (by omega)).1, (q3 _ (by omega)).2.1, (q3 _ (by omega)).2.2, (q2 _ (by omega)).1, (q2 _ (by omega)).2.1, (q2 _ (by omega)).2.2, (q1 _ (by omega)).1, (q1 _ (by omega)).2.1, (q1 _ (by omega)).2.2, (q0 _ hq).1, (q0 _ hq).2.1, (q0 _ hq).2.2.1]
    exact ⟨rfl, rfl, rfl⟩
  have KJ : ∀ q, q < M → am_J B4 q = am_J B q := fun q hq => by rw [d4 q (by omega), c4 q (by omega), b4 q (by omega), a4 q (by omega), (q0 q hq).2.2.2]
  have e65 : ∀ k, i1 65 k = j0 65 k ∧ i2 65 k = j0 65 k ∧ i3 65 k = j0 65 k := fun k => by
    have h1 : i1 65 k = j0 65 k := (f1 _ _ (by omega)).trans (g0 _ _ (by omega))
    have h2 : i2 65 k = j0 65 k := (f2 _ _ (by omega)).trans h1
    exact ⟨h1, h2, (f3 _ _ (by omega)).trans h2⟩
  have Fi : ∀ q k, q < M → i4 q k = j0 q k := fun q k hq => by rw [f4 q k (by omega), f3 q k (by omega), f2 q k (by omega), f1 q k (by omega), g0 q k hq]
  have F0 : Fc B0 := by
    have hK : ∀ q, q < 893 → am_K B0 q = am_K B q := fun q hq => (f0 q (by omega)).1
    exact Fc_le (B := B) ⟨by omega, fun q hq => ⟨(f0 q (by omega)).1, (f0 q (by omega)).2.1, fun _ _ _ => (f0 q (by omega)).2.2.1⟩, (f0 1 (by omega)).2.2.2⟩ (by omega) hF
  have R65 : ∀ k, am_R B0 65 k = am_R B 65 k := fun k => by rw [(f0 65 (by omega)).2.2.1]
  have r0 : am_R B0 65 8 = some 67 ∧ am_R B1 65 9 = some 68 ∧ am_R B2 65 10 = some 69 ∧ am_R B3 65 12 = some 70 := by
    rw [(q3 65 (by omega)).2.2, (q2 65 (by omega)).2.2, (q1 65 (by omega)).2.2]
    exact ⟨F0.2.1.2.2.1, F0.2.1.2.2.2.1, F0.2.1.2.2.2.2.1, F0.2.1.2.2.2.2.2⟩
  have s0 : am_K B0 65 = 8 ∧ am_K B1 65 = 8 ∧ am_K B2 65 = 8 ∧ am_K B3 65 = 8 := by
    rw [(q3 65 (by omega)).1, (q2 65 (by omega)).1, (q1 65 (by omega)).1]
    exact ⟨F0.2.1.1, F0.2.1.1, F0.2.1.1, F0.2.1.1⟩
  obtain ⟨r01, r02, r03, r04⟩ := r0
  obtain ⟨s01, s02, s03, s04⟩ := s0
  refine ⟨am_sR (am_sR (am_sR (am_sR B4 M 1 (some (M + 1))) M 2 (some (M + 2))) M 3 (some (M + 3))) M 4 (some (M + 4)), am_up2 i4 M 0 (Int32.ofNat n), ?_, ⟨?_, ?_, ?_, fun q hq => ⟨KJ q (by omega), (KL q (by omega)).1, (KL q (by omega)).2.1, ?_⟩, fun q k hq => ?_⟩, ?_, ?_⟩
  · rw [show d + 2 = d + 1 + 1 by omega, bk_200_94]
    simp (disch := omega) only [h2, y_nw, eM, eB0, hF, y_ckd, y_ck2d, y_ond, y_onn, y_oI, y_oIx, y_oJ, y_oV, y_oVx, y_oR, y_oRn, y_oRx, y_b0, y_b1, y_bi, y_bid, y_wIK, y_wIL, y_wII, y_wIJ, y_wIR, y_wIN, y_wIw, y_sI, ↓reduceIte, Nat.reduceEqDiff, eq_self, true_or, or_true, false_or, or_false, and_true, true_and, false_and, and_false, not_true, not_false_eq_true, tf_T, tf_F, y_up1, y_up2, y_xx, y_nx, y_sJ, y_sR, Int32.reduceLT, y_nxK, y_nxL, y_nxR, y_sJK, y_sJL, y_sJR, y_sJN, y_sRK, y_sRL, y_sRN, Nat.add_zero, z_nat, z_lit, z_lit0, z_lit1, z_in0, z_in1, z_addl0, z_lt, z_ltl, z_llt, z_inj, z_injl, z_add, z_addl, z_ladd, z_mul, z_mull, z_lmul, z_neg, z_negl, z_in, z_inl, z_ltT, z_ltF, z_eqF, z_10, z_01, z_litne, z_ne0, z_0ne, z_ne1, z_1ne, z_lt64, z_02, z_03, z_04, z_05, z_12, z_13, z_14, z_15, z_20, z_21, z_23, z_24, z_25, z_30, z_31, z_32, z_34, z_35, z_40, z_41, z_42, z_43, z_45, z_50, z_51, z_52, z_53, z_54]
    rw [ej, ei0]
    have e02 : ∀ k, i0 65 k = j0 65 k := fun k => g0 _ _ (by omega)
    simp (disch := omega) only [k2, k7, k11, e02, r01, s01, E1, y_ckd, y_ck2d, y_ond, y_onn, y_oI, y_oIx, y_oJ, y_oV, y_oVx, y_oR, y_oRn, y_oRx, y_b0, y_b1, y_bi, y_bid, y_wIK, y_wIL, y_wII, y_wIJ, y_wIR, y_wIN, y_wIw, y_sI, ↓reduceIte, Nat.reduceEqDiff, eq_self, true_or, or_true, false_or, or_false, and_true, true_and, false_and, and_false, not_true, not_false_eq_true, tf_T, tf_F, y_up1, y_up2, y_xx, y_nx, y_sJ, y_sR, Int32.reduceLT, y_nxK, y_nxL, y_nxR, y_sJK, y_sJL, y_sJR, y_sJN, y_sRK, y_sRL, y_sRN, Nat.add_zero, z_nat, z_lit, z_lit0, z_lit1, z_in0, z_in1, z_addl0, z_lt, z_ltl, z_llt, z_inj, z_injl, z_add, z_addl, z_ladd, z_mul, z_mull, z_lmul, z_neg, z_negl, z_in, z_inl, z_ltT, z_ltF, z_eqF, z_10, z_01, z_litne, z_ne0, z_0ne, z_ne1, z_1ne, z_lt64, z_02, z_03, z_04, z_05, z_12, z_13, z_14, z_15, z_20, z_21, z_23, z_24, z_25, z_30, z_31, z_32, z_34, z_35, z_40, z_41, z_42, z_43, z_45, z_50, z_51, z_52, z_53, z_54]
    simp (disch := omega) only [k2, k7, k11, (e65 _).1, r02, s02, E2, y_ckd, y_ck2d, y_ond, y_onn, y_oI, y_oIx, y_oJ, y_oV, y_oVx, y_oR, y_oRn, y_oRx, y_b0, y_b1, y_bi, y_bid, y_wIK, y_wIL, y_wII, y_wIJ, y_wIR, y_wIN, y_wIw, y_sI, ↓reduceIte, Nat.reduceEqDiff, eq_self, true_or, or_true, false_or, or_false, and_true, true_and, false_and, and_false, not_true, not_false_eq_true, tf_T, tf_F, y_up1, y_up2, y_xx, y_nx, y_sJ, y_sR, Int32.reduceLT, y_nxK, y_nxL, y_nxR, y_sJK, y_sJL, y_sJR, y_sJN, y_sRK, y_sRL, y_sRN, Nat.add_zero, z_nat, z_lit, z_lit0, z_lit1, z_in0, z_in1, z_addl0, z_lt, z_ltl, z_llt, z_inj, z_injl, z_add, z_addl, z_ladd, z_mul, z_mull, z_lmul, z_neg, z_negl, z_in, z_inl, z_ltT, z_ltF, z_eqF, z_10, z_01, z_litne, z_ne0, z_0ne, z_ne1, z_1ne, z_lt64, z_02, z_03, z_04, z_05, z_12, z_13, z_14, z_15, z_20, z_21, z_23, z_24, z_25, z_30, z_31, z_32, z_34, z_35, z_40, z_41, z_42, z_43, z_45, z_50, z_51, z_52, z_53, z_54]
    simp (disch := omega) only [k2, k7, k11, (e65 _).2.1, r03, s03, E3, y_ckd, y_ck2d, y_ond, y_onn, y_oI, y_oIx, y_oJ, y_oV, y_oVx, y_oR, y_oRn, y_oRx, y_b0, y_b1, y_bi, y_bid, y_wIK, y_wIL, y_wII, y_wIJ, y_wIR, y_wIN, y_wIw, y_sI, ↓reduceIte, Nat.reduceEqDiff, eq_self, true_or, or_true, false_or, or_false, and_true, true_and, false_and, and_false, not_true, not_false_eq_true, tf_T, tf_F, y_up1, y_up2, y_xx, y_nx, y_sJ, y_sR, Int32.reduceLT, y_nxK, y_nxL, y_nxR, y_sJK, y_sJL, y_sJR, y_sJN, y_sRK, y_sRL, y_sRN, Nat.add_zero, z_nat, z_lit, z_lit0, z_lit1, z_in0, z_in1, z_addl0, z_lt, z_ltl, z_llt, z_inj, z_injl, z_add, z_addl, z_ladd, z_mul, z_mull, z_lmul, z_neg, z_negl, z_in, z_inl, z_ltT, z_ltF, z_eqF, z_10, z_01, z_litne, z_ne0, z_0ne, z_ne1, z_1ne, z_lt64, z_02, z_03, z_04, z_05, z_12, z_13, z_14, z_15, z_20, z_21, z_23, z_24, z_25, z_30, z_31, z_32, z_34, z_35, z_40, z_41, z_42, z_43, z_45, z_50, z_51, z_52, z_53, z_54]
    simp (disch := omega) only [k2, k7, k11, (e65 _).2.2, r04, s04, E4, y_ckd, y_ck2d, y_ond, y_onn, y_oI, y_oIx, y_oJ, y_oV, y_oVx, y_oR, y_oRn, y_oRx, y_b0, y_b1, y_bi, y_bid, y_wIK, y_wIL, y_wII, y_wIJ, y_wIR, y_wIN, y_wIw, y_sI, ↓reduceIte, Nat.reduceEqDiff, eq_self, true_or, or_true, false_or, or_false, and_true, true_and, false_and, and_false, not_true, not_false_eq_true, tf_T, tf_F, y_up1, y_up2, y_xx, y_nx, y_sJ, y_sR, Int32.reduceLT, y_nxK, y_nxL, y_nxR, y_sJK, y_sJL, y_sJR, y_sJN, y_sRK, y_sRL, y_sRN, Nat.add_zero, z_nat, z_lit, z_lit0, z_lit1, z_in0, z_in1, z_addl0, z_lt, z_ltl, z_llt, z_inj, z_injl, z_add, z_addl, z_ladd, z_mul, z_mull, z_lmul, z_neg, z_negl, z_in, z_inl, z_ltT, z_ltF, z_eqF, z_10, z_01, z_litne, z_ne0, z_0ne, z_ne1, z_1ne, z_lt64, z_02, z_03, z_04, z_05, z_12, z_13, z_14, z_15, z_20, z_21, z_23, z_24, z_25, z_30, z_31, z_32, z_34, z_35, z_40, z_41, z_42, z_43, z_45, z_50, z_51, z_52, z_53, z_54]
    simp (disch := omega) only [KM, K1, bk_175_0, bk_175_15, bk_175_25, Nat.reduceLeDiff, y_ckd, y_ck2d, y_ond, y_onn, y_oI, y_oIx, y_oJ, y_oV, y_oVx, y_oR, y_oRn, y_oRx, y_b0, y_b1, y_bi, y_bid, y_wIK, y_wIL, y_wII, y_wIJ, y_wIR, y_wIN, y_wIw, y_sI, ↓reduceIte, Nat.reduceEqDiff, eq_self, true_or, or_true, false_or, or_false, and_true, true_and, false_and, and_false, not_true, not_false_eq_true, tf_T, tf_F, y_up1, y_up2, y_xx, y_nx, y_sJ, y_sR, Int32.reduceLT, y_nxK, y_nxL, y_nxR, y_sJK, y_sJL, y_sJR, y_sJN, y_sRK, y_sRL, y_sRN, Nat.add_zero, z_nat, z_lit, z_lit0, z_lit1, z_in0, z_in1, z_addl0, z_lt, z_ltl, z_llt, z_inj, z_injl, z_add, z_addl, z_ladd, z_mul, z_mull, z_lmul, z_neg, z_negl, z_in, z_inl, z_ltT, z_ltF, z_eqF, z_10, z_01, z_litne, z_ne0, z_0ne, z_ne1, z_1ne, z_lt64, z_02, z_03, z_04, z_05, z_12, z_13, z_14, z_15, z_20, z_21, z_23, z_24, z_25, z_30, z_31, z_32, z_34, z_35, z_40, z_41, z_42, z_43, z_45, z_50, z_51, z_52, z_53, z_54]
  · show am_N B4 = am_N B + 5
    omega
  · show am_C B4 = am_C B + 5
    have := c0.1
    omega
  · show am_S B4 ≤ am_S B + 450
    have := c0.2
    omega
  · funext k
    rw [show am_R (am_sR (am_sR (am_sR (am_sR B4 M 1 (some (M + 1))) M 2 (some (M + 2))) M 3 (some (M + 3))) M 4 (some (M + 4))) q k = am_up2 (am_up2 (am_up2 (am_up2 (am_R B4) M 1 (some (M + 1))) M 2 (some (M + 2))) M 3 (some (M + 3))) M 4 (some (M + 4)) q k from rfl, y_up2 (by omega), y_up2 (by omega), y_up2 (by omega), y_up2 (by omega), (KL q (by omega)).2.2]
  · rw [y_up2 (by omega)]
    exact Fi q k (by omega)
  · have RR : ∀ k, am_R (am_sR (am_sR (am_sR (am_sR B4 M 1 (some (M + 1))) M 2 (some (M + 2))) M 3 (some (M + 3))) M 4 (some (M + 4))) M k = am_up2 (am_up2 (am_up2 (am_up2 (am_R B4) M 1 (some (M + 1))) M 2 (some (M + 2))) M 3 (some (M + 3))) M 4 (some (M + 4)) M k := fun k => rfl
    have wn : wu u 12043 (Int32.ofNat n) (12042 + 1) = Int32.ofNat n := wu_at rfl
    have cn1 : cn (wu u 12043 (Int32.ofNat n)) (12042 + 1) = n := by
      unfold cn
      rw [wn, z_nat (by omega)]
    have wo : ∀ z, z ≠ 12043 → wu u 12043 (Int32.ofNat n) z = u z := fun z hz => wu_ne hz
    refine ⟨hN, ?_, ⟨KM, ?_, ?_, ?_, ?_⟩, ?_, ?_, ?_, ?_, K4.1, fun k hk h12 => ?_, fun k hk h400 => ?_⟩
    · show M + 5 ≤ am_N B4
      omega
    · rw [RR, y_up2 (by omega), y_up2 (by omega), y_up2 (by omega), y_up1 rfl rfl]
    · rw [RR, y_up2 (by omega), y_up2 (by omega), y_up1 rfl rfl]
    · rw [RR, y_up2 (by omega), y_up1 rfl rfl]
    · rw [RR, y_up1 rfl rfl]
    · rw [y_up1 rfl rfl, wn]
    · rw [cn1]
      exact K1
    · rw [cn1]
      exact K2
    · rw [cn1]
      exact K3
    · rw [cn1] at hk
      obtain ⟨m1, m2, m3⟩ := Lm k hk
      rw [y_up2 (by omega), y_up2 (by omega), y_up2 (by omega), wo _ (by omega), wo _ (by omega), wo _ (by omega)]
      refine ⟨?_, ?_, ?_, ?_⟩
      · rw [f4 _ _ (by omega), f3 _ _ (by omega), f2 _ _ (by omega), p1 k hk, g0 _ _ (by omega), k6 _ _ (by omega), m1]
      · rw [f4 _ _ (by omega), f3 _ _ (by omega), p2 k hk, f1 _ _ (by omega), g0 _ _ (by omega), k6 _ _ (by omega), m2]
      · rw [f4 _ _ (by omega), p3 k hk, f2 _ _ (by omega), f1 _ _ (by omega), g0 _ _ (by omega), k6 _ _ (by omega), m3]
      · show cn (wu u 12043 (Int32.ofNat n)) (12042 + 2 + 4 * k + 3) ≤ am_L B4 (M + 4)
        rw [K4.2]
        obtain ⟨e, e1, e2⟩ := hen k hk
        unfold cn
        rw [wo _ (by omega), show 12042 + 2 + 4 * k + 3 = 12044 + 4 * k + 3 by omega, e2, z_nat (by omega)]
        exact e1
    · have hk : k < am_L B4 (M + 4) := hk
      rw [K4.2] at hk
      rw [y_up2 (by omega), p4 k hk, f3 _ _ (by omega), f2 _ _ (by omega), f1 _ _ (by omega), g0 _ _ (by omega), k6 _ _ (by omega), Sk k hk, wo _ (by omega), wo _ (by omega)]
  · show am_L B4 (M + 4) ≤ 400
    rw [K4.2]
    exact h4
end Made
