/-! FIT: made by wip/whole/math/81.py. -/
section Fit
variable {B B1 : am_A} {i i1 : Nat → Nat → Int32} {σ σ' : Sg} {w : Nat → Int32} {L j d b : Nat} {x y z : Int32} {X : am_X}
theorem FRs_pre {O : Option Value ⊕ Nat} {i' : Nat → Nat → Int32} (hi : ∀ q k, (q < 64 ∨ (874 ≤ q ∧ q < 893)) → i' q k = i q k) (h : FRs B i' σ' X O) : FRs B i σ' X O := by
  obtain ⟨B2, i2, a, c, e, f, g⟩ := h
  exact ⟨B2, i2, a, c, e, f, fun q k hq => (g q k hq).trans (hi q k hq)⟩
/-- a piece is enough for a need -/
abbrev eno (w : Nat → Int32) (s n p : Nat) : Prop := w (2622 + 49 * s + 9 + 5 * n) = w (461 + 18 * p) ∧ ¬ w (461 + 18 * p + 2) < w (2622 + 49 * s + 9 + 5 * n + 1) ∧ ¬ w (461 + 18 * p + 3) < w (2622 + 49 * s + 9 + 5 * n + 2) ∧ (w (461 + 18 * p) = 1 → ¬ 1 < ab (w (461 + 18 * p + 4) - w (2622 + 49 * s + 9 + 5 * n + 3)))
abbrev wst (w : Nat → Int32) (s n p : Nat) : Int32 := w (461 + 18 * p + 2) - w (2622 + 49 * s + 9 + 5 * n + 1) + w (461 + 18 * p + 3) - w (2622 + 49 * s + 9 + 5 * n + 2)
theorem z_bm {x y : Int32} (h : 0 ≤ y.toInt) (h2 : y.toInt ≤ x.toInt) : (x - y).toInt = x.toInt - y.toInt := by
  rw [Int32.toInt_sub]
  have := Int32.toInt_lt x
  unfold Int.bmod
  simp only [Nat.reducePow]
  split <;> omega
theorem z_bp {x y : Int32} (h : 0 ≤ x.toInt) (h2 : 0 ≤ y.toInt) (h3 : x.toInt + y.toInt < 2147483648) : (x + y).toInt = x.toInt + y.toInt := by
  rw [Int32.toInt_add]
  unfold Int.bmod
  simp only [Nat.reducePow]
  split <;> omega
theorem wst_ok {s n p : Nat} (hW : Wd w) (hs : s < cn w 2621) (s8 : s < 8) (hn : n < cn w (2622 + 49 * s + 8)) (n8 : n < 8) (hp : p < cn w 460) (p120 : p < 120) (g : eno w s n p) : ¬ wst w s n p = -1 := by
  obtain ⟨⟨a1, a2, a3, a4⟩, -, -, ⟨c1, c2⟩, -⟩ := hW.2.2.2.1.1 p hp p120
  obtain ⟨⟨z1, z2⟩, z3, z4⟩ := hW.2.2.2.2.2.2.2.2.2.1.2.1 s hs s8 n hn n8
  obtain ⟨-, g1, g2, -⟩ := g
  have e2 : (w (461 + 18 * p + 2)).toInt = (cn w (461 + 18 * p + 2) : Int) := by
    rw [a1]
    rw [show cn w (461 + 18 * p + 2) = cn w (461 + 18 * p + 2) from rfl]
    exact z_toInt (by omega)
  rw [Int32.lt_iff_toInt_lt] at c1 c2 z1 z2 z3 z4 g1 g2
  have k0 : (0 : Int32).toInt = 0 := by decide
  have k1 : (1 : Int32).toInt = 1 := by decide
  have k61 : (61 : Int32).toInt = 61 := by decide
  have k301 : (301 : Int32).toInt = 301 := by decide
  have km : (-1 : Int32).toInt = -1 := by decide
  have f1 := z_bm (x := w (461 + 18 * p + 2)) (y := w (2622 + 49 * s + 9 + 5 * n + 1)) (by omega) (by omega)
  have f2 := z_bp (x := w (461 + 18 * p + 2) - w (2622 + 49 * s + 9 + 5 * n + 1)) (y := w (461 + 18 * p + 3)) (by omega) (by omega) (by omega)
  have f3 := z_bm (x := w (461 + 18 * p + 2) - w (2622 + 49 * s + 9 + 5 * n + 1) + w (461 + 18 * p + 3)) (y := w (2622 + 49 * s + 9 + 5 * n + 2)) (by omega) (by omega)
  intro q
  have := congrArg Int32.toInt (show w (461 + 18 * p + 2) - w (2622 + 49 * s + 9 + 5 * n + 1) + w (461 + 18 * p + 3) - w (2622 + 49 * s + 9 + 5 * n + 2) = -1 from q)
  omega
theorem c_waste {s n p : Nat} (hY : Yd B b) (hR : Rep B i b w) (hW : Wd w) (hs : s < cn w 2621) (hn : n < cn w (2622 + 49 * s + 8)) (hp : p < cn w 460) : am_fx am_P (d + 2) 231 0 [some (.ref (b + 212 + 6 * s)), some (.int (Int32.ofNat n)), some (.ref (b + 92 + p))] [] (am_wI B i) = some (.inl (some (.int (if eno w s n p then wst w s n p else -1))), am_wI B i) := by
  have h2 := hW.1.2.2.2.1.2
  have h3 := hW.1.2.2.1.2
  obtain ⟨-, -, -, -, -, -, -, hnc, -⟩ := hW.2.2.2.2.1.1 s hs (by omega)
  have n8 := hnc.2
  obtain ⟨-, -, -, -, -, -, -, -, a9, a10⟩ := hR.2.2.2.1.2 s hs (by omega)
  have a9 := a9.trans hnc.1
  obtain ⟨c0, c1, c2, c3, -⟩ := a10 n hn (by omega)
  obtain ⟨b0, -, b2, b3, b4, -⟩ := hR.2.2.1.2 p hp (by omega)
  rw [bk_231_0]
  by_cases g0 : w (2622 + 49 * s + 9 + 5 * n) = w (461 + 18 * p)
  rotate_left
  · rw [if_neg (c := eno w s n p) (fun q => g0 q.1)]
    simp (maxSteps := 1000000) (disch := omega) only [a9, c0, b0, g0, hY, y_ckd, y_ck2d, y_ond, y_onn, y_oI, y_oIx, y_oJ, y_oV, y_oVx, y_oR, y_oRn, y_oRx, y_b0, y_b1, y_bi, y_bid, y_wIK, y_wIL, y_wII, y_wIJ, y_wIR, y_wIN, y_wIw, y_sI, ↓reduceIte, Nat.reduceEqDiff, eq_self, true_or, or_true, false_or, or_false, and_true, true_and, false_and, and_false, not_true, not_false_eq_true, tf_T, tf_F, y_up1, y_up2, y_xx, y_nx, y_sJ, y_sR, Int32.reduceLT, y_nxK, y_nxL, y_nxR, y_sJK, y_sJL, y_sJR, y_sJN, y_sRK, y_sRL, y_sRN, Nat.add_zero, z_nat, z_lit, z_lit0, z_lit1, z_in0, z_in1, z_addl0, z_lt, z_ltl, z_llt, z_inj, z_injl, z_add, z_addl, z_ladd, z_mul, z_mull, z_lmul, z_neg, z_negl, z_in, z_inl, z_ltT, z_ltF, z_eqF, z_10, z_01, z_litne, z_ne0, z_0ne, z_ne1, z_1ne, z_lt64, z_02, z_03, z_04, z_05, z_12, z_13, z_14, z_15, z_20, z_21, z_23, z_24, z_25, z_30, z_31, z_32, z_34, z_35, z_40, z_41, z_42, z_43, z_45, z_50, z_51, z_52, z_53, z_54]
  rw [g0] at c0
  by_cases g1 : w (461 + 18 * p + 2) < w (2622 + 49 * s + 9 + 5 * n + 1)
  · rw [if_neg (c := eno w s n p) (fun q => q.2.1 g1)]
    simp (maxSteps := 1000000) (disch := omega) only [a9, c0, c1, b0, b2, b3, b4, g1, (fun d x0 x1 x2 x3 x4 B i => bk_232_0 d x0 x1 x2 x3 x4 (am_wI B i)), (fun d x0 x1 x2 x3 B i => bk_232_62 d x0 x1 x2 x3 (am_wI B i)), hY, y_ckd, y_ck2d, y_ond, y_onn, y_oI, y_oIx, y_oJ, y_oV, y_oVx, y_oR, y_oRn, y_oRx, y_b0, y_b1, y_bi, y_bid, y_wIK, y_wIL, y_wII, y_wIJ, y_wIR, y_wIN, y_wIw, y_sI, ↓reduceIte, Nat.reduceEqDiff, eq_self, true_or, or_true, false_or, or_false, and_true, true_and, false_and, and_false, not_true, not_false_eq_true, tf_T, tf_F, y_up1, y_up2, y_xx, y_nx, y_sJ, y_sR, Int32.reduceLT, y_nxK, y_nxL, y_nxR, y_sJK, y_sJL, y_sJR, y_sJN, y_sRK, y_sRL, y_sRN, Nat.add_zero, z_nat, z_lit, z_lit0, z_lit1, z_in0, z_in1, z_addl0, z_lt, z_ltl, z_llt, z_inj, z_injl, z_add, z_addl, z_ladd, z_mul, z_mull, z_lmul, z_neg, z_negl, z_in, z_inl, z_ltT, z_ltF, z_eqF, z_10, z_01, z_litne, z_ne0, z_0ne, z_ne1, z_1ne, z_lt64, z_02, z_03, z_04, z_05, z_12, z_13, z_14, z_15, z_20, z_21, z_23, z_24, z_25, z_30, z_31, z_32, z_34, z_35, z_40, z_41, z_42, z_43, z_45, z_50, z_51, z_52, z_53, z_54]
  by_cases g2 : w (461 + 18 * p + 3) < w (2622 + 49 * s + 9 + 5 * n + 2)
  · rw [if_neg (c := eno w s n p) (fun q => q.2.2.1 g2)]
    simp (maxSteps := 1000000) (disch := omega) only [a9, c0, c1, c2, b0, b2, b3, b4, g1, g2, (fun d x0 x1 x2 x3 x4 B i => bk_232_0 d x0 x1 x2 x3 x4 (am_wI B i)), (fun d x0 x1 x2 x3 B i => bk_232_62 d x0 x1 x2 x3 (am_wI B i)), hY, y_ckd, y_ck2d, y_ond, y_onn, y_oI, y_oIx, y_oJ, y_oV, y_oVx, y_oR, y_oRn, y_oRx, y_b0, y_b1, y_bi, y_bid, y_wIK, y_wIL, y_wII, y_wIJ, y_wIR, y_wIN, y_wIw, y_sI, ↓reduceIte, Nat.reduceEqDiff, eq_self, true_or, or_true, false_or, or_false, and_true, true_and, false_and, and_false, not_true, not_false_eq_true, tf_T, tf_F, y_up1, y_up2, y_xx, y_nx, y_sJ, y_sR, Int32.reduceLT, y_nxK, y_nxL, y_nxR, y_sJK, y_sJL, y_sJR, y_sJN, y_sRK, y_sRL, y_sRN, Nat.add_zero, z_nat, z_lit, z_lit0, z_lit1, z_in0, z_in1, z_addl0, z_lt, z_ltl, z_llt, z_inj, z_injl, z_add, z_addl, z_ladd, z_mul, z_mull, z_lmul, z_neg, z_negl, z_in, z_inl, z_ltT, z_ltF, z_eqF, z_10, z_01, z_litne, z_ne0, z_0ne, z_ne1, z_1ne, z_lt64, z_02, z_03, z_04, z_05, z_12, z_13, z_14, z_15, z_20, z_21, z_23, z_24, z_25, z_30, z_31, z_32, z_34, z_35, z_40, z_41, z_42, z_43, z_45, z_50, z_51, z_52, z_53, z_54]
  by_cases g3 : w (461 + 18 * p) = 1
  · by_cases g4 : 1 < ab (w (461 + 18 * p + 4) - w (2622 + 49 * s + 9 + 5 * n + 3))
    · rw [if_neg (c := eno w s n p) (fun q => q.2.2.2 g3 g4)]
      simp (maxSteps := 1000000) (disch := omega) only [a9, c0, c1, c2, c3, b0, b2, b3, b4, g1, g2, g3, g4, c_abs, (fun d x0 x1 x2 x3 x4 B i => bk_232_0 d x0 x1 x2 x3 x4 (am_wI B i)), (fun d x0 x1 x2 x3 B i => bk_232_62 d x0 x1 x2 x3 (am_wI B i)), hY, y_ckd, y_ck2d, y_ond, y_onn, y_oI, y_oIx, y_oJ, y_oV, y_oVx, y_oR, y_oRn, y_oRx, y_b0, y_b1, y_bi, y_bid, y_wIK, y_wIL, y_wII, y_wIJ, y_wIR, y_wIN, y_wIw, y_sI, ↓reduceIte, Nat.reduceEqDiff, eq_self, true_or, or_true, false_or, or_false, and_true, true_and, false_and, and_false, not_true, not_false_eq_true, tf_T, tf_F, y_up1, y_up2, y_xx, y_nx, y_sJ, y_sR, Int32.reduceLT, y_nxK, y_nxL, y_nxR, y_sJK, y_sJL, y_sJR, y_sJN, y_sRK, y_sRL, y_sRN, Nat.add_zero, z_nat, z_lit, z_lit0, z_lit1, z_in0, z_in1, z_addl0, z_lt, z_ltl, z_llt, z_inj, z_injl, z_add, z_addl, z_ladd, z_mul, z_mull, z_lmul, z_neg, z_negl, z_in, z_inl, z_ltT, z_ltF, z_eqF, z_10, z_01, z_litne, z_ne0, z_0ne, z_ne1, z_1ne, z_lt64, z_02, z_03, z_04, z_05, z_12, z_13, z_14, z_15, z_20, z_21, z_23, z_24, z_25, z_30, z_31, z_32, z_34, z_35, z_40, z_41, z_42, z_43, z_45, z_50, z_51, z_52, z_53, z_54]
    · rw [if_pos (c := eno w s n p) ⟨g0, g1, g2, fun _ => g4⟩]
      simp (maxSteps := 1000000) (disch := omega) only [a9, c0, c1, c2, c3, b0, b2, b3, b4, g1, g2, g3, g4, c_abs, (fun d x0 x1 x2 x3 x4 B i => bk_232_0 d x0 x1 x2 x3 x4 (am_wI B i)), (fun d x0 x1 x2 x3 B i => bk_232_62 d x0 x1 x2 x3 (am_wI B i)), (fun d x0 x1 x2 x3 B i => bk_232_62 d x0 x1 x2 x3 (am_wI B i)), hY, y_ckd, y_ck2d, y_ond, y_onn, y_oI, y_oIx, y_oJ, y_oV, y_oVx, y_oR, y_oRn, y_oRx, y_b0, y_b1, y_bi, y_bid, y_wIK, y_wIL, y_wII, y_wIJ, y_wIR, y_wIN, y_wIw, y_sI, ↓reduceIte, Nat.reduceEqDiff, eq_self, true_or, or_true, false_or, or_false, and_true, true_and, false_and, and_false, not_true, not_false_eq_true, tf_T, tf_F, y_up1, y_up2, y_xx, y_nx, y_sJ, y_sR, Int32.reduceLT, y_nxK, y_nxL, y_nxR, y_sJK, y_sJL, y_sJR, y_sJN, y_sRK, y_sRL, y_sRN, Nat.add_zero, z_nat, z_lit, z_lit0, z_lit1, z_in0, z_in1, z_addl0, z_lt, z_ltl, z_llt, z_inj, z_injl, z_add, z_addl, z_ladd, z_mul, z_mull, z_lmul, z_neg, z_negl, z_in, z_inl, z_ltT, z_ltF, z_eqF, z_10, z_01, z_litne, z_ne0, z_0ne, z_ne1, z_1ne, z_lt64, z_02, z_03, z_04, z_05, z_12, z_13, z_14, z_15, z_20, z_21, z_23, z_24, z_25, z_30, z_31, z_32, z_34, z_35, z_40, z_41, z_42, z_43, z_45, z_50, z_51, z_52, z_53, z_54]
  · rw [if_pos (c := eno w s n p) ⟨g0, g1, g2, fun q => absurd q g3⟩]
    simp (maxSteps := 1000000) (disch := omega) only [a9, c0, c1, c2, c3, b0, b2, b3, b4, g1, g2, g3, c_abs, (fun d x0 x1 x2 x3 x4 B i => bk_232_0 d x0 x1 x2 x3 x4 (am_wI B i)), (fun d x0 x1 x2 x3 B i => bk_232_62 d x0 x1 x2 x3 (am_wI B i)), (fun d x0 x1 x2 x3 B i => bk_232_62 d x0 x1 x2 x3 (am_wI B i)), hY, y_ckd, y_ck2d, y_ond, y_onn, y_oI, y_oIx, y_oJ, y_oV, y_oVx, y_oR, y_oRn, y_oRx, y_b0, y_b1, y_bi, y_bid, y_wIK, y_wIL, y_wII, y_wIJ, y_wIR, y_wIN, y_wIw, y_sI, ↓reduceIte, Nat.reduceEqDiff, eq_self, true_or, or_true, false_or, or_false, and_true, true_and, false_and, and_false, not_true, not_false_eq_true, tf_T, tf_F, y_up1, y_up2, y_xx, y_nx, y_sJ, y_sR, Int32.reduceLT, y_nxK, y_nxL, y_nxR, y_sJK, y_sJL, y_sJR, y_sJN, y_sRK, y_sRL, y_sRN, Nat.add_zero, z_nat, z_lit, z_lit0, z_lit1, z_in0, z_in1, z_addl0, z_lt, z_ltl, z_llt, z_inj, z_injl, z_add, z_addl, z_ladd, z_mul, z_mull, z_lmul, z_neg, z_negl, z_in, z_inl, z_ltT, z_ltF, z_eqF, z_10, z_01, z_litne, z_ne0, z_0ne, z_ne1, z_1ne, z_lt64, z_02, z_03, z_04, z_05, z_12, z_13, z_14, z_15, z_20, z_21, z_23, z_24, z_25, z_30, z_31, z_32, z_34, z_35, z_40, z_41, z_42, z_43, z_45, z_50, z_51, z_52, z_53, z_54]
theorem m_enough {s n p : Nat} (hM : Md B) (hw : ∀ s, s < 12042 → i 875 s = w s) (s8 : s < 8) (n8 : n < 8) (p120 : p < 120) : am_fx am_P (d + 3) 79 0 [some (.ref 874), some (.int (Int32.ofNat (2622 + 49 * s + 9 + 5 * n))), some (.int (Int32.ofNat p))] [] (am_wI B i) = some (.inl (some (.int (if eno w s n p then 1 else 0))), am_wI B i) := by
  have b0 := hw (461 + 18 * p) (by omega)
  have b2 := hw (461 + 18 * p + 2) (by omega)
  have b3 := hw (461 + 18 * p + 3) (by omega)
  have b4 := hw (461 + 18 * p + 4) (by omega)
  have c0 := hw (2622 + 49 * s + 9 + 5 * n) (by omega)
  have c1 := hw (2622 + 49 * s + 9 + 5 * n + 1) (by omega)
  have c2 := hw (2622 + 49 * s + 9 + 5 * n + 2) (by omega)
  have c3 := hw (2622 + 49 * s + 9 + 5 * n + 3) (by omega)
  rw [bk_79_0]
  by_cases g0 : w (2622 + 49 * s + 9 + 5 * n) = w (461 + 18 * p)
  rotate_left
  · rw [if_neg (c := eno w s n p) (fun q => g0 q.1)]
    simp (maxSteps := 1000000) (disch := omega) only [(fun d x0 x1 x2 B i => bk_24_0 d x0 x1 x2 (am_wI B i)), (fun d x0 x1 B i => bk_23_0 d x0 x1 (am_wI B i)), (fun d x0 x1 x2 x3 x4 x5 B i => bk_78_0 d x0 x1 x2 x3 x4 x5 (am_wI B i)), b0, b2, b3, b4, c0, g0, hM, y_ckd, y_ck2d, y_ond, y_onn, y_oI, y_oIx, y_oJ, y_oV, y_oVx, y_oR, y_oRn, y_oRx, y_b0, y_b1, y_bi, y_bid, y_wIK, y_wIL, y_wII, y_wIJ, y_wIR, y_wIN, y_wIw, y_sI, ↓reduceIte, Nat.reduceEqDiff, eq_self, true_or, or_true, false_or, or_false, and_true, true_and, false_and, and_false, not_true, not_false_eq_true, tf_T, tf_F, y_up1, y_up2, y_xx, y_nx, y_sJ, y_sR, Int32.reduceLT, y_nxK, y_nxL, y_nxR, y_sJK, y_sJL, y_sJR, y_sJN, y_sRK, y_sRL, y_sRN, Nat.add_zero, z_nat, z_lit, z_lit0, z_lit1, z_in0, z_in1, z_addl0, z_lt, z_ltl, z_llt, z_inj, z_injl, z_add, z_addl, z_ladd, z_mul, z_mull, z_lmul, z_neg, z_negl, z_in, z_inl, z_ltT, z_ltF, z_eqF, z_10, z_01, z_litne, z_ne0, z_0ne, z_ne1, z_1ne, z_lt64, z_02, z_03, z_04, z_05, z_12, z_13, z_14, z_15, z_20, z_21, z_23, z_24, z_25, z_30, z_31, z_32, z_34, z_35, z_40, z_41, z_42, z_43, z_45, z_50, z_51, z_52, z_53, z_54]
  rw [g0] at c0
  by_cases g1 : w (461 + 18 * p + 2) < w (2622 + 49 * s + 9 + 5 * n + 1)
  · rw [if_neg (c := eno w s n p) (fun q => q.2.1 g1)]
    simp (maxSteps := 1000000) (disch := omega) only [(fun d x0 x1 x2 B i => bk_24_0 d x0 x1 x2 (am_wI B i)), (fun d x0 x1 B i => bk_23_0 d x0 x1 (am_wI B i)), (fun d x0 x1 x2 x3 x4 x5 B i => bk_78_0 d x0 x1 x2 x3 x4 x5 (am_wI B i)), b0, b2, b3, b4, c0, c1, g1, hM, y_ckd, y_ck2d, y_ond, y_onn, y_oI, y_oIx, y_oJ, y_oV, y_oVx, y_oR, y_oRn, y_oRx, y_b0, y_b1, y_bi, y_bid, y_wIK, y_wIL, y_wII, y_wIJ, y_wIR, y_wIN, y_wIw, y_sI, ↓reduceIte, Nat.reduceEqDiff, eq_self, true_or, or_true, false_or, or_false, and_true, true_and, false_and, and_false, not_true, not_false_eq_true, tf_T, tf_F, y_up1, y_up2, y_xx, y_nx, y_sJ, y_sR, Int32.reduceLT, y_nxK, y_nxL, y_nxR, y_sJK, y_sJL, y_sJR, y_sJN, y_sRK, y_sRL, y_sRN, Nat.add_zero, z_nat, z_lit, z_lit0, z_lit1, z_in0, z_in1, z_addl0, z_lt, z_ltl, z_llt, z_inj, z_injl, z_add, z_addl, z_ladd, z_mul, z_mull, z_lmul, z_neg, z_negl, z_in, z_inl, z_ltT, z_ltF, z_eqF, z_10, z_01, z_litne, z_ne0, z_0ne, z_ne1, z_1ne, z_lt64, z_02, z_03, z_04, z_05, z_12, z_13, z_14, z_15, z_20, z_21, z_23, z_24, z_25, z_30, z_31, z_32, z_34, z_35, z_40, z_41, z_42, z_43, z_45, z_50, z_51, z_52, z_53, z_54]
  by_cases g2 : w (461 + 18 * p + 3) < w (2622 + 49 * s + 9 + 5 * n + 2)
  · rw [if_neg (c := eno w s n p) (fun q => q.2.2.1 g2)]
    simp (maxSteps := 1000000) (disch := omega) only [(fun d x0 x1 x2 B i => bk_24_0 d x0 x1 x2 (am_wI B i)), (fun d x0 x1 B i => bk_23_0 d x0 x1 (am_wI B i)), (fun d x0 x1 x2 x3 x4 x5 B i => bk_78_0 d x0 x1 x2 x3 x4 x5 (am_wI B i)), b0, b2, b3, b4, c0, c1, c2, g1, g2, hM, y_ckd, y_ck2d, y_ond, y_onn, y_oI, y_oIx, y_oJ, y_oV, y_oVx, y_oR, y_oRn, y_oRx, y_b0, y_b1, y_bi, y_bid, y_wIK, y_wIL, y_wII, y_wIJ, y_wIR, y_wIN, y_wIw, y_sI, ↓reduceIte, Nat.reduceEqDiff, eq_self, true_or, or_true, false_or, or_false, and_true, true_and, false_and, and_false, not_true, not_false_eq_true, tf_T, tf_F, y_up1, y_up2, y_xx, y_nx, y_sJ, y_sR, Int32.reduceLT, y_nxK, y_nxL, y_nxR, y_sJK, y_sJL, y_sJR, y_sJN, y_sRK, y_sRL, y_sRN, Nat.add_zero, z_nat, z_lit, z_lit0, z_lit1, z_in0, z_in1, z_addl0, z_lt, z_ltl, z_llt, z_inj, z_injl, z_add, z_addl, z_ladd, z_mul, z_mull, z_lmul, z_neg, z_negl, z_in, z_inl, z_ltT, z_ltF, z_eqF, z_10, z_01, z_litne, z_ne0, z_0ne, z_ne1, z_1ne, z_lt64, z_02, z_03, z_04, z_05, z_12, z_13, z_14, z_15, z_20, z_21, z_23, z_24, z_25, z_30, z_31, z_32, z_34, z_35, z_40, z_41, z_42, z_43, z_45, z_50, z_51, z_52, z_53, z_54]
  by_cases g3 : w (461 + 18 * p) = 1
  · by_cases g4 : 1 < ab (w (461 + 18 * p + 4) - w (2622 + 49 * s + 9 + 5 * n + 3))
    · rw [if_neg (c := eno w s n p) (fun q => q.2.2.2 g3 g4)]
      simp (maxSteps := 1000000) (disch := omega) only [(fun d x0 x1 x2 B i => bk_24_0 d x0 x1 x2 (am_wI B i)), (fun d x0 x1 B i => bk_23_0 d x0 x1 (am_wI B i)), (fun d x0 x1 x2 x3 x4 x5 B i => bk_78_0 d x0 x1 x2 x3 x4 x5 (am_wI B i)), b0, b2, b3, b4, c0, c1, c2, c3, g1, g2, g3, g4, c_abs, hM, y_ckd, y_ck2d, y_ond, y_onn, y_oI, y_oIx, y_oJ, y_oV, y_oVx, y_oR, y_oRn, y_oRx, y_b0, y_b1, y_bi, y_bid, y_wIK, y_wIL, y_wII, y_wIJ, y_wIR, y_wIN, y_wIw, y_sI, ↓reduceIte, Nat.reduceEqDiff, eq_self, true_or, or_true, false_or, or_false, and_true, true_and, false_and, and_false, not_true, not_false_eq_true, tf_T, tf_F, y_up1, y_up2, y_xx, y_nx, y_sJ, y_sR, Int32.reduceLT, y_nxK, y_nxL, y_nxR, y_sJK, y_sJL, y_sJR, y_sJN, y_sRK, y_sRL, y_sRN, Nat.add_zero, z_nat, z_lit, z_lit0, z_lit1, z_in0, z_in1, z_addl0, z_lt, z_ltl, z_llt, z_inj, z_injl, z_add, z_addl, z_ladd, z_mul, z_mull, z_lmul, z_neg, z_negl, z_in, z_inl, z_ltT, z_ltF, z_eqF, z_10, z_01, z_litne, z_ne0, z_0ne, z_ne1, z_1ne, z_lt64, z_02, z_03, z_04, z_05, z_12, z_13, z_14, z_15, z_20, z_21, z_23, z_24, z_25, z_30, z_31, z_32, z_34, z_35, z_40, z_41, z_42, z_43, z_45, z_50, z_51, z_52, z_53, z_54]
    · rw [if_pos (c := eno w s n p) ⟨g0, g1, g2, fun _ => g4⟩]
      simp (maxSteps := 1000000) (disch := omega) only [(fun d x0 x1 x2 B i => bk_24_0 d x0 x1 x2 (am_wI B i)), (fun d x0 x1 B i => bk_23_0 d x0 x1 (am_wI B i)), (fun d x0 x1 x2 x3 x4 x5 B i => bk_78_0 d x0 x1 x2 x3 x4 x5 (am_wI B i)), b0, b2, b3, b4, c0, c1, c2, c3, g1, g2, g3, g4, c_abs, hM, y_ckd, y_ck2d, y_ond, y_onn, y_oI, y_oIx, y_oJ, y_oV, y_oVx, y_oR, y_oRn, y_oRx, y_b0, y_b1, y_bi, y_bid, y_wIK, y_wIL, y_wII, y_wIJ, y_wIR, y_wIN, y_wIw, y_sI, ↓reduceIte, Nat.reduceEqDiff, eq_self, true_or, or_true, false_or, or_false, and_true, true_and, false_and, and_false, not_true, not_false_eq_true, tf_T, tf_F, y_up1, y_up2, y_xx, y_nx, y_sJ, y_sR, Int32.reduceLT, y_nxK, y_nxL, y_nxR, y_sJK, y_sJL, y_sJR, y_sJN, y_sRK, y_sRL, y_sRN, Nat.add_zero, z_nat, z_lit, z_lit0, z_lit1, z_in0, z_in1, z_addl0, z_lt, z_ltl, z_llt, z_inj, z_injl, z_add, z_addl, z_ladd, z_mul, z_mull, z_lmul, z_neg, z_negl, z_in, z_inl, z_ltT, z_ltF, z_eqF, z_10, z_01, z_litne, z_ne0, z_0ne, z_ne1, z_1ne, z_lt64, z_02, z_03, z_04, z_05, z_12, z_13, z_14, z_15, z_20, z_21, z_23, z_24, z_25, z_30, z_31, z_32, z_34, z_35, z_40, z_41, z_42, z_43, z_45, z_50, z_51, z_52, z_53, z_54]
  · rw [if_pos (c := eno w s n p) ⟨g0, g1, g2, fun q => absurd q g3⟩]
    simp (maxSteps := 1000000) (disch := omega) only [(fun d x0 x1 x2 B i => bk_24_0 d x0 x1 x2 (am_wI B i)), (fun d x0 x1 B i => bk_23_0 d x0 x1 (am_wI B i)), (fun d x0 x1 x2 x3 x4 x5 B i => bk_78_0 d x0 x1 x2 x3 x4 x5 (am_wI B i)), b0, b2, b3, b4, c0, c1, c2, g1, g2, g3, hM, y_ckd, y_ck2d, y_ond, y_onn, y_oI, y_oIx, y_oJ, y_oV, y_oVx, y_oR, y_oRn, y_oRx, y_b0, y_b1, y_bi, y_bid, y_wIK, y_wIL, y_wII, y_wIJ, y_wIR, y_wIN, y_wIw, y_sI, ↓reduceIte, Nat.reduceEqDiff, eq_self, true_or, or_true, false_or, or_false, and_true, true_and, false_and, and_false, not_true, not_false_eq_true, tf_T, tf_F, y_up1, y_up2, y_xx, y_nx, y_sJ, y_sR, Int32.reduceLT, y_nxK, y_nxL, y_nxR, y_sJK, y_sJL, y_sJR, y_sJN, y_sRK, y_sRL, y_sRN, Nat.add_zero, z_nat, z_lit, z_lit0, z_lit1, z_in0, z_in1, z_addl0, z_lt, z_ltl, z_llt, z_inj, z_injl, z_add, z_addl, z_ladd, z_mul, z_mull, z_lmul, z_neg, z_negl, z_in, z_inl, z_ltT, z_ltF, z_eqF, z_10, z_01, z_litne, z_ne0, z_0ne, z_ne1, z_1ne, z_lt64, z_02, z_03, z_04, z_05, z_12, z_13, z_14, z_15, z_20, z_21, z_23, z_24, z_25, z_30, z_31, z_32, z_34, z_35, z_40, z_41, z_42, z_43, z_45, z_50, z_51, z_52, z_53, z_54]
theorem wu_sw {a c : Nat} (h : a ≠ c) : wu (wu w a x) c y = wu (wu w c y) a x := by
  funext z
  by_cases e : z = a
  · rw [wu_ne (by omega), wu_at e, wu_at e]
  · by_cases e2 : z = c
    · rw [wu_at e2, wu_ne e, wu_at e2]
    · rw [wu_ne e2, wu_ne e, wu_ne e, wu_ne e2]
theorem Rep_fit {s n p : Nat} (h : Rep B i b w) (hb : b + 260 ≤ 874) (hs : s < cn w 2621) (h8 : s < 8) (n8 : n < 8) (hp : p < cn w 460) (h120 : p < 120) : Rep B (am_up2 (am_up2 (am_up2 (am_up2 (am_up2 i (b + 212 + 6 * s + 5) n (Int32.ofNat p)) (b + 92 + p) 9 3) (b + 92 + p) 16 (Int32.ofNat s)) (b + 92 + p) 17 (Int32.ofNat n)) (b + 92 + p) 18 x) b (wu (wu (wu (wu (wu w (2622 + 49 * s + 9 + 5 * n + 4) (Int32.ofNat p)) (461 + 18 * p + 1) 3) (461 + 18 * p + 11) (Int32.ofNat s)) (461 + 18 * p + 12) (Int32.ofNat n)) (461 + 18 * p + 13) x) := by
  have h1 : Rep B (am_up2 i (b + 212 + 6 * s + 5) n (Int32.ofNat p)) b (wu w (2622 + 49 * s + 9 + 5 * n + 4) (Int32.ofNat p)) := Rep_sh h hb h8 (by intros; simp (disch := omega) only [y_up2]) (by intros; simp (disch := omega) only [wu_ne]) (ShR_n (h.2.2.2.1.2 s hs h8) n8)
  have e460 : cn (wu w (2622 + 49 * s + 9 + 5 * n + 4) (Int32.ofNat p)) 460 = cn w 460 := by unfold cn; rw [wu_ne (by omega)]
  refine Rep_pc h1 hb h120 (fun q k hq => by simp (disch := omega) only [y_up2]) (fun z hz => by simp (disch := omega) only [wu_ne]) ?_
  obtain ⟨b0, b1, b2, b3, b4, b5, b6, b7, b8, b9, b10, b11, b12, b13, b14, b15, b16, b17, b18⟩ := h1.2.2.1.2 p (by omega) h120
  generalize am_up2 i (b + 212 + 6 * s + 5) n (Int32.ofNat p) = i1 at *
  generalize wu w (2622 + 49 * s + 9 + 5 * n + 4) (Int32.ofNat p) = w1 at *
  refine ⟨?_, ?_, ?_, ?_, ?_, ?_, ?_, ?_, ?_, ?_, ?_, ?_, ?_, ?_, ?_, ?_, ?_, fun e => ?_, ?_⟩
  all_goals try (simp (disch := omega) only [y_up1, y_up2, wu_at, wu_ne]; try assumption)
  · simp (disch := omega) only [wu_at, wu_ne] at e
    exact absurd e (by decide)
  · rw [hrt_fr (w := w1) (fun t ht => by simp (disch := omega) only [wu_ne])]
    assumption
theorem Wd_fit {s n p : Nat} (h : Wd w) (hs : s < cn w 2621) (s8 : s < 8) (hn : n < cn w (2622 + 49 * s + 8)) (n8 : n < 8) (hp : p < cn w 460) (h120 : p < 120) (gp : w (461 + 18 * p + 1) = 2) (hx : x = 0 ∨ x = 1) : Wd (wu (wu (wu (wu (wu w (2622 + 49 * s + 9 + 5 * n + 4) (Int32.ofNat p)) (461 + 18 * p + 1) 3) (461 + 18 * p + 11) (Int32.ofNat s)) (461 + 18 * p + 12) (Int32.ofNat n)) (461 + 18 * p + 13) x) := by
  have h26 := h.1.2.2.2.1
  have h46 := h.1.2.2.1
  have no : ∀ t m, t < cn w 2621 → t < 8 → m < cn w (2622 + 49 * t + 8) → m < 8 → ¬ w (2622 + 49 * t + 9 + 5 * m + 4) = -1 → cn w (2622 + 49 * t + 9 + 5 * m + 4) = p → False := fun t m ht t8 hm m8 g e => WdI_no h.2.2.2.2.2.2.2.2.2.2 h120 (by rw [gp]; decide) t m ht t8 hm m8 g e
  rw [wu_sw (a := 2622 + 49 * s + 9 + 5 * n + 4) (c := 461 + 18 * p + 1) (by omega), wu_sw (a := 2622 + 49 * s + 9 + 5 * n + 4) (c := 461 + 18 * p + 11) (by omega), wu_sw (a := 2622 + 49 * s + 9 + 5 * n + 4) (c := 461 + 18 * p + 12) (by omega), wu_sw (a := 2622 + 49 * s + 9 + 5 * n + 4) (c := 461 + 18 * p + 13) (by omega)]
  have h1 : Wd (wu (wu (wu (wu w (461 + 18 * p + 1) 3) (461 + 18 * p + 11) (Int32.ofNat s)) (461 + 18 * p + 12) (Int32.ofNat n)) (461 + 18 * p + 13) x) := by
    obtain ⟨a1, a2, a3, a4, a5, a6, a7, a8, a9, a10, a11, a12, a13⟩ := h.2.2.2.1.1 p hp h120
    refine Wd_pc h hp h120 (fun z hz => by simp (disch := omega) only [wu_ne]) ⟨?_, ?_, ?_, ?_, ?_, ?_, ?_, ?_, ?_, ?_, ?_, ?_, ?_⟩ (lnt_pl (by simp (disch := omega) only [wu_ne]) (by simp (disch := omega) only [wu_ne]) (Or.inl (by rw [gp]; decide))) (fun t m ht t8 hm m8 g e => (no t m ht t8 hm m8 g e).elim)
    · unfold cn
      simp (disch := omega) only [wu_ne]
      exact a1
    all_goals try (simp (disch := omega) only [wu_ne]; assumption)
    · simp (disch := omega) only [wu_at, wu_ne]
      decide
    · simp (disch := omega) only [wu_at, wu_ne]
      exact Or.inr (ck_nat h26 (by omega) hs)
    · simp (disch := omega) only [wu_at, wu_ne]
      exact fun _ => z_nm1 (by omega)
    · simp (disch := omega) only [wu_at]
      exact hx
  have c1 : ∀ z, z < 461 + 18 * p ∨ 461 + 18 * p + 18 ≤ z → cn (wu (wu (wu (wu w (461 + 18 * p + 1) 3) (461 + 18 * p + 11) (Int32.ofNat s)) (461 + 18 * p + 12) (Int32.ofNat n)) (461 + 18 * p + 13) x) z = cn w z := fun z hz => cn_eq (by simp (disch := omega) only [wu_ne])
  have v1 : ∀ z, z < 461 + 18 * p ∨ 461 + 18 * p + 18 ≤ z → (wu (wu (wu (wu w (461 + 18 * p + 1) 3) (461 + 18 * p + 11) (Int32.ofNat s)) (461 + 18 * p + 12) (Int32.ofNat n)) (461 + 18 * p + 13) x) z = w z := fun z hz => by simp (disch := omega) only [wu_ne]
  have p1 : (wu (wu (wu (wu w (461 + 18 * p + 1) 3) (461 + 18 * p + 11) (Int32.ofNat s)) (461 + 18 * p + 12) (Int32.ofNat n)) (461 + 18 * p + 13) x) (461 + 18 * p + 1) = 3 := by simp (disch := omega) only [wu_ne, wu_at]
  have p11 : (wu (wu (wu (wu w (461 + 18 * p + 1) 3) (461 + 18 * p + 11) (Int32.ofNat s)) (461 + 18 * p + 12) (Int32.ofNat n)) (461 + 18 * p + 13) x) (461 + 18 * p + 11) = Int32.ofNat s := by simp (disch := omega) only [wu_ne, wu_at]
  have p12 : (wu (wu (wu (wu w (461 + 18 * p + 1) 3) (461 + 18 * p + 11) (Int32.ofNat s)) (461 + 18 * p + 12) (Int32.ofNat n)) (461 + 18 * p + 13) x) (461 + 18 * p + 12) = Int32.ofNat n := by simp (disch := omega) only [wu_ne, wu_at]
  generalize wu (wu (wu (wu w (461 + 18 * p + 1) 3) (461 + 18 * p + 11) (Int32.ofNat s)) (461 + 18 * p + 12) (Int32.ofNat n)) (461 + 18 * p + 13) x = w1 at *
  refine Wd_shn h1 (by rw [c1 _ (by omega)]; exact hs) s8 n8 (Or.inr (by rw [v1 460 (by omega)]; exact ck_nat h46 (by omega) hp)) (fun t ht t8 m hm m8 g c120 => ?_)
  have ec : ∀ z, z ≠ 2622 + 49 * s + 9 + 5 * n + 4 → cn (wu w1 (2622 + 49 * s + 9 + 5 * n + 4) (Int32.ofNat p)) z = cn w1 z := fun z hz => cn_eq (wu_ne hz)
  by_cases c : t = s ∧ m = n
  · obtain ⟨rfl, rfl⟩ := c
    rw [cn_of (wu_at rfl) (by omega)]
    rw [wu_ne (by omega), wu_ne (by omega), wu_ne (by omega)]
    exact ⟨p1, p11, p12⟩
  · have q := h1.2.2.2.2.2.2.2.2.2.2 t (by rw [ec _ (by omega)] at ht; exact ht) t8 m (by rw [ec _ (by omega)] at hm; exact hm) m8 (by rw [wu_ne (by omega)] at g; exact g) (by rw [ec _ (by omega)] at c120; exact c120)
    rw [ec _ (by omega)] at c120 ⊢
    rw [wu_ne (by omega), wu_ne (by omega), wu_ne (by omega)]
    exact q

theorem c_fit31 {s n p : Nat} (h : CR B i σ) (hW : Wd σ.1) (hs : s < cn σ.1 2621) (hq : n < cn σ.1 (2622 + 49 * s + 8)) (hp : p < cn σ.1 460) (ge : σ.1 (2622 + 49 * s + 9 + 5 * n + 4) = -1) (gs : σ.1 (461 + 18 * p + 1) = 2) (gw : eno σ.1 s n p) : ∃ i', am_fx am_P (d + 5) 310 31 [some (.ref 64), some (.int (Int32.ofNat s)), some (.int (Int32.ofNat n)), some (.int (Int32.ofNat p)), some (.int y), some (.ref (94 + 212 + 6 * s)), some (.ref (94 + 92 + p)), none] [] (am_wI B i) = am_fx am_P (d + 5) 310 100 [some (.ref 64), some (.int (Int32.ofNat s)), some (.int (Int32.ofNat n)), some (.int (Int32.ofNat p)), some (.int y), some (.ref (94 + 212 + 6 * s)), some (.ref (94 + 92 + p)), none] [.int (if (whT σ.1 p s (txi σ.1 (σ.1 0) (cn σ.1 3541))) = -1 then 0 else 1)] (am_wI B i') ∧ ∀ q k, (q = 94 + 7 → k ≠ 3) → q ≠ 94 + 10 → i' q k = i q k := by
  have hF : Fc B := h.1.1
  have hY : Yd B 94 := h.1.2.1
  have hc := hW.1.2.2.1
  have hc26 := hW.1.2.2.2.1
  have hx := hW.1.2.2.2.2.2.2.2.2.2
  have h120 := hc.2
  have h8 := hc26.2
  obtain ⟨-, -, -, -, -, -, -, hnc, -⟩ := hW.2.2.2.2.1.1 s hs (by omega)
  have n8 := hnc.2
  have k0 := h.2.1.1.1
  have b1 := (h.2.1.2.2.1.2 p hp (by omega)).2.1
  have eP := c_pieceOf (d := d + 3) hY h.2.1.2.2.2.1 hc26 hs hnc hq
  have eW := c_waste (d := d + 2) hY h.2.1 hW hs hq hp
  have gv := wst_ok hW hs (by omega) hq (by omega) hp (by omega) gw
  rw [if_pos gw] at eW
  rw [ge] at eP
  rw [gs] at b1
  have e := c_inForce (d := d + 4) (x := σ.1 0) hY h.2.1.2.2.2.2.2.2.2.2 hx hW.2.2.2.2.2.2.2.2.1
  cases et : txi σ.1 (σ.1 0) (cn σ.1 3541) with
  | none =>
    rw [et] at e
    simp only [txq] at e
    refine ⟨i, ?_, fun _ _ _ _ => rfl⟩
    rw [bk_310_31]
    simp (maxSteps := 1000000) (disch := omega) only [eP, b1, eW, gv, k0, e, bk_250_0, whT, hF, hY, y_ckd, y_ck2d, y_ond, y_onn, y_oI, y_oIx, y_oJ, y_oV, y_oVx, y_oR, y_oRn, y_oRx, y_b0, y_b1, y_bi, y_bid, y_wIK, y_wIL, y_wII, y_wIJ, y_wIR, y_wIN, y_wIw, y_sI, ↓reduceIte, Nat.reduceEqDiff, eq_self, true_or, or_true, false_or, or_false, and_true, true_and, false_and, and_false, not_true, not_false_eq_true, tf_T, tf_F, y_up1, y_up2, y_xx, y_nx, y_sJ, y_sR, Int32.reduceLT, y_nxK, y_nxL, y_nxR, y_sJK, y_sJL, y_sJR, y_sJN, y_sRK, y_sRL, y_sRN, Nat.add_zero, z_nat, z_lit, z_lit0, z_lit1, z_in0, z_in1, z_addl0, z_lt, z_ltl, z_llt, z_inj, z_injl, z_add, z_addl, z_ladd, z_mul, z_mull, z_lmul, z_neg, z_negl, z_in, z_inl, z_ltT, z_ltF, z_eqF, z_10, z_01, z_litne, z_ne0, z_0ne, z_ne1, z_1ne, z_lt64, z_02, z_03, z_04, z_05, z_12, z_13, z_14, z_15, z_20, z_21, z_23, z_24, z_25, z_30, z_31, z_32, z_34, z_35, z_40, z_41, z_42, z_43, z_45, z_50, z_51, z_52, z_53, z_54]
  | some k =>
    have hk := txi_lt _ et
    obtain ⟨-, q, eq, -, -, -⟩ := h.2.1.2.2.2.2.2.2.2.2.2 k hk (by have := hx.2; omega)
    rw [et] at e
    simp only [txq, eq] at e
    obtain ⟨i', E, f⟩ := c_letsNow (d := d + 1) h hW hp hs hk eq
    refine ⟨i', ?_, f⟩
    rw [bk_310_31]
    by_cases gk : whO σ.1 (3542 + 850 * k) (fctP σ.1 p s) (σ.1 (461 + 18 * p)) = -1
    · simp (maxSteps := 1000000) (disch := omega) only [eP, b1, eW, gv, k0, e, E, whT, gk, hF, hY, y_ckd, y_ck2d, y_ond, y_onn, y_oI, y_oIx, y_oJ, y_oV, y_oVx, y_oR, y_oRn, y_oRx, y_b0, y_b1, y_bi, y_bid, y_wIK, y_wIL, y_wII, y_wIJ, y_wIR, y_wIN, y_wIw, y_sI, ↓reduceIte, Nat.reduceEqDiff, eq_self, true_or, or_true, false_or, or_false, and_true, true_and, false_and, and_false, not_true, not_false_eq_true, tf_T, tf_F, y_up1, y_up2, y_xx, y_nx, y_sJ, y_sR, Int32.reduceLT, y_nxK, y_nxL, y_nxR, y_sJK, y_sJL, y_sJR, y_sJN, y_sRK, y_sRL, y_sRN, Nat.add_zero, z_nat, z_lit, z_lit0, z_lit1, z_in0, z_in1, z_addl0, z_lt, z_ltl, z_llt, z_inj, z_injl, z_add, z_addl, z_ladd, z_mul, z_mull, z_lmul, z_neg, z_negl, z_in, z_inl, z_ltT, z_ltF, z_eqF, z_10, z_01, z_litne, z_ne0, z_0ne, z_ne1, z_1ne, z_lt64, z_02, z_03, z_04, z_05, z_12, z_13, z_14, z_15, z_20, z_21, z_23, z_24, z_25, z_30, z_31, z_32, z_34, z_35, z_40, z_41, z_42, z_43, z_45, z_50, z_51, z_52, z_53, z_54]
    · simp (maxSteps := 1000000) (disch := omega) only [eP, b1, eW, gv, k0, e, E, whT, gk, hF, hY, y_ckd, y_ck2d, y_ond, y_onn, y_oI, y_oIx, y_oJ, y_oV, y_oVx, y_oR, y_oRn, y_oRx, y_b0, y_b1, y_bi, y_bid, y_wIK, y_wIL, y_wII, y_wIJ, y_wIR, y_wIN, y_wIw, y_sI, ↓reduceIte, Nat.reduceEqDiff, eq_self, true_or, or_true, false_or, or_false, and_true, true_and, false_and, and_false, not_true, not_false_eq_true, tf_T, tf_F, y_up1, y_up2, y_xx, y_nx, y_sJ, y_sR, Int32.reduceLT, y_nxK, y_nxL, y_nxR, y_sJK, y_sJL, y_sJR, y_sJN, y_sRK, y_sRL, y_sRN, Nat.add_zero, z_nat, z_lit, z_lit0, z_lit1, z_in0, z_in1, z_addl0, z_lt, z_ltl, z_llt, z_inj, z_injl, z_add, z_addl, z_ladd, z_mul, z_mull, z_lmul, z_neg, z_negl, z_in, z_inl, z_ltT, z_ltF, z_eqF, z_10, z_01, z_litne, z_ne0, z_0ne, z_ne1, z_1ne, z_lt64, z_02, z_03, z_04, z_05, z_12, z_13, z_14, z_15, z_20, z_21, z_23, z_24, z_25, z_30, z_31, z_32, z_34, z_35, z_40, z_41, z_42, z_43, z_45, z_50, z_51, z_52, z_53, z_54]

theorem f_fit_x0 {x y z u : Int32} (h : CR B i σ) (g : ¬ (¬ x < 0 ∧ x < σ.1 2621)) : FRs B i σ (am_fx am_P (d + 150) 310 0 [some (.ref 64), some (.int x), some (.int y), some (.int z), some (.int u), none, none, none] [] (am_wI B i)) (.inr 1) := by
  refine FRs_x h ?_
  have hF : Fc B := h.1.1
  have hY : Yd B 94 := h.1.2.1
  rw [bk_310_0]
  simp (disch := omega) only [c_shN0 hF hY h.2.1.2.2.2.1.1 g, hF, hY, y_ckd, y_ck2d, y_ond, y_onn, y_oI, y_oIx, y_oJ, y_oV, y_oVx, y_oR, y_oRn, y_oRx, y_b0, y_b1, y_bi, y_bid, y_wIK, y_wIL, y_wII, y_wIJ, y_wIR, y_wIN, y_wIw, y_sI, ↓reduceIte, Nat.reduceEqDiff, eq_self, true_or, or_true, false_or, or_false, and_true, true_and, false_and, and_false, not_true, not_false_eq_true, tf_T, tf_F, y_up1, y_up2, y_xx, y_nx, y_sJ, y_sR, Int32.reduceLT, y_nxK, y_nxL, y_nxR, y_sJK, y_sJL, y_sJR, y_sJN, y_sRK, y_sRL, y_sRN, Nat.add_zero, z_nat, z_lit, z_lit0, z_lit1, z_in0, z_in1, z_addl0, z_lt, z_ltl, z_llt, z_inj, z_injl, z_add, z_addl, z_ladd, z_mul, z_mull, z_lmul, z_neg, z_negl, z_in, z_inl, z_ltT, z_ltF, z_eqF, z_10, z_01, z_litne, z_ne0, z_0ne, z_ne1, z_1ne, z_lt64, z_02, z_03, z_04, z_05, z_12, z_13, z_14, z_15, z_20, z_21, z_23, z_24, z_25, z_30, z_31, z_32, z_34, z_35, z_40, z_41, z_42, z_43, z_45, z_50, z_51, z_52, z_53, z_54]
theorem m_fit_x0 {x y z u : Int32} (h : MR B i σ) (hc : isc σ.1 2621 8) (g : ¬ (¬ x < 0 ∧ x < σ.1 2621)) : MRs B i σ (am_fx am_P (d + 150) 80 0 [some (.ref 874), some (.int x), some (.int y), some (.int z), some (.int u), none, none] [] (am_wI B i)) (some (.int 0)) 1 := by
  refine MRs_x h ?_
  have hM : Md B := h.1.1
  have e5 := h.2.1 2621 (by omega)
  rw [bk_80_0]
  simp (maxSteps := 2000000) (disch := omega) only [(fun d x0 x1 x2 B i => bk_71_0 d x0 x1 x2 (am_wI B i)), (fun d x0 x1 x2 x3 x4 s0 s1 B i => bk_80_28 d x0 x1 x2 x3 x4 s0 s1 (am_wI B i)), (fun d x0 x1 B i => bk_69_0 d x0 x1 (am_wI B i)), m_in, z_pred hc.1, Classical.not_not, g, m_thr1 hM, e5, hM, y_ckd, y_ck2d, y_ond, y_onn, y_oI, y_oIx, y_oJ, y_oV, y_oVx, y_oR, y_oRn, y_oRx, y_b0, y_b1, y_bi, y_bid, y_wIK, y_wIL, y_wII, y_wIJ, y_wIR, y_wIN, y_wIw, y_sI, ↓reduceIte, Nat.reduceEqDiff, eq_self, true_or, or_true, false_or, or_false, and_true, true_and, false_and, and_false, not_true, not_false_eq_true, tf_T, tf_F, y_up1, y_up2, y_xx, y_nx, y_sJ, y_sR, Int32.reduceLT, y_nxK, y_nxL, y_nxR, y_sJK, y_sJL, y_sJR, y_sJN, y_sRK, y_sRL, y_sRN, Nat.add_zero, z_nat, z_lit, z_lit0, z_lit1, z_in0, z_in1, z_addl0, z_lt, z_ltl, z_llt, z_inj, z_injl, z_add, z_addl, z_ladd, z_mul, z_mull, z_lmul, z_neg, z_negl, z_in, z_inl, z_ltT, z_ltF, z_eqF, z_10, z_01, z_litne, z_ne0, z_0ne, z_ne1, z_1ne, z_lt64, z_02, z_03, z_04, z_05, z_12, z_13, z_14, z_15, z_20, z_21, z_23, z_24, z_25, z_30, z_31, z_32, z_34, z_35, z_40, z_41, z_42, z_43, z_45, z_50, z_51, z_52, z_53, z_54]
theorem f_fit_x1 {s : Nat} {u : Int32} (h : CR B i σ) (hW : Wd σ.1) (hs : s < cn σ.1 2621) (g : ¬ (¬ x < 0 ∧ x < σ.1 (2622 + 49 * s + 8))) : FRs B i σ (am_fx am_P (d + 150) 310 0 [some (.ref 64), some (.int (Int32.ofNat s)), some (.int x), some (.int y), some (.int u), none, none, none] [] (am_wI B i)) (.inr 1) := by
  refine FRs_x h ?_
  have hF : Fc B := h.1.1
  have hY : Yd B 94 := h.1.2.1
  have hc := hW.1.2.2.2.1
  have h4 := hW.1.2.2.1
  have h8 := hc.2
  have h120 := h4.2
  have t1 : (Int32.ofNat s < 0) = False := z_neg (by omega)
  have t2 := eq_true (ck_nat hc (by omega) hs).2
  have a9 := (h.2.1.2.2.2.1.2 s hs (by omega)).2.2.2.2.2.2.2.2.1
  rw [bk_310_0]
  simp (maxSteps := 1000000) (disch := omega) only [c_shN hF hY h.2.1.2.2.2.1.1 hc hs, a9, c_ckI0 g, hF, hY, y_ckd, y_ck2d, y_ond, y_onn, y_oI, y_oIx, y_oJ, y_oV, y_oVx, y_oR, y_oRn, y_oRx, y_b0, y_b1, y_bi, y_bid, y_wIK, y_wIL, y_wII, y_wIJ, y_wIR, y_wIN, y_wIw, y_sI, ↓reduceIte, Nat.reduceEqDiff, eq_self, true_or, or_true, false_or, or_false, and_true, true_and, false_and, and_false, not_true, not_false_eq_true, tf_T, tf_F, y_up1, y_up2, y_xx, y_nx, y_sJ, y_sR, Int32.reduceLT, y_nxK, y_nxL, y_nxR, y_sJK, y_sJL, y_sJR, y_sJN, y_sRK, y_sRL, y_sRN, Nat.add_zero, z_nat, z_lit, z_lit0, z_lit1, z_in0, z_in1, z_addl0, z_lt, z_ltl, z_llt, z_inj, z_injl, z_add, z_addl, z_ladd, z_mul, z_mull, z_lmul, z_neg, z_negl, z_in, z_inl, z_ltT, z_ltF, z_eqF, z_10, z_01, z_litne, z_ne0, z_0ne, z_ne1, z_1ne, z_lt64, z_02, z_03, z_04, z_05, z_12, z_13, z_14, z_15, z_20, z_21, z_23, z_24, z_25, z_30, z_31, z_32, z_34, z_35, z_40, z_41, z_42, z_43, z_45, z_50, z_51, z_52, z_53, z_54]
theorem m_fit_x1 {s : Nat} {u : Int32} (h : MR B i σ) (hW : Wd σ.1) (hs : s < cn σ.1 2621) (g : ¬ (¬ x < 0 ∧ x < σ.1 (2622 + 49 * s + 8))) : MRs B i σ (am_fx am_P (d + 150) 80 0 [some (.ref 874), some (.int (Int32.ofNat s)), some (.int x), some (.int y), some (.int u), none, none] [] (am_wI B i)) (some (.int 0)) 1 := by
  refine MRs_x h ?_
  have hM : Md B := h.1.1
  have hc := hW.1.2.2.2.1
  have h4 := hW.1.2.2.1
  have h8 := hc.2
  have h120 := h4.2
  have t1 : (Int32.ofNat s < 0) = False := z_neg (by omega)
  have t2 := eq_true (ck_nat hc (by omega) hs).2
  obtain ⟨-, -, -, -, -, -, -, hn, hnn⟩ := hW.2.2.2.2.1.1 s hs (by omega)
  have n8 := hn.2
  have e5 := h.2.1 2621 (by omega)
  have e6 := h.2.1 460 (by omega)
  have e8 := h.2.1 (2622 + 49 * s + 8) (by omega)
  rw [bk_80_0]
  simp (maxSteps := 1000000) (disch := omega) only [(fun d x0 x1 B i => bk_69_0 d x0 x1 (am_wI B i)), (fun d x0 x1 x2 B i => bk_71_0 d x0 x1 x2 (am_wI B i)), (fun d x0 x1 B i => bk_26_0 d x0 x1 (am_wI B i)), (fun d x0 x1 x2 x3 x4 s0 s1 B i => bk_80_28 d x0 x1 x2 x3 x4 s0 s1 (am_wI B i)), m_in, z_pred hc.1, z_pred h4.1, z_pred hn.1, Classical.not_not, (fun d x0 x1 x2 B i => bk_67_0 d x0 x1 x2 (am_wI B i)), (fun d x0 x1 B i => bk_66_0 d x0 x1 (am_wI B i)), (fun d x0 x1 B i => bk_70_0 d x0 x1 (am_wI B i)), z_39, z_390, t1, t2, e5, e8, g, m_thr1 hM, hM, y_ckd, y_ck2d, y_ond, y_onn, y_oI, y_oIx, y_oJ, y_oV, y_oVx, y_oR, y_oRn, y_oRx, y_b0, y_b1, y_bi, y_bid, y_wIK, y_wIL, y_wII, y_wIJ, y_wIR, y_wIN, y_wIw, y_sI, ↓reduceIte, Nat.reduceEqDiff, eq_self, true_or, or_true, false_or, or_false, and_true, true_and, false_and, and_false, not_true, not_false_eq_true, tf_T, tf_F, y_up1, y_up2, y_xx, y_nx, y_sJ, y_sR, Int32.reduceLT, y_nxK, y_nxL, y_nxR, y_sJK, y_sJL, y_sJR, y_sJN, y_sRK, y_sRL, y_sRN, Nat.add_zero, z_nat, z_lit, z_lit0, z_lit1, z_in0, z_in1, z_addl0, z_lt, z_ltl, z_llt, z_inj, z_injl, z_add, z_addl, z_ladd, z_mul, z_mull, z_lmul, z_neg, z_negl, z_in, z_inl, z_ltT, z_ltF, z_eqF, z_10, z_01, z_litne, z_ne0, z_0ne, z_ne1, z_1ne, z_lt64, z_02, z_03, z_04, z_05, z_12, z_13, z_14, z_15, z_20, z_21, z_23, z_24, z_25, z_30, z_31, z_32, z_34, z_35, z_40, z_41, z_42, z_43, z_45, z_50, z_51, z_52, z_53, z_54]
theorem f_fit_x2 {s n : Nat} (h : CR B i σ) (hW : Wd σ.1) (hs : s < cn σ.1 2621) (hq : n < cn σ.1 (2622 + 49 * s + 8)) (g : ¬ (¬ x < 0 ∧ x < σ.1 460)) : FRs B i σ (am_fx am_P (d + 150) 310 0 [some (.ref 64), some (.int (Int32.ofNat s)), some (.int (Int32.ofNat n)), some (.int x), some (.int y), none, none, none] [] (am_wI B i)) (.inr 1) := by
  refine FRs_x h ?_
  have hF : Fc B := h.1.1
  have hY : Yd B 94 := h.1.2.1
  have hc := hW.1.2.2.2.1
  have h4 := hW.1.2.2.1
  have h8 := hc.2
  have h120 := h4.2
  have t1 : (Int32.ofNat s < 0) = False := z_neg (by omega)
  have t2 := eq_true (ck_nat hc (by omega) hs).2
  obtain ⟨-, -, -, -, -, -, -, hn, hnn⟩ := hW.2.2.2.2.1.1 s hs (by omega)
  have n8 := hn.2
  have a9 := (h.2.1.2.2.2.1.2 s hs (by omega)).2.2.2.2.2.2.2.2.1
  rw [bk_310_0]
  simp (maxSteps := 1000000) (disch := omega) only [c_shN hF hY h.2.1.2.2.2.1.1 hc hs, a9, c_ckI1 (ck_nat hn (by omega) hq), c_pcN0 hF hY h.2.1.2.2.1.1 g, hF, hY, y_ckd, y_ck2d, y_ond, y_onn, y_oI, y_oIx, y_oJ, y_oV, y_oVx, y_oR, y_oRn, y_oRx, y_b0, y_b1, y_bi, y_bid, y_wIK, y_wIL, y_wII, y_wIJ, y_wIR, y_wIN, y_wIw, y_sI, ↓reduceIte, Nat.reduceEqDiff, eq_self, true_or, or_true, false_or, or_false, and_true, true_and, false_and, and_false, not_true, not_false_eq_true, tf_T, tf_F, y_up1, y_up2, y_xx, y_nx, y_sJ, y_sR, Int32.reduceLT, y_nxK, y_nxL, y_nxR, y_sJK, y_sJL, y_sJR, y_sJN, y_sRK, y_sRL, y_sRN, Nat.add_zero, z_nat, z_lit, z_lit0, z_lit1, z_in0, z_in1, z_addl0, z_lt, z_ltl, z_llt, z_inj, z_injl, z_add, z_addl, z_ladd, z_mul, z_mull, z_lmul, z_neg, z_negl, z_in, z_inl, z_ltT, z_ltF, z_eqF, z_10, z_01, z_litne, z_ne0, z_0ne, z_ne1, z_1ne, z_lt64, z_02, z_03, z_04, z_05, z_12, z_13, z_14, z_15, z_20, z_21, z_23, z_24, z_25, z_30, z_31, z_32, z_34, z_35, z_40, z_41, z_42, z_43, z_45, z_50, z_51, z_52, z_53, z_54]
theorem m_fit_x2 {s n : Nat} (h : MR B i σ) (hW : Wd σ.1) (hs : s < cn σ.1 2621) (hq : n < cn σ.1 (2622 + 49 * s + 8)) (g : ¬ (¬ x < 0 ∧ x < σ.1 460)) : MRs B i σ (am_fx am_P (d + 150) 80 0 [some (.ref 874), some (.int (Int32.ofNat s)), some (.int (Int32.ofNat n)), some (.int x), some (.int y), none, none] [] (am_wI B i)) (some (.int 0)) 1 := by
  refine MRs_x h ?_
  have hM : Md B := h.1.1
  have hc := hW.1.2.2.2.1
  have h4 := hW.1.2.2.1
  have h8 := hc.2
  have h120 := h4.2
  have t1 : (Int32.ofNat s < 0) = False := z_neg (by omega)
  have t2 := eq_true (ck_nat hc (by omega) hs).2
  obtain ⟨-, -, -, -, -, -, -, hn, hnn⟩ := hW.2.2.2.2.1.1 s hs (by omega)
  have n8 := hn.2
  have t3 : (Int32.ofNat n < 0) = False := z_neg (by omega)
  have t4 := eq_true (ck_nat hn (by omega) hq).2
  have e5 := h.2.1 2621 (by omega)
  have e6 := h.2.1 460 (by omega)
  have e8 := h.2.1 (2622 + 49 * s + 8) (by omega)
  rw [bk_80_0]
  simp (maxSteps := 1000000) (disch := omega) only [(fun d x0 x1 B i => bk_69_0 d x0 x1 (am_wI B i)), (fun d x0 x1 x2 B i => bk_71_0 d x0 x1 x2 (am_wI B i)), (fun d x0 x1 B i => bk_26_0 d x0 x1 (am_wI B i)), (fun d x0 x1 x2 x3 x4 s0 s1 B i => bk_80_28 d x0 x1 x2 x3 x4 s0 s1 (am_wI B i)), m_in, z_pred hc.1, z_pred h4.1, z_pred hn.1, Classical.not_not, (fun d x0 x1 x2 B i => bk_67_0 d x0 x1 x2 (am_wI B i)), (fun d x0 x1 B i => bk_66_0 d x0 x1 (am_wI B i)), (fun d x0 x1 B i => bk_70_0 d x0 x1 (am_wI B i)), z_39, z_390, t1, t2, t3, t4, e5, e6, e8, g, m_thr1 hM, hM, y_ckd, y_ck2d, y_ond, y_onn, y_oI, y_oIx, y_oJ, y_oV, y_oVx, y_oR, y_oRn, y_oRx, y_b0, y_b1, y_bi, y_bid, y_wIK, y_wIL, y_wII, y_wIJ, y_wIR, y_wIN, y_wIw, y_sI, ↓reduceIte, Nat.reduceEqDiff, eq_self, true_or, or_true, false_or, or_false, and_true, true_and, false_and, and_false, not_true, not_false_eq_true, tf_T, tf_F, y_up1, y_up2, y_xx, y_nx, y_sJ, y_sR, Int32.reduceLT, y_nxK, y_nxL, y_nxR, y_sJK, y_sJL, y_sJR, y_sJN, y_sRK, y_sRL, y_sRN, Nat.add_zero, z_nat, z_lit, z_lit0, z_lit1, z_in0, z_in1, z_addl0, z_lt, z_ltl, z_llt, z_inj, z_injl, z_add, z_addl, z_ladd, z_mul, z_mull, z_lmul, z_neg, z_negl, z_in, z_inl, z_ltT, z_ltF, z_eqF, z_10, z_01, z_litne, z_ne0, z_0ne, z_ne1, z_1ne, z_lt64, z_02, z_03, z_04, z_05, z_12, z_13, z_14, z_15, z_20, z_21, z_23, z_24, z_25, z_30, z_31, z_32, z_34, z_35, z_40, z_41, z_42, z_43, z_45, z_50, z_51, z_52, z_53, z_54]

theorem f_fitA {s n p : Nat} (h : CR B i σ) (hW : Wd σ.1) (hs : s < cn σ.1 2621) (hq : n < cn σ.1 (2622 + 49 * s + 8)) (hp : p < cn σ.1 460) (g : ¬ (σ.1 (2622 + 49 * s) = 1 ∨ σ.1 (2622 + 49 * s) = 3)) : FRs B i σ (am_fx am_P (d + 150) 310 0 [some (.ref 64), some (.int (Int32.ofNat s)), some (.int (Int32.ofNat n)), some (.int (Int32.ofNat p)), some (.int y), none, none, none] [] (am_wI B i)) (.inl (some (.int 0))) := by
  refine FRs_0 h ?_
  have hF : Fc B := h.1.1
  have hY : Yd B 94 := h.1.2.1
  have hc := hW.1.2.2.2.1
  have h4 := hW.1.2.2.1
  have h8 := hc.2
  have h120 := h4.2
  have t1 : (Int32.ofNat s < 0) = False := z_neg (by omega)
  have t2 := eq_true (ck_nat hc (by omega) hs).2
  obtain ⟨-, -, -, -, -, -, -, hn, hnn⟩ := hW.2.2.2.2.1.1 s hs (by omega)
  have n8 := hn.2
  obtain ⟨a1, -, -, -, -, -, -, -, a9, -⟩ := h.2.1.2.2.2.1.2 s hs (by omega)
  obtain ⟨g1, g2⟩ := not_or.mp g
  rw [bk_310_0]
  simp (maxSteps := 1000000) (disch := omega) only [c_shN hF hY h.2.1.2.2.2.1.1 hc hs, a9, c_ckI1 (ck_nat hn (by omega) hq), c_pcN hF hY h.2.1.2.2.1.1 h4 hp, (fun d x0 B i => bk_229_0 d x0 (am_wI B i)), a1, g1, g2, hF, hY, y_ckd, y_ck2d, y_ond, y_onn, y_oI, y_oIx, y_oJ, y_oV, y_oVx, y_oR, y_oRn, y_oRx, y_b0, y_b1, y_bi, y_bid, y_wIK, y_wIL, y_wII, y_wIJ, y_wIR, y_wIN, y_wIw, y_sI, ↓reduceIte, Nat.reduceEqDiff, eq_self, true_or, or_true, false_or, or_false, and_true, true_and, false_and, and_false, not_true, not_false_eq_true, tf_T, tf_F, y_up1, y_up2, y_xx, y_nx, y_sJ, y_sR, Int32.reduceLT, y_nxK, y_nxL, y_nxR, y_sJK, y_sJL, y_sJR, y_sJN, y_sRK, y_sRL, y_sRN, Nat.add_zero, z_nat, z_lit, z_lit0, z_lit1, z_in0, z_in1, z_addl0, z_lt, z_ltl, z_llt, z_inj, z_injl, z_add, z_addl, z_ladd, z_mul, z_mull, z_lmul, z_neg, z_negl, z_in, z_inl, z_ltT, z_ltF, z_eqF, z_10, z_01, z_litne, z_ne0, z_0ne, z_ne1, z_1ne, z_lt64, z_02, z_03, z_04, z_05, z_12, z_13, z_14, z_15, z_20, z_21, z_23, z_24, z_25, z_30, z_31, z_32, z_34, z_35, z_40, z_41, z_42, z_43, z_45, z_50, z_51, z_52, z_53, z_54]
theorem m_fitA {s n p : Nat} (h : MR B i σ) (hW : Wd σ.1) (hs : s < cn σ.1 2621) (hq : n < cn σ.1 (2622 + 49 * s + 8)) (hp : p < cn σ.1 460) (g : ¬ (σ.1 (2622 + 49 * s) = 1 ∨ σ.1 (2622 + 49 * s) = 3)) : MRs B i σ (am_fx am_P (d + 150) 80 0 [some (.ref 874), some (.int (Int32.ofNat s)), some (.int (Int32.ofNat n)), some (.int (Int32.ofNat p)), some (.int y), none, none] [] (am_wI B i)) (some (.int 0)) 0 := by
  refine MRs_0 h ?_
  have hM : Md B := h.1.1
  have hc := hW.1.2.2.2.1
  have h4 := hW.1.2.2.1
  have h8 := hc.2
  have h120 := h4.2
  have t1 : (Int32.ofNat s < 0) = False := z_neg (by omega)
  have t2 := eq_true (ck_nat hc (by omega) hs).2
  obtain ⟨-, -, -, -, -, -, -, hn, hnn⟩ := hW.2.2.2.2.1.1 s hs (by omega)
  have n8 := hn.2
  have t3 : (Int32.ofNat n < 0) = False := z_neg (by omega)
  have t4 := eq_true (ck_nat hn (by omega) hq).2
  have t5 : (Int32.ofNat p < 0) = False := z_neg (by omega)
  have t6 := eq_true (ck_nat h4 (by omega) hp).2
  have e5 := h.2.1 2621 (by omega)
  have e6 := h.2.1 460 (by omega)
  have e8 := h.2.1 (2622 + 49 * s + 8) (by omega)
  have q0 := h.2.1 (2622 + 49 * s) (by omega)
  have q4 := h.2.1 (2622 + 49 * s + 9 + 5 * n + 4) (by omega)
  have r1 := h.2.1 (461 + 18 * p + 1) (by omega)
  have hw := up_o (q := 874) (k := 0) (v := 0) (by omega) h.2.1
  obtain ⟨g1, g2⟩ := not_or.mp g
  rw [bk_80_0]
  simp (maxSteps := 1000000) (disch := omega) only [(fun d x0 x1 B i => bk_69_0 d x0 x1 (am_wI B i)), (fun d x0 x1 x2 B i => bk_71_0 d x0 x1 x2 (am_wI B i)), (fun d x0 x1 B i => bk_26_0 d x0 x1 (am_wI B i)), (fun d x0 x1 x2 x3 x4 s0 s1 B i => bk_80_28 d x0 x1 x2 x3 x4 s0 s1 (am_wI B i)), m_in, z_pred hc.1, z_pred h4.1, z_pred hn.1, Classical.not_not, (fun d x0 x1 x2 B i => bk_67_0 d x0 x1 x2 (am_wI B i)), (fun d x0 x1 B i => bk_66_0 d x0 x1 (am_wI B i)), (fun d x0 x1 B i => bk_70_0 d x0 x1 (am_wI B i)), z_39, z_390, t1, t2, t3, t4, t5, t6, e5, e6, e8, m_thr0, (fun d x0 x1 B i => bk_77_0 d x0 x1 (am_wI B i)), q0, (fun d B i => bk_80_84 d (am_wI B i)), g1, g2, hM, y_ckd, y_ck2d, y_ond, y_onn, y_oI, y_oIx, y_oJ, y_oV, y_oVx, y_oR, y_oRn, y_oRx, y_b0, y_b1, y_bi, y_bid, y_wIK, y_wIL, y_wII, y_wIJ, y_wIR, y_wIN, y_wIw, y_sI, ↓reduceIte, Nat.reduceEqDiff, eq_self, true_or, or_true, false_or, or_false, and_true, true_and, false_and, and_false, not_true, not_false_eq_true, tf_T, tf_F, y_up1, y_up2, y_xx, y_nx, y_sJ, y_sR, Int32.reduceLT, y_nxK, y_nxL, y_nxR, y_sJK, y_sJL, y_sJR, y_sJN, y_sRK, y_sRL, y_sRN, Nat.add_zero, z_nat, z_lit, z_lit0, z_lit1, z_in0, z_in1, z_addl0, z_lt, z_ltl, z_llt, z_inj, z_injl, z_add, z_addl, z_ladd, z_mul, z_mull, z_lmul, z_neg, z_negl, z_in, z_inl, z_ltT, z_ltF, z_eqF, z_10, z_01, z_litne, z_ne0, z_0ne, z_ne1, z_1ne, z_lt64, z_02, z_03, z_04, z_05, z_12, z_13, z_14, z_15, z_20, z_21, z_23, z_24, z_25, z_30, z_31, z_32, z_34, z_35, z_40, z_41, z_42, z_43, z_45, z_50, z_51, z_52, z_53, z_54]
theorem f_fitB {s n p : Nat} (h : CR B i σ) (hW : Wd σ.1) (hs : s < cn σ.1 2621) (hq : n < cn σ.1 (2622 + 49 * s + 8)) (hp : p < cn σ.1 460) (g : (σ.1 (2622 + 49 * s) = 1 ∨ σ.1 (2622 + 49 * s) = 3)) (ge : ¬ σ.1 (2622 + 49 * s + 9 + 5 * n + 4) = -1) : FRs B i σ (am_fx am_P (d + 150) 310 0 [some (.ref 64), some (.int (Int32.ofNat s)), some (.int (Int32.ofNat n)), some (.int (Int32.ofNat p)), some (.int y), none, none, none] [] (am_wI B i)) (.inl (some (.int 0))) := by
  refine FRs_0 h ?_
  have hF : Fc B := h.1.1
  have hY : Yd B 94 := h.1.2.1
  have hc := hW.1.2.2.2.1
  have h4 := hW.1.2.2.1
  have h8 := hc.2
  have h120 := h4.2
  have t1 : (Int32.ofNat s < 0) = False := z_neg (by omega)
  have t2 := eq_true (ck_nat hc (by omega) hs).2
  obtain ⟨-, -, -, -, -, -, -, hn, hnn⟩ := hW.2.2.2.2.1.1 s hs (by omega)
  have n8 := hn.2
  obtain ⟨a1, -, -, -, -, -, -, -, a9, -⟩ := h.2.1.2.2.2.1.2 s hs (by omega)
  have eP := c_pieceOf (d := d + 148) hY h.2.1.2.2.2.1 hc hs hn hq
  rcases g with g | g
  · rw [bk_310_0]
    simp (maxSteps := 1000000) (disch := omega) only [c_shN hF hY h.2.1.2.2.2.1.1 hc hs, a9, c_ckI1 (ck_nat hn (by omega) hq), c_pcN hF hY h.2.1.2.2.1.1 h4 hp, (fun d x0 B i => bk_229_0 d x0 (am_wI B i)), a1, (fun d x0 x1 x2 x3 x4 x5 x6 B i => bk_310_31 d x0 x1 x2 x3 x4 x5 x6 (am_wI B i)), eP, g, ge, hF, hY, y_ckd, y_ck2d, y_ond, y_onn, y_oI, y_oIx, y_oJ, y_oV, y_oVx, y_oR, y_oRn, y_oRx, y_b0, y_b1, y_bi, y_bid, y_wIK, y_wIL, y_wII, y_wIJ, y_wIR, y_wIN, y_wIw, y_sI, ↓reduceIte, Nat.reduceEqDiff, eq_self, true_or, or_true, false_or, or_false, and_true, true_and, false_and, and_false, not_true, not_false_eq_true, tf_T, tf_F, y_up1, y_up2, y_xx, y_nx, y_sJ, y_sR, Int32.reduceLT, y_nxK, y_nxL, y_nxR, y_sJK, y_sJL, y_sJR, y_sJN, y_sRK, y_sRL, y_sRN, Nat.add_zero, z_nat, z_lit, z_lit0, z_lit1, z_in0, z_in1, z_addl0, z_lt, z_ltl, z_llt, z_inj, z_injl, z_add, z_addl, z_ladd, z_mul, z_mull, z_lmul, z_neg, z_negl, z_in, z_inl, z_ltT, z_ltF, z_eqF, z_10, z_01, z_litne, z_ne0, z_0ne, z_ne1, z_1ne, z_lt64, z_02, z_03, z_04, z_05, z_12, z_13, z_14, z_15, z_20, z_21, z_23, z_24, z_25, z_30, z_31, z_32, z_34, z_35, z_40, z_41, z_42, z_43, z_45, z_50, z_51, z_52, z_53, z_54]
  · rw [bk_310_0]
    simp (maxSteps := 1000000) (disch := omega) only [c_shN hF hY h.2.1.2.2.2.1.1 hc hs, a9, c_ckI1 (ck_nat hn (by omega) hq), c_pcN hF hY h.2.1.2.2.1.1 h4 hp, (fun d x0 B i => bk_229_0 d x0 (am_wI B i)), a1, (fun d x0 x1 x2 x3 x4 x5 x6 B i => bk_310_31 d x0 x1 x2 x3 x4 x5 x6 (am_wI B i)), eP, g, ge, hF, hY, y_ckd, y_ck2d, y_ond, y_onn, y_oI, y_oIx, y_oJ, y_oV, y_oVx, y_oR, y_oRn, y_oRx, y_b0, y_b1, y_bi, y_bid, y_wIK, y_wIL, y_wII, y_wIJ, y_wIR, y_wIN, y_wIw, y_sI, ↓reduceIte, Nat.reduceEqDiff, eq_self, true_or, or_true, false_or, or_false, and_true, true_and, false_and, and_false, not_true, not_false_eq_true, tf_T, tf_F, y_up1, y_up2, y_xx, y_nx, y_sJ, y_sR, Int32.reduceLT, y_nxK, y_nxL, y_nxR, y_sJK, y_sJL, y_sJR, y_sJN, y_sRK, y_sRL, y_sRN, Nat.add_zero, z_nat, z_lit, z_lit0, z_lit1, z_in0, z_in1, z_addl0, z_lt, z_ltl, z_llt, z_inj, z_injl, z_add, z_addl, z_ladd, z_mul, z_mull, z_lmul, z_neg, z_negl, z_in, z_inl, z_ltT, z_ltF, z_eqF, z_10, z_01, z_litne, z_ne0, z_0ne, z_ne1, z_1ne, z_lt64, z_02, z_03, z_04, z_05, z_12, z_13, z_14, z_15, z_20, z_21, z_23, z_24, z_25, z_30, z_31, z_32, z_34, z_35, z_40, z_41, z_42, z_43, z_45, z_50, z_51, z_52, z_53, z_54]
theorem m_fitB {s n p : Nat} (h : MR B i σ) (hW : Wd σ.1) (hs : s < cn σ.1 2621) (hq : n < cn σ.1 (2622 + 49 * s + 8)) (hp : p < cn σ.1 460) (g : (σ.1 (2622 + 49 * s) = 1 ∨ σ.1 (2622 + 49 * s) = 3)) (ge : ¬ σ.1 (2622 + 49 * s + 9 + 5 * n + 4) = -1) : MRs B i σ (am_fx am_P (d + 150) 80 0 [some (.ref 874), some (.int (Int32.ofNat s)), some (.int (Int32.ofNat n)), some (.int (Int32.ofNat p)), some (.int y), none, none] [] (am_wI B i)) (some (.int 0)) 0 := by
  refine MRs_0 h ?_
  have hM : Md B := h.1.1
  have hc := hW.1.2.2.2.1
  have h4 := hW.1.2.2.1
  have h8 := hc.2
  have h120 := h4.2
  have t1 : (Int32.ofNat s < 0) = False := z_neg (by omega)
  have t2 := eq_true (ck_nat hc (by omega) hs).2
  obtain ⟨-, -, -, -, -, -, -, hn, hnn⟩ := hW.2.2.2.2.1.1 s hs (by omega)
  have n8 := hn.2
  have t3 : (Int32.ofNat n < 0) = False := z_neg (by omega)
  have t4 := eq_true (ck_nat hn (by omega) hq).2
  have t5 : (Int32.ofNat p < 0) = False := z_neg (by omega)
  have t6 := eq_true (ck_nat h4 (by omega) hp).2
  have e5 := h.2.1 2621 (by omega)
  have e6 := h.2.1 460 (by omega)
  have e8 := h.2.1 (2622 + 49 * s + 8) (by omega)
  have q0 := h.2.1 (2622 + 49 * s) (by omega)
  have q4 := h.2.1 (2622 + 49 * s + 9 + 5 * n + 4) (by omega)
  have r1 := h.2.1 (461 + 18 * p + 1) (by omega)
  have hw := up_o (q := 874) (k := 0) (v := 0) (by omega) h.2.1
  have gn : ¬ σ.1 (2622 + 49 * s + 9 + 5 * n + 4) < 0 := ((hnn n hq (by omega)).2.resolve_left ge).1
  rcases g with g | g
  · rw [bk_80_0]
    simp (maxSteps := 1000000) (disch := omega) only [(fun d x0 x1 B i => bk_69_0 d x0 x1 (am_wI B i)), (fun d x0 x1 x2 B i => bk_71_0 d x0 x1 x2 (am_wI B i)), (fun d x0 x1 B i => bk_26_0 d x0 x1 (am_wI B i)), (fun d x0 x1 x2 x3 x4 s0 s1 B i => bk_80_28 d x0 x1 x2 x3 x4 s0 s1 (am_wI B i)), m_in, z_pred hc.1, z_pred h4.1, z_pred hn.1, Classical.not_not, (fun d x0 x1 x2 B i => bk_67_0 d x0 x1 x2 (am_wI B i)), (fun d x0 x1 B i => bk_66_0 d x0 x1 (am_wI B i)), (fun d x0 x1 B i => bk_70_0 d x0 x1 (am_wI B i)), z_39, z_390, t1, t2, t3, t4, t5, t6, e5, e6, e8, m_thr0, (fun d x0 x1 B i => bk_77_0 d x0 x1 (am_wI B i)), q0, (fun d B i => bk_80_84 d (am_wI B i)), g, q4, gn, hM, y_ckd, y_ck2d, y_ond, y_onn, y_oI, y_oIx, y_oJ, y_oV, y_oVx, y_oR, y_oRn, y_oRx, y_b0, y_b1, y_bi, y_bid, y_wIK, y_wIL, y_wII, y_wIJ, y_wIR, y_wIN, y_wIw, y_sI, ↓reduceIte, Nat.reduceEqDiff, eq_self, true_or, or_true, false_or, or_false, and_true, true_and, false_and, and_false, not_true, not_false_eq_true, tf_T, tf_F, y_up1, y_up2, y_xx, y_nx, y_sJ, y_sR, Int32.reduceLT, y_nxK, y_nxL, y_nxR, y_sJK, y_sJL, y_sJR, y_sJN, y_sRK, y_sRL, y_sRN, Nat.add_zero, z_nat, z_lit, z_lit0, z_lit1, z_in0, z_in1, z_addl0, z_lt, z_ltl, z_llt, z_inj, z_injl, z_add, z_addl, z_ladd, z_mul, z_mull, z_lmul, z_neg, z_negl, z_in, z_inl, z_ltT, z_ltF, z_eqF, z_10, z_01, z_litne, z_ne0, z_0ne, z_ne1, z_1ne, z_lt64, z_02, z_03, z_04, z_05, z_12, z_13, z_14, z_15, z_20, z_21, z_23, z_24, z_25, z_30, z_31, z_32, z_34, z_35, z_40, z_41, z_42, z_43, z_45, z_50, z_51, z_52, z_53, z_54]
  · rw [bk_80_0]
    simp (maxSteps := 1000000) (disch := omega) only [(fun d x0 x1 B i => bk_69_0 d x0 x1 (am_wI B i)), (fun d x0 x1 x2 B i => bk_71_0 d x0 x1 x2 (am_wI B i)), (fun d x0 x1 B i => bk_26_0 d x0 x1 (am_wI B i)), (fun d x0 x1 x2 x3 x4 s0 s1 B i => bk_80_28 d x0 x1 x2 x3 x4 s0 s1 (am_wI B i)), m_in, z_pred hc.1, z_pred h4.1, z_pred hn.1, Classical.not_not, (fun d x0 x1 x2 B i => bk_67_0 d x0 x1 x2 (am_wI B i)), (fun d x0 x1 B i => bk_66_0 d x0 x1 (am_wI B i)), (fun d x0 x1 B i => bk_70_0 d x0 x1 (am_wI B i)), z_39, z_390, t1, t2, t3, t4, t5, t6, e5, e6, e8, m_thr0, (fun d x0 x1 B i => bk_77_0 d x0 x1 (am_wI B i)), q0, (fun d B i => bk_80_84 d (am_wI B i)), g, q4, gn, hM, y_ckd, y_ck2d, y_ond, y_onn, y_oI, y_oIx, y_oJ, y_oV, y_oVx, y_oR, y_oRn, y_oRx, y_b0, y_b1, y_bi, y_bid, y_wIK, y_wIL, y_wII, y_wIJ, y_wIR, y_wIN, y_wIw, y_sI, ↓reduceIte, Nat.reduceEqDiff, eq_self, true_or, or_true, false_or, or_false, and_true, true_and, false_and, and_false, not_true, not_false_eq_true, tf_T, tf_F, y_up1, y_up2, y_xx, y_nx, y_sJ, y_sR, Int32.reduceLT, y_nxK, y_nxL, y_nxR, y_sJK, y_sJL, y_sJR, y_sJN, y_sRK, y_sRL, y_sRN, Nat.add_zero, z_nat, z_lit, z_lit0, z_lit1, z_in0, z_in1, z_addl0, z_lt, z_ltl, z_llt, z_inj, z_injl, z_add, z_addl, z_ladd, z_mul, z_mull, z_lmul, z_neg, z_negl, z_in, z_inl, z_ltT, z_ltF, z_eqF, z_10, z_01, z_litne, z_ne0, z_0ne, z_ne1, z_1ne, z_lt64, z_02, z_03, z_04, z_05, z_12, z_13, z_14, z_15, z_20, z_21, z_23, z_24, z_25, z_30, z_31, z_32, z_34, z_35, z_40, z_41, z_42, z_43, z_45, z_50, z_51, z_52, z_53, z_54]
theorem f_fitC {s n p : Nat} (h : CR B i σ) (hW : Wd σ.1) (hs : s < cn σ.1 2621) (hq : n < cn σ.1 (2622 + 49 * s + 8)) (hp : p < cn σ.1 460) (g : (σ.1 (2622 + 49 * s) = 1 ∨ σ.1 (2622 + 49 * s) = 3)) (ge : σ.1 (2622 + 49 * s + 9 + 5 * n + 4) = -1) (gs : ¬ σ.1 (461 + 18 * p + 1) = 2) : FRs B i σ (am_fx am_P (d + 150) 310 0 [some (.ref 64), some (.int (Int32.ofNat s)), some (.int (Int32.ofNat n)), some (.int (Int32.ofNat p)), some (.int y), none, none, none] [] (am_wI B i)) (.inl (some (.int 0))) := by
  refine FRs_0 h ?_
  have hF : Fc B := h.1.1
  have hY : Yd B 94 := h.1.2.1
  have hc := hW.1.2.2.2.1
  have h4 := hW.1.2.2.1
  have h8 := hc.2
  have h120 := h4.2
  have t1 : (Int32.ofNat s < 0) = False := z_neg (by omega)
  have t2 := eq_true (ck_nat hc (by omega) hs).2
  obtain ⟨-, -, -, -, -, -, -, hn, hnn⟩ := hW.2.2.2.2.1.1 s hs (by omega)
  have n8 := hn.2
  obtain ⟨a1, -, -, -, -, -, -, -, a9, -⟩ := h.2.1.2.2.2.1.2 s hs (by omega)
  have eP := c_pieceOf (d := d + 148) hY h.2.1.2.2.2.1 hc hs hn hq
  have b1 := (h.2.1.2.2.1.2 p hp (by omega)).2.1
  rcases g with g | g
  · rw [bk_310_0]
    simp (maxSteps := 1000000) (disch := omega) only [c_shN hF hY h.2.1.2.2.2.1.1 hc hs, a9, c_ckI1 (ck_nat hn (by omega) hq), c_pcN hF hY h.2.1.2.2.1.1 h4 hp, (fun d x0 B i => bk_229_0 d x0 (am_wI B i)), a1, (fun d x0 x1 x2 x3 x4 x5 x6 B i => bk_310_31 d x0 x1 x2 x3 x4 x5 x6 (am_wI B i)), eP, g, ge, b1, gs, hF, hY, y_ckd, y_ck2d, y_ond, y_onn, y_oI, y_oIx, y_oJ, y_oV, y_oVx, y_oR, y_oRn, y_oRx, y_b0, y_b1, y_bi, y_bid, y_wIK, y_wIL, y_wII, y_wIJ, y_wIR, y_wIN, y_wIw, y_sI, ↓reduceIte, Nat.reduceEqDiff, eq_self, true_or, or_true, false_or, or_false, and_true, true_and, false_and, and_false, not_true, not_false_eq_true, tf_T, tf_F, y_up1, y_up2, y_xx, y_nx, y_sJ, y_sR, Int32.reduceLT, y_nxK, y_nxL, y_nxR, y_sJK, y_sJL, y_sJR, y_sJN, y_sRK, y_sRL, y_sRN, Nat.add_zero, z_nat, z_lit, z_lit0, z_lit1, z_in0, z_in1, z_addl0, z_lt, z_ltl, z_llt, z_inj, z_injl, z_add, z_addl, z_ladd, z_mul, z_mull, z_lmul, z_neg, z_negl, z_in, z_inl, z_ltT, z_ltF, z_eqF, z_10, z_01, z_litne, z_ne0, z_0ne, z_ne1, z_1ne, z_lt64, z_02, z_03, z_04, z_05, z_12, z_13, z_14, z_15, z_20, z_21, z_23, z_24, z_25, z_30, z_31, z_32, z_34, z_35, z_40, z_41, z_42, z_43, z_45, z_50, z_51, z_52, z_53, z_54]
  · rw [bk_310_0]
    simp (maxSteps := 1000000) (disch := omega) only [c_shN hF hY h.2.1.2.2.2.1.1 hc hs, a9, c_ckI1 (ck_nat hn (by omega) hq), c_pcN hF hY h.2.1.2.2.1.1 h4 hp, (fun d x0 B i => bk_229_0 d x0 (am_wI B i)), a1, (fun d x0 x1 x2 x3 x4 x5 x6 B i => bk_310_31 d x0 x1 x2 x3 x4 x5 x6 (am_wI B i)), eP, g, ge, b1, gs, hF, hY, y_ckd, y_ck2d, y_ond, y_onn, y_oI, y_oIx, y_oJ, y_oV, y_oVx, y_oR, y_oRn, y_oRx, y_b0, y_b1, y_bi, y_bid, y_wIK, y_wIL, y_wII, y_wIJ, y_wIR, y_wIN, y_wIw, y_sI, ↓reduceIte, Nat.reduceEqDiff, eq_self, true_or, or_true, false_or, or_false, and_true, true_and, false_and, and_false, not_true, not_false_eq_true, tf_T, tf_F, y_up1, y_up2, y_xx, y_nx, y_sJ, y_sR, Int32.reduceLT, y_nxK, y_nxL, y_nxR, y_sJK, y_sJL, y_sJR, y_sJN, y_sRK, y_sRL, y_sRN, Nat.add_zero, z_nat, z_lit, z_lit0, z_lit1, z_in0, z_in1, z_addl0, z_lt, z_ltl, z_llt, z_inj, z_injl, z_add, z_addl, z_ladd, z_mul, z_mull, z_lmul, z_neg, z_negl, z_in, z_inl, z_ltT, z_ltF, z_eqF, z_10, z_01, z_litne, z_ne0, z_0ne, z_ne1, z_1ne, z_lt64, z_02, z_03, z_04, z_05, z_12, z_13, z_14, z_15, z_20, z_21, z_23, z_24, z_25, z_30, z_31, z_32, z_34, z_35, z_40, z_41, z_42, z_43, z_45, z_50, z_51, z_52, z_53, z_54]
theorem m_fitC {s n p : Nat} (h : MR B i σ) (hW : Wd σ.1) (hs : s < cn σ.1 2621) (hq : n < cn σ.1 (2622 + 49 * s + 8)) (hp : p < cn σ.1 460) (g : (σ.1 (2622 + 49 * s) = 1 ∨ σ.1 (2622 + 49 * s) = 3)) (ge : σ.1 (2622 + 49 * s + 9 + 5 * n + 4) = -1) (gs : ¬ σ.1 (461 + 18 * p + 1) = 2) : MRs B i σ (am_fx am_P (d + 150) 80 0 [some (.ref 874), some (.int (Int32.ofNat s)), some (.int (Int32.ofNat n)), some (.int (Int32.ofNat p)), some (.int y), none, none] [] (am_wI B i)) (some (.int 0)) 0 := by
  refine MRs_0 h ?_
  have hM : Md B := h.1.1
  have hc := hW.1.2.2.2.1
  have h4 := hW.1.2.2.1
  have h8 := hc.2
  have h120 := h4.2
  have t1 : (Int32.ofNat s < 0) = False := z_neg (by omega)
  have t2 := eq_true (ck_nat hc (by omega) hs).2
  obtain ⟨-, -, -, -, -, -, -, hn, hnn⟩ := hW.2.2.2.2.1.1 s hs (by omega)
  have n8 := hn.2
  have t3 : (Int32.ofNat n < 0) = False := z_neg (by omega)
  have t4 := eq_true (ck_nat hn (by omega) hq).2
  have t5 : (Int32.ofNat p < 0) = False := z_neg (by omega)
  have t6 := eq_true (ck_nat h4 (by omega) hp).2
  have e5 := h.2.1 2621 (by omega)
  have e6 := h.2.1 460 (by omega)
  have e8 := h.2.1 (2622 + 49 * s + 8) (by omega)
  have q0 := h.2.1 (2622 + 49 * s) (by omega)
  have q4 := h.2.1 (2622 + 49 * s + 9 + 5 * n + 4) (by omega)
  have r1 := h.2.1 (461 + 18 * p + 1) (by omega)
  have hw := up_o (q := 874) (k := 0) (v := 0) (by omega) h.2.1
  rcases g with g | g
  · rw [bk_80_0]
    simp (maxSteps := 1000000) (disch := omega) only [(fun d x0 x1 B i => bk_69_0 d x0 x1 (am_wI B i)), (fun d x0 x1 x2 B i => bk_71_0 d x0 x1 x2 (am_wI B i)), (fun d x0 x1 B i => bk_26_0 d x0 x1 (am_wI B i)), (fun d x0 x1 x2 x3 x4 s0 s1 B i => bk_80_28 d x0 x1 x2 x3 x4 s0 s1 (am_wI B i)), m_in, z_pred hc.1, z_pred h4.1, z_pred hn.1, Classical.not_not, (fun d x0 x1 x2 B i => bk_67_0 d x0 x1 x2 (am_wI B i)), (fun d x0 x1 B i => bk_66_0 d x0 x1 (am_wI B i)), (fun d x0 x1 B i => bk_70_0 d x0 x1 (am_wI B i)), z_39, z_390, t1, t2, t3, t4, t5, t6, e5, e6, e8, m_thr0, (fun d x0 x1 B i => bk_77_0 d x0 x1 (am_wI B i)), q0, (fun d x0 x1 x2 B i => bk_24_0 d x0 x1 x2 (am_wI B i)), (fun d x0 x1 B i => bk_23_0 d x0 x1 (am_wI B i)), (fun d B i => bk_80_84 d (am_wI B i)), g, q4, ge, z_lm1, r1, gs, hM, y_ckd, y_ck2d, y_ond, y_onn, y_oI, y_oIx, y_oJ, y_oV, y_oVx, y_oR, y_oRn, y_oRx, y_b0, y_b1, y_bi, y_bid, y_wIK, y_wIL, y_wII, y_wIJ, y_wIR, y_wIN, y_wIw, y_sI, ↓reduceIte, Nat.reduceEqDiff, eq_self, true_or, or_true, false_or, or_false, and_true, true_and, false_and, and_false, not_true, not_false_eq_true, tf_T, tf_F, y_up1, y_up2, y_xx, y_nx, y_sJ, y_sR, Int32.reduceLT, y_nxK, y_nxL, y_nxR, y_sJK, y_sJL, y_sJR, y_sJN, y_sRK, y_sRL, y_sRN, Nat.add_zero, z_nat, z_lit, z_lit0, z_lit1, z_in0, z_in1, z_addl0, z_lt, z_ltl, z_llt, z_inj, z_injl, z_add, z_addl, z_ladd, z_mul, z_mull, z_lmul, z_neg, z_negl, z_in, z_inl, z_ltT, z_ltF, z_eqF, z_10, z_01, z_litne, z_ne0, z_0ne, z_ne1, z_1ne, z_lt64, z_02, z_03, z_04, z_05, z_12, z_13, z_14, z_15, z_20, z_21, z_23, z_24, z_25, z_30, z_31, z_32, z_34, z_35, z_40, z_41, z_42, z_43, z_45, z_50, z_51, z_52, z_53, z_54]
  · rw [bk_80_0]
    simp (maxSteps := 1000000) (disch := omega) only [(fun d x0 x1 B i => bk_69_0 d x0 x1 (am_wI B i)), (fun d x0 x1 x2 B i => bk_71_0 d x0 x1 x2 (am_wI B i)), (fun d x0 x1 B i => bk_26_0 d x0 x1 (am_wI B i)), (fun d x0 x1 x2 x3 x4 s0 s1 B i => bk_80_28 d x0 x1 x2 x3 x4 s0 s1 (am_wI B i)), m_in, z_pred hc.1, z_pred h4.1, z_pred hn.1, Classical.not_not, (fun d x0 x1 x2 B i => bk_67_0 d x0 x1 x2 (am_wI B i)), (fun d x0 x1 B i => bk_66_0 d x0 x1 (am_wI B i)), (fun d x0 x1 B i => bk_70_0 d x0 x1 (am_wI B i)), z_39, z_390, t1, t2, t3, t4, t5, t6, e5, e6, e8, m_thr0, (fun d x0 x1 B i => bk_77_0 d x0 x1 (am_wI B i)), q0, (fun d x0 x1 x2 B i => bk_24_0 d x0 x1 x2 (am_wI B i)), (fun d x0 x1 B i => bk_23_0 d x0 x1 (am_wI B i)), (fun d B i => bk_80_84 d (am_wI B i)), g, q4, ge, z_lm1, r1, gs, hM, y_ckd, y_ck2d, y_ond, y_onn, y_oI, y_oIx, y_oJ, y_oV, y_oVx, y_oR, y_oRn, y_oRx, y_b0, y_b1, y_bi, y_bid, y_wIK, y_wIL, y_wII, y_wIJ, y_wIR, y_wIN, y_wIw, y_sI, ↓reduceIte, Nat.reduceEqDiff, eq_self, true_or, or_true, false_or, or_false, and_true, true_and, false_and, and_false, not_true, not_false_eq_true, tf_T, tf_F, y_up1, y_up2, y_xx, y_nx, y_sJ, y_sR, Int32.reduceLT, y_nxK, y_nxL, y_nxR, y_sJK, y_sJL, y_sJR, y_sJN, y_sRK, y_sRL, y_sRN, Nat.add_zero, z_nat, z_lit, z_lit0, z_lit1, z_in0, z_in1, z_addl0, z_lt, z_ltl, z_llt, z_inj, z_injl, z_add, z_addl, z_ladd, z_mul, z_mull, z_lmul, z_neg, z_negl, z_in, z_inl, z_ltT, z_ltF, z_eqF, z_10, z_01, z_litne, z_ne0, z_0ne, z_ne1, z_1ne, z_lt64, z_02, z_03, z_04, z_05, z_12, z_13, z_14, z_15, z_20, z_21, z_23, z_24, z_25, z_30, z_31, z_32, z_34, z_35, z_40, z_41, z_42, z_43, z_45, z_50, z_51, z_52, z_53, z_54]
theorem f_fitD {s n p : Nat} (h : CR B i σ) (hW : Wd σ.1) (hs : s < cn σ.1 2621) (hq : n < cn σ.1 (2622 + 49 * s + 8)) (hp : p < cn σ.1 460) (g : (σ.1 (2622 + 49 * s) = 1 ∨ σ.1 (2622 + 49 * s) = 3)) (ge : σ.1 (2622 + 49 * s + 9 + 5 * n + 4) = -1) (gs : σ.1 (461 + 18 * p + 1) = 2) (gw : ¬ eno σ.1 s n p) : FRs B i σ (am_fx am_P (d + 150) 310 0 [some (.ref 64), some (.int (Int32.ofNat s)), some (.int (Int32.ofNat n)), some (.int (Int32.ofNat p)), some (.int y), none, none, none] [] (am_wI B i)) (.inl (some (.int 0))) := by
  refine FRs_0 h ?_
  have hF : Fc B := h.1.1
  have hY : Yd B 94 := h.1.2.1
  have hc := hW.1.2.2.2.1
  have h4 := hW.1.2.2.1
  have h8 := hc.2
  have h120 := h4.2
  have t1 : (Int32.ofNat s < 0) = False := z_neg (by omega)
  have t2 := eq_true (ck_nat hc (by omega) hs).2
  obtain ⟨-, -, -, -, -, -, -, hn, hnn⟩ := hW.2.2.2.2.1.1 s hs (by omega)
  have n8 := hn.2
  obtain ⟨a1, -, -, -, -, -, -, -, a9, -⟩ := h.2.1.2.2.2.1.2 s hs (by omega)
  have eP := c_pieceOf (d := d + 148) hY h.2.1.2.2.2.1 hc hs hn hq
  have b1 := (h.2.1.2.2.1.2 p hp (by omega)).2.1
  have eW := c_waste (d := d + 147) hY h.2.1 hW hs hq hp
  rw [if_neg gw] at eW
  rcases g with g | g
  · rw [bk_310_0]
    simp (maxSteps := 1000000) (disch := omega) only [c_shN hF hY h.2.1.2.2.2.1.1 hc hs, a9, c_ckI1 (ck_nat hn (by omega) hq), c_pcN hF hY h.2.1.2.2.1.1 h4 hp, (fun d x0 B i => bk_229_0 d x0 (am_wI B i)), a1, (fun d x0 x1 x2 x3 x4 x5 x6 B i => bk_310_31 d x0 x1 x2 x3 x4 x5 x6 (am_wI B i)), eP, g, ge, b1, gs, eW, hF, hY, y_ckd, y_ck2d, y_ond, y_onn, y_oI, y_oIx, y_oJ, y_oV, y_oVx, y_oR, y_oRn, y_oRx, y_b0, y_b1, y_bi, y_bid, y_wIK, y_wIL, y_wII, y_wIJ, y_wIR, y_wIN, y_wIw, y_sI, ↓reduceIte, Nat.reduceEqDiff, eq_self, true_or, or_true, false_or, or_false, and_true, true_and, false_and, and_false, not_true, not_false_eq_true, tf_T, tf_F, y_up1, y_up2, y_xx, y_nx, y_sJ, y_sR, Int32.reduceLT, y_nxK, y_nxL, y_nxR, y_sJK, y_sJL, y_sJR, y_sJN, y_sRK, y_sRL, y_sRN, Nat.add_zero, z_nat, z_lit, z_lit0, z_lit1, z_in0, z_in1, z_addl0, z_lt, z_ltl, z_llt, z_inj, z_injl, z_add, z_addl, z_ladd, z_mul, z_mull, z_lmul, z_neg, z_negl, z_in, z_inl, z_ltT, z_ltF, z_eqF, z_10, z_01, z_litne, z_ne0, z_0ne, z_ne1, z_1ne, z_lt64, z_02, z_03, z_04, z_05, z_12, z_13, z_14, z_15, z_20, z_21, z_23, z_24, z_25, z_30, z_31, z_32, z_34, z_35, z_40, z_41, z_42, z_43, z_45, z_50, z_51, z_52, z_53, z_54]
  · rw [bk_310_0]
    simp (maxSteps := 1000000) (disch := omega) only [c_shN hF hY h.2.1.2.2.2.1.1 hc hs, a9, c_ckI1 (ck_nat hn (by omega) hq), c_pcN hF hY h.2.1.2.2.1.1 h4 hp, (fun d x0 B i => bk_229_0 d x0 (am_wI B i)), a1, (fun d x0 x1 x2 x3 x4 x5 x6 B i => bk_310_31 d x0 x1 x2 x3 x4 x5 x6 (am_wI B i)), eP, g, ge, b1, gs, eW, hF, hY, y_ckd, y_ck2d, y_ond, y_onn, y_oI, y_oIx, y_oJ, y_oV, y_oVx, y_oR, y_oRn, y_oRx, y_b0, y_b1, y_bi, y_bid, y_wIK, y_wIL, y_wII, y_wIJ, y_wIR, y_wIN, y_wIw, y_sI, ↓reduceIte, Nat.reduceEqDiff, eq_self, true_or, or_true, false_or, or_false, and_true, true_and, false_and, and_false, not_true, not_false_eq_true, tf_T, tf_F, y_up1, y_up2, y_xx, y_nx, y_sJ, y_sR, Int32.reduceLT, y_nxK, y_nxL, y_nxR, y_sJK, y_sJL, y_sJR, y_sJN, y_sRK, y_sRL, y_sRN, Nat.add_zero, z_nat, z_lit, z_lit0, z_lit1, z_in0, z_in1, z_addl0, z_lt, z_ltl, z_llt, z_inj, z_injl, z_add, z_addl, z_ladd, z_mul, z_mull, z_lmul, z_neg, z_negl, z_in, z_inl, z_ltT, z_ltF, z_eqF, z_10, z_01, z_litne, z_ne0, z_0ne, z_ne1, z_1ne, z_lt64, z_02, z_03, z_04, z_05, z_12, z_13, z_14, z_15, z_20, z_21, z_23, z_24, z_25, z_30, z_31, z_32, z_34, z_35, z_40, z_41, z_42, z_43, z_45, z_50, z_51, z_52, z_53, z_54]
theorem m_fitD {s n p : Nat} (h : MR B i σ) (hW : Wd σ.1) (hs : s < cn σ.1 2621) (hq : n < cn σ.1 (2622 + 49 * s + 8)) (hp : p < cn σ.1 460) (g : (σ.1 (2622 + 49 * s) = 1 ∨ σ.1 (2622 + 49 * s) = 3)) (ge : σ.1 (2622 + 49 * s + 9 + 5 * n + 4) = -1) (gs : σ.1 (461 + 18 * p + 1) = 2) (gw : ¬ eno σ.1 s n p) : MRs B i σ (am_fx am_P (d + 150) 80 0 [some (.ref 874), some (.int (Int32.ofNat s)), some (.int (Int32.ofNat n)), some (.int (Int32.ofNat p)), some (.int y), none, none] [] (am_wI B i)) (some (.int 0)) 0 := by
  refine MRs_0 h ?_
  have hM : Md B := h.1.1
  have hc := hW.1.2.2.2.1
  have h4 := hW.1.2.2.1
  have h8 := hc.2
  have h120 := h4.2
  have t1 : (Int32.ofNat s < 0) = False := z_neg (by omega)
  have t2 := eq_true (ck_nat hc (by omega) hs).2
  obtain ⟨-, -, -, -, -, -, -, hn, hnn⟩ := hW.2.2.2.2.1.1 s hs (by omega)
  have n8 := hn.2
  have t3 : (Int32.ofNat n < 0) = False := z_neg (by omega)
  have t4 := eq_true (ck_nat hn (by omega) hq).2
  have t5 : (Int32.ofNat p < 0) = False := z_neg (by omega)
  have t6 := eq_true (ck_nat h4 (by omega) hp).2
  have e5 := h.2.1 2621 (by omega)
  have e6 := h.2.1 460 (by omega)
  have e8 := h.2.1 (2622 + 49 * s + 8) (by omega)
  have q0 := h.2.1 (2622 + 49 * s) (by omega)
  have q4 := h.2.1 (2622 + 49 * s + 9 + 5 * n + 4) (by omega)
  have r1 := h.2.1 (461 + 18 * p + 1) (by omega)
  have hw := up_o (q := 874) (k := 0) (v := 0) (by omega) h.2.1
  have eN := m_enough (d := d + 146) hM hw (show s < 8 by omega) (show n < 8 by omega) (show p < 120 by omega)
  rw [if_neg gw] at eN
  rcases g with g | g
  · rw [bk_80_0]
    simp (maxSteps := 1000000) (disch := omega) only [(fun d x0 x1 B i => bk_69_0 d x0 x1 (am_wI B i)), (fun d x0 x1 x2 B i => bk_71_0 d x0 x1 x2 (am_wI B i)), (fun d x0 x1 B i => bk_26_0 d x0 x1 (am_wI B i)), (fun d x0 x1 x2 x3 x4 s0 s1 B i => bk_80_28 d x0 x1 x2 x3 x4 s0 s1 (am_wI B i)), m_in, z_pred hc.1, z_pred h4.1, z_pred hn.1, Classical.not_not, (fun d x0 x1 x2 B i => bk_67_0 d x0 x1 x2 (am_wI B i)), (fun d x0 x1 B i => bk_66_0 d x0 x1 (am_wI B i)), (fun d x0 x1 B i => bk_70_0 d x0 x1 (am_wI B i)), z_39, z_390, t1, t2, t3, t4, t5, t6, e5, e6, e8, m_thr0, (fun d x0 x1 B i => bk_77_0 d x0 x1 (am_wI B i)), q0, (fun d x0 x1 x2 B i => bk_24_0 d x0 x1 x2 (am_wI B i)), (fun d x0 x1 B i => bk_23_0 d x0 x1 (am_wI B i)), (fun d B i => bk_80_84 d (am_wI B i)), g, q4, ge, z_lm1, r1, gs, eN, hM, y_ckd, y_ck2d, y_ond, y_onn, y_oI, y_oIx, y_oJ, y_oV, y_oVx, y_oR, y_oRn, y_oRx, y_b0, y_b1, y_bi, y_bid, y_wIK, y_wIL, y_wII, y_wIJ, y_wIR, y_wIN, y_wIw, y_sI, ↓reduceIte, Nat.reduceEqDiff, eq_self, true_or, or_true, false_or, or_false, and_true, true_and, false_and, and_false, not_true, not_false_eq_true, tf_T, tf_F, y_up1, y_up2, y_xx, y_nx, y_sJ, y_sR, Int32.reduceLT, y_nxK, y_nxL, y_nxR, y_sJK, y_sJL, y_sJR, y_sJN, y_sRK, y_sRL, y_sRN, Nat.add_zero, z_nat, z_lit, z_lit0, z_lit1, z_in0, z_in1, z_addl0, z_lt, z_ltl, z_llt, z_inj, z_injl, z_add, z_addl, z_ladd, z_mul, z_mull, z_lmul, z_neg, z_negl, z_in, z_inl, z_ltT, z_ltF, z_eqF, z_10, z_01, z_litne, z_ne0, z_0ne, z_ne1, z_1ne, z_lt64, z_02, z_03, z_04, z_05, z_12, z_13, z_14, z_15, z_20, z_21, z_23, z_24, z_25, z_30, z_31, z_32, z_34, z_35, z_40, z_41, z_42, z_43, z_45, z_50, z_51, z_52, z_53, z_54]
  · rw [bk_80_0]
    simp (maxSteps := 1000000) (disch := omega) only [(fun d x0 x1 B i => bk_69_0 d x0 x1 (am_wI B i)), (fun d x0 x1 x2 B i => bk_71_0 d x0 x1 x2 (am_wI B i)), (fun d x0 x1 B i => bk_26_0 d x0 x1 (am_wI B i)), (fun d x0 x1 x2 x3 x4 s0 s1 B i => bk_80_28 d x0 x1 x2 x3 x4 s0 s1 (am_wI B i)), m_in, z_pred hc.1, z_pred h4.1, z_pred hn.1, Classical.not_not, (fun d x0 x1 x2 B i => bk_67_0 d x0 x1 x2 (am_wI B i)), (fun d x0 x1 B i => bk_66_0 d x0 x1 (am_wI B i)), (fun d x0 x1 B i => bk_70_0 d x0 x1 (am_wI B i)), z_39, z_390, t1, t2, t3, t4, t5, t6, e5, e6, e8, m_thr0, (fun d x0 x1 B i => bk_77_0 d x0 x1 (am_wI B i)), q0, (fun d x0 x1 x2 B i => bk_24_0 d x0 x1 x2 (am_wI B i)), (fun d x0 x1 B i => bk_23_0 d x0 x1 (am_wI B i)), (fun d B i => bk_80_84 d (am_wI B i)), g, q4, ge, z_lm1, r1, gs, eN, hM, y_ckd, y_ck2d, y_ond, y_onn, y_oI, y_oIx, y_oJ, y_oV, y_oVx, y_oR, y_oRn, y_oRx, y_b0, y_b1, y_bi, y_bid, y_wIK, y_wIL, y_wII, y_wIJ, y_wIR, y_wIN, y_wIw, y_sI, ↓reduceIte, Nat.reduceEqDiff, eq_self, true_or, or_true, false_or, or_false, and_true, true_and, false_and, and_false, not_true, not_false_eq_true, tf_T, tf_F, y_up1, y_up2, y_xx, y_nx, y_sJ, y_sR, Int32.reduceLT, y_nxK, y_nxL, y_nxR, y_sJK, y_sJL, y_sJR, y_sJN, y_sRK, y_sRL, y_sRN, Nat.add_zero, z_nat, z_lit, z_lit0, z_lit1, z_in0, z_in1, z_addl0, z_lt, z_ltl, z_llt, z_inj, z_injl, z_add, z_addl, z_ladd, z_mul, z_mull, z_lmul, z_neg, z_negl, z_in, z_inl, z_ltT, z_ltF, z_eqF, z_10, z_01, z_litne, z_ne0, z_0ne, z_ne1, z_1ne, z_lt64, z_02, z_03, z_04, z_05, z_12, z_13, z_14, z_15, z_20, z_21, z_23, z_24, z_25, z_30, z_31, z_32, z_34, z_35, z_40, z_41, z_42, z_43, z_45, z_50, z_51, z_52, z_53, z_54]
theorem f_fitE {s n p : Nat} (h : CR B i σ) (hW : Wd σ.1) (hs : s < cn σ.1 2621) (hq : n < cn σ.1 (2622 + 49 * s + 8)) (hp : p < cn σ.1 460) (g : (σ.1 (2622 + 49 * s) = 1 ∨ σ.1 (2622 + 49 * s) = 3)) (ge : σ.1 (2622 + 49 * s + 9 + 5 * n + 4) = -1) (gs : σ.1 (461 + 18 * p + 1) = 2) (gw : eno σ.1 s n p) (gv : (whT σ.1 p s (txi σ.1 (σ.1 0) (cn σ.1 3541))) = -1) (gy : y = 0) : FRs B i σ (am_fx am_P (d + 150) 310 0 [some (.ref 64), some (.int (Int32.ofNat s)), some (.int (Int32.ofNat n)), some (.int (Int32.ofNat p)), some (.int y), none, none, none] [] (am_wI B i)) (.inl (some (.int 0))) := by
  have hF : Fc B := h.1.1
  have hY : Yd B 94 := h.1.2.1
  have hc := hW.1.2.2.2.1
  have h4 := hW.1.2.2.1
  have h8 := hc.2
  have h120 := h4.2
  have t1 : (Int32.ofNat s < 0) = False := z_neg (by omega)
  have t2 := eq_true (ck_nat hc (by omega) hs).2
  obtain ⟨-, -, -, -, -, -, -, hn, hnn⟩ := hW.2.2.2.2.1.1 s hs (by omega)
  have n8 := hn.2
  obtain ⟨a1, -, -, -, -, -, -, -, a9, -⟩ := h.2.1.2.2.2.1.2 s hs (by omega)
  obtain ⟨i', E1, f1⟩ := c_fit31 (y := y) (d := d + 145) h hW hs hq hp ge gs gw
  rw [if_pos gv] at E1
  refine FRs_s (i' := i') h ?_ fun q k _ _ h1 h2 _ _ => f1 q k (by omega) (by omega)
  have key : am_fx am_P (d + 150) 310 31 [some (.ref 64), some (.int (Int32.ofNat s)), some (.int (Int32.ofNat n)), some (.int (Int32.ofNat p)), some (.int y), some (.ref (94 + 212 + 6 * s)), some (.ref (94 + 92 + p)), none] [] (am_wI B i) = some (.inl (some (.int 0)), am_wI B i') := by
    refine E1.trans ?_
    rw [bk_310_100]
    simp (maxSteps := 1000000) (disch := omega) only [gy, y_ckd, y_ck2d, y_ond, y_onn, y_oI, y_oIx, y_oJ, y_oV, y_oVx, y_oR, y_oRn, y_oRx, y_b0, y_b1, y_bi, y_bid, y_wIK, y_wIL, y_wII, y_wIJ, y_wIR, y_wIN, y_wIw, y_sI, ↓reduceIte, Nat.reduceEqDiff, eq_self, true_or, or_true, false_or, or_false, and_true, true_and, false_and, and_false, not_true, not_false_eq_true, tf_T, tf_F, y_up1, y_up2, y_xx, y_nx, y_sJ, y_sR, Int32.reduceLT, y_nxK, y_nxL, y_nxR, y_sJK, y_sJL, y_sJR, y_sJN, y_sRK, y_sRL, y_sRN, Nat.add_zero, z_nat, z_lit, z_lit0, z_lit1, z_in0, z_in1, z_addl0, z_lt, z_ltl, z_llt, z_inj, z_injl, z_add, z_addl, z_ladd, z_mul, z_mull, z_lmul, z_neg, z_negl, z_in, z_inl, z_ltT, z_ltF, z_eqF, z_10, z_01, z_litne, z_ne0, z_0ne, z_ne1, z_1ne, z_lt64, z_02, z_03, z_04, z_05, z_12, z_13, z_14, z_15, z_20, z_21, z_23, z_24, z_25, z_30, z_31, z_32, z_34, z_35, z_40, z_41, z_42, z_43, z_45, z_50, z_51, z_52, z_53, z_54]
  rcases g with g | g
  · rw [bk_310_0]
    simp (maxSteps := 1000000) (disch := omega) only [c_shN hF hY h.2.1.2.2.2.1.1 hc hs, a9, c_ckI1 (ck_nat hn (by omega) hq), c_pcN hF hY h.2.1.2.2.1.1 h4 hp, (fun d x0 B i => bk_229_0 d x0 (am_wI B i)), a1, g, hF, hY, y_ckd, y_ck2d, y_ond, y_onn, y_oI, y_oIx, y_oJ, y_oV, y_oVx, y_oR, y_oRn, y_oRx, y_b0, y_b1, y_bi, y_bid, y_wIK, y_wIL, y_wII, y_wIJ, y_wIR, y_wIN, y_wIw, y_sI, ↓reduceIte, Nat.reduceEqDiff, eq_self, true_or, or_true, false_or, or_false, and_true, true_and, false_and, and_false, not_true, not_false_eq_true, tf_T, tf_F, y_up1, y_up2, y_xx, y_nx, y_sJ, y_sR, Int32.reduceLT, y_nxK, y_nxL, y_nxR, y_sJK, y_sJL, y_sJR, y_sJN, y_sRK, y_sRL, y_sRN, Nat.add_zero, z_nat, z_lit, z_lit0, z_lit1, z_in0, z_in1, z_addl0, z_lt, z_ltl, z_llt, z_inj, z_injl, z_add, z_addl, z_ladd, z_mul, z_mull, z_lmul, z_neg, z_negl, z_in, z_inl, z_ltT, z_ltF, z_eqF, z_10, z_01, z_litne, z_ne0, z_0ne, z_ne1, z_1ne, z_lt64, z_02, z_03, z_04, z_05, z_12, z_13, z_14, z_15, z_20, z_21, z_23, z_24, z_25, z_30, z_31, z_32, z_34, z_35, z_40, z_41, z_42, z_43, z_45, z_50, z_51, z_52, z_53, z_54]
    exact key
  · rw [bk_310_0]
    simp (maxSteps := 1000000) (disch := omega) only [c_shN hF hY h.2.1.2.2.2.1.1 hc hs, a9, c_ckI1 (ck_nat hn (by omega) hq), c_pcN hF hY h.2.1.2.2.1.1 h4 hp, (fun d x0 B i => bk_229_0 d x0 (am_wI B i)), a1, g, hF, hY, y_ckd, y_ck2d, y_ond, y_onn, y_oI, y_oIx, y_oJ, y_oV, y_oVx, y_oR, y_oRn, y_oRx, y_b0, y_b1, y_bi, y_bid, y_wIK, y_wIL, y_wII, y_wIJ, y_wIR, y_wIN, y_wIw, y_sI, ↓reduceIte, Nat.reduceEqDiff, eq_self, true_or, or_true, false_or, or_false, and_true, true_and, false_and, and_false, not_true, not_false_eq_true, tf_T, tf_F, y_up1, y_up2, y_xx, y_nx, y_sJ, y_sR, Int32.reduceLT, y_nxK, y_nxL, y_nxR, y_sJK, y_sJL, y_sJR, y_sJN, y_sRK, y_sRL, y_sRN, Nat.add_zero, z_nat, z_lit, z_lit0, z_lit1, z_in0, z_in1, z_addl0, z_lt, z_ltl, z_llt, z_inj, z_injl, z_add, z_addl, z_ladd, z_mul, z_mull, z_lmul, z_neg, z_negl, z_in, z_inl, z_ltT, z_ltF, z_eqF, z_10, z_01, z_litne, z_ne0, z_0ne, z_ne1, z_1ne, z_lt64, z_02, z_03, z_04, z_05, z_12, z_13, z_14, z_15, z_20, z_21, z_23, z_24, z_25, z_30, z_31, z_32, z_34, z_35, z_40, z_41, z_42, z_43, z_45, z_50, z_51, z_52, z_53, z_54]
    exact key
theorem m_fitE {s n p : Nat} (h : MR B i σ) (hW : Wd σ.1) (hs : s < cn σ.1 2621) (hq : n < cn σ.1 (2622 + 49 * s + 8)) (hp : p < cn σ.1 460) (g : (σ.1 (2622 + 49 * s) = 1 ∨ σ.1 (2622 + 49 * s) = 3)) (ge : σ.1 (2622 + 49 * s + 9 + 5 * n + 4) = -1) (gs : σ.1 (461 + 18 * p + 1) = 2) (gw : eno σ.1 s n p) (gv : (whT σ.1 p s (txi σ.1 (σ.1 0) (cn σ.1 3541))) = -1) (gy : y = 0) : MRs B i σ (am_fx am_P (d + 150) 80 0 [some (.ref 874), some (.int (Int32.ofNat s)), some (.int (Int32.ofNat n)), some (.int (Int32.ofNat p)), some (.int y), none, none] [] (am_wI B i)) (some (.int 0)) 0 := by
  have hM : Md B := h.1.1
  have hc := hW.1.2.2.2.1
  have h4 := hW.1.2.2.1
  have h8 := hc.2
  have h120 := h4.2
  have t1 : (Int32.ofNat s < 0) = False := z_neg (by omega)
  have t2 := eq_true (ck_nat hc (by omega) hs).2
  obtain ⟨-, -, -, -, -, -, -, hn, hnn⟩ := hW.2.2.2.2.1.1 s hs (by omega)
  have n8 := hn.2
  have t3 : (Int32.ofNat n < 0) = False := z_neg (by omega)
  have t4 := eq_true (ck_nat hn (by omega) hq).2
  have t5 : (Int32.ofNat p < 0) = False := z_neg (by omega)
  have t6 := eq_true (ck_nat h4 (by omega) hp).2
  have e5 := h.2.1 2621 (by omega)
  have e6 := h.2.1 460 (by omega)
  have e8 := h.2.1 (2622 + 49 * s + 8) (by omega)
  have q0 := h.2.1 (2622 + 49 * s) (by omega)
  have q4 := h.2.1 (2622 + 49 * s + 9 + 5 * n + 4) (by omega)
  have r1 := h.2.1 (461 + 18 * p + 1) (by omega)
  have hw := up_o (q := 874) (k := 0) (v := 0) (by omega) h.2.1
  have hx := hW.1.2.2.2.2.2.2.2.2.2
  have x10 := hx.2
  have u0 := h.2.1 0 (by omega)
  have eN := m_enough (d := d + 146) hM hw (show s < 8 by omega) (show n < 8 by omega) (show p < 120 by omega)
  rw [if_pos gw] at eN
  have eT := m_textOf (x := σ.1 0) (d := d + 147) hM hw hx
  obtain ⟨j, eY, jf⟩ := m_why (d := d + 145) (p := p) (s := s) (t := txi σ.1 (σ.1 0) (cn σ.1 3541)) hM hw hW.2.2.2.2.2.2.2.2.1 (fun k q => ⟨txi_lt _ q, by have := txi_lt _ q; omega⟩) (by omega) (by omega) hW.1.2.2.2.2.2.1
  rw [gv] at eY
  refine MRs_s (i' := j) h ?_ (by rw [jf _ _ (by omega) (by omega) (by omega)]; exact y_up1 rfl rfl) (fun q k h1 h2 => by rw [jf q k (by omega) (by omega) (by omega), y_up2 (by omega)])
  rcases g with g | g
  · rw [bk_80_0]
    simp (maxSteps := 1000000) (disch := omega) only [(fun d x0 x1 B i => bk_69_0 d x0 x1 (am_wI B i)), (fun d x0 x1 x2 B i => bk_71_0 d x0 x1 x2 (am_wI B i)), (fun d x0 x1 B i => bk_26_0 d x0 x1 (am_wI B i)), (fun d x0 x1 x2 x3 x4 s0 s1 B i => bk_80_28 d x0 x1 x2 x3 x4 s0 s1 (am_wI B i)), m_in, z_pred hc.1, z_pred h4.1, z_pred hn.1, Classical.not_not, (fun d x0 x1 x2 B i => bk_67_0 d x0 x1 x2 (am_wI B i)), (fun d x0 x1 B i => bk_66_0 d x0 x1 (am_wI B i)), (fun d x0 x1 B i => bk_70_0 d x0 x1 (am_wI B i)), z_39, z_390, t1, t2, t3, t4, t5, t6, e5, e6, e8, m_thr0, (fun d x0 x1 B i => bk_77_0 d x0 x1 (am_wI B i)), q0, (fun d x0 x1 x2 B i => bk_24_0 d x0 x1 x2 (am_wI B i)), (fun d x0 x1 B i => bk_23_0 d x0 x1 (am_wI B i)), (fun d x0 B i => bk_13_0 d x0 (am_wI B i)), g, q4, ge, z_lm1, r1, gs, eN, u0, eT, eY, gy, (fun d x0 x1 x2 x3 x4 x5 s0 B i => bk_80_108 d x0 x1 x2 x3 x4 x5 s0 (am_wI B i)), hM, y_ckd, y_ck2d, y_ond, y_onn, y_oI, y_oIx, y_oJ, y_oV, y_oVx, y_oR, y_oRn, y_oRx, y_b0, y_b1, y_bi, y_bid, y_wIK, y_wIL, y_wII, y_wIJ, y_wIR, y_wIN, y_wIw, y_sI, ↓reduceIte, Nat.reduceEqDiff, eq_self, true_or, or_true, false_or, or_false, and_true, true_and, false_and, and_false, not_true, not_false_eq_true, tf_T, tf_F, y_up1, y_up2, y_xx, y_nx, y_sJ, y_sR, Int32.reduceLT, y_nxK, y_nxL, y_nxR, y_sJK, y_sJL, y_sJR, y_sJN, y_sRK, y_sRL, y_sRN, Nat.add_zero, z_nat, z_lit, z_lit0, z_lit1, z_in0, z_in1, z_addl0, z_lt, z_ltl, z_llt, z_inj, z_injl, z_add, z_addl, z_ladd, z_mul, z_mull, z_lmul, z_neg, z_negl, z_in, z_inl, z_ltT, z_ltF, z_eqF, z_10, z_01, z_litne, z_ne0, z_0ne, z_ne1, z_1ne, z_lt64, z_02, z_03, z_04, z_05, z_12, z_13, z_14, z_15, z_20, z_21, z_23, z_24, z_25, z_30, z_31, z_32, z_34, z_35, z_40, z_41, z_42, z_43, z_45, z_50, z_51, z_52, z_53, z_54]
  · rw [bk_80_0]
    simp (maxSteps := 1000000) (disch := omega) only [(fun d x0 x1 B i => bk_69_0 d x0 x1 (am_wI B i)), (fun d x0 x1 x2 B i => bk_71_0 d x0 x1 x2 (am_wI B i)), (fun d x0 x1 B i => bk_26_0 d x0 x1 (am_wI B i)), (fun d x0 x1 x2 x3 x4 s0 s1 B i => bk_80_28 d x0 x1 x2 x3 x4 s0 s1 (am_wI B i)), m_in, z_pred hc.1, z_pred h4.1, z_pred hn.1, Classical.not_not, (fun d x0 x1 x2 B i => bk_67_0 d x0 x1 x2 (am_wI B i)), (fun d x0 x1 B i => bk_66_0 d x0 x1 (am_wI B i)), (fun d x0 x1 B i => bk_70_0 d x0 x1 (am_wI B i)), z_39, z_390, t1, t2, t3, t4, t5, t6, e5, e6, e8, m_thr0, (fun d x0 x1 B i => bk_77_0 d x0 x1 (am_wI B i)), q0, (fun d x0 x1 x2 B i => bk_24_0 d x0 x1 x2 (am_wI B i)), (fun d x0 x1 B i => bk_23_0 d x0 x1 (am_wI B i)), (fun d x0 B i => bk_13_0 d x0 (am_wI B i)), g, q4, ge, z_lm1, r1, gs, eN, u0, eT, eY, gy, (fun d x0 x1 x2 x3 x4 x5 s0 B i => bk_80_108 d x0 x1 x2 x3 x4 x5 s0 (am_wI B i)), hM, y_ckd, y_ck2d, y_ond, y_onn, y_oI, y_oIx, y_oJ, y_oV, y_oVx, y_oR, y_oRn, y_oRx, y_b0, y_b1, y_bi, y_bid, y_wIK, y_wIL, y_wII, y_wIJ, y_wIR, y_wIN, y_wIw, y_sI, ↓reduceIte, Nat.reduceEqDiff, eq_self, true_or, or_true, false_or, or_false, and_true, true_and, false_and, and_false, not_true, not_false_eq_true, tf_T, tf_F, y_up1, y_up2, y_xx, y_nx, y_sJ, y_sR, Int32.reduceLT, y_nxK, y_nxL, y_nxR, y_sJK, y_sJL, y_sJR, y_sJN, y_sRK, y_sRL, y_sRN, Nat.add_zero, z_nat, z_lit, z_lit0, z_lit1, z_in0, z_in1, z_addl0, z_lt, z_ltl, z_llt, z_inj, z_injl, z_add, z_addl, z_ladd, z_mul, z_mull, z_lmul, z_neg, z_negl, z_in, z_inl, z_ltT, z_ltF, z_eqF, z_10, z_01, z_litne, z_ne0, z_0ne, z_ne1, z_1ne, z_lt64, z_02, z_03, z_04, z_05, z_12, z_13, z_14, z_15, z_20, z_21, z_23, z_24, z_25, z_30, z_31, z_32, z_34, z_35, z_40, z_41, z_42, z_43, z_45, z_50, z_51, z_52, z_53, z_54]

theorem f_fitY {s n p : Nat} (h : CR B i σ) (hW : Wd σ.1) (hs : s < cn σ.1 2621) (hq : n < cn σ.1 (2622 + 49 * s + 8)) (hp : p < cn σ.1 460) (g : (σ.1 (2622 + 49 * s) = 1 ∨ σ.1 (2622 + 49 * s) = 3)) (ge : σ.1 (2622 + 49 * s + 9 + 5 * n + 4) = -1) (gs : σ.1 (461 + 18 * p + 1) = 2) (gw : eno σ.1 s n p) (gv : ¬ (whT σ.1 p s (txi σ.1 (σ.1 0) (cn σ.1 3541))) = -1) : FRs B i ((wu (wu (wu (wu (wu σ.1 (2622 + 49 * s + 9 + 5 * n + 4) (Int32.ofNat p)) (461 + 18 * p + 1) 3) (461 + 18 * p + 11) (Int32.ofNat s)) (461 + 18 * p + 12) (Int32.ofNat n)) (461 + 18 * p + 13) 0), σ.1, σ.2.2.1, true, σ.2.2.2.2) (am_fx am_P (d + 150) 310 0 [some (.ref 64), some (.int (Int32.ofNat s)), some (.int (Int32.ofNat n)), some (.int (Int32.ofNat p)), some (.int y), none, none, none] [] (am_wI B i)) (.inl (some (.int 1))) := by
  have hF : Fc B := h.1.1
  have hY : Yd B 94 := h.1.2.1
  have hc := hW.1.2.2.2.1
  have h4 := hW.1.2.2.1
  have h8 := hc.2
  have h120 := h4.2
  have t1 : (Int32.ofNat s < 0) = False := z_neg (by omega)
  have t2 := eq_true (ck_nat hc (by omega) hs).2
  obtain ⟨-, -, -, -, -, -, -, hn, hnn⟩ := hW.2.2.2.2.1.1 s hs (by omega)
  have n8 := hn.2
  obtain ⟨a1, -, -, -, -, -, -, -, a9, -⟩ := h.2.1.2.2.2.1.2 s hs (by omega)
  obtain ⟨i', E1, f1⟩ := c_fit31 (y := y) (d := d + 145) h hW hs hq hp ge gs gw
  rw [if_neg gv] at E1
  have hC' : CR B i' σ := CR_fr h (Le.rf B) ⟨rfl, rfl, rfl⟩ (fun q k _ _ _ c e _ _ => f1 q k (by omega) (by omega)) (fun q hq _ => funext fun k => f1 q k (by omega) (by omega))
  obtain ⟨B1, i1, E, hC, hS, hf⟩ := c_remember (d := d + 143) hC' hW
  have hF1 : Fc B1 := hC.1.1
  have hY1 : Yd B1 94 := hC.1.2.1
  have c9 : i1 (94 + 212 + 6 * s) 8 = Int32.ofNat (cn σ.1 (2622 + 49 * s + 8)) := ((hC.2.1.2.2.2.1.2 s hs (by omega)).2.2.2.2.2.2.2.2.1).trans hn.1
  have cw : ¬ Int32.ofNat n < 0 ∧ ¬ Int32.ofNat (cn σ.1 (2622 + 49 * s + 8)) - 1 < Int32.ofNat n := by
    rw [← hn.1]
    exact ⟨(ck_nat hn (by omega) hq).1, by rw [z_pred hn.1 (by omega)]; exact fun q => q (ck_nat hn (by omega) hq).2⟩
  refine FRs_pre (i' := i') (fun q k hq => f1 q k (by omega) (by omega)) (FRs_tr hS hf (FRs_w (i' := (am_up2 (am_up2 (am_up2 (am_up2 (am_up2 i1 (94 + 212 + 6 * s + 5) n (Int32.ofNat p)) (94 + 92 + p) 9 3) (94 + 92 + p) 16 (Int32.ofNat s)) (94 + 92 + p) 17 (Int32.ofNat n)) (94 + 92 + p) 18 0)) hC ?_ (Rep_fit hC.2.1 (by omega) hs (by omega) (by omega) hp (by omega)) (by intros; simp (disch := omega) only [y_up2])))
  have key : am_fx am_P (d + 150) 310 31 [some (.ref 64), some (.int (Int32.ofNat s)), some (.int (Int32.ofNat n)), some (.int (Int32.ofNat p)), some (.int y), some (.ref (94 + 212 + 6 * s)), some (.ref (94 + 92 + p)), none] [] (am_wI B i) = some (.inl (some (.int 1)), am_wI B1 (am_up2 (am_up2 (am_up2 (am_up2 (am_up2 i1 (94 + 212 + 6 * s + 5) n (Int32.ofNat p)) (94 + 92 + p) 9 3) (94 + 92 + p) 16 (Int32.ofNat s)) (94 + 92 + p) 17 (Int32.ofNat n)) (94 + 92 + p) 18 0)) := by
    refine E1.trans ?_
    rw [bk_310_100]
    simp (maxSteps := 1000000) (disch := omega) only [(fun d x0 x1 x2 x3 x5 x6 x7 B i => bk_310_114 d x0 x1 x2 x3 x5 x6 x7 (am_wI B i)), (fun d s0 s1 s2 s3 B i => bk_310_139 d s0 s1 s2 s3 (am_wI B i)), E, (fun d x0 x1 x2 B i => bk_227_0 d x0 x1 x2 (am_wI B i)), c_within1 cw, c9, (fun d x0 x1 x2 x3 B i => bk_158_0 d x0 x1 x2 x3 (am_wI B i)), (fun d x0 x2 x3 B i => bk_158_10 d x0 x2 x3 (am_wI B i)), (fun d B i => bk_158_20 d (am_wI B i)), (fun d x0 x2 x3 B i => bk_158_10 d x0 x2 x3 (am_wI B i)), (fun d B i => bk_158_20 d (am_wI B i)), hF, hF1, hY1, y_ckd, y_ck2d, y_ond, y_onn, y_oI, y_oIx, y_oJ, y_oV, y_oVx, y_oR, y_oRn, y_oRx, y_b0, y_b1, y_bi, y_bid, y_wIK, y_wIL, y_wII, y_wIJ, y_wIR, y_wIN, y_wIw, y_sI, ↓reduceIte, Nat.reduceEqDiff, eq_self, true_or, or_true, false_or, or_false, and_true, true_and, false_and, and_false, not_true, not_false_eq_true, tf_T, tf_F, y_up1, y_up2, y_xx, y_nx, y_sJ, y_sR, Int32.reduceLT, y_nxK, y_nxL, y_nxR, y_sJK, y_sJL, y_sJR, y_sJN, y_sRK, y_sRL, y_sRN, Nat.add_zero, z_nat, z_lit, z_lit0, z_lit1, z_in0, z_in1, z_addl0, z_lt, z_ltl, z_llt, z_inj, z_injl, z_add, z_addl, z_ladd, z_mul, z_mull, z_lmul, z_neg, z_negl, z_in, z_inl, z_ltT, z_ltF, z_eqF, z_10, z_01, z_litne, z_ne0, z_0ne, z_ne1, z_1ne, z_lt64, z_02, z_03, z_04, z_05, z_12, z_13, z_14, z_15, z_20, z_21, z_23, z_24, z_25, z_30, z_31, z_32, z_34, z_35, z_40, z_41, z_42, z_43, z_45, z_50, z_51, z_52, z_53, z_54]
  rcases g with g | g
  · rw [bk_310_0]
    simp (maxSteps := 1000000) (disch := omega) only [c_shN hF hY h.2.1.2.2.2.1.1 hc hs, a9, c_ckI1 (ck_nat hn (by omega) hq), c_pcN hF hY h.2.1.2.2.1.1 h4 hp, (fun d x0 B i => bk_229_0 d x0 (am_wI B i)), a1, g, hF, hY, y_ckd, y_ck2d, y_ond, y_onn, y_oI, y_oIx, y_oJ, y_oV, y_oVx, y_oR, y_oRn, y_oRx, y_b0, y_b1, y_bi, y_bid, y_wIK, y_wIL, y_wII, y_wIJ, y_wIR, y_wIN, y_wIw, y_sI, ↓reduceIte, Nat.reduceEqDiff, eq_self, true_or, or_true, false_or, or_false, and_true, true_and, false_and, and_false, not_true, not_false_eq_true, tf_T, tf_F, y_up1, y_up2, y_xx, y_nx, y_sJ, y_sR, Int32.reduceLT, y_nxK, y_nxL, y_nxR, y_sJK, y_sJL, y_sJR, y_sJN, y_sRK, y_sRL, y_sRN, Nat.add_zero, z_nat, z_lit, z_lit0, z_lit1, z_in0, z_in1, z_addl0, z_lt, z_ltl, z_llt, z_inj, z_injl, z_add, z_addl, z_ladd, z_mul, z_mull, z_lmul, z_neg, z_negl, z_in, z_inl, z_ltT, z_ltF, z_eqF, z_10, z_01, z_litne, z_ne0, z_0ne, z_ne1, z_1ne, z_lt64, z_02, z_03, z_04, z_05, z_12, z_13, z_14, z_15, z_20, z_21, z_23, z_24, z_25, z_30, z_31, z_32, z_34, z_35, z_40, z_41, z_42, z_43, z_45, z_50, z_51, z_52, z_53, z_54]
    exact key
  · rw [bk_310_0]
    simp (maxSteps := 1000000) (disch := omega) only [c_shN hF hY h.2.1.2.2.2.1.1 hc hs, a9, c_ckI1 (ck_nat hn (by omega) hq), c_pcN hF hY h.2.1.2.2.1.1 h4 hp, (fun d x0 B i => bk_229_0 d x0 (am_wI B i)), a1, g, hF, hY, y_ckd, y_ck2d, y_ond, y_onn, y_oI, y_oIx, y_oJ, y_oV, y_oVx, y_oR, y_oRn, y_oRx, y_b0, y_b1, y_bi, y_bid, y_wIK, y_wIL, y_wII, y_wIJ, y_wIR, y_wIN, y_wIw, y_sI, ↓reduceIte, Nat.reduceEqDiff, eq_self, true_or, or_true, false_or, or_false, and_true, true_and, false_and, and_false, not_true, not_false_eq_true, tf_T, tf_F, y_up1, y_up2, y_xx, y_nx, y_sJ, y_sR, Int32.reduceLT, y_nxK, y_nxL, y_nxR, y_sJK, y_sJL, y_sJR, y_sJN, y_sRK, y_sRL, y_sRN, Nat.add_zero, z_nat, z_lit, z_lit0, z_lit1, z_in0, z_in1, z_addl0, z_lt, z_ltl, z_llt, z_inj, z_injl, z_add, z_addl, z_ladd, z_mul, z_mull, z_lmul, z_neg, z_negl, z_in, z_inl, z_ltT, z_ltF, z_eqF, z_10, z_01, z_litne, z_ne0, z_0ne, z_ne1, z_1ne, z_lt64, z_02, z_03, z_04, z_05, z_12, z_13, z_14, z_15, z_20, z_21, z_23, z_24, z_25, z_30, z_31, z_32, z_34, z_35, z_40, z_41, z_42, z_43, z_45, z_50, z_51, z_52, z_53, z_54]
    exact key
theorem m_fitY {s n p : Nat} (h : MR B i σ) (hW : Wd σ.1) (hs : s < cn σ.1 2621) (hq : n < cn σ.1 (2622 + 49 * s + 8)) (hp : p < cn σ.1 460) (g : (σ.1 (2622 + 49 * s) = 1 ∨ σ.1 (2622 + 49 * s) = 3)) (ge : σ.1 (2622 + 49 * s + 9 + 5 * n + 4) = -1) (gs : σ.1 (461 + 18 * p + 1) = 2) (gw : eno σ.1 s n p) (gv : ¬ (whT σ.1 p s (txi σ.1 (σ.1 0) (cn σ.1 3541))) = -1) : MRs B i ((wu (wu (wu (wu (wu σ.1 (2622 + 49 * s + 9 + 5 * n + 4) (Int32.ofNat p)) (461 + 18 * p + 1) 3) (461 + 18 * p + 11) (Int32.ofNat s)) (461 + 18 * p + 12) (Int32.ofNat n)) (461 + 18 * p + 13) 0), σ.1, σ.2.2.1, true, σ.2.2.2.2) (am_fx am_P (d + 150) 80 0 [some (.ref 874), some (.int (Int32.ofNat s)), some (.int (Int32.ofNat n)), some (.int (Int32.ofNat p)), some (.int y), none, none] [] (am_wI B i)) (some (.int 1)) 0 := by
  have hM : Md B := h.1.1
  have hc := hW.1.2.2.2.1
  have h4 := hW.1.2.2.1
  have h8 := hc.2
  have h120 := h4.2
  have t1 : (Int32.ofNat s < 0) = False := z_neg (by omega)
  have t2 := eq_true (ck_nat hc (by omega) hs).2
  obtain ⟨-, -, -, -, -, -, -, hn, hnn⟩ := hW.2.2.2.2.1.1 s hs (by omega)
  have n8 := hn.2
  have t3 : (Int32.ofNat n < 0) = False := z_neg (by omega)
  have t4 := eq_true (ck_nat hn (by omega) hq).2
  have t5 : (Int32.ofNat p < 0) = False := z_neg (by omega)
  have t6 := eq_true (ck_nat h4 (by omega) hp).2
  have e5 := h.2.1 2621 (by omega)
  have e6 := h.2.1 460 (by omega)
  have e8 := h.2.1 (2622 + 49 * s + 8) (by omega)
  have q0 := h.2.1 (2622 + 49 * s) (by omega)
  have q4 := h.2.1 (2622 + 49 * s + 9 + 5 * n + 4) (by omega)
  have r1 := h.2.1 (461 + 18 * p + 1) (by omega)
  have hw := up_o (q := 874) (k := 0) (v := 0) (by omega) h.2.1
  have hx := hW.1.2.2.2.2.2.2.2.2.2
  have x10 := hx.2
  have u0 := h.2.1 0 (by omega)
  have eN := m_enough (d := d + 146) hM hw (show s < 8 by omega) (show n < 8 by omega) (show p < 120 by omega)
  rw [if_pos gw] at eN
  have eT := m_textOf (x := σ.1 0) (d := d + 147) hM hw hx
  obtain ⟨j, eY, jf⟩ := m_why (d := d + 145) (p := p) (s := s) (t := txi σ.1 (σ.1 0) (cn σ.1 3541)) hM hw hW.2.2.2.2.2.2.2.2.1 (fun k q => ⟨txi_lt _ q, by have := txi_lt _ q; omega⟩) (by omega) (by omega) hW.1.2.2.2.2.2.1
  have gvn : ¬ (whT σ.1 p s (txi σ.1 (σ.1 0) (cn σ.1 3541))) < 0 := by
    rcases whT_v (w := σ.1) (p := p) (s := s) (t := txi σ.1 (σ.1 0) (cn σ.1 3541)) hW.2.2.2.2.2.2.2.2.1 (fun k q => ⟨txi_lt _ q, by have := txi_lt _ q; omega⟩) with g | ⟨n, hn, g⟩
    · exact absurd g gv
    · rw [g, z_neg (by omega)]
      exact id
  have hMj : MR B j σ := MR_fr h (Le.rf B) fun q k hq => by rw [jf q k (by omega) (by omega) (by omega), y_up2 (by omega)]
  obtain ⟨i1, E, hD, hf⟩ := m_deed (d := d + 149) hMj
  have z0 : i1 874 0 = 0 := ((hf _ _ (by omega) (by omega)).trans (jf _ _ (by omega) (by omega) (by omega))).trans (y_up1 rfl rfl)
  have hw1 := hD.2.1
  have key : MRs B i1 ((wu (wu (wu (wu (wu σ.1 (2622 + 49 * s + 9 + 5 * n + 4) (Int32.ofNat p)) (461 + 18 * p + 1) 3) (461 + 18 * p + 11) (Int32.ofNat s)) (461 + 18 * p + 12) (Int32.ofNat n)) (461 + 18 * p + 13) 0), σ.1, σ.2.2.1, true, σ.2.2.2.2) (am_fx am_P (d + 150) 80 0 [some (.ref 874), some (.int (Int32.ofNat s)), some (.int (Int32.ofNat n)), some (.int (Int32.ofNat p)), some (.int y), none, none] [] (am_wI B i)) (some (.int 1)) 0 := by
    refine MRs_w hD (i' := (am_up2 (am_up2 (am_up2 (am_up2 (am_up2 i1 875 (2622 + 49 * s + 9 + 5 * n + 4) (Int32.ofNat p)) 875 (461 + 18 * p + 1) 3) 875 (461 + 18 * p + 11) (Int32.ofNat s)) 875 (461 + 18 * p + 12) (Int32.ofNat n)) 875 (461 + 18 * p + 13) 0)) ?_ (by simp (disch := omega) only [y_up2]; exact z0) (up_wu (up_wu (up_wu (up_wu (up_wu hw1))))) (by intros; simp (disch := omega) only [y_up2])
    rcases g with g | g
    · rw [bk_80_0]
      simp (maxSteps := 1000000) (disch := omega) only [(fun d x0 x1 B i => bk_69_0 d x0 x1 (am_wI B i)), (fun d x0 x1 x2 B i => bk_71_0 d x0 x1 x2 (am_wI B i)), (fun d x0 x1 B i => bk_26_0 d x0 x1 (am_wI B i)), (fun d x0 x1 x2 x3 x4 s0 s1 B i => bk_80_28 d x0 x1 x2 x3 x4 s0 s1 (am_wI B i)), m_in, z_pred hc.1, z_pred h4.1, z_pred hn.1, Classical.not_not, (fun d x0 x1 x2 B i => bk_67_0 d x0 x1 x2 (am_wI B i)), (fun d x0 x1 B i => bk_66_0 d x0 x1 (am_wI B i)), (fun d x0 x1 B i => bk_70_0 d x0 x1 (am_wI B i)), z_39, z_390, t1, t2, t3, t4, t5, t6, e5, e6, e8, m_thr0, (fun d x0 x1 B i => bk_77_0 d x0 x1 (am_wI B i)), q0, (fun d x0 x1 x2 B i => bk_24_0 d x0 x1 x2 (am_wI B i)), (fun d x0 x1 B i => bk_23_0 d x0 x1 (am_wI B i)), (fun d x0 B i => bk_13_0 d x0 (am_wI B i)), g, q4, ge, z_lm1, r1, gs, eN, u0, eT, eY, gvn, (fun d x0 x1 x2 x3 x4 x5 s0 B i => bk_80_108 d x0 x1 x2 x3 x4 x5 s0 (am_wI B i)), (fun d x0 x1 x2 x3 x5 x6 B i => bk_80_122 d x0 x1 x2 x3 x5 x6 (am_wI B i)), (fun d x0 x3 x6 B i => bk_80_159 d x0 x3 x6 (am_wI B i)), (fun d s0 s1 s2 s3 B i => bk_80_173 d s0 s1 s2 s3 (am_wI B i)), (fun d x0 x1 x2 x3 B i => bk_25_0 d x0 x1 x2 x3 (am_wI B i)), E, hM, y_ckd, y_ck2d, y_ond, y_onn, y_oI, y_oIx, y_oJ, y_oV, y_oVx, y_oR, y_oRn, y_oRx, y_b0, y_b1, y_bi, y_bid, y_wIK, y_wIL, y_wII, y_wIJ, y_wIR, y_wIN, y_wIw, y_sI, ↓reduceIte, Nat.reduceEqDiff, eq_self, true_or, or_true, false_or, or_false, and_true, true_and, false_and, and_false, not_true, not_false_eq_true, tf_T, tf_F, y_up1, y_up2, y_xx, y_nx, y_sJ, y_sR, Int32.reduceLT, y_nxK, y_nxL, y_nxR, y_sJK, y_sJL, y_sJR, y_sJN, y_sRK, y_sRL, y_sRN, Nat.add_zero, z_nat, z_lit, z_lit0, z_lit1, z_in0, z_in1, z_addl0, z_lt, z_ltl, z_llt, z_inj, z_injl, z_add, z_addl, z_ladd, z_mul, z_mull, z_lmul, z_neg, z_negl, z_in, z_inl, z_ltT, z_ltF, z_eqF, z_10, z_01, z_litne, z_ne0, z_0ne, z_ne1, z_1ne, z_lt64, z_02, z_03, z_04, z_05, z_12, z_13, z_14, z_15, z_20, z_21, z_23, z_24, z_25, z_30, z_31, z_32, z_34, z_35, z_40, z_41, z_42, z_43, z_45, z_50, z_51, z_52, z_53, z_54]
    · rw [bk_80_0]
      simp (maxSteps := 1000000) (disch := omega) only [(fun d x0 x1 B i => bk_69_0 d x0 x1 (am_wI B i)), (fun d x0 x1 x2 B i => bk_71_0 d x0 x1 x2 (am_wI B i)), (fun d x0 x1 B i => bk_26_0 d x0 x1 (am_wI B i)), (fun d x0 x1 x2 x3 x4 s0 s1 B i => bk_80_28 d x0 x1 x2 x3 x4 s0 s1 (am_wI B i)), m_in, z_pred hc.1, z_pred h4.1, z_pred hn.1, Classical.not_not, (fun d x0 x1 x2 B i => bk_67_0 d x0 x1 x2 (am_wI B i)), (fun d x0 x1 B i => bk_66_0 d x0 x1 (am_wI B i)), (fun d x0 x1 B i => bk_70_0 d x0 x1 (am_wI B i)), z_39, z_390, t1, t2, t3, t4, t5, t6, e5, e6, e8, m_thr0, (fun d x0 x1 B i => bk_77_0 d x0 x1 (am_wI B i)), q0, (fun d x0 x1 x2 B i => bk_24_0 d x0 x1 x2 (am_wI B i)), (fun d x0 x1 B i => bk_23_0 d x0 x1 (am_wI B i)), (fun d x0 B i => bk_13_0 d x0 (am_wI B i)), g, q4, ge, z_lm1, r1, gs, eN, u0, eT, eY, gvn, (fun d x0 x1 x2 x3 x4 x5 s0 B i => bk_80_108 d x0 x1 x2 x3 x4 x5 s0 (am_wI B i)), (fun d x0 x1 x2 x3 x5 x6 B i => bk_80_122 d x0 x1 x2 x3 x5 x6 (am_wI B i)), (fun d x0 x3 x6 B i => bk_80_159 d x0 x3 x6 (am_wI B i)), (fun d s0 s1 s2 s3 B i => bk_80_173 d s0 s1 s2 s3 (am_wI B i)), (fun d x0 x1 x2 x3 B i => bk_25_0 d x0 x1 x2 x3 (am_wI B i)), E, hM, y_ckd, y_ck2d, y_ond, y_onn, y_oI, y_oIx, y_oJ, y_oV, y_oVx, y_oR, y_oRn, y_oRx, y_b0, y_b1, y_bi, y_bid, y_wIK, y_wIL, y_wII, y_wIJ, y_wIR, y_wIN, y_wIw, y_sI, ↓reduceIte, Nat.reduceEqDiff, eq_self, true_or, or_true, false_or, or_false, and_true, true_and, false_and, and_false, not_true, not_false_eq_true, tf_T, tf_F, y_up1, y_up2, y_xx, y_nx, y_sJ, y_sR, Int32.reduceLT, y_nxK, y_nxL, y_nxR, y_sJK, y_sJL, y_sJR, y_sJN, y_sRK, y_sRL, y_sRN, Nat.add_zero, z_nat, z_lit, z_lit0, z_lit1, z_in0, z_in1, z_addl0, z_lt, z_ltl, z_llt, z_inj, z_injl, z_add, z_addl, z_ladd, z_mul, z_mull, z_lmul, z_neg, z_negl, z_in, z_inl, z_ltT, z_ltF, z_eqF, z_10, z_01, z_litne, z_ne0, z_0ne, z_ne1, z_1ne, z_lt64, z_02, z_03, z_04, z_05, z_12, z_13, z_14, z_15, z_20, z_21, z_23, z_24, z_25, z_30, z_31, z_32, z_34, z_35, z_40, z_41, z_42, z_43, z_45, z_50, z_51, z_52, z_53, z_54]
  obtain ⟨B2, i2, a, c, e, f, g'⟩ := key
  exact ⟨B2, i2, a, c, e, f, fun q k hq => (g' q k hq).trans (((hf q k (by omega) (by omega)).trans (jf q k (by omega) (by omega) (by omega))).trans (y_up2 (by omega)))⟩

theorem f_fitZ {s n p : Nat} (h : CR B i σ) (hW : Wd σ.1) (hs : s < cn σ.1 2621) (hq : n < cn σ.1 (2622 + 49 * s + 8)) (hp : p < cn σ.1 460) (g : (σ.1 (2622 + 49 * s) = 1 ∨ σ.1 (2622 + 49 * s) = 3)) (ge : σ.1 (2622 + 49 * s + 9 + 5 * n + 4) = -1) (gs : σ.1 (461 + 18 * p + 1) = 2) (gw : eno σ.1 s n p) (gv : (whT σ.1 p s (txi σ.1 (σ.1 0) (cn σ.1 3541))) = -1) (gy : ¬ y = 0) : FRs B i ((wu (wu (wu (wu (wu σ.1 (2622 + 49 * s + 9 + 5 * n + 4) (Int32.ofNat p)) (461 + 18 * p + 1) 3) (461 + 18 * p + 11) (Int32.ofNat s)) (461 + 18 * p + 12) (Int32.ofNat n)) (461 + 18 * p + 13) 1), σ.1, σ.2.2.1, true, σ.2.2.2.2) (am_fx am_P (d + 150) 310 0 [some (.ref 64), some (.int (Int32.ofNat s)), some (.int (Int32.ofNat n)), some (.int (Int32.ofNat p)), some (.int y), none, none, none] [] (am_wI B i)) (.inl (some (.int 1))) := by
  have hF : Fc B := h.1.1
  have hY : Yd B 94 := h.1.2.1
  have hc := hW.1.2.2.2.1
  have h4 := hW.1.2.2.1
  have h8 := hc.2
  have h120 := h4.2
  have t1 : (Int32.ofNat s < 0) = False := z_neg (by omega)
  have t2 := eq_true (ck_nat hc (by omega) hs).2
  obtain ⟨-, -, -, -, -, -, -, hn, hnn⟩ := hW.2.2.2.2.1.1 s hs (by omega)
  have n8 := hn.2
  obtain ⟨a1, -, -, -, -, -, -, -, a9, -⟩ := h.2.1.2.2.2.1.2 s hs (by omega)
  obtain ⟨i', E1, f1⟩ := c_fit31 (y := y) (d := d + 145) h hW hs hq hp ge gs gw
  rw [if_pos gv] at E1
  have hC' : CR B i' σ := CR_fr h (Le.rf B) ⟨rfl, rfl, rfl⟩ (fun q k _ _ _ c e _ _ => f1 q k (by omega) (by omega)) (fun q hq _ => funext fun k => f1 q k (by omega) (by omega))
  obtain ⟨B1, i1, E, hC, hS, hf⟩ := c_remember (d := d + 143) hC' hW
  have hF1 : Fc B1 := hC.1.1
  have hY1 : Yd B1 94 := hC.1.2.1
  have c9 : i1 (94 + 212 + 6 * s) 8 = Int32.ofNat (cn σ.1 (2622 + 49 * s + 8)) := ((hC.2.1.2.2.2.1.2 s hs (by omega)).2.2.2.2.2.2.2.2.1).trans hn.1
  have cw : ¬ Int32.ofNat n < 0 ∧ ¬ Int32.ofNat (cn σ.1 (2622 + 49 * s + 8)) - 1 < Int32.ofNat n := by
    rw [← hn.1]
    exact ⟨(ck_nat hn (by omega) hq).1, by rw [z_pred hn.1 (by omega)]; exact fun q => q (ck_nat hn (by omega) hq).2⟩
  refine FRs_pre (i' := i') (fun q k hq => f1 q k (by omega) (by omega)) (FRs_tr hS hf (FRs_w (i' := (am_up2 (am_up2 (am_up2 (am_up2 (am_up2 i1 (94 + 212 + 6 * s + 5) n (Int32.ofNat p)) (94 + 92 + p) 9 3) (94 + 92 + p) 16 (Int32.ofNat s)) (94 + 92 + p) 17 (Int32.ofNat n)) (94 + 92 + p) 18 1)) hC ?_ (Rep_fit hC.2.1 (by omega) hs (by omega) (by omega) hp (by omega)) (by intros; simp (disch := omega) only [y_up2])))
  have key : am_fx am_P (d + 150) 310 31 [some (.ref 64), some (.int (Int32.ofNat s)), some (.int (Int32.ofNat n)), some (.int (Int32.ofNat p)), some (.int y), some (.ref (94 + 212 + 6 * s)), some (.ref (94 + 92 + p)), none] [] (am_wI B i) = some (.inl (some (.int 1)), am_wI B1 (am_up2 (am_up2 (am_up2 (am_up2 (am_up2 i1 (94 + 212 + 6 * s + 5) n (Int32.ofNat p)) (94 + 92 + p) 9 3) (94 + 92 + p) 16 (Int32.ofNat s)) (94 + 92 + p) 17 (Int32.ofNat n)) (94 + 92 + p) 18 1)) := by
    refine E1.trans ?_
    rw [bk_310_100]
    simp (maxSteps := 1000000) (disch := omega) only [gy, (fun d x0 x1 x2 x3 x5 x6 x7 B i => bk_310_114 d x0 x1 x2 x3 x5 x6 x7 (am_wI B i)), (fun d s0 s1 s2 s3 B i => bk_310_139 d s0 s1 s2 s3 (am_wI B i)), E, (fun d x0 x1 x2 B i => bk_227_0 d x0 x1 x2 (am_wI B i)), c_within1 cw, c9, (fun d x0 x1 x2 x3 B i => bk_158_0 d x0 x1 x2 x3 (am_wI B i)), (fun d x0 x2 x3 B i => bk_158_10 d x0 x2 x3 (am_wI B i)), (fun d B i => bk_158_20 d (am_wI B i)), (fun d x0 x2 x3 B i => bk_158_10 d x0 x2 x3 (am_wI B i)), (fun d B i => bk_158_20 d (am_wI B i)), hF, hF1, hY1, y_ckd, y_ck2d, y_ond, y_onn, y_oI, y_oIx, y_oJ, y_oV, y_oVx, y_oR, y_oRn, y_oRx, y_b0, y_b1, y_bi, y_bid, y_wIK, y_wIL, y_wII, y_wIJ, y_wIR, y_wIN, y_wIw, y_sI, ↓reduceIte, Nat.reduceEqDiff, eq_self, true_or, or_true, false_or, or_false, and_true, true_and, false_and, and_false, not_true, not_false_eq_true, tf_T, tf_F, y_up1, y_up2, y_xx, y_nx, y_sJ, y_sR, Int32.reduceLT, y_nxK, y_nxL, y_nxR, y_sJK, y_sJL, y_sJR, y_sJN, y_sRK, y_sRL, y_sRN, Nat.add_zero, z_nat, z_lit, z_lit0, z_lit1, z_in0, z_in1, z_addl0, z_lt, z_ltl, z_llt, z_inj, z_injl, z_add, z_addl, z_ladd, z_mul, z_mull, z_lmul, z_neg, z_negl, z_in, z_inl, z_ltT, z_ltF, z_eqF, z_10, z_01, z_litne, z_ne0, z_0ne, z_ne1, z_1ne, z_lt64, z_02, z_03, z_04, z_05, z_12, z_13, z_14, z_15, z_20, z_21, z_23, z_24, z_25, z_30, z_31, z_32, z_34, z_35, z_40, z_41, z_42, z_43, z_45, z_50, z_51, z_52, z_53, z_54]
  rcases g with g | g
  · rw [bk_310_0]
    simp (maxSteps := 1000000) (disch := omega) only [c_shN hF hY h.2.1.2.2.2.1.1 hc hs, a9, c_ckI1 (ck_nat hn (by omega) hq), c_pcN hF hY h.2.1.2.2.1.1 h4 hp, (fun d x0 B i => bk_229_0 d x0 (am_wI B i)), a1, g, hF, hY, y_ckd, y_ck2d, y_ond, y_onn, y_oI, y_oIx, y_oJ, y_oV, y_oVx, y_oR, y_oRn, y_oRx, y_b0, y_b1, y_bi, y_bid, y_wIK, y_wIL, y_wII, y_wIJ, y_wIR, y_wIN, y_wIw, y_sI, ↓reduceIte, Nat.reduceEqDiff, eq_self, true_or, or_true, false_or, or_false, and_true, true_and, false_and, and_false, not_true, not_false_eq_true, tf_T, tf_F, y_up1, y_up2, y_xx, y_nx, y_sJ, y_sR, Int32.reduceLT, y_nxK, y_nxL, y_nxR, y_sJK, y_sJL, y_sJR, y_sJN, y_sRK, y_sRL, y_sRN, Nat.add_zero, z_nat, z_lit, z_lit0, z_lit1, z_in0, z_in1, z_addl0, z_lt, z_ltl, z_llt, z_inj, z_injl, z_add, z_addl, z_ladd, z_mul, z_mull, z_lmul, z_neg, z_negl, z_in, z_inl, z_ltT, z_ltF, z_eqF, z_10, z_01, z_litne, z_ne0, z_0ne, z_ne1, z_1ne, z_lt64, z_02, z_03, z_04, z_05, z_12, z_13, z_14, z_15, z_20, z_21, z_23, z_24, z_25, z_30, z_31, z_32, z_34, z_35, z_40, z_41, z_42, z_43, z_45, z_50, z_51, z_52, z_53, z_54]
    exact key
  · rw [bk_310_0]
    simp (maxSteps := 1000000) (disch := omega) only [c_shN hF hY h.2.1.2.2.2.1.1 hc hs, a9, c_ckI1 (ck_nat hn (by omega) hq), c_pcN hF hY h.2.1.2.2.1.1 h4 hp, (fun d x0 B i => bk_229_0 d x0 (am_wI B i)), a1, g, hF, hY, y_ckd, y_ck2d, y_ond, y_onn, y_oI, y_oIx, y_oJ, y_oV, y_oVx, y_oR, y_oRn, y_oRx, y_b0, y_b1, y_bi, y_bid, y_wIK, y_wIL, y_wII, y_wIJ, y_wIR, y_wIN, y_wIw, y_sI, ↓reduceIte, Nat.reduceEqDiff, eq_self, true_or, or_true, false_or, or_false, and_true, true_and, false_and, and_false, not_true, not_false_eq_true, tf_T, tf_F, y_up1, y_up2, y_xx, y_nx, y_sJ, y_sR, Int32.reduceLT, y_nxK, y_nxL, y_nxR, y_sJK, y_sJL, y_sJR, y_sJN, y_sRK, y_sRL, y_sRN, Nat.add_zero, z_nat, z_lit, z_lit0, z_lit1, z_in0, z_in1, z_addl0, z_lt, z_ltl, z_llt, z_inj, z_injl, z_add, z_addl, z_ladd, z_mul, z_mull, z_lmul, z_neg, z_negl, z_in, z_inl, z_ltT, z_ltF, z_eqF, z_10, z_01, z_litne, z_ne0, z_0ne, z_ne1, z_1ne, z_lt64, z_02, z_03, z_04, z_05, z_12, z_13, z_14, z_15, z_20, z_21, z_23, z_24, z_25, z_30, z_31, z_32, z_34, z_35, z_40, z_41, z_42, z_43, z_45, z_50, z_51, z_52, z_53, z_54]
    exact key
theorem m_fitZ {s n p : Nat} (h : MR B i σ) (hW : Wd σ.1) (hs : s < cn σ.1 2621) (hq : n < cn σ.1 (2622 + 49 * s + 8)) (hp : p < cn σ.1 460) (g : (σ.1 (2622 + 49 * s) = 1 ∨ σ.1 (2622 + 49 * s) = 3)) (ge : σ.1 (2622 + 49 * s + 9 + 5 * n + 4) = -1) (gs : σ.1 (461 + 18 * p + 1) = 2) (gw : eno σ.1 s n p) (gv : (whT σ.1 p s (txi σ.1 (σ.1 0) (cn σ.1 3541))) = -1) (gy : ¬ y = 0) : MRs B i ((wu (wu (wu (wu (wu σ.1 (2622 + 49 * s + 9 + 5 * n + 4) (Int32.ofNat p)) (461 + 18 * p + 1) 3) (461 + 18 * p + 11) (Int32.ofNat s)) (461 + 18 * p + 12) (Int32.ofNat n)) (461 + 18 * p + 13) 1), σ.1, σ.2.2.1, true, σ.2.2.2.2) (am_fx am_P (d + 150) 80 0 [some (.ref 874), some (.int (Int32.ofNat s)), some (.int (Int32.ofNat n)), some (.int (Int32.ofNat p)), some (.int y), none, none] [] (am_wI B i)) (some (.int 1)) 0 := by
  have hM : Md B := h.1.1
  have hc := hW.1.2.2.2.1
  have h4 := hW.1.2.2.1
  have h8 := hc.2
  have h120 := h4.2
  have t1 : (Int32.ofNat s < 0) = False := z_neg (by omega)
  have t2 := eq_true (ck_nat hc (by omega) hs).2
  obtain ⟨-, -, -, -, -, -, -, hn, hnn⟩ := hW.2.2.2.2.1.1 s hs (by omega)
  have n8 := hn.2
  have t3 : (Int32.ofNat n < 0) = False := z_neg (by omega)
  have t4 := eq_true (ck_nat hn (by omega) hq).2
  have t5 : (Int32.ofNat p < 0) = False := z_neg (by omega)
  have t6 := eq_true (ck_nat h4 (by omega) hp).2
  have e5 := h.2.1 2621 (by omega)
  have e6 := h.2.1 460 (by omega)
  have e8 := h.2.1 (2622 + 49 * s + 8) (by omega)
  have q0 := h.2.1 (2622 + 49 * s) (by omega)
  have q4 := h.2.1 (2622 + 49 * s + 9 + 5 * n + 4) (by omega)
  have r1 := h.2.1 (461 + 18 * p + 1) (by omega)
  have hw := up_o (q := 874) (k := 0) (v := 0) (by omega) h.2.1
  have hx := hW.1.2.2.2.2.2.2.2.2.2
  have x10 := hx.2
  have u0 := h.2.1 0 (by omega)
  have eN := m_enough (d := d + 146) hM hw (show s < 8 by omega) (show n < 8 by omega) (show p < 120 by omega)
  rw [if_pos gw] at eN
  have eT := m_textOf (x := σ.1 0) (d := d + 147) hM hw hx
  obtain ⟨j, eY, jf⟩ := m_why (d := d + 145) (p := p) (s := s) (t := txi σ.1 (σ.1 0) (cn σ.1 3541)) hM hw hW.2.2.2.2.2.2.2.2.1 (fun k q => ⟨txi_lt _ q, by have := txi_lt _ q; omega⟩) (by omega) (by omega) hW.1.2.2.2.2.2.1
  rw [gv] at eY
  have hMj : MR B j σ := MR_fr h (Le.rf B) fun q k hq => by rw [jf q k (by omega) (by omega) (by omega), y_up2 (by omega)]
  obtain ⟨i1, E, hD, hf⟩ := m_deed (d := d + 149) hMj
  have z0 : i1 874 0 = 0 := ((hf _ _ (by omega) (by omega)).trans (jf _ _ (by omega) (by omega) (by omega))).trans (y_up1 rfl rfl)
  have hw1 := hD.2.1
  have key : MRs B i1 ((wu (wu (wu (wu (wu σ.1 (2622 + 49 * s + 9 + 5 * n + 4) (Int32.ofNat p)) (461 + 18 * p + 1) 3) (461 + 18 * p + 11) (Int32.ofNat s)) (461 + 18 * p + 12) (Int32.ofNat n)) (461 + 18 * p + 13) 1), σ.1, σ.2.2.1, true, σ.2.2.2.2) (am_fx am_P (d + 150) 80 0 [some (.ref 874), some (.int (Int32.ofNat s)), some (.int (Int32.ofNat n)), some (.int (Int32.ofNat p)), some (.int y), none, none] [] (am_wI B i)) (some (.int 1)) 0 := by
    refine MRs_w hD (i' := (am_up2 (am_up2 (am_up2 (am_up2 (am_up2 i1 875 (2622 + 49 * s + 9 + 5 * n + 4) (Int32.ofNat p)) 875 (461 + 18 * p + 1) 3) 875 (461 + 18 * p + 11) (Int32.ofNat s)) 875 (461 + 18 * p + 12) (Int32.ofNat n)) 875 (461 + 18 * p + 13) 1)) ?_ (by simp (disch := omega) only [y_up2]; exact z0) (up_wu (up_wu (up_wu (up_wu (up_wu hw1))))) (by intros; simp (disch := omega) only [y_up2])
    rcases g with g | g
    · rw [bk_80_0]
      simp (maxSteps := 1000000) (disch := omega) only [(fun d x0 x1 B i => bk_69_0 d x0 x1 (am_wI B i)), (fun d x0 x1 x2 B i => bk_71_0 d x0 x1 x2 (am_wI B i)), (fun d x0 x1 B i => bk_26_0 d x0 x1 (am_wI B i)), (fun d x0 x1 x2 x3 x4 s0 s1 B i => bk_80_28 d x0 x1 x2 x3 x4 s0 s1 (am_wI B i)), m_in, z_pred hc.1, z_pred h4.1, z_pred hn.1, Classical.not_not, (fun d x0 x1 x2 B i => bk_67_0 d x0 x1 x2 (am_wI B i)), (fun d x0 x1 B i => bk_66_0 d x0 x1 (am_wI B i)), (fun d x0 x1 B i => bk_70_0 d x0 x1 (am_wI B i)), z_39, z_390, t1, t2, t3, t4, t5, t6, e5, e6, e8, m_thr0, (fun d x0 x1 B i => bk_77_0 d x0 x1 (am_wI B i)), q0, (fun d x0 x1 x2 B i => bk_24_0 d x0 x1 x2 (am_wI B i)), (fun d x0 x1 B i => bk_23_0 d x0 x1 (am_wI B i)), (fun d x0 B i => bk_13_0 d x0 (am_wI B i)), g, q4, ge, z_lm1, r1, gs, eN, u0, eT, eY, gy, (fun d x0 x1 x2 x3 x4 x5 s0 B i => bk_80_108 d x0 x1 x2 x3 x4 x5 s0 (am_wI B i)), (fun d x0 x1 x2 x3 x5 x6 B i => bk_80_122 d x0 x1 x2 x3 x5 x6 (am_wI B i)), (fun d x0 x3 x6 B i => bk_80_159 d x0 x3 x6 (am_wI B i)), (fun d s0 s1 s2 s3 B i => bk_80_173 d s0 s1 s2 s3 (am_wI B i)), (fun d x0 x1 x2 x3 B i => bk_25_0 d x0 x1 x2 x3 (am_wI B i)), E, hM, y_ckd, y_ck2d, y_ond, y_onn, y_oI, y_oIx, y_oJ, y_oV, y_oVx, y_oR, y_oRn, y_oRx, y_b0, y_b1, y_bi, y_bid, y_wIK, y_wIL, y_wII, y_wIJ, y_wIR, y_wIN, y_wIw, y_sI, ↓reduceIte, Nat.reduceEqDiff, eq_self, true_or, or_true, false_or, or_false, and_true, true_and, false_and, and_false, not_true, not_false_eq_true, tf_T, tf_F, y_up1, y_up2, y_xx, y_nx, y_sJ, y_sR, Int32.reduceLT, y_nxK, y_nxL, y_nxR, y_sJK, y_sJL, y_sJR, y_sJN, y_sRK, y_sRL, y_sRN, Nat.add_zero, z_nat, z_lit, z_lit0, z_lit1, z_in0, z_in1, z_addl0, z_lt, z_ltl, z_llt, z_inj, z_injl, z_add, z_addl, z_ladd, z_mul, z_mull, z_lmul, z_neg, z_negl, z_in, z_inl, z_ltT, z_ltF, z_eqF, z_10, z_01, z_litne, z_ne0, z_0ne, z_ne1, z_1ne, z_lt64, z_02, z_03, z_04, z_05, z_12, z_13, z_14, z_15, z_20, z_21, z_23, z_24, z_25, z_30, z_31, z_32, z_34, z_35, z_40, z_41, z_42, z_43, z_45, z_50, z_51, z_52, z_53, z_54]
    · rw [bk_80_0]
      simp (maxSteps := 1000000) (disch := omega) only [(fun d x0 x1 B i => bk_69_0 d x0 x1 (am_wI B i)), (fun d x0 x1 x2 B i => bk_71_0 d x0 x1 x2 (am_wI B i)), (fun d x0 x1 B i => bk_26_0 d x0 x1 (am_wI B i)), (fun d x0 x1 x2 x3 x4 s0 s1 B i => bk_80_28 d x0 x1 x2 x3 x4 s0 s1 (am_wI B i)), m_in, z_pred hc.1, z_pred h4.1, z_pred hn.1, Classical.not_not, (fun d x0 x1 x2 B i => bk_67_0 d x0 x1 x2 (am_wI B i)), (fun d x0 x1 B i => bk_66_0 d x0 x1 (am_wI B i)), (fun d x0 x1 B i => bk_70_0 d x0 x1 (am_wI B i)), z_39, z_390, t1, t2, t3, t4, t5, t6, e5, e6, e8, m_thr0, (fun d x0 x1 B i => bk_77_0 d x0 x1 (am_wI B i)), q0, (fun d x0 x1 x2 B i => bk_24_0 d x0 x1 x2 (am_wI B i)), (fun d x0 x1 B i => bk_23_0 d x0 x1 (am_wI B i)), (fun d x0 B i => bk_13_0 d x0 (am_wI B i)), g, q4, ge, z_lm1, r1, gs, eN, u0, eT, eY, gy, (fun d x0 x1 x2 x3 x4 x5 s0 B i => bk_80_108 d x0 x1 x2 x3 x4 x5 s0 (am_wI B i)), (fun d x0 x1 x2 x3 x5 x6 B i => bk_80_122 d x0 x1 x2 x3 x5 x6 (am_wI B i)), (fun d x0 x3 x6 B i => bk_80_159 d x0 x3 x6 (am_wI B i)), (fun d s0 s1 s2 s3 B i => bk_80_173 d s0 s1 s2 s3 (am_wI B i)), (fun d x0 x1 x2 x3 B i => bk_25_0 d x0 x1 x2 x3 (am_wI B i)), E, hM, y_ckd, y_ck2d, y_ond, y_onn, y_oI, y_oIx, y_oJ, y_oV, y_oVx, y_oR, y_oRn, y_oRx, y_b0, y_b1, y_bi, y_bid, y_wIK, y_wIL, y_wII, y_wIJ, y_wIR, y_wIN, y_wIw, y_sI, ↓reduceIte, Nat.reduceEqDiff, eq_self, true_or, or_true, false_or, or_false, and_true, true_and, false_and, and_false, not_true, not_false_eq_true, tf_T, tf_F, y_up1, y_up2, y_xx, y_nx, y_sJ, y_sR, Int32.reduceLT, y_nxK, y_nxL, y_nxR, y_sJK, y_sJL, y_sJR, y_sJN, y_sRK, y_sRL, y_sRN, Nat.add_zero, z_nat, z_lit, z_lit0, z_lit1, z_in0, z_in1, z_addl0, z_lt, z_ltl, z_llt, z_inj, z_injl, z_add, z_addl, z_ladd, z_mul, z_mull, z_lmul, z_neg, z_negl, z_in, z_inl, z_ltT, z_ltF, z_eqF, z_10, z_01, z_litne, z_ne0, z_0ne, z_ne1, z_1ne, z_lt64, z_02, z_03, z_04, z_05, z_12, z_13, z_14, z_15, z_20, z_21, z_23, z_24, z_25, z_30, z_31, z_32, z_34, z_35, z_40, z_41, z_42, z_43, z_45, z_50, z_51, z_52, z_53, z_54]
  obtain ⟨B2, i2, a, c, e, f, g'⟩ := key
  exact ⟨B2, i2, a, c, e, f, fun q k hq => (g' q k hq).trans (((hf q k (by omega) (by omega)).trans (jf q k (by omega) (by omega) (by omega))).trans (y_up2 (by omega)))⟩

theorem k_fit (h : Sim B i σ) (hs : Sc B i L j) (hO : am_K B 892 = 22 ∧ am_L B 892 = 1) : Stq B i d 1466 j := by
  have hc := h.2.2.1.1.2.2.2.1
  have h8 := hc.2
  by_cases g : ¬ i 0 (j + 1) < 0 ∧ i 0 (j + 1) < σ.1 2621
  rotate_left
  · exact kx_18_1 h hs hO (f_fit_x0 (d := d + 48) h.1 g) fun B0 i0 h0 => m_fit_x0 (d := d + 49) h0 hc g
  obtain ⟨p, e, hp⟩ := nat_ck hc (by omega) g
  obtain ⟨b0, b1, b3, b4, b5, b6, b7, b8, b9⟩ := h.2.2.1.2.2.2.2.1.1 p hp (by omega)
  have n8 := b8.2
  by_cases gn : ¬ i 0 (j + 2) < 0 ∧ i 0 (j + 2) < σ.1 (2622 + 49 * p + 8)
  rotate_left
  · exact kx_18_1 h hs hO (by rw [e]; exact f_fit_x1 (d := d + 48) h.1 h.2.2.1 hp gn) fun B0 i0 h0 => by rw [e]; exact m_fit_x1 (d := d + 49) h0 h.2.2.1 hp gn
  obtain ⟨n, e2, hq⟩ := nat_ck b8 (by omega) gn
  have h46 := h.2.2.1.1.2.2.1
  have h120 := h46.2
  by_cases gp : ¬ i 0 (j + 3) < 0 ∧ i 0 (j + 3) < σ.1 460
  rotate_left
  · exact kx_18_1 h hs hO (by rw [e, e2]; exact f_fit_x2 (d := d + 48) h.1 h.2.2.1 hp hq gp) fun B0 i0 h0 => by rw [e, e2]; exact m_fit_x2 (d := d + 49) h0 h.2.2.1 hp hq gp
  obtain ⟨r, e3, hr⟩ := nat_ck h46 (by omega) gp
  by_cases go : σ.1 (2622 + 49 * p) = 1 ∨ σ.1 (2622 + 49 * p) = 3
  rotate_left
  · exact kk_18 h hs hO h.2.2 (by rw [e, e2, e3]; exact f_fitA (d := d + 48) h.1 h.2.2.1 hp hq hr go) fun B0 i0 h0 => by rw [e, e2, e3]; exact m_fitA (d := d + 49) h0 h.2.2.1 hp hq hr go
  by_cases ge : σ.1 (2622 + 49 * p + 9 + 5 * n + 4) = -1
  rotate_left
  · exact kk_18 h hs hO h.2.2 (by rw [e, e2, e3]; exact f_fitB (d := d + 48) h.1 h.2.2.1 hp hq hr go ge) fun B0 i0 h0 => by rw [e, e2, e3]; exact m_fitB (d := d + 49) h0 h.2.2.1 hp hq hr go ge
  by_cases gs : σ.1 (461 + 18 * r + 1) = 2
  rotate_left
  · exact kk_18 h hs hO h.2.2 (by rw [e, e2, e3]; exact f_fitC (d := d + 48) h.1 h.2.2.1 hp hq hr go ge gs) fun B0 i0 h0 => by rw [e, e2, e3]; exact m_fitC (d := d + 49) h0 h.2.2.1 hp hq hr go ge gs
  by_cases gw : eno σ.1 p n r
  rotate_left
  · exact kk_18 h hs hO h.2.2 (by rw [e, e2, e3]; exact f_fitD (d := d + 48) h.1 h.2.2.1 hp hq hr go ge gs gw) fun B0 i0 h0 => by rw [e, e2, e3]; exact m_fitD (d := d + 49) h0 h.2.2.1 hp hq hr go ge gs gw
  by_cases gv : whT σ.1 r p (txi σ.1 (σ.1 0) (cn σ.1 3541)) = -1
  · by_cases gy : bt (i 0 (j + 4)) = 0
    · exact kk_18 h hs hO h.2.2 (by rw [e, e2, e3]; exact f_fitE (d := d + 48) h.1 h.2.2.1 hp hq hr go ge gs gw gv gy) fun B0 i0 h0 => by rw [e, e2, e3]; exact m_fitE (d := d + 49) h0 h.2.2.1 hp hq hr go ge gs gw gv gy
    · exact kk_18 (σ' := ((wu (wu (wu (wu (wu σ.1 (2622 + 49 * p + 9 + 5 * n + 4) (Int32.ofNat r)) (461 + 18 * r + 1) 3) (461 + 18 * r + 11) (Int32.ofNat p)) (461 + 18 * r + 12) (Int32.ofNat n)) (461 + 18 * r + 13) 1), σ.1, σ.2.2.1, true, σ.2.2.2.2)) h hs hO ⟨(show Wd (wu (wu (wu (wu (wu σ.1 (2622 + 49 * p + 9 + 5 * n + 4) (Int32.ofNat r)) (461 + 18 * r + 1) 3) (461 + 18 * r + 11) (Int32.ofNat p)) (461 + 18 * r + 12) (Int32.ofNat n)) (461 + 18 * r + 13) 1) from Wd_fit h.2.2.1 hp (by omega) hq (by omega) hr (by omega) gs (by decide)), fun _ => h.2.2.1, h.2.2.2.2.1, h.2.2.2.2.2⟩ (by rw [e, e2, e3]; exact f_fitZ (d := d + 48) h.1 h.2.2.1 hp hq hr go ge gs gw gv gy) fun B0 i0 h0 => by rw [e, e2, e3]; exact m_fitZ (d := d + 49) h0 h.2.2.1 hp hq hr go ge gs gw gv gy
  · exact kk_18 (σ' := ((wu (wu (wu (wu (wu σ.1 (2622 + 49 * p + 9 + 5 * n + 4) (Int32.ofNat r)) (461 + 18 * r + 1) 3) (461 + 18 * r + 11) (Int32.ofNat p)) (461 + 18 * r + 12) (Int32.ofNat n)) (461 + 18 * r + 13) 0), σ.1, σ.2.2.1, true, σ.2.2.2.2)) h hs hO ⟨(show Wd (wu (wu (wu (wu (wu σ.1 (2622 + 49 * p + 9 + 5 * n + 4) (Int32.ofNat r)) (461 + 18 * r + 1) 3) (461 + 18 * r + 11) (Int32.ofNat p)) (461 + 18 * r + 12) (Int32.ofNat n)) (461 + 18 * r + 13) 0) from Wd_fit h.2.2.1 hp (by omega) hq (by omega) hr (by omega) gs (by decide)), fun _ => h.2.2.1, h.2.2.2.2.1, h.2.2.2.2.2⟩ (by rw [e, e2, e3]; exact f_fitY (d := d + 48) h.1 h.2.2.1 hp hq hr go ge gs gw gv) fun B0 i0 h0 => by rw [e, e2, e3]; exact m_fitY (d := d + 49) h0 h.2.2.1 hp hq hr go ge gs gw gv
end Fit
