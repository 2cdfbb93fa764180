/-! THE PIECES' DAY IN THE MODEL: made by wip/whole/math/908.py. -/
section Mday
variable {B : am_A} {i j : Nat → Nat → Int32} {w v : Nat → Int32} {d b q n p : Nat} {x y z D pl sp r : Int32}
theorem mn_r0 (h : ¬ r < 0 ∧ r < 101) : mn 100 (r + 0) = r := by
  obtain ⟨R, e, hR⟩ := z_lk 101 (by omega) h.1 h.2
  rw [Int32.add_zero, e]
  by_cases g : Int32.ofNat R < 100
  · exact if_pos g
  · rw [show mn 100 (Int32.ofNat R) = 100 from if_neg g]
    rw [show (100 : Int32) = Int32.ofNat 100 from rfl, z_lt (by omega) (by omega)] at g
    rw [show R = 100 by omega]
    rfl
theorem m_rots (hM : Md B) (hp : p < 120) (e7 : i 875 (461 + 18 * p + 7) = r) : am_fx am_P (d + 2) 115 0 [some (.ref 874), some (.int (Int32.ofNat p)), some (.int x)] [] (am_wI B i) = some (.inl none, am_wI B (am_up2 i 875 (461 + 18 * p + 7) (mn 100 (r + x)))) := by
  rw [bk_115_0]
  by_cases g : r + x < 100
  · rw [show mn 100 (r + x) = r + x from if_pos g]
    simp (disch := omega) only [bk_24_0, bk_23_0, bk_25_0, bk_0_0, e7, g, hM, y_ckd, y_ck2d, y_ond, y_onn, y_oI, y_oIx, y_oJ, y_oV, y_oVx, y_oR, y_oRn, y_oRx, y_b0, y_b1, y_bi, y_bid, y_wIK, y_wIL, y_wII, y_wIJ, y_wIR, y_wIN, y_wIw, y_sI, ↓reduceIte, Nat.reduceEqDiff, eq_self, true_or, or_true, false_or, or_false, and_true, true_and, false_and, and_false, not_true, not_false_eq_true, tf_T, tf_F, y_up1, y_up2, y_xx, y_nx, y_sJ, y_sR, Int32.reduceLT, y_nxK, y_nxL, y_nxR, y_sJK, y_sJL, y_sJR, y_sJN, y_sRK, y_sRL, y_sRN, Nat.add_zero, z_nat, z_lit, z_lit0, z_lit1, z_in0, z_in1, z_addl0, z_lt, z_ltl, z_llt, z_inj, z_injl, z_add, z_addl, z_ladd, z_mul, z_mull, z_lmul, z_neg, z_negl, z_in, z_inl, z_ltT, z_ltF, z_eqF, z_10, z_01, z_litne, z_ne0, z_0ne, z_ne1, z_1ne, z_lt64, z_02, z_03, z_04, z_05, z_12, z_13, z_14, z_15, z_20, z_21, z_23, z_24, z_25, z_30, z_31, z_32, z_34, z_35, z_40, z_41, z_42, z_43, z_45, z_50, z_51, z_52, z_53, z_54]
  · rw [show mn 100 (r + x) = 100 from if_neg g]
    simp (disch := omega) only [bk_24_0, bk_23_0, bk_25_0, bk_0_0, e7, g, hM, y_ckd, y_ck2d, y_ond, y_onn, y_oI, y_oIx, y_oJ, y_oV, y_oVx, y_oR, y_oRn, y_oRx, y_b0, y_b1, y_bi, y_bid, y_wIK, y_wIL, y_wII, y_wIJ, y_wIR, y_wIN, y_wIw, y_sI, ↓reduceIte, Nat.reduceEqDiff, eq_self, true_or, or_true, false_or, or_false, and_true, true_and, false_and, and_false, not_true, not_false_eq_true, tf_T, tf_F, y_up1, y_up2, y_xx, y_nx, y_sJ, y_sR, Int32.reduceLT, y_nxK, y_nxL, y_nxR, y_sJK, y_sJL, y_sJR, y_sJN, y_sRK, y_sRL, y_sRN, Nat.add_zero, z_nat, z_lit, z_lit0, z_lit1, z_in0, z_in1, z_addl0, z_lt, z_ltl, z_llt, z_inj, z_injl, z_add, z_addl, z_ladd, z_mul, z_mull, z_lmul, z_neg, z_negl, z_in, z_inl, z_ltT, z_ltF, z_eqF, z_10, z_01, z_litne, z_ne0, z_0ne, z_ne1, z_1ne, z_lt64, z_02, z_03, z_04, z_05, z_12, z_13, z_14, z_15, z_20, z_21, z_23, z_24, z_25, z_30, z_31, z_32, z_34, z_35, z_40, z_41, z_42, z_43, z_45, z_50, z_51, z_52, z_53, z_54]
theorem m_a223 (hM : Md B) (hp : p < 120) (e7 : i 875 (461 + 18 * p + 7) = r) (e1 : i 875 (461 + 18 * p + 1) = pl) : ∃ j, am_fx am_P (d + 3) 116 223 [some (.ref 874), some (.int (Int32.ofNat p)), none, some (.int pl), none, none] [] (am_wI B i) = some (.inl none, am_wI B j) ∧ j 875 (461 + 18 * p + 1) = (if r = 100 then (if pl = 3 then 3 else 6) else pl) ∧ (∀ z, z ≠ 461 + 18 * p + 1 → j 875 z = i 875 z) ∧ ∀ q z, q ≠ 875 → j q z = i q z := by
  by_cases g3 : pl = 3
  · refine ⟨i, ?_, ?_, fun _ _ => rfl, fun _ _ _ => rfl⟩
    · rw [bk_116_223, if_pos g3]
    · rw [e1, if_pos g3, g3]
      split <;> rfl
  · by_cases g : r = 100
    · refine ⟨am_up2 i 875 (461 + 18 * p + 1) 6, ?_, ?_, fun z hz => y_up2 (by omega), fun q z hq => y_up2 (by omega)⟩
      · rw [bk_116_223]
        simp (disch := omega) only [bk_24_0, bk_23_0, bk_25_0, e7, g, g3, hM, y_ckd, y_ck2d, y_ond, y_onn, y_oI, y_oIx, y_oJ, y_oV, y_oVx, y_oR, y_oRn, y_oRx, y_b0, y_b1, y_bi, y_bid, y_wIK, y_wIL, y_wII, y_wIJ, y_wIR, y_wIN, y_wIw, y_sI, ↓reduceIte, Nat.reduceEqDiff, eq_self, true_or, or_true, false_or, or_false, and_true, true_and, false_and, and_false, not_true, not_false_eq_true, tf_T, tf_F, y_up1, y_up2, y_xx, y_nx, y_sJ, y_sR, Int32.reduceLT, y_nxK, y_nxL, y_nxR, y_sJK, y_sJL, y_sJR, y_sJN, y_sRK, y_sRL, y_sRN, Nat.add_zero, z_nat, z_lit, z_lit0, z_lit1, z_in0, z_in1, z_addl0, z_lt, z_ltl, z_llt, z_inj, z_injl, z_add, z_addl, z_ladd, z_mul, z_mull, z_lmul, z_neg, z_negl, z_in, z_inl, z_ltT, z_ltF, z_eqF, z_10, z_01, z_litne, z_ne0, z_0ne, z_ne1, z_1ne, z_lt64, z_02, z_03, z_04, z_05, z_12, z_13, z_14, z_15, z_20, z_21, z_23, z_24, z_25, z_30, z_31, z_32, z_34, z_35, z_40, z_41, z_42, z_43, z_45, z_50, z_51, z_52, z_53, z_54]
      · rw [if_pos g, if_neg g3, y_up1 rfl rfl]
    · refine ⟨i, ?_, ?_, fun _ _ => rfl, fun _ _ _ => rfl⟩
      · rw [bk_116_223]
        simp (disch := omega) only [bk_24_0, bk_23_0, bk_25_0, e7, g, g3, hM, y_ckd, y_ck2d, y_ond, y_onn, y_oI, y_oIx, y_oJ, y_oV, y_oVx, y_oR, y_oRn, y_oRx, y_b0, y_b1, y_bi, y_bid, y_wIK, y_wIL, y_wII, y_wIJ, y_wIR, y_wIN, y_wIw, y_sI, ↓reduceIte, Nat.reduceEqDiff, eq_self, true_or, or_true, false_or, or_false, and_true, true_and, false_and, and_false, not_true, not_false_eq_true, tf_T, tf_F, y_up1, y_up2, y_xx, y_nx, y_sJ, y_sR, Int32.reduceLT, y_nxK, y_nxL, y_nxR, y_sJK, y_sJL, y_sJR, y_sJN, y_sRK, y_sRL, y_sRN, Nat.add_zero, z_nat, z_lit, z_lit0, z_lit1, z_in0, z_in1, z_addl0, z_lt, z_ltl, z_llt, z_inj, z_injl, z_add, z_addl, z_ladd, z_mul, z_mull, z_lmul, z_neg, z_negl, z_in, z_inl, z_ltT, z_ltF, z_eqF, z_10, z_01, z_litne, z_ne0, z_0ne, z_ne1, z_1ne, z_lt64, z_02, z_03, z_04, z_05, z_12, z_13, z_14, z_15, z_20, z_21, z_23, z_24, z_25, z_30, z_31, z_32, z_34, z_35, z_40, z_41, z_42, z_43, z_45, z_50, z_51, z_52, z_53, z_54]
      · rw [e1, if_neg g]
theorem m_a86s (hM : Md B) (hp : p < 120) (e5 : i 875 (461 + 18 * p + 5) = sp) (e6 : i 875 (461 + 18 * p + 6) = y) (e7 : i 875 (461 + 18 * p + 7) = r) (h5 : ¬ sp < 0 ∧ sp < 3) (h7 : ¬ r < 0 ∧ r < 101) : ∃ j, am_fx am_P (d + 3) 116 86 [some (.ref 874), some (.int (Int32.ofNat p)), some (.int D), some (.int pl), none, none] [] (am_wI B i) = am_fx am_P (d + 3) 116 223 [some (.ref 874), some (.int (Int32.ofNat p)), none, some (.int pl), none, none] [] (am_wI B j) ∧ j 875 (461 + 18 * p + 6) = (if pl = 2 then y + 1 else y) ∧ j 875 (461 + 18 * p + 7) = mn 100 (r + dRt D pl sp (if pl = 2 then y + 1 else y)) ∧ (∀ z, z ≠ 461 + 18 * p + 6 → z ≠ 461 + 18 * p + 7 → j 875 z = i 875 z) ∧ ∀ q z, q ≠ 875 → j q z = i q z := by
  have n10 : ∀ {r : am_X}, am_nz 10 r = r := y_nz (by decide)
  have n5 : ∀ {r : am_X}, am_nz 5 r = r := y_nz (by decide)
  have n20 : ∀ {r : am_X}, am_nz 20 r = r := y_nz (by decide)
  have hrot := fun (i : Nat → Nat → Int32) (r x : Int32) (e : i 875 (461 + 18 * p + 7) = r) => m_rots (B := B) (d := d) (x := x) hM hp e
  unfold dRt
  by_cases g2 : pl = 2
  · rw [if_pos g2, if_pos g2]
    by_cases g : D - D / 10 * 10 = 0
    · rw [if_pos g]
      by_cases g3 : y + 1 < 90
      · refine ⟨am_up2 (am_up2 i 875 (461 + 18 * p + 6) (y + 1)) 875 (461 + 18 * p + 7) (mn 100 (r + 1)), ?_, ?_, ?_, fun z h1 h2 => ?_, fun q z h => ?_⟩
        · rw [bk_116_86]
          have hr := hrot (am_up2 i 875 (461 + 18 * p + 6) (y + 1)) r 1 (by rw [y_up2 (by omega)]; exact e7)
          simp (disch := omega) only [bk_24_0, bk_23_0, bk_25_0, bk_116_132, e6, g, g2, g3, n10, hr, hM, y_ckd, y_ck2d, y_ond, y_onn, y_oI, y_oIx, y_oJ, y_oV, y_oVx, y_oR, y_oRn, y_oRx, y_b0, y_b1, y_bi, y_bid, y_wIK, y_wIL, y_wII, y_wIJ, y_wIR, y_wIN, y_wIw, y_sI, ↓reduceIte, Nat.reduceEqDiff, eq_self, true_or, or_true, false_or, or_false, and_true, true_and, false_and, and_false, not_true, not_false_eq_true, tf_T, tf_F, y_up1, y_up2, y_xx, y_nx, y_sJ, y_sR, Int32.reduceLT, y_nxK, y_nxL, y_nxR, y_sJK, y_sJL, y_sJR, y_sJN, y_sRK, y_sRL, y_sRN, Nat.add_zero, z_nat, z_lit, z_lit0, z_lit1, z_in0, z_in1, z_addl0, z_lt, z_ltl, z_llt, z_inj, z_injl, z_add, z_addl, z_ladd, z_mul, z_mull, z_lmul, z_neg, z_negl, z_in, z_inl, z_ltT, z_ltF, z_eqF, z_10, z_01, z_litne, z_ne0, z_0ne, z_ne1, z_1ne, z_lt64, z_02, z_03, z_04, z_05, z_12, z_13, z_14, z_15, z_20, z_21, z_23, z_24, z_25, z_30, z_31, z_32, z_34, z_35, z_40, z_41, z_42, z_43, z_45, z_50, z_51, z_52, z_53, z_54]
        · rw [y_up2 (by omega), y_up1 rfl rfl]
        · rw [if_pos g3, y_up1 rfl rfl]
        · rw [y_up2 (by omega), y_up2 (by omega)]
        · rw [y_up2 (by omega), y_up2 (by omega)]
      · refine ⟨am_up2 i 875 (461 + 18 * p + 6) (y + 1), ?_, ?_, ?_, fun z h1 h2 => ?_, fun q z h => ?_⟩
        · rw [bk_116_86]
          simp (disch := omega) only [bk_24_0, bk_23_0, bk_25_0, e6, g, g2, g3, n10, hM, y_ckd, y_ck2d, y_ond, y_onn, y_oI, y_oIx, y_oJ, y_oV, y_oVx, y_oR, y_oRn, y_oRx, y_b0, y_b1, y_bi, y_bid, y_wIK, y_wIL, y_wII, y_wIJ, y_wIR, y_wIN, y_wIw, y_sI, ↓reduceIte, Nat.reduceEqDiff, eq_self, true_or, or_true, false_or, or_false, and_true, true_and, false_and, and_false, not_true, not_false_eq_true, tf_T, tf_F, y_up1, y_up2, y_xx, y_nx, y_sJ, y_sR, Int32.reduceLT, y_nxK, y_nxL, y_nxR, y_sJK, y_sJL, y_sJR, y_sJN, y_sRK, y_sRL, y_sRN, Nat.add_zero, z_nat, z_lit, z_lit0, z_lit1, z_in0, z_in1, z_addl0, z_lt, z_ltl, z_llt, z_inj, z_injl, z_add, z_addl, z_ladd, z_mul, z_mull, z_lmul, z_neg, z_negl, z_in, z_inl, z_ltT, z_ltF, z_eqF, z_10, z_01, z_litne, z_ne0, z_0ne, z_ne1, z_1ne, z_lt64, z_02, z_03, z_04, z_05, z_12, z_13, z_14, z_15, z_20, z_21, z_23, z_24, z_25, z_30, z_31, z_32, z_34, z_35, z_40, z_41, z_42, z_43, z_45, z_50, z_51, z_52, z_53, z_54]
        · rw [y_up1 rfl rfl]
        · rw [if_neg g3, y_up2 (by omega), mn_r0 h7, e7]
        · rw [y_up2 (by omega)]
        · rw [y_up2 (by omega)]
    · rw [if_neg g]
      refine ⟨am_up2 i 875 (461 + 18 * p + 6) (y + 1), ?_, ?_, ?_, fun z h1 h2 => ?_, fun q z h => ?_⟩
      · rw [bk_116_86]
        simp (disch := omega) only [bk_24_0, bk_23_0, bk_25_0, e6, g, g2, n10, hM, y_ckd, y_ck2d, y_ond, y_onn, y_oI, y_oIx, y_oJ, y_oV, y_oVx, y_oR, y_oRn, y_oRx, y_b0, y_b1, y_bi, y_bid, y_wIK, y_wIL, y_wII, y_wIJ, y_wIR, y_wIN, y_wIw, y_sI, ↓reduceIte, Nat.reduceEqDiff, eq_self, true_or, or_true, false_or, or_false, and_true, true_and, false_and, and_false, not_true, not_false_eq_true, tf_T, tf_F, y_up1, y_up2, y_xx, y_nx, y_sJ, y_sR, Int32.reduceLT, y_nxK, y_nxL, y_nxR, y_sJK, y_sJL, y_sJR, y_sJN, y_sRK, y_sRL, y_sRN, Nat.add_zero, z_nat, z_lit, z_lit0, z_lit1, z_in0, z_in1, z_addl0, z_lt, z_ltl, z_llt, z_inj, z_injl, z_add, z_addl, z_ladd, z_mul, z_mull, z_lmul, z_neg, z_negl, z_in, z_inl, z_ltT, z_ltF, z_eqF, z_10, z_01, z_litne, z_ne0, z_0ne, z_ne1, z_1ne, z_lt64, z_02, z_03, z_04, z_05, z_12, z_13, z_14, z_15, z_20, z_21, z_23, z_24, z_25, z_30, z_31, z_32, z_34, z_35, z_40, z_41, z_42, z_43, z_45, z_50, z_51, z_52, z_53, z_54]
      · rw [y_up1 rfl rfl]
      · rw [y_up2 (by omega), mn_r0 h7, e7]
      · rw [y_up2 (by omega)]
      · rw [y_up2 (by omega)]
  · rw [if_neg g2, if_neg g2]
    have hno : am_fx am_P (d + 3) 116 86 [some (.ref 874), some (.int (Int32.ofNat p)), some (.int D), some (.int pl), none, none] [] (am_wI B i) = am_fx am_P (d + 3) 116 223 [some (.ref 874), some (.int (Int32.ofNat p)), none, some (.int pl), none, none] [] (am_wI B i) → ∃ j, am_fx am_P (d + 3) 116 86 [some (.ref 874), some (.int (Int32.ofNat p)), some (.int D), some (.int pl), none, none] [] (am_wI B i) = am_fx am_P (d + 3) 116 223 [some (.ref 874), some (.int (Int32.ofNat p)), none, some (.int pl), none, none] [] (am_wI B j) ∧ j 875 (461 + 18 * p + 6) = y ∧ j 875 (461 + 18 * p + 7) = mn 100 (r + 0) ∧ (∀ z, z ≠ 461 + 18 * p + 6 → z ≠ 461 + 18 * p + 7 → j 875 z = i 875 z) ∧ ∀ q z, q ≠ 875 → j q z = i q z := fun h => ⟨i, h, e6, by rw [mn_r0 h7, e7], fun _ _ _ => rfl, fun _ _ _ => rfl⟩
    have hone : am_fx am_P (d + 3) 116 86 [some (.ref 874), some (.int (Int32.ofNat p)), some (.int D), some (.int pl), none, none] [] (am_wI B i) = am_fx am_P (d + 3) 116 223 [some (.ref 874), some (.int (Int32.ofNat p)), none, some (.int pl), none, none] [] (am_wI B (am_up2 i 875 (461 + 18 * p + 7) (mn 100 (r + 1)))) → ∃ j, am_fx am_P (d + 3) 116 86 [some (.ref 874), some (.int (Int32.ofNat p)), some (.int D), some (.int pl), none, none] [] (am_wI B i) = am_fx am_P (d + 3) 116 223 [some (.ref 874), some (.int (Int32.ofNat p)), none, some (.int pl), none, none] [] (am_wI B j) ∧ j 875 (461 + 18 * p + 6) = y ∧ j 875 (461 + 18 * p + 7) = mn 100 (r + 1) ∧ (∀ z, z ≠ 461 + 18 * p + 6 → z ≠ 461 + 18 * p + 7 → j 875 z = i 875 z) ∧ ∀ q z, q ≠ 875 → j q z = i q z := fun h => ⟨_, h, by rw [y_up2 (by omega)]; exact e6, y_up1 rfl rfl, fun z h1 h2 => y_up2 (by omega), fun q z h => y_up2 (by omega)⟩
    have hr := hrot i r 1 e7
    by_cases g1 : pl = 1
    · rw [if_pos g1]
      by_cases s2 : sp = 2
      · by_cases g : D - D / 5 * 5 = 0
        · rw [if_pos g, if_pos s2]
          refine hone ?_
          rw [bk_116_86]
          simp (disch := omega) only [bk_24_0, bk_23_0, bk_25_0, e5, g, g1, s2, n5, hr, hM, y_ckd, y_ck2d, y_ond, y_onn, y_oI, y_oIx, y_oJ, y_oV, y_oVx, y_oR, y_oRn, y_oRx, y_b0, y_b1, y_bi, y_bid, y_wIK, y_wIL, y_wII, y_wIJ, y_wIR, y_wIN, y_wIw, y_sI, ↓reduceIte, Nat.reduceEqDiff, eq_self, true_or, or_true, false_or, or_false, and_true, true_and, false_and, and_false, not_true, not_false_eq_true, tf_T, tf_F, y_up1, y_up2, y_xx, y_nx, y_sJ, y_sR, Int32.reduceLT, y_nxK, y_nxL, y_nxR, y_sJK, y_sJL, y_sJR, y_sJN, y_sRK, y_sRL, y_sRN, Nat.add_zero, z_nat, z_lit, z_lit0, z_lit1, z_in0, z_in1, z_addl0, z_lt, z_ltl, z_llt, z_inj, z_injl, z_add, z_addl, z_ladd, z_mul, z_mull, z_lmul, z_neg, z_negl, z_in, z_inl, z_ltT, z_ltF, z_eqF, z_10, z_01, z_litne, z_ne0, z_0ne, z_ne1, z_1ne, z_lt64, z_02, z_03, z_04, z_05, z_12, z_13, z_14, z_15, z_20, z_21, z_23, z_24, z_25, z_30, z_31, z_32, z_34, z_35, z_40, z_41, z_42, z_43, z_45, z_50, z_51, z_52, z_53, z_54]
        · rw [if_neg g]
          refine hno ?_
          rw [bk_116_86]
          simp (disch := omega) only [bk_24_0, bk_23_0, bk_25_0, e5, g, g1, s2, n5, hM, y_ckd, y_ck2d, y_ond, y_onn, y_oI, y_oIx, y_oJ, y_oV, y_oVx, y_oR, y_oRn, y_oRx, y_b0, y_b1, y_bi, y_bid, y_wIK, y_wIL, y_wII, y_wIJ, y_wIR, y_wIN, y_wIw, y_sI, ↓reduceIte, Nat.reduceEqDiff, eq_self, true_or, or_true, false_or, or_false, and_true, true_and, false_and, and_false, not_true, not_false_eq_true, tf_T, tf_F, y_up1, y_up2, y_xx, y_nx, y_sJ, y_sR, Int32.reduceLT, y_nxK, y_nxL, y_nxR, y_sJK, y_sJL, y_sJR, y_sJN, y_sRK, y_sRL, y_sRN, Nat.add_zero, z_nat, z_lit, z_lit0, z_lit1, z_in0, z_in1, z_addl0, z_lt, z_ltl, z_llt, z_inj, z_injl, z_add, z_addl, z_ladd, z_mul, z_mull, z_lmul, z_neg, z_negl, z_in, z_inl, z_ltT, z_ltF, z_eqF, z_10, z_01, z_litne, z_ne0, z_0ne, z_ne1, z_1ne, z_lt64, z_02, z_03, z_04, z_05, z_12, z_13, z_14, z_15, z_20, z_21, z_23, z_24, z_25, z_30, z_31, z_32, z_34, z_35, z_40, z_41, z_42, z_43, z_45, z_50, z_51, z_52, z_53, z_54]
      · have e0 : (if D - D / 5 * 5 = 0 then (if sp = 2 then (1 : Int32) else 0) else 0) = 0 := by rw [if_neg s2]; split <;> rfl
        rw [e0]
        refine hno ?_
        rw [bk_116_86]
        simp (disch := omega) only [bk_24_0, bk_23_0, bk_25_0, e5, g1, s2, hM, y_ckd, y_ck2d, y_ond, y_onn, y_oI, y_oIx, y_oJ, y_oV, y_oVx, y_oR, y_oRn, y_oRx, y_b0, y_b1, y_bi, y_bid, y_wIK, y_wIL, y_wII, y_wIJ, y_wIR, y_wIN, y_wIw, y_sI, ↓reduceIte, Nat.reduceEqDiff, eq_self, true_or, or_true, false_or, or_false, and_true, true_and, false_and, and_false, not_true, not_false_eq_true, tf_T, tf_F, y_up1, y_up2, y_xx, y_nx, y_sJ, y_sR, Int32.reduceLT, y_nxK, y_nxL, y_nxR, y_sJK, y_sJL, y_sJR, y_sJN, y_sRK, y_sRL, y_sRN, Nat.add_zero, z_nat, z_lit, z_lit0, z_lit1, z_in0, z_in1, z_addl0, z_lt, z_ltl, z_llt, z_inj, z_injl, z_add, z_addl, z_ladd, z_mul, z_mull, z_lmul, z_neg, z_negl, z_in, z_inl, z_ltT, z_ltF, z_eqF, z_10, z_01, z_litne, z_ne0, z_0ne, z_ne1, z_1ne, z_lt64, z_02, z_03, z_04, z_05, z_12, z_13, z_14, z_15, z_20, z_21, z_23, z_24, z_25, z_30, z_31, z_32, z_34, z_35, z_40, z_41, z_42, z_43, z_45, z_50, z_51, z_52, z_53, z_54]
    · rw [if_neg g1]
      have hend : ∀ W : Int32, am_fx am_P (d + 3) 116 86 [some (.ref 874), some (.int (Int32.ofNat p)), some (.int D), some (.int pl), none, none] [] (am_wI B i) = am_fx am_P (d + 3) 116 196 [some (.ref 874), some (.int (Int32.ofNat p)), some (.int D), some (.int pl), none, none] [.int W] (am_wI B i) → (if sp = 0 then 100 else if sp = 2 then 40 else 60) = W → ∃ j, am_fx am_P (d + 3) 116 86 [some (.ref 874), some (.int (Int32.ofNat p)), some (.int D), some (.int pl), none, none] [] (am_wI B i) = am_fx am_P (d + 3) 116 223 [some (.ref 874), some (.int (Int32.ofNat p)), none, some (.int pl), none, none] [] (am_wI B j) ∧ j 875 (461 + 18 * p + 6) = y ∧ j 875 (461 + 18 * p + 7) = mn 100 (r + if D - D / 20 * 20 = 0 then 1 else if y < (if sp = 0 then 100 else if sp = 2 then 40 else 60) then 1 else 0) ∧ (∀ z, z ≠ 461 + 18 * p + 6 → z ≠ 461 + 18 * p + 7 → j 875 z = i 875 z) ∧ ∀ q z, q ≠ 875 → j q z = i q z := by
        intro W hW eW
        rw [eW]
        by_cases gy : y < W
        · have e1 : (if D - D / 20 * 20 = 0 then (1 : Int32) else if y < W then 1 else 0) = 1 := by rw [if_pos gy]; split <;> rfl
          rw [e1]
          refine hone (hW.trans ?_)
          rw [bk_116_196]
          simp (disch := omega) only [bk_24_0, bk_23_0, bk_116_217, e6, gy, hr, hM, y_ckd, y_ck2d, y_ond, y_onn, y_oI, y_oIx, y_oJ, y_oV, y_oVx, y_oR, y_oRn, y_oRx, y_b0, y_b1, y_bi, y_bid, y_wIK, y_wIL, y_wII, y_wIJ, y_wIR, y_wIN, y_wIw, y_sI, ↓reduceIte, Nat.reduceEqDiff, eq_self, true_or, or_true, false_or, or_false, and_true, true_and, false_and, and_false, not_true, not_false_eq_true, tf_T, tf_F, y_up1, y_up2, y_xx, y_nx, y_sJ, y_sR, Int32.reduceLT, y_nxK, y_nxL, y_nxR, y_sJK, y_sJL, y_sJR, y_sJN, y_sRK, y_sRL, y_sRN, Nat.add_zero, z_nat, z_lit, z_lit0, z_lit1, z_in0, z_in1, z_addl0, z_lt, z_ltl, z_llt, z_inj, z_injl, z_add, z_addl, z_ladd, z_mul, z_mull, z_lmul, z_neg, z_negl, z_in, z_inl, z_ltT, z_ltF, z_eqF, z_10, z_01, z_litne, z_ne0, z_0ne, z_ne1, z_1ne, z_lt64, z_02, z_03, z_04, z_05, z_12, z_13, z_14, z_15, z_20, z_21, z_23, z_24, z_25, z_30, z_31, z_32, z_34, z_35, z_40, z_41, z_42, z_43, z_45, z_50, z_51, z_52, z_53, z_54]
        · by_cases g : D - D / 20 * 20 = 0
          · rw [if_pos g]
            refine hone (hW.trans ?_)
            rw [bk_116_196]
            simp (disch := omega) only [bk_24_0, bk_23_0, bk_116_217, e6, gy, g, n20, hr, hM, y_ckd, y_ck2d, y_ond, y_onn, y_oI, y_oIx, y_oJ, y_oV, y_oVx, y_oR, y_oRn, y_oRx, y_b0, y_b1, y_bi, y_bid, y_wIK, y_wIL, y_wII, y_wIJ, y_wIR, y_wIN, y_wIw, y_sI, ↓reduceIte, Nat.reduceEqDiff, eq_self, true_or, or_true, false_or, or_false, and_true, true_and, false_and, and_false, not_true, not_false_eq_true, tf_T, tf_F, y_up1, y_up2, y_xx, y_nx, y_sJ, y_sR, Int32.reduceLT, y_nxK, y_nxL, y_nxR, y_sJK, y_sJL, y_sJR, y_sJN, y_sRK, y_sRL, y_sRN, Nat.add_zero, z_nat, z_lit, z_lit0, z_lit1, z_in0, z_in1, z_addl0, z_lt, z_ltl, z_llt, z_inj, z_injl, z_add, z_addl, z_ladd, z_mul, z_mull, z_lmul, z_neg, z_negl, z_in, z_inl, z_ltT, z_ltF, z_eqF, z_10, z_01, z_litne, z_ne0, z_0ne, z_ne1, z_1ne, z_lt64, z_02, z_03, z_04, z_05, z_12, z_13, z_14, z_15, z_20, z_21, z_23, z_24, z_25, z_30, z_31, z_32, z_34, z_35, z_40, z_41, z_42, z_43, z_45, z_50, z_51, z_52, z_53, z_54]
          · rw [if_neg g, if_neg gy]
            refine hno (hW.trans ?_)
            rw [bk_116_196]
            simp (disch := omega) only [bk_24_0, bk_23_0, bk_116_217, e6, gy, g, n20, hM, y_ckd, y_ck2d, y_ond, y_onn, y_oI, y_oIx, y_oJ, y_oV, y_oVx, y_oR, y_oRn, y_oRx, y_b0, y_b1, y_bi, y_bid, y_wIK, y_wIL, y_wII, y_wIJ, y_wIR, y_wIN, y_wIw, y_sI, ↓reduceIte, Nat.reduceEqDiff, eq_self, true_or, or_true, false_or, or_false, and_true, true_and, false_and, and_false, not_true, not_false_eq_true, tf_T, tf_F, y_up1, y_up2, y_xx, y_nx, y_sJ, y_sR, Int32.reduceLT, y_nxK, y_nxL, y_nxR, y_sJK, y_sJL, y_sJR, y_sJN, y_sRK, y_sRL, y_sRN, Nat.add_zero, z_nat, z_lit, z_lit0, z_lit1, z_in0, z_in1, z_addl0, z_lt, z_ltl, z_llt, z_inj, z_injl, z_add, z_addl, z_ladd, z_mul, z_mull, z_lmul, z_neg, z_negl, z_in, z_inl, z_ltT, z_ltF, z_eqF, z_10, z_01, z_litne, z_ne0, z_0ne, z_ne1, z_1ne, z_lt64, z_02, z_03, z_04, z_05, z_12, z_13, z_14, z_15, z_20, z_21, z_23, z_24, z_25, z_30, z_31, z_32, z_34, z_35, z_40, z_41, z_42, z_43, z_45, z_50, z_51, z_52, z_53, z_54]
      obtain ⟨S, eS, hS⟩ := z_lk 3 (by omega) h5.1 h5.2
      have hc : sp = 0 ∨ sp = 1 ∨ sp = 2 := by
        rw [eS]
        have : S = 0 ∨ S = 1 ∨ S = 2 := by omega
        rcases this with rfl | rfl | rfl
        · exact Or.inl rfl
        · exact Or.inr (Or.inl rfl)
        · exact Or.inr (Or.inr rfl)
      rcases hc with s | s | s
      · refine hend 100 ?_ (by rw [if_pos s])
        rw [bk_116_86]
        simp (disch := omega) only [bk_24_0, bk_23_0, bk_25_0, e5, g1, g2, s, hM, y_ckd, y_ck2d, y_ond, y_onn, y_oI, y_oIx, y_oJ, y_oV, y_oVx, y_oR, y_oRn, y_oRx, y_b0, y_b1, y_bi, y_bid, y_wIK, y_wIL, y_wII, y_wIJ, y_wIR, y_wIN, y_wIw, y_sI, ↓reduceIte, Nat.reduceEqDiff, eq_self, true_or, or_true, false_or, or_false, and_true, true_and, false_and, and_false, not_true, not_false_eq_true, tf_T, tf_F, y_up1, y_up2, y_xx, y_nx, y_sJ, y_sR, Int32.reduceLT, y_nxK, y_nxL, y_nxR, y_sJK, y_sJL, y_sJR, y_sJN, y_sRK, y_sRL, y_sRN, Nat.add_zero, z_nat, z_lit, z_lit0, z_lit1, z_in0, z_in1, z_addl0, z_lt, z_ltl, z_llt, z_inj, z_injl, z_add, z_addl, z_ladd, z_mul, z_mull, z_lmul, z_neg, z_negl, z_in, z_inl, z_ltT, z_ltF, z_eqF, z_10, z_01, z_litne, z_ne0, z_0ne, z_ne1, z_1ne, z_lt64, z_02, z_03, z_04, z_05, z_12, z_13, z_14, z_15, z_20, z_21, z_23, z_24, z_25, z_30, z_31, z_32, z_34, z_35, z_40, z_41, z_42, z_43, z_45, z_50, z_51, z_52, z_53, z_54]
      · refine hend 60 ?_ (by rw [s]; decide)
        rw [bk_116_86]
        simp (disch := omega) only [bk_24_0, bk_23_0, bk_25_0, e5, g1, g2, s, hM, y_ckd, y_ck2d, y_ond, y_onn, y_oI, y_oIx, y_oJ, y_oV, y_oVx, y_oR, y_oRn, y_oRx, y_b0, y_b1, y_bi, y_bid, y_wIK, y_wIL, y_wII, y_wIJ, y_wIR, y_wIN, y_wIw, y_sI, ↓reduceIte, Nat.reduceEqDiff, eq_self, true_or, or_true, false_or, or_false, and_true, true_and, false_and, and_false, not_true, not_false_eq_true, tf_T, tf_F, y_up1, y_up2, y_xx, y_nx, y_sJ, y_sR, Int32.reduceLT, y_nxK, y_nxL, y_nxR, y_sJK, y_sJL, y_sJR, y_sJN, y_sRK, y_sRL, y_sRN, Nat.add_zero, z_nat, z_lit, z_lit0, z_lit1, z_in0, z_in1, z_addl0, z_lt, z_ltl, z_llt, z_inj, z_injl, z_add, z_addl, z_ladd, z_mul, z_mull, z_lmul, z_neg, z_negl, z_in, z_inl, z_ltT, z_ltF, z_eqF, z_10, z_01, z_litne, z_ne0, z_0ne, z_ne1, z_1ne, z_lt64, z_02, z_03, z_04, z_05, z_12, z_13, z_14, z_15, z_20, z_21, z_23, z_24, z_25, z_30, z_31, z_32, z_34, z_35, z_40, z_41, z_42, z_43, z_45, z_50, z_51, z_52, z_53, z_54]
      · refine hend 40 ?_ (by rw [s]; decide)
        rw [bk_116_86]
        simp (disch := omega) only [bk_24_0, bk_23_0, bk_25_0, e5, g1, g2, s, hM, y_ckd, y_ck2d, y_ond, y_onn, y_oI, y_oIx, y_oJ, y_oV, y_oVx, y_oR, y_oRn, y_oRx, y_b0, y_b1, y_bi, y_bid, y_wIK, y_wIL, y_wII, y_wIJ, y_wIR, y_wIN, y_wIw, y_sI, ↓reduceIte, Nat.reduceEqDiff, eq_self, true_or, or_true, false_or, or_false, and_true, true_and, false_and, and_false, not_true, not_false_eq_true, tf_T, tf_F, y_up1, y_up2, y_xx, y_nx, y_sJ, y_sR, Int32.reduceLT, y_nxK, y_nxL, y_nxR, y_sJK, y_sJL, y_sJR, y_sJN, y_sRK, y_sRL, y_sRN, Nat.add_zero, z_nat, z_lit, z_lit0, z_lit1, z_in0, z_in1, z_addl0, z_lt, z_ltl, z_llt, z_inj, z_injl, z_add, z_addl, z_ladd, z_mul, z_mull, z_lmul, z_neg, z_negl, z_in, z_inl, z_ltT, z_ltF, z_eqF, z_10, z_01, z_litne, z_ne0, z_0ne, z_ne1, z_1ne, z_lt64, z_02, z_03, z_04, z_05, z_12, z_13, z_14, z_15, z_20, z_21, z_23, z_24, z_25, z_30, z_31, z_32, z_34, z_35, z_40, z_41, z_42, z_43, z_45, z_50, z_51, z_52, z_53, z_54]
theorem he_all : ∀ (R : Fin 101) (H : Fin 5), mn 100 (Int32.ofNat R.val + Int32.ofNat H.val) = Int32.ofNat R.val + mn (Int32.ofNat H.val) (100 - Int32.ofNat R.val) ∧ mn 0 (100 - Int32.ofNat R.val) = 0 ∧ ¬ (Int32.ofNat R.val + mn (Int32.ofNat H.val) (100 - Int32.ofNat R.val)) < 0 ∧ Int32.ofNat R.val + mn (Int32.ofNat H.val) (100 - Int32.ofNat R.val) < 101 := by decide +kernel
theorem z_abc {a c e : Int32} : a + (c + e) - c = a + e := by
  rw [Int32.add_comm c e, ← Int32.add_assoc, Int32.add_sub_cancel]
theorem m_ages (hM : Md B) (hw : ∀ z, z < 12042 → i 875 z = v z) (hp : p < 120) (hT : WdT v) (h39 : isc v 39 60) (h9 : v (461 + 18 * p + 9) = -1 ∨ ¬ v (461 + 18 * p + 9) < 0 ∧ v (461 + 18 * p + 9) < v 39) (h5 : ¬ v (461 + 18 * p + 5) < 0 ∧ v (461 + 18 * p + 5) < 3) (h7 : ¬ v (461 + 18 * p + 7) < 0 ∧ v (461 + 18 * p + 7) < 101) (hpl : v (461 + 18 * p + 1) = pl) : ∃ j, am_fx am_P (d + 3) 116 0 [some (.ref 874), some (.int (Int32.ofNat p)), none, none, none, none] [] (am_wI B i) = some (.inl none, am_wI B j) ∧ j 875 (461 + 18 * p + 6) = (if pl = 2 then v (461 + 18 * p + 6) + 1 else v (461 + 18 * p + 6)) ∧ j 875 (461 + 18 * p + 7) = mn 100 (v (461 + 18 * p + 7) + heP v p + dRt (v 0) pl (v (461 + 18 * p + 5)) (if pl = 2 then v (461 + 18 * p + 6) + 1 else v (461 + 18 * p + 6))) ∧ j 875 (461 + 18 * p + 15) = v (461 + 18 * p + 15) + heP v p ∧ j 875 (461 + 18 * p + 1) = (if mn 100 (v (461 + 18 * p + 7) + heP v p + dRt (v 0) pl (v (461 + 18 * p + 5)) (if pl = 2 then v (461 + 18 * p + 6) + 1 else v (461 + 18 * p + 6))) = 100 then (if pl = 3 then 3 else 6) else pl) ∧ (∀ z, z ≠ 461 + 18 * p + 1 → z ≠ 461 + 18 * p + 6 → z ≠ 461 + 18 * p + 7 → z ≠ 461 + 18 * p + 15 → j 875 z = i 875 z) ∧ ∀ q z, q ≠ 875 → j q z = i q z := by
  have n40 : ∀ {r : am_X}, am_nz 40 r = r := y_nz (by decide)
  have n2 : ∀ {r : am_X}, am_nz 2 r = r := y_nz (by decide)
  obtain ⟨R, eR, hR⟩ := z_lk 101 (by omega) h7.1 h7.2
  have h86 : ∃ i1, am_fx am_P (d + 3) 116 0 [some (.ref 874), some (.int (Int32.ofNat p)), none, none, none, none] [] (am_wI B i) = am_fx am_P (d + 3) 116 86 [some (.ref 874), some (.int (Int32.ofNat p)), some (.int (v 0)), some (.int pl), none, none] [] (am_wI B i1) ∧ i1 875 (461 + 18 * p + 7) = v (461 + 18 * p + 7) + heP v p ∧ (¬ i1 875 (461 + 18 * p + 7) < 0 ∧ i1 875 (461 + 18 * p + 7) < 101) ∧ i1 875 (461 + 18 * p + 15) = v (461 + 18 * p + 15) + heP v p ∧ (∀ z, z ≠ 461 + 18 * p + 7 → z ≠ 461 + 18 * p + 15 → i1 875 z = i 875 z) ∧ ∀ q z, q ≠ 875 → i1 q z = i q z := by
    have k0 := hw 0 (by omega)
    have k1 := (hw (461 + 18 * p + 1) (by omega)).trans hpl
    have k9 := hw (461 + 18 * p + 9) (by omega)
    have k7 := hw (461 + 18 * p + 7) (by omega)
    have k15 := hw (461 + 18 * p + 15) (by omega)
    unfold heP
    by_cases g : v 0 - v 0 / 40 * 40 = 0
    · rw [if_pos g]
      by_cases g9 : v (461 + 18 * p + 9) < 0
      · have eh : hrt v (v (461 + 18 * p + 9)) = 0 := if_pos g9
        have ez : mn ((0 : Int32) / 2) (100 - v (461 + 18 * p + 7)) = 0 := by
          rw [eR]
          exact (he_all ⟨R, hR⟩ ⟨0, by omega⟩).2.1
        refine ⟨i, ?_, ?_, ?_, ?_, fun _ _ _ => rfl, fun _ _ _ => rfl⟩
        · rw [bk_116_0]
          simp (disch := omega) only [bk_24_0, bk_23_0, bk_13_0, k0, k1, k9, g, g9, n40, hM, y_ckd, y_ck2d, y_ond, y_onn, y_oI, y_oIx, y_oJ, y_oV, y_oVx, y_oR, y_oRn, y_oRx, y_b0, y_b1, y_bi, y_bid, y_wIK, y_wIL, y_wII, y_wIJ, y_wIR, y_wIN, y_wIw, y_sI, ↓reduceIte, Nat.reduceEqDiff, eq_self, true_or, or_true, false_or, or_false, and_true, true_and, false_and, and_false, not_true, not_false_eq_true, tf_T, tf_F, y_up1, y_up2, y_xx, y_nx, y_sJ, y_sR, Int32.reduceLT, y_nxK, y_nxL, y_nxR, y_sJK, y_sJL, y_sJR, y_sJN, y_sRK, y_sRL, y_sRN, Nat.add_zero, z_nat, z_lit, z_lit0, z_lit1, z_in0, z_in1, z_addl0, z_lt, z_ltl, z_llt, z_inj, z_injl, z_add, z_addl, z_ladd, z_mul, z_mull, z_lmul, z_neg, z_negl, z_in, z_inl, z_ltT, z_ltF, z_eqF, z_10, z_01, z_litne, z_ne0, z_0ne, z_ne1, z_1ne, z_lt64, z_02, z_03, z_04, z_05, z_12, z_13, z_14, z_15, z_20, z_21, z_23, z_24, z_25, z_30, z_31, z_32, z_34, z_35, z_40, z_41, z_42, z_43, z_45, z_50, z_51, z_52, z_53, z_54]
        · rw [eh, ez, k7, Int32.add_zero]
        · rw [k7]
          exact h7
        · rw [eh, ez, k15, Int32.add_zero]
      · have h9' := h9.resolve_left (fun q => g9 (by rw [q]; decide))
        have n39 := h39.2
        have h9b := h9'.2
        rw [h39.1] at h9b
        obtain ⟨T, eT, hT2⟩ := z_lk _ (by omega) h9'.1 h9b
        obtain ⟨-, -, -, -, r0, r1⟩ := hT.1 T hT2 (by omega)
        obtain ⟨H, eH, hH⟩ := z_lk 10 (by omega) r0 r1
        have eh : hrt v (v (461 + 18 * p + 9)) = Int32.ofNat H := by
          unfold hrt
          rw [if_neg g9, eT, z_nat (by omega), if_pos (by omega)]
          exact eH
        have e2 : Int32.ofNat H / 2 = Int32.ofNat (H / 2) := z_divn (a := H) (c := 2) (by omega) (by omega)
        have hA := he_all ⟨R, hR⟩ ⟨H / 2, by omega⟩
        dsimp only at hA
        have kh := (hw (40 + 7 * T + 5) (by omega)).trans eH
        have k9' := k9.trans eT
        have g9' : ¬ Int32.ofNat T < 0 := by rw [z_neg (by omega)]; exact id
        have hr := m_rots (B := B) (d := d) (i := i) (x := Int32.ofNat (H / 2)) hM hp k7
        rw [eh, e2]
        refine ⟨am_up2 (am_up2 i 875 (461 + 18 * p + 7) (mn 100 (v (461 + 18 * p + 7) + Int32.ofNat (H / 2)))) 875 (461 + 18 * p + 15) (v (461 + 18 * p + 15) + mn 100 (v (461 + 18 * p + 7) + Int32.ofNat (H / 2)) - v (461 + 18 * p + 7)), ?_, ?_, ?_, ?_, fun z h1 h2 => ?_, fun q z h => ?_⟩
        · rw [bk_116_0]
          simp (disch := omega) only [bk_24_0, bk_23_0, bk_25_0, bk_20_0, bk_13_0, bk_116_45, k0, k1, k9', k7, k15, kh, e2, g, g9', n40, n2, hr, hM, y_ckd, y_ck2d, y_ond, y_onn, y_oI, y_oIx, y_oJ, y_oV, y_oVx, y_oR, y_oRn, y_oRx, y_b0, y_b1, y_bi, y_bid, y_wIK, y_wIL, y_wII, y_wIJ, y_wIR, y_wIN, y_wIw, y_sI, ↓reduceIte, Nat.reduceEqDiff, eq_self, true_or, or_true, false_or, or_false, and_true, true_and, false_and, and_false, not_true, not_false_eq_true, tf_T, tf_F, y_up1, y_up2, y_xx, y_nx, y_sJ, y_sR, Int32.reduceLT, y_nxK, y_nxL, y_nxR, y_sJK, y_sJL, y_sJR, y_sJN, y_sRK, y_sRL, y_sRN, Nat.add_zero, z_nat, z_lit, z_lit0, z_lit1, z_in0, z_in1, z_addl0, z_lt, z_ltl, z_llt, z_inj, z_injl, z_add, z_addl, z_ladd, z_mul, z_mull, z_lmul, z_neg, z_negl, z_in, z_inl, z_ltT, z_ltF, z_eqF, z_10, z_01, z_litne, z_ne0, z_0ne, z_ne1, z_1ne, z_lt64, z_02, z_03, z_04, z_05, z_12, z_13, z_14, z_15, z_20, z_21, z_23, z_24, z_25, z_30, z_31, z_32, z_34, z_35, z_40, z_41, z_42, z_43, z_45, z_50, z_51, z_52, z_53, z_54]
        · rw [y_up2 (by omega), y_up1 rfl rfl, eR, hA.1]
        · rw [y_up2 (by omega), y_up1 rfl rfl, eR, hA.1]
          exact hA.2.2
        · rw [y_up1 rfl rfl, eR, hA.1, z_abc]
        · rw [y_up2 (by omega), y_up2 (by omega)]
        · rw [y_up2 (by omega), y_up2 (by omega)]
    · rw [if_neg g]
      refine ⟨i, ?_, ?_, ?_, ?_, fun _ _ _ => rfl, fun _ _ _ => rfl⟩
      · rw [bk_116_0]
        simp (disch := omega) only [bk_24_0, bk_23_0, bk_13_0, k0, k1, g, n40, hM, y_ckd, y_ck2d, y_ond, y_onn, y_oI, y_oIx, y_oJ, y_oV, y_oVx, y_oR, y_oRn, y_oRx, y_b0, y_b1, y_bi, y_bid, y_wIK, y_wIL, y_wII, y_wIJ, y_wIR, y_wIN, y_wIw, y_sI, ↓reduceIte, Nat.reduceEqDiff, eq_self, true_or, or_true, false_or, or_false, and_true, true_and, false_and, and_false, not_true, not_false_eq_true, tf_T, tf_F, y_up1, y_up2, y_xx, y_nx, y_sJ, y_sR, Int32.reduceLT, y_nxK, y_nxL, y_nxR, y_sJK, y_sJL, y_sJR, y_sJN, y_sRK, y_sRL, y_sRN, Nat.add_zero, z_nat, z_lit, z_lit0, z_lit1, z_in0, z_in1, z_addl0, z_lt, z_ltl, z_llt, z_inj, z_injl, z_add, z_addl, z_ladd, z_mul, z_mull, z_lmul, z_neg, z_negl, z_in, z_inl, z_ltT, z_ltF, z_eqF, z_10, z_01, z_litne, z_ne0, z_0ne, z_ne1, z_1ne, z_lt64, z_02, z_03, z_04, z_05, z_12, z_13, z_14, z_15, z_20, z_21, z_23, z_24, z_25, z_30, z_31, z_32, z_34, z_35, z_40, z_41, z_42, z_43, z_45, z_50, z_51, z_52, z_53, z_54]
      · rw [k7, Int32.add_zero]
      · rw [k7]
        exact h7
      · rw [k15, Int32.add_zero]
  obtain ⟨i1, E1, a7, r7, a15, f1, fo1⟩ := h86
  obtain ⟨i2, E2, b6, b7, f2, fo2⟩ := m_a86s (B := B) (d := d) (i := i1) (D := v 0) (pl := pl) hM hp rfl rfl rfl (by rw [f1 _ (by omega) (by omega), hw _ (by omega)]; exact h5) r7
  have k5 : i1 875 (461 + 18 * p + 5) = v (461 + 18 * p + 5) := (f1 _ (by omega) (by omega)).trans (hw _ (by omega))
  have k6 : i1 875 (461 + 18 * p + 6) = v (461 + 18 * p + 6) := (f1 _ (by omega) (by omega)).trans (hw _ (by omega))
  rw [k6] at b6
  rw [k5, k6, a7] at b7
  obtain ⟨i3, E3, c1, f3, fo3⟩ := m_a223 (B := B) (d := d) (i := i2) (pl := pl) hM hp b7 ((f2 _ (by omega) (by omega)).trans ((f1 _ (by omega) (by omega)).trans ((hw _ (by omega)).trans hpl)))
  refine ⟨i3, E1.trans (E2.trans E3), (f3 _ (by omega)).trans b6, (f3 _ (by omega)).trans b7, ?_, c1, fun z h1 h2 h3 h4 => ?_, fun q z h => ?_⟩
  · exact (f3 _ (by omega)).trans ((f2 _ (by omega) (by omega)).trans a15)
  · exact (f3 _ h1).trans ((f2 _ h2 h3).trans (f1 _ h3 h4))
  · exact (fo3 _ _ h).trans ((fo2 _ _ h).trans (fo1 _ _ h))
end Mday
