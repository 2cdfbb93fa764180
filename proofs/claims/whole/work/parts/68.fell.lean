/-! FELL: made by wip/whole/math/68.py. -/
section Fell
variable {B B1 : am_A} {i i' i1 : Nat → Nat → Int32} {σ σ' : Sg} {w w' : Nat → Int32} {f : Nat → Int32} {L j d b c : Nat} {x y z u v : Int32}
/-- how long a tree's wood is as a kind; how bent -/
def lnx (x l m : Int32) : Int32 := if x = 1 then l else if 5 < l - (if m < 0 then -m else m) then l - (if m < 0 then -m else m) else 5
def bdx (x m : Int32) : Int32 := if x = 1 then m else 0
theorem c_lengthAs {q : Nat} (hq : am_K B q = 10) : am_fx am_P (d + 1) 184 0 [some (.ref q), some (.int x)] [] (am_wI B i) = some (.inl (some (.int (lnx x (i q 2) (i q 4)))), am_wI B i) := by
  unfold lnx
  rw [bk_184_0]
  by_cases g : x = 1
  · simp (disch := omega) only [g, hq, y_ckd, y_ck2d, y_ond, y_onn, y_oI, y_oIx, y_oJ, y_oV, y_oVx, y_oR, y_oRn, y_oRx, y_b0, y_b1, y_bi, y_bid, y_wIK, y_wIL, y_wII, y_wIJ, y_wIR, y_wIN, y_wIw, y_sI, ↓reduceIte, Nat.reduceEqDiff, eq_self, true_or, or_true, false_or, or_false, and_true, true_and, false_and, and_false, not_true, not_false_eq_true, tf_T, tf_F, y_up1, y_up2, y_xx, y_nx, y_sJ, y_sR, Int32.reduceLT, y_nxK, y_nxL, y_nxR, y_sJK, y_sJL, y_sJR, y_sJN, y_sRK, y_sRL, y_sRN, Nat.add_zero, z_nat, z_lit, z_lit0, z_lit1, z_in0, z_in1, z_addl0, z_lt, z_ltl, z_llt, z_inj, z_injl, z_add, z_addl, z_ladd, z_mul, z_mull, z_lmul, z_neg, z_negl, z_in, z_inl, z_ltT, z_ltF, z_eqF, z_10, z_01, z_litne, z_ne0, z_0ne, z_ne1, z_1ne, z_lt64, z_02, z_03, z_04, z_05, z_12, z_13, z_14, z_15, z_20, z_21, z_23, z_24, z_25, z_30, z_31, z_32, z_34, z_35, z_40, z_41, z_42, z_43, z_45, z_50, z_51, z_52, z_53, z_54]
  · by_cases g2 : i q 4 < 0
    · by_cases g3 : 5 < i q 2 - -(i q 4)
      · simp (disch := omega) only [g, g2, g3, bk_1_0, bk_2_0, hq, y_ckd, y_ck2d, y_ond, y_onn, y_oI, y_oIx, y_oJ, y_oV, y_oVx, y_oR, y_oRn, y_oRx, y_b0, y_b1, y_bi, y_bid, y_wIK, y_wIL, y_wII, y_wIJ, y_wIR, y_wIN, y_wIw, y_sI, ↓reduceIte, Nat.reduceEqDiff, eq_self, true_or, or_true, false_or, or_false, and_true, true_and, false_and, and_false, not_true, not_false_eq_true, tf_T, tf_F, y_up1, y_up2, y_xx, y_nx, y_sJ, y_sR, Int32.reduceLT, y_nxK, y_nxL, y_nxR, y_sJK, y_sJL, y_sJR, y_sJN, y_sRK, y_sRL, y_sRN, Nat.add_zero, z_nat, z_lit, z_lit0, z_lit1, z_in0, z_in1, z_addl0, z_lt, z_ltl, z_llt, z_inj, z_injl, z_add, z_addl, z_ladd, z_mul, z_mull, z_lmul, z_neg, z_negl, z_in, z_inl, z_ltT, z_ltF, z_eqF, z_10, z_01, z_litne, z_ne0, z_0ne, z_ne1, z_1ne, z_lt64, z_02, z_03, z_04, z_05, z_12, z_13, z_14, z_15, z_20, z_21, z_23, z_24, z_25, z_30, z_31, z_32, z_34, z_35, z_40, z_41, z_42, z_43, z_45, z_50, z_51, z_52, z_53, z_54]
      · simp (disch := omega) only [g, g2, g3, bk_1_0, bk_2_0, hq, y_ckd, y_ck2d, y_ond, y_onn, y_oI, y_oIx, y_oJ, y_oV, y_oVx, y_oR, y_oRn, y_oRx, y_b0, y_b1, y_bi, y_bid, y_wIK, y_wIL, y_wII, y_wIJ, y_wIR, y_wIN, y_wIw, y_sI, ↓reduceIte, Nat.reduceEqDiff, eq_self, true_or, or_true, false_or, or_false, and_true, true_and, false_and, and_false, not_true, not_false_eq_true, tf_T, tf_F, y_up1, y_up2, y_xx, y_nx, y_sJ, y_sR, Int32.reduceLT, y_nxK, y_nxL, y_nxR, y_sJK, y_sJL, y_sJR, y_sJN, y_sRK, y_sRL, y_sRN, Nat.add_zero, z_nat, z_lit, z_lit0, z_lit1, z_in0, z_in1, z_addl0, z_lt, z_ltl, z_llt, z_inj, z_injl, z_add, z_addl, z_ladd, z_mul, z_mull, z_lmul, z_neg, z_negl, z_in, z_inl, z_ltT, z_ltF, z_eqF, z_10, z_01, z_litne, z_ne0, z_0ne, z_ne1, z_1ne, z_lt64, z_02, z_03, z_04, z_05, z_12, z_13, z_14, z_15, z_20, z_21, z_23, z_24, z_25, z_30, z_31, z_32, z_34, z_35, z_40, z_41, z_42, z_43, z_45, z_50, z_51, z_52, z_53, z_54]
    · by_cases g3 : 5 < i q 2 - i q 4
      · simp (disch := omega) only [g, g2, g3, bk_1_0, bk_2_0, hq, y_ckd, y_ck2d, y_ond, y_onn, y_oI, y_oIx, y_oJ, y_oV, y_oVx, y_oR, y_oRn, y_oRx, y_b0, y_b1, y_bi, y_bid, y_wIK, y_wIL, y_wII, y_wIJ, y_wIR, y_wIN, y_wIw, y_sI, ↓reduceIte, Nat.reduceEqDiff, eq_self, true_or, or_true, false_or, or_false, and_true, true_and, false_and, and_false, not_true, not_false_eq_true, tf_T, tf_F, y_up1, y_up2, y_xx, y_nx, y_sJ, y_sR, Int32.reduceLT, y_nxK, y_nxL, y_nxR, y_sJK, y_sJL, y_sJR, y_sJN, y_sRK, y_sRL, y_sRN, Nat.add_zero, z_nat, z_lit, z_lit0, z_lit1, z_in0, z_in1, z_addl0, z_lt, z_ltl, z_llt, z_inj, z_injl, z_add, z_addl, z_ladd, z_mul, z_mull, z_lmul, z_neg, z_negl, z_in, z_inl, z_ltT, z_ltF, z_eqF, z_10, z_01, z_litne, z_ne0, z_0ne, z_ne1, z_1ne, z_lt64, z_02, z_03, z_04, z_05, z_12, z_13, z_14, z_15, z_20, z_21, z_23, z_24, z_25, z_30, z_31, z_32, z_34, z_35, z_40, z_41, z_42, z_43, z_45, z_50, z_51, z_52, z_53, z_54]
      · simp (disch := omega) only [g, g2, g3, bk_1_0, bk_2_0, hq, y_ckd, y_ck2d, y_ond, y_onn, y_oI, y_oIx, y_oJ, y_oV, y_oVx, y_oR, y_oRn, y_oRx, y_b0, y_b1, y_bi, y_bid, y_wIK, y_wIL, y_wII, y_wIJ, y_wIR, y_wIN, y_wIw, y_sI, ↓reduceIte, Nat.reduceEqDiff, eq_self, true_or, or_true, false_or, or_false, and_true, true_and, false_and, and_false, not_true, not_false_eq_true, tf_T, tf_F, y_up1, y_up2, y_xx, y_nx, y_sJ, y_sR, Int32.reduceLT, y_nxK, y_nxL, y_nxR, y_sJK, y_sJL, y_sJR, y_sJN, y_sRK, y_sRL, y_sRN, Nat.add_zero, z_nat, z_lit, z_lit0, z_lit1, z_in0, z_in1, z_addl0, z_lt, z_ltl, z_llt, z_inj, z_injl, z_add, z_addl, z_ladd, z_mul, z_mull, z_lmul, z_neg, z_negl, z_in, z_inl, z_ltT, z_ltF, z_eqF, z_10, z_01, z_litne, z_ne0, z_0ne, z_ne1, z_1ne, z_lt64, z_02, z_03, z_04, z_05, z_12, z_13, z_14, z_15, z_20, z_21, z_23, z_24, z_25, z_30, z_31, z_32, z_34, z_35, z_40, z_41, z_42, z_43, z_45, z_50, z_51, z_52, z_53, z_54]
theorem c_bendAs {q : Nat} (hq : am_K B q = 10) : am_fx am_P d 185 0 [some (.ref q), some (.int x)] [] (am_wI B i) = some (.inl (some (.int (bdx x (i q 4)))), am_wI B i) := by
  unfold bdx
  rw [bk_185_0]
  by_cases g : x = 1
  · simp (disch := omega) only [g, hq, y_ckd, y_ck2d, y_ond, y_onn, y_oI, y_oIx, y_oJ, y_oV, y_oVx, y_oR, y_oRn, y_oRx, y_b0, y_b1, y_bi, y_bid, y_wIK, y_wIL, y_wII, y_wIJ, y_wIR, y_wIN, y_wIw, y_sI, ↓reduceIte, Nat.reduceEqDiff, eq_self, true_or, or_true, false_or, or_false, and_true, true_and, false_and, and_false, not_true, not_false_eq_true, tf_T, tf_F, y_up1, y_up2, y_xx, y_nx, y_sJ, y_sR, Int32.reduceLT, y_nxK, y_nxL, y_nxR, y_sJK, y_sJL, y_sJR, y_sJN, y_sRK, y_sRL, y_sRN, Nat.add_zero, z_nat, z_lit, z_lit0, z_lit1, z_in0, z_in1, z_addl0, z_lt, z_ltl, z_llt, z_inj, z_injl, z_add, z_addl, z_ladd, z_mul, z_mull, z_lmul, z_neg, z_negl, z_in, z_inl, z_ltT, z_ltF, z_eqF, z_10, z_01, z_litne, z_ne0, z_0ne, z_ne1, z_1ne, z_lt64, z_02, z_03, z_04, z_05, z_12, z_13, z_14, z_15, z_20, z_21, z_23, z_24, z_25, z_30, z_31, z_32, z_34, z_35, z_40, z_41, z_42, z_43, z_45, z_50, z_51, z_52, z_53, z_54]
  · simp (disch := omega) only [g, hq, y_ckd, y_ck2d, y_ond, y_onn, y_oI, y_oIx, y_oJ, y_oV, y_oVx, y_oR, y_oRn, y_oRx, y_b0, y_b1, y_bi, y_bid, y_wIK, y_wIL, y_wII, y_wIJ, y_wIR, y_wIN, y_wIw, y_sI, ↓reduceIte, Nat.reduceEqDiff, eq_self, true_or, or_true, false_or, or_false, and_true, true_and, false_and, and_false, not_true, not_false_eq_true, tf_T, tf_F, y_up1, y_up2, y_xx, y_nx, y_sJ, y_sR, Int32.reduceLT, y_nxK, y_nxL, y_nxR, y_sJK, y_sJL, y_sJR, y_sJN, y_sRK, y_sRL, y_sRN, Nat.add_zero, z_nat, z_lit, z_lit0, z_lit1, z_in0, z_in1, z_addl0, z_lt, z_ltl, z_llt, z_inj, z_injl, z_add, z_addl, z_ladd, z_mul, z_mull, z_lmul, z_neg, z_negl, z_in, z_inl, z_ltT, z_ltF, z_eqF, z_10, z_01, z_litne, z_ne0, z_0ne, z_ne1, z_1ne, z_lt64, z_02, z_03, z_04, z_05, z_12, z_13, z_14, z_15, z_20, z_21, z_23, z_24, z_25, z_30, z_31, z_32, z_34, z_35, z_40, z_41, z_42, z_43, z_45, z_50, z_51, z_52, z_53, z_54]
theorem m_longAs {t : Nat} (hM : Md B) (ht : t < 60) : am_fx am_P (d + 2) 28 0 [some (.ref 874), some (.int (Int32.ofNat t)), some (.int x)] [] (am_wI B i) = some (.inl (some (.int (lnx x (i 875 (40 + 7 * t + 2)) (i 875 (40 + 7 * t + 4))))), am_wI B i) := by
  unfold lnx
  rw [bk_28_0]
  by_cases g : x = 1
  · simp (disch := omega) only [(fun d x0 x1 x2 B i => bk_20_0 d x0 x1 x2 (am_wI B i)), g, hM, y_ckd, y_ck2d, y_ond, y_onn, y_oI, y_oIx, y_oJ, y_oV, y_oVx, y_oR, y_oRn, y_oRx, y_b0, y_b1, y_bi, y_bid, y_wIK, y_wIL, y_wII, y_wIJ, y_wIR, y_wIN, y_wIw, y_sI, ↓reduceIte, Nat.reduceEqDiff, eq_self, true_or, or_true, false_or, or_false, and_true, true_and, false_and, and_false, not_true, not_false_eq_true, tf_T, tf_F, y_up1, y_up2, y_xx, y_nx, y_sJ, y_sR, Int32.reduceLT, y_nxK, y_nxL, y_nxR, y_sJK, y_sJL, y_sJR, y_sJN, y_sRK, y_sRL, y_sRN, Nat.add_zero, z_nat, z_lit, z_lit0, z_lit1, z_in0, z_in1, z_addl0, z_lt, z_ltl, z_llt, z_inj, z_injl, z_add, z_addl, z_ladd, z_mul, z_mull, z_lmul, z_neg, z_negl, z_in, z_inl, z_ltT, z_ltF, z_eqF, z_10, z_01, z_litne, z_ne0, z_0ne, z_ne1, z_1ne, z_lt64, z_02, z_03, z_04, z_05, z_12, z_13, z_14, z_15, z_20, z_21, z_23, z_24, z_25, z_30, z_31, z_32, z_34, z_35, z_40, z_41, z_42, z_43, z_45, z_50, z_51, z_52, z_53, z_54]
  · by_cases g2 : i 875 (40 + 7 * t + 4) < 0
    · by_cases g3 : 5 < i 875 (40 + 7 * t + 2) - -(i 875 (40 + 7 * t + 4))
      · simp (disch := omega) only [(fun d x0 x1 x2 B i => bk_20_0 d x0 x1 x2 (am_wI B i)), g, g2, g3, bk_1_0, bk_2_0, hM, y_ckd, y_ck2d, y_ond, y_onn, y_oI, y_oIx, y_oJ, y_oV, y_oVx, y_oR, y_oRn, y_oRx, y_b0, y_b1, y_bi, y_bid, y_wIK, y_wIL, y_wII, y_wIJ, y_wIR, y_wIN, y_wIw, y_sI, ↓reduceIte, Nat.reduceEqDiff, eq_self, true_or, or_true, false_or, or_false, and_true, true_and, false_and, and_false, not_true, not_false_eq_true, tf_T, tf_F, y_up1, y_up2, y_xx, y_nx, y_sJ, y_sR, Int32.reduceLT, y_nxK, y_nxL, y_nxR, y_sJK, y_sJL, y_sJR, y_sJN, y_sRK, y_sRL, y_sRN, Nat.add_zero, z_nat, z_lit, z_lit0, z_lit1, z_in0, z_in1, z_addl0, z_lt, z_ltl, z_llt, z_inj, z_injl, z_add, z_addl, z_ladd, z_mul, z_mull, z_lmul, z_neg, z_negl, z_in, z_inl, z_ltT, z_ltF, z_eqF, z_10, z_01, z_litne, z_ne0, z_0ne, z_ne1, z_1ne, z_lt64, z_02, z_03, z_04, z_05, z_12, z_13, z_14, z_15, z_20, z_21, z_23, z_24, z_25, z_30, z_31, z_32, z_34, z_35, z_40, z_41, z_42, z_43, z_45, z_50, z_51, z_52, z_53, z_54]
      · simp (disch := omega) only [(fun d x0 x1 x2 B i => bk_20_0 d x0 x1 x2 (am_wI B i)), g, g2, g3, bk_1_0, bk_2_0, hM, y_ckd, y_ck2d, y_ond, y_onn, y_oI, y_oIx, y_oJ, y_oV, y_oVx, y_oR, y_oRn, y_oRx, y_b0, y_b1, y_bi, y_bid, y_wIK, y_wIL, y_wII, y_wIJ, y_wIR, y_wIN, y_wIw, y_sI, ↓reduceIte, Nat.reduceEqDiff, eq_self, true_or, or_true, false_or, or_false, and_true, true_and, false_and, and_false, not_true, not_false_eq_true, tf_T, tf_F, y_up1, y_up2, y_xx, y_nx, y_sJ, y_sR, Int32.reduceLT, y_nxK, y_nxL, y_nxR, y_sJK, y_sJL, y_sJR, y_sJN, y_sRK, y_sRL, y_sRN, Nat.add_zero, z_nat, z_lit, z_lit0, z_lit1, z_in0, z_in1, z_addl0, z_lt, z_ltl, z_llt, z_inj, z_injl, z_add, z_addl, z_ladd, z_mul, z_mull, z_lmul, z_neg, z_negl, z_in, z_inl, z_ltT, z_ltF, z_eqF, z_10, z_01, z_litne, z_ne0, z_0ne, z_ne1, z_1ne, z_lt64, z_02, z_03, z_04, z_05, z_12, z_13, z_14, z_15, z_20, z_21, z_23, z_24, z_25, z_30, z_31, z_32, z_34, z_35, z_40, z_41, z_42, z_43, z_45, z_50, z_51, z_52, z_53, z_54]
    · by_cases g3 : 5 < i 875 (40 + 7 * t + 2) - i 875 (40 + 7 * t + 4)
      · simp (disch := omega) only [(fun d x0 x1 x2 B i => bk_20_0 d x0 x1 x2 (am_wI B i)), g, g2, g3, bk_1_0, bk_2_0, hM, y_ckd, y_ck2d, y_ond, y_onn, y_oI, y_oIx, y_oJ, y_oV, y_oVx, y_oR, y_oRn, y_oRx, y_b0, y_b1, y_bi, y_bid, y_wIK, y_wIL, y_wII, y_wIJ, y_wIR, y_wIN, y_wIw, y_sI, ↓reduceIte, Nat.reduceEqDiff, eq_self, true_or, or_true, false_or, or_false, and_true, true_and, false_and, and_false, not_true, not_false_eq_true, tf_T, tf_F, y_up1, y_up2, y_xx, y_nx, y_sJ, y_sR, Int32.reduceLT, y_nxK, y_nxL, y_nxR, y_sJK, y_sJL, y_sJR, y_sJN, y_sRK, y_sRL, y_sRN, Nat.add_zero, z_nat, z_lit, z_lit0, z_lit1, z_in0, z_in1, z_addl0, z_lt, z_ltl, z_llt, z_inj, z_injl, z_add, z_addl, z_ladd, z_mul, z_mull, z_lmul, z_neg, z_negl, z_in, z_inl, z_ltT, z_ltF, z_eqF, z_10, z_01, z_litne, z_ne0, z_0ne, z_ne1, z_1ne, z_lt64, z_02, z_03, z_04, z_05, z_12, z_13, z_14, z_15, z_20, z_21, z_23, z_24, z_25, z_30, z_31, z_32, z_34, z_35, z_40, z_41, z_42, z_43, z_45, z_50, z_51, z_52, z_53, z_54]
      · simp (disch := omega) only [(fun d x0 x1 x2 B i => bk_20_0 d x0 x1 x2 (am_wI B i)), g, g2, g3, bk_1_0, bk_2_0, hM, y_ckd, y_ck2d, y_ond, y_onn, y_oI, y_oIx, y_oJ, y_oV, y_oVx, y_oR, y_oRn, y_oRx, y_b0, y_b1, y_bi, y_bid, y_wIK, y_wIL, y_wII, y_wIJ, y_wIR, y_wIN, y_wIw, y_sI, ↓reduceIte, Nat.reduceEqDiff, eq_self, true_or, or_true, false_or, or_false, and_true, true_and, false_and, and_false, not_true, not_false_eq_true, tf_T, tf_F, y_up1, y_up2, y_xx, y_nx, y_sJ, y_sR, Int32.reduceLT, y_nxK, y_nxL, y_nxR, y_sJK, y_sJL, y_sJR, y_sJN, y_sRK, y_sRL, y_sRN, Nat.add_zero, z_nat, z_lit, z_lit0, z_lit1, z_in0, z_in1, z_addl0, z_lt, z_ltl, z_llt, z_inj, z_injl, z_add, z_addl, z_ladd, z_mul, z_mull, z_lmul, z_neg, z_negl, z_in, z_inl, z_ltT, z_ltF, z_eqF, z_10, z_01, z_litne, z_ne0, z_0ne, z_ne1, z_1ne, z_lt64, z_02, z_03, z_04, z_05, z_12, z_13, z_14, z_15, z_20, z_21, z_23, z_24, z_25, z_30, z_31, z_32, z_34, z_35, z_40, z_41, z_42, z_43, z_45, z_50, z_51, z_52, z_53, z_54]
theorem z_iT {x y : Int32} : (x < y) = (x.toInt < y.toInt) := propext Int32.lt_iff_toInt_lt
theorem lnx_ok {l m : Int32} (hl : ¬ l < 5 ∧ l < 101) (hm : ¬ m < -9 ∧ m < 10) : ∃ n, lnx x l m = Int32.ofNat n ∧ 5 ≤ n ∧ n ≤ 100 := by
  have key : ∀ v : Int32, 5 ≤ v.toInt → v.toInt ≤ 100 → ∃ n, v = Int32.ofNat n ∧ 5 ≤ n ∧ n ≤ 100 := fun v h1 h2 => by
    have v0 : ¬ v < 0 := fun q => by
      rw [z_iT, show (0 : Int32).toInt = 0 from by decide] at q
      omega
    obtain ⟨n, rfl, hn⟩ := z_le 100 (by omega) v0 (fun q => by
      rw [z_iT, z_toInt (by omega)] at q
      omega)
    rw [z_toInt (by omega)] at h1
    exact ⟨n, rfl, by omega, hn⟩
  rw [z_iT, z_iT, show (5 : Int32).toInt = 5 from by decide, show (101 : Int32).toInt = 101 from by decide] at hl
  rw [z_iT, z_iT, show (-9 : Int32).toInt = -9 from by decide, show (10 : Int32).toInt = 10 from by decide] at hm
  unfold lnx
  by_cases g : x = 1
  · rw [if_pos g]
    exact key l (by omega) (by omega)
  · rw [if_neg g]
    have ha : ∃ a : Int32, (if m < 0 then -m else m) = a ∧ 0 ≤ a.toInt ∧ a.toInt ≤ 9 := by
      refine ⟨_, rfl, ?_⟩
      by_cases g2 : m < 0
      · rw [if_pos g2]
        rw [z_iT, show (0 : Int32).toInt = 0 from by decide] at g2
        rw [Int32.toInt_neg]
        unfold Int.bmod
        simp only [Nat.reducePow]
        split <;> omega
      · rw [if_neg g2]
        rw [z_iT, show (0 : Int32).toInt = 0 from by decide] at g2
        omega
    obtain ⟨a, ea, a0, a9⟩ := ha
    rw [ea]
    have es : (l - a).toInt = l.toInt - a.toInt := by
      rw [Int32.toInt_sub]
      unfold Int.bmod
      simp only [Nat.reducePow]
      split <;> omega
    by_cases g3 : 5 < l - a
    · rw [if_pos g3]
      rw [z_iT, es, show (5 : Int32).toInt = 5 from by decide] at g3
      exact key _ (by omega) (by omega)
    · rw [if_neg g3]
      exact ⟨5, rfl, by omega, by omega⟩
theorem pcw_out {s : Nat} {g : Nat → Int32} (h : ¬ (461 + 18 * c ≤ s ∧ s < 461 + 18 * c + 18)) : pcw w c f s = pcw w c g s := by
  unfold pcw
  rw [if_neg h, if_neg h]
theorem f_fell_x0 (h : CR B i σ) (g : ¬ (¬ x < 0 ∧ x < σ.1 39)) : FRs B i σ (am_fx am_P (d + 150) 295 0 [some (.ref 64), some (.int x), some (.int y)] [] (am_wI B i)) (.inr 1) := by
  refine FRs_x h ?_
  have hF : Fc B := h.1.1
  have hY : Yd B 94 := h.1.2.1
  have e5 := h.2.1.2.1.1
  rw [bk_295_0]
  simp (maxSteps := 1000000) (disch := omega) only [c_ckI0 g, e5, hF, hY, y_ckd, y_ck2d, y_ond, y_onn, y_oI, y_oIx, y_oJ, y_oV, y_oVx, y_oR, y_oRn, y_oRx, y_b0, y_b1, y_bi, y_bid, y_wIK, y_wIL, y_wII, y_wIJ, y_wIR, y_wIN, y_wIw, y_sI, ↓reduceIte, Nat.reduceEqDiff, eq_self, true_or, or_true, false_or, or_false, and_true, true_and, false_and, and_false, not_true, not_false_eq_true, tf_T, tf_F, y_up1, y_up2, y_xx, y_nx, y_sJ, y_sR, Int32.reduceLT, y_nxK, y_nxL, y_nxR, y_sJK, y_sJL, y_sJR, y_sJN, y_sRK, y_sRL, y_sRN, Nat.add_zero, z_nat, z_lit, z_lit0, z_lit1, z_in0, z_in1, z_addl0, z_lt, z_ltl, z_llt, z_inj, z_injl, z_add, z_addl, z_ladd, z_mul, z_mull, z_lmul, z_neg, z_negl, z_in, z_inl, z_ltT, z_ltF, z_eqF, z_10, z_01, z_litne, z_ne0, z_0ne, z_ne1, z_1ne, z_lt64, z_02, z_03, z_04, z_05, z_12, z_13, z_14, z_15, z_20, z_21, z_23, z_24, z_25, z_30, z_31, z_32, z_34, z_35, z_40, z_41, z_42, z_43, z_45, z_50, z_51, z_52, z_53, z_54]
theorem m_fell_x0 (h : MR B i σ) (hc : isc σ.1 39 60) (g : ¬ (¬ x < 0 ∧ x < σ.1 39)) : MRs B i σ (am_fx am_P (d + 150) 29 0 [some (.ref 874), some (.int x), some (.int y), none, none] [] (am_wI B i)) (some (.int 0)) 1 := by
  refine MRs_x h ?_
  have hM : Md B := h.1.1
  have e5 := h.2.1 39 (by omega)
  rw [bk_29_0]
  simp (maxSteps := 2000000) (disch := omega) only [(fun d x0 x1 B i => bk_21_0 d x0 x1 (am_wI B i)), m_in, z_pred hc.1, Classical.not_not, g, m_thr1 hM, e5, hM, y_ckd, y_ck2d, y_ond, y_onn, y_oI, y_oIx, y_oJ, y_oV, y_oVx, y_oR, y_oRn, y_oRx, y_b0, y_b1, y_bi, y_bid, y_wIK, y_wIL, y_wII, y_wIJ, y_wIR, y_wIN, y_wIw, y_sI, ↓reduceIte, Nat.reduceEqDiff, eq_self, true_or, or_true, false_or, or_false, and_true, true_and, false_and, and_false, not_true, not_false_eq_true, tf_T, tf_F, y_up1, y_up2, y_xx, y_nx, y_sJ, y_sR, Int32.reduceLT, y_nxK, y_nxL, y_nxR, y_sJK, y_sJL, y_sJR, y_sJN, y_sRK, y_sRL, y_sRN, Nat.add_zero, z_nat, z_lit, z_lit0, z_lit1, z_in0, z_in1, z_addl0, z_lt, z_ltl, z_llt, z_inj, z_injl, z_add, z_addl, z_ladd, z_mul, z_mull, z_lmul, z_neg, z_negl, z_in, z_inl, z_ltT, z_ltF, z_eqF, z_10, z_01, z_litne, z_ne0, z_0ne, z_ne1, z_1ne, z_lt64, z_02, z_03, z_04, z_05, z_12, z_13, z_14, z_15, z_20, z_21, z_23, z_24, z_25, z_30, z_31, z_32, z_34, z_35, z_40, z_41, z_42, z_43, z_45, z_50, z_51, z_52, z_53, z_54]
theorem f_fell_x1 {t : Nat} (h : CR B i σ) (hc : isc σ.1 39 60) (ht : t < cn σ.1 39) (g : ¬ (¬ y < 0 ∧ ¬ 2 < y)) : FRs B i σ (am_fx am_P (d + 150) 295 0 [some (.ref 64), some (.int (Int32.ofNat t)), some (.int y)] [] (am_wI B i)) (.inr 2) := by
  refine FRs_x h ?_
  have hF : Fc B := h.1.1
  have hY : Yd B 94 := h.1.2.1
  have e5 := h.2.1.2.1.1
  rw [bk_295_0]
  simp (maxSteps := 1000000) (disch := omega) only [c_ckI1 (ck_nat hc (by omega) ht), c_within0 g, c_ckN0, e5, hF, hY, y_ckd, y_ck2d, y_ond, y_onn, y_oI, y_oIx, y_oJ, y_oV, y_oVx, y_oR, y_oRn, y_oRx, y_b0, y_b1, y_bi, y_bid, y_wIK, y_wIL, y_wII, y_wIJ, y_wIR, y_wIN, y_wIw, y_sI, ↓reduceIte, Nat.reduceEqDiff, eq_self, true_or, or_true, false_or, or_false, and_true, true_and, false_and, and_false, not_true, not_false_eq_true, tf_T, tf_F, y_up1, y_up2, y_xx, y_nx, y_sJ, y_sR, Int32.reduceLT, y_nxK, y_nxL, y_nxR, y_sJK, y_sJL, y_sJR, y_sJN, y_sRK, y_sRL, y_sRN, Nat.add_zero, z_nat, z_lit, z_lit0, z_lit1, z_in0, z_in1, z_addl0, z_lt, z_ltl, z_llt, z_inj, z_injl, z_add, z_addl, z_ladd, z_mul, z_mull, z_lmul, z_neg, z_negl, z_in, z_inl, z_ltT, z_ltF, z_eqF, z_10, z_01, z_litne, z_ne0, z_0ne, z_ne1, z_1ne, z_lt64, z_02, z_03, z_04, z_05, z_12, z_13, z_14, z_15, z_20, z_21, z_23, z_24, z_25, z_30, z_31, z_32, z_34, z_35, z_40, z_41, z_42, z_43, z_45, z_50, z_51, z_52, z_53, z_54]
theorem m_fell_x1 {t : Nat} (h : MR B i σ) (hc : isc σ.1 39 60) (ht : t < cn σ.1 39) (g : ¬ (¬ y < 0 ∧ ¬ 2 < y)) : MRs B i σ (am_fx am_P (d + 150) 29 0 [some (.ref 874), some (.int (Int32.ofNat t)), some (.int y), none, none] [] (am_wI B i)) (some (.int 0)) 2 := by
  refine MRs_x h ?_
  have hM : Md B := h.1.1
  have h60 := hc.2
  have t1 : (Int32.ofNat t < 0) = False := z_neg (by omega)
  have t2 := eq_true (ck_nat hc (by omega) ht).2
  have e5 := h.2.1 39 (by omega)
  rw [bk_29_0]
  simp (maxSteps := 2000000) (disch := omega) only [(fun d x0 x1 B i => bk_21_0 d x0 x1 (am_wI B i)), m_in, z_pred hc.1, Classical.not_not, (fun d x0 x1 x2 s0 s1 B i => bk_29_33 d x0 x1 x2 s0 s1 (am_wI B i)), t1, t2, g, m_thr0, m_thr1 hM, e5, hM, y_ckd, y_ck2d, y_ond, y_onn, y_oI, y_oIx, y_oJ, y_oV, y_oVx, y_oR, y_oRn, y_oRx, y_b0, y_b1, y_bi, y_bid, y_wIK, y_wIL, y_wII, y_wIJ, y_wIR, y_wIN, y_wIw, y_sI, ↓reduceIte, Nat.reduceEqDiff, eq_self, true_or, or_true, false_or, or_false, and_true, true_and, false_and, and_false, not_true, not_false_eq_true, tf_T, tf_F, y_up1, y_up2, y_xx, y_nx, y_sJ, y_sR, Int32.reduceLT, y_nxK, y_nxL, y_nxR, y_sJK, y_sJL, y_sJR, y_sJN, y_sRK, y_sRL, y_sRN, Nat.add_zero, z_nat, z_lit, z_lit0, z_lit1, z_in0, z_in1, z_addl0, z_lt, z_ltl, z_llt, z_inj, z_injl, z_add, z_addl, z_ladd, z_mul, z_mull, z_lmul, z_neg, z_negl, z_in, z_inl, z_ltT, z_ltF, z_eqF, z_10, z_01, z_litne, z_ne0, z_0ne, z_ne1, z_1ne, z_lt64, z_02, z_03, z_04, z_05, z_12, z_13, z_14, z_15, z_20, z_21, z_23, z_24, z_25, z_30, z_31, z_32, z_34, z_35, z_40, z_41, z_42, z_43, z_45, z_50, z_51, z_52, z_53, z_54]
theorem f_fell0 {t : Nat} (h : CR B i σ) (hc : isc σ.1 39 60) (ht : t < cn σ.1 39) (a : ¬ y < 0 ∧ ¬ 2 < y) (g : ¬ (σ.1 (40 + 7 * t + 6) = 0 ∧ cn σ.1 460 < 120)) (hf : σ.1 (40 + 7 * t + 6) = 0 ∨ σ.1 (40 + 7 * t + 6) = 1) (h4 : isc σ.1 460 120) : FRs B i σ (am_fx am_P (d + 150) 295 0 [some (.ref 64), some (.int (Int32.ofNat t)), some (.int y)] [] (am_wI B i)) (.inl (some (.int (-1)))) := by
  refine FRs_0 h ?_
  have hF : Fc B := h.1.1
  have hY : Yd B 94 := h.1.2.1
  have h60 := hc.2
  have t1 : (Int32.ofNat t < 0) = False := z_neg (by omega)
  have t2 := eq_true (ck_nat hc (by omega) ht).2
  have e5 := h.2.1.2.1.1
  have e9 := h.2.1.2.2.1.1
  have e6 := (h.2.1.2.1.2 t ht (by omega)).2.2.2.2.2.2
  rw [bk_295_0]
  by_cases g0 : σ.1 (40 + 7 * t + 6) = 0
  · have e9' : σ.1 460 = Int32.ofNat 120 := by
      rw [h4.1]
      have := h4.2
      have : ¬ cn σ.1 460 < 120 := fun q => g ⟨g0, q⟩
      exact congrArg _ (by omega)
    simp (maxSteps := 2000000) (disch := omega) only [c_ckI1 (ck_nat hc (by omega) ht), c_within1 a, c_ckN1, e5, e9, e6, hF, hY, g0, e9', y_ckd, y_ck2d, y_ond, y_onn, y_oI, y_oIx, y_oJ, y_oV, y_oVx, y_oR, y_oRn, y_oRx, y_b0, y_b1, y_bi, y_bid, y_wIK, y_wIL, y_wII, y_wIJ, y_wIR, y_wIN, y_wIw, y_sI, ↓reduceIte, Nat.reduceEqDiff, eq_self, true_or, or_true, false_or, or_false, and_true, true_and, false_and, and_false, not_true, not_false_eq_true, tf_T, tf_F, y_up1, y_up2, y_xx, y_nx, y_sJ, y_sR, Int32.reduceLT, y_nxK, y_nxL, y_nxR, y_sJK, y_sJL, y_sJR, y_sJN, y_sRK, y_sRL, y_sRN, Nat.add_zero, z_nat, z_lit, z_lit0, z_lit1, z_in0, z_in1, z_addl0, z_lt, z_ltl, z_llt, z_inj, z_injl, z_add, z_addl, z_ladd, z_mul, z_mull, z_lmul, z_neg, z_negl, z_in, z_inl, z_ltT, z_ltF, z_eqF, z_10, z_01, z_litne, z_ne0, z_0ne, z_ne1, z_1ne, z_lt64, z_02, z_03, z_04, z_05, z_12, z_13, z_14, z_15, z_20, z_21, z_23, z_24, z_25, z_30, z_31, z_32, z_34, z_35, z_40, z_41, z_42, z_43, z_45, z_50, z_51, z_52, z_53, z_54]
  · have g1 := hf.resolve_left g0
    simp (maxSteps := 2000000) (disch := omega) only [c_ckI1 (ck_nat hc (by omega) ht), c_within1 a, c_ckN1, e5, e9, e6, hF, hY, g1, y_ckd, y_ck2d, y_ond, y_onn, y_oI, y_oIx, y_oJ, y_oV, y_oVx, y_oR, y_oRn, y_oRx, y_b0, y_b1, y_bi, y_bid, y_wIK, y_wIL, y_wII, y_wIJ, y_wIR, y_wIN, y_wIw, y_sI, ↓reduceIte, Nat.reduceEqDiff, eq_self, true_or, or_true, false_or, or_false, and_true, true_and, false_and, and_false, not_true, not_false_eq_true, tf_T, tf_F, y_up1, y_up2, y_xx, y_nx, y_sJ, y_sR, Int32.reduceLT, y_nxK, y_nxL, y_nxR, y_sJK, y_sJL, y_sJR, y_sJN, y_sRK, y_sRL, y_sRN, Nat.add_zero, z_nat, z_lit, z_lit0, z_lit1, z_in0, z_in1, z_addl0, z_lt, z_ltl, z_llt, z_inj, z_injl, z_add, z_addl, z_ladd, z_mul, z_mull, z_lmul, z_neg, z_negl, z_in, z_inl, z_ltT, z_ltF, z_eqF, z_10, z_01, z_litne, z_ne0, z_0ne, z_ne1, z_1ne, z_lt64, z_02, z_03, z_04, z_05, z_12, z_13, z_14, z_15, z_20, z_21, z_23, z_24, z_25, z_30, z_31, z_32, z_34, z_35, z_40, z_41, z_42, z_43, z_45, z_50, z_51, z_52, z_53, z_54]
theorem m_fell0 {t : Nat} (h : MR B i σ) (hc : isc σ.1 39 60) (ht : t < cn σ.1 39) (a : ¬ y < 0 ∧ ¬ 2 < y) (g : ¬ (σ.1 (40 + 7 * t + 6) = 0 ∧ cn σ.1 460 < 120)) (hf : σ.1 (40 + 7 * t + 6) = 0 ∨ σ.1 (40 + 7 * t + 6) = 1) (h4 : isc σ.1 460 120) : MRs B i σ (am_fx am_P (d + 150) 29 0 [some (.ref 874), some (.int (Int32.ofNat t)), some (.int y), none, none] [] (am_wI B i)) (some (.int (-1))) 0 := by
  refine MRs_0 h ?_
  have hM : Md B := h.1.1
  have h60 := hc.2
  have t1 : (Int32.ofNat t < 0) = False := z_neg (by omega)
  have t2 := eq_true (ck_nat hc (by omega) ht).2
  have e5 := h.2.1 39 (by omega)
  have e6 := h.2.1 460 (by omega)
  have q6 := h.2.1 (40 + 7 * t + 6) (by omega)
  have n9 : (Int32.ofNat 120 = (120 : Int32)) := rfl
  rw [bk_29_0]
  by_cases g0 : σ.1 (40 + 7 * t + 6) = 0
  · have e9' : σ.1 460 = Int32.ofNat 120 := by
      rw [h4.1]
      have := h4.2
      have : ¬ cn σ.1 460 < 120 := fun q => g ⟨g0, q⟩
      exact congrArg _ (by omega)
    simp (maxSteps := 2000000) (disch := omega) only [(fun d x0 x1 B i => bk_21_0 d x0 x1 (am_wI B i)), m_in, z_pred hc.1, Classical.not_not, (fun d x0 x1 x2 B i => bk_20_0 d x0 x1 x2 (am_wI B i)), (fun d x0 x1 x2 s0 s1 B i => bk_29_33 d x0 x1 x2 s0 s1 (am_wI B i)), t1, t2, a.1, a.2, m_thr0, e5, e6, q6, hM, g0, e9', n9, y_ckd, y_ck2d, y_ond, y_onn, y_oI, y_oIx, y_oJ, y_oV, y_oVx, y_oR, y_oRn, y_oRx, y_b0, y_b1, y_bi, y_bid, y_wIK, y_wIL, y_wII, y_wIJ, y_wIR, y_wIN, y_wIw, y_sI, ↓reduceIte, Nat.reduceEqDiff, eq_self, true_or, or_true, false_or, or_false, and_true, true_and, false_and, and_false, not_true, not_false_eq_true, tf_T, tf_F, y_up1, y_up2, y_xx, y_nx, y_sJ, y_sR, Int32.reduceLT, y_nxK, y_nxL, y_nxR, y_sJK, y_sJL, y_sJR, y_sJN, y_sRK, y_sRL, y_sRN, Nat.add_zero, z_nat, z_lit, z_lit0, z_lit1, z_in0, z_in1, z_addl0, z_lt, z_ltl, z_llt, z_inj, z_injl, z_add, z_addl, z_ladd, z_mul, z_mull, z_lmul, z_neg, z_negl, z_in, z_inl, z_ltT, z_ltF, z_eqF, z_10, z_01, z_litne, z_ne0, z_0ne, z_ne1, z_1ne, z_lt64, z_02, z_03, z_04, z_05, z_12, z_13, z_14, z_15, z_20, z_21, z_23, z_24, z_25, z_30, z_31, z_32, z_34, z_35, z_40, z_41, z_42, z_43, z_45, z_50, z_51, z_52, z_53, z_54]
  · have g1 := hf.resolve_left g0
    simp (maxSteps := 2000000) (disch := omega) only [(fun d x0 x1 B i => bk_21_0 d x0 x1 (am_wI B i)), m_in, z_pred hc.1, Classical.not_not, (fun d x0 x1 x2 B i => bk_20_0 d x0 x1 x2 (am_wI B i)), (fun d x0 x1 x2 s0 s1 B i => bk_29_33 d x0 x1 x2 s0 s1 (am_wI B i)), t1, t2, a.1, a.2, m_thr0, e5, e6, q6, hM, g1, y_ckd, y_ck2d, y_ond, y_onn, y_oI, y_oIx, y_oJ, y_oV, y_oVx, y_oR, y_oRn, y_oRx, y_b0, y_b1, y_bi, y_bid, y_wIK, y_wIL, y_wII, y_wIJ, y_wIR, y_wIN, y_wIw, y_sI, ↓reduceIte, Nat.reduceEqDiff, eq_self, true_or, or_true, false_or, or_false, and_true, true_and, false_and, and_false, not_true, not_false_eq_true, tf_T, tf_F, y_up1, y_up2, y_xx, y_nx, y_sJ, y_sR, Int32.reduceLT, y_nxK, y_nxL, y_nxR, y_sJK, y_sJL, y_sJR, y_sJN, y_sRK, y_sRL, y_sRN, Nat.add_zero, z_nat, z_lit, z_lit0, z_lit1, z_in0, z_in1, z_addl0, z_lt, z_ltl, z_llt, z_inj, z_injl, z_add, z_addl, z_ladd, z_mul, z_mull, z_lmul, z_neg, z_negl, z_in, z_inl, z_ltT, z_ltF, z_eqF, z_10, z_01, z_litne, z_ne0, z_0ne, z_ne1, z_1ne, z_lt64, z_02, z_03, z_04, z_05, z_12, z_13, z_14, z_15, z_20, z_21, z_23, z_24, z_25, z_30, z_31, z_32, z_34, z_35, z_40, z_41, z_42, z_43, z_45, z_50, z_51, z_52, z_53, z_54]
theorem Rep_felled {t : Nat} (h : Rep B i b w) (hb : b + 260 ≤ 874) (t6 : t < 60) : Rep B (am_up2 i (b + 32 + t) 6 1) b (wu w (40 + 7 * t + 6) 1) := by
  refine Rep_tree (fun s hs => by simp (disch := omega) only [wu_ne]) h (Le.rf B) hb rfl ⟨by simp (disch := omega) only [y_up2, wu_ne]; exact h.2.1.1, fun s hs s6 => ?_⟩ (by intros; simp (disch := omega) only [y_up2]) (by intros; simp (disch := omega) only [y_upr]) (by intros; simp (disch := omega) only [wu_ne])
  have hs' : s < cn w 39 := by unfold cn at hs ⊢; rw [wu_ne (by omega)] at hs; exact hs
  obtain ⟨b0, b1, b2, b3, b4, b5, b6⟩ := h.2.1.2 s hs' s6
  refine ⟨?_, ?_, ?_, ?_, ?_, ?_, ?_⟩
  all_goals try (simp (disch := omega) only [y_up2, wu_ne]; assumption)
  by_cases e : s = t
  · rw [y_up1 (by omega) rfl, wu_at (by omega)]
  · rw [y_up2 (by omega), wu_ne (by omega)]
    exact b6
theorem Wd_felled {t : Nat} (h : Wd w) (ht : t < cn w 39) (t6 : t < 60) : Wd (wu w (40 + 7 * t + 6) 1) := by
  have k : ∀ z, z ≠ 40 + 7 * t + 6 → wu w (40 + 7 * t + 6) 1 z = w z := fun z hz => wu_ne hz
  have e39 : cn (wu w (40 + 7 * t + 6) 1) 39 = cn w 39 := by unfold cn; rw [k _ (by omega)]
  have e21 : cn (wu w (40 + 7 * t + 6) 1) 2621 = cn w 2621 := by unfold cn; rw [k _ (by omega)]
  have e34 : cn (wu w (40 + 7 * t + 6) 1) 3478 = cn w 3478 := by unfold cn; rw [k _ (by omega)]
  obtain ⟨z1, z2, z3, z4⟩ := h.2.2.2.2.2.2.2.2.2.1
  refine Wd_treeF h ⟨fun s hs s6 => ?_, fun s hs s6 => ?_⟩ ⟨fun s hs s6 => ?_, fun s hs s8 n hn n8 => ?_, fun q hq q8 => ?_, fun r hr y hy => ?_⟩ (by intros; simp (disch := omega) only [wu_ne])
  · obtain ⟨a1, a2, a3, a4, a5⟩ := h.2.2.1.1 s (by omega) s6
    refine ⟨?_, ?_, ?_, ?_, ?_⟩
    all_goals try (simp (disch := omega) only [wu_ne]; assumption)
    by_cases e : s = t
    · rw [wu_at (by omega)]
      exact Or.inr rfl
    · rw [k _ (by omega)]
      exact a4
  · rw [k _ (by omega)]
    exact h.2.2.1.2 s (by omega) s6
  · rw [k _ (by omega), k (40 + 7 * s + 3) (by omega), k (40 + 7 * s + 4) (by omega)]
    exact z1 s (by omega) s6
  · have e8 : cn (wu w (40 + 7 * t + 6) 1) (2622 + 49 * s + 8) = cn w (2622 + 49 * s + 8) := by unfold cn; rw [k _ (by omega)]
    rw [k (2622 + 49 * s + 9 + 5 * n + 1) (by omega), k (2622 + 49 * s + 9 + 5 * n + 2) (by omega)]
    exact z2 s (by omega) s8 n (by omega) n8
  · rw [k (3479 + 4 * q) (by omega), k (3479 + 4 * q + 1) (by omega), k (3479 + 4 * q + 2) (by omega), k (3479 + 4 * q + 3) (by omega)]
    exact z3 q (by omega) q8
  · rw [k (3511 + 10 * r + y) (by omega)]
    exact z4 r hr y hy
theorem f_fell {t c wd : Nat} {pl : Int32} (h : CR B i σ) (hW : Wd σ.1) (hc : isc σ.1 39 60) (ht : t < cn σ.1 39) (a : ¬ y < 0 ∧ ¬ 2 < y) (g0 : σ.1 (40 + 7 * t + 6) = 0) (h4 : σ.1 460 = Int32.ofNat c) (c6 : c < 120) (hw0 : σ.1 (40 + 7 * t) = Int32.ofNat wd) (w6 : wd < 6) (hpl : (0 < σ.1 (5 + wd) ∧ pl = 0) ∨ (¬ 0 < σ.1 (5 + wd) ∧ pl = 1)) : FRs B i ((pcw (wu σ.1 (40 + 7 * t + 6) 1) c (npf y pl (lnx y (σ.1 (40 + 7 * t + 2)) (σ.1 (40 + 7 * t + 4))) (σ.1 (40 + 7 * t + 3)) (bdx y (σ.1 (40 + 7 * t + 4))) (σ.1 (40 + 7 * t + 1)) 0 0 (Int32.ofNat t) (σ.1 0) (-1) (σ.1 0 + σ.1 (5 + wd)))), σ.1, σ.2.2.1, true, σ.2.2.2.2) (am_fx am_P (d + 150) 295 0 [some (.ref 64), some (.int (Int32.ofNat t)), some (.int y)] [] (am_wI B i)) (.inl (some (.int (Int32.ofNat c)))) := by
  have hF : Fc B := h.1.1
  have hY : Yd B 94 := h.1.2.1
  have h60 := hc.2
  have t1 : (Int32.ofNat t < 0) = False := z_neg (by omega)
  have t2 := eq_true (ck_nat hc (by omega) ht).2
  have e5 := h.2.1.2.1.1
  have e9 := h.2.1.2.2.1.1.trans h4
  have e6 := (h.2.1.2.1.2 t ht (by omega)).2.2.2.2.2.2
  obtain ⟨B1, i1, E, hC, hS, hf⟩ := c_remember (d := d + 143) h hW
  have hF1 : Fc B1 := hC.1.1
  have hY1 : Yd B1 94 := hC.1.2.1
  have ec1 : i1 94 5 = Int32.ofNat c := hC.2.1.2.2.1.1.trans h4
  have k0 : i1 94 0 = σ.1 0 := hC.2.1.1.1
  have kr : i1 (94 + 1) wd = σ.1 (5 + wd) := hC.2.1.1.2.2.2.2.2.1 wd w6
  obtain ⟨s0, s1, s2, s3, s4, s5, s6⟩ := hC.2.1.2.1.2 t ht (by omega)
  have hq : am_K B1 (94 + 92 + c) = 5 := by simp (disch := omega) only [hY1]
  have hT : am_K B1 (94 + 32 + t) = 10 := by simp (disch := omega) only [hY1]
  obtain ⟨j, E2, jf, ⟨g0', g1, g7, g5, g6, g8, g9, g10, g11, g12, g13, g14, g15, g16, g17, g18⟩, -⟩ := pc_begin (B := B1) (i := am_up2 (am_up2 i1 (94 + 32 + t) 6 1) 94 5 (Int32.ofNat (c + 1))) (d := d + 147) (q := 94 + 92 + c) (x := y) (y := σ.1 (40 + 7 * t + 1)) (z := σ.1 0) hq
  have jT : ∀ k, k ≠ 6 → j (94 + 32 + t) k = i1 (94 + 32 + t) k := fun k hk => by rw [jf _ (by omega), y_up2 (by omega), y_up2 (by omega)]
  have j0 : j (94 + 32 + t) 0 = Int32.ofNat wd := (jT 0 (by omega)).trans (s0.trans hw0)
  have j2 := (jT 2 (by omega)).trans s2
  have j3 := (jT 3 (by omega)).trans s3
  have j4 := (jT 4 (by omega)).trans s4
  have j5' := (jT 5 (by omega)).trans s5
  have jr : j (94 + 1) wd = σ.1 (5 + wd) := by rw [jf _ (by omega), y_up2 (by omega), y_up2 (by omega)]; exact kr
  have j5 : j 94 5 = Int32.ofNat (c + 1) := by rw [jf _ (by omega), y_up1 rfl rfl]
  have hn := @c_newPiece B1 (am_up2 i1 (94 + 32 + t) 6 1) (d + 147) c hY1 (by rw [y_up2 (by omega)]; exact ec1) c6
  refine FRs_tr hS hf (FRs_w (i' := am_up2 (am_up2 (am_up2 (am_up2 (am_up2 (am_up2 (am_up2 j (94 + 92 + c) 2 (lnx y (σ.1 (40 + 7 * t + 2)) (σ.1 (40 + 7 * t + 4)))) (94 + 92 + c) 3 (σ.1 (40 + 7 * t + 3))) (94 + 92 + c) 4 (bdx y (σ.1 (40 + 7 * t + 4)))) (94 + 92 + c) 5 (Int32.ofNat t)) (94 + 92 + c) 6 (σ.1 (40 + 7 * t + 5))) (94 + 92 + c) 8 (σ.1 0 + σ.1 (5 + wd))) (94 + 92 + c) 9 pl) hC ?_ ?_ (fun q k h1 h2 => by simp (disch := omega) only [y_up2]; rw [jf _ (by omega), y_up2 (by omega), y_up2 (by omega)]))
  · rw [bk_295_0]
    rcases hpl with ⟨gp, rfl⟩ | ⟨gp, rfl⟩
    · simp (maxSteps := 2000000) (disch := omega) only [c_ckI1 (ck_nat hc (by omega) ht), c_within1 a, c_ckN1, e5, e9, e6, g0, hF, hY, h4, hn, E, E2, (fun d x0 x1 x2 B i => bk_241_0 d x0 x1 x2 (am_wI B i)), (fun d x0 x1 x3 x4 B i => bk_241_51 d x0 x1 x3 x4 (am_wI B i)), (fun d x0 x1 B i => bk_156_0 d x0 x1 (am_wI B i)), c_lengthAs hT, c_bendAs hT, pc_measure hq, pc_comeFrom hq, j0, j2, j3, j4, j5', jr, j5, s1, k0, g7, gp, z_n1, hF1, hY1, y_ckd, y_ck2d, y_ond, y_onn, y_oI, y_oIx, y_oJ, y_oV, y_oVx, y_oR, y_oRn, y_oRx, y_b0, y_b1, y_bi, y_bid, y_wIK, y_wIL, y_wII, y_wIJ, y_wIR, y_wIN, y_wIw, y_sI, ↓reduceIte, Nat.reduceEqDiff, eq_self, true_or, or_true, false_or, or_false, and_true, true_and, false_and, and_false, not_true, not_false_eq_true, tf_T, tf_F, y_up1, y_up2, y_xx, y_nx, y_sJ, y_sR, Int32.reduceLT, y_nxK, y_nxL, y_nxR, y_sJK, y_sJL, y_sJR, y_sJN, y_sRK, y_sRL, y_sRN, Nat.add_zero, z_nat, z_lit, z_lit0, z_lit1, z_in0, z_in1, z_addl0, z_lt, z_ltl, z_llt, z_inj, z_injl, z_add, z_addl, z_ladd, z_mul, z_mull, z_lmul, z_neg, z_negl, z_in, z_inl, z_ltT, z_ltF, z_eqF, z_10, z_01, z_litne, z_ne0, z_0ne, z_ne1, z_1ne, z_lt64, z_02, z_03, z_04, z_05, z_12, z_13, z_14, z_15, z_20, z_21, z_23, z_24, z_25, z_30, z_31, z_32, z_34, z_35, z_40, z_41, z_42, z_43, z_45, z_50, z_51, z_52, z_53, z_54]
    · simp (maxSteps := 2000000) (disch := omega) only [c_ckI1 (ck_nat hc (by omega) ht), c_within1 a, c_ckN1, e5, e9, e6, g0, hF, hY, h4, hn, E, E2, (fun d x0 x1 x2 B i => bk_241_0 d x0 x1 x2 (am_wI B i)), (fun d x0 x1 x3 x4 B i => bk_241_51 d x0 x1 x3 x4 (am_wI B i)), (fun d x0 x1 B i => bk_156_0 d x0 x1 (am_wI B i)), c_lengthAs hT, c_bendAs hT, pc_measure hq, pc_comeFrom hq, j0, j2, j3, j4, j5', jr, j5, s1, k0, g7, gp, z_n1, hF1, hY1, y_ckd, y_ck2d, y_ond, y_onn, y_oI, y_oIx, y_oJ, y_oV, y_oVx, y_oR, y_oRn, y_oRx, y_b0, y_b1, y_bi, y_bid, y_wIK, y_wIL, y_wII, y_wIJ, y_wIR, y_wIN, y_wIw, y_sI, ↓reduceIte, Nat.reduceEqDiff, eq_self, true_or, or_true, false_or, or_false, and_true, true_and, false_and, and_false, not_true, not_false_eq_true, tf_T, tf_F, y_up1, y_up2, y_xx, y_nx, y_sJ, y_sR, Int32.reduceLT, y_nxK, y_nxL, y_nxR, y_sJK, y_sJL, y_sJR, y_sJN, y_sRK, y_sRL, y_sRN, Nat.add_zero, z_nat, z_lit, z_lit0, z_lit1, z_in0, z_in1, z_addl0, z_lt, z_ltl, z_llt, z_inj, z_injl, z_add, z_addl, z_ladd, z_mul, z_mull, z_lmul, z_neg, z_negl, z_in, z_inl, z_ltT, z_ltF, z_eqF, z_10, z_01, z_litne, z_ne0, z_0ne, z_ne1, z_1ne, z_lt64, z_02, z_03, z_04, z_05, z_12, z_13, z_14, z_15, z_20, z_21, z_23, z_24, z_25, z_30, z_31, z_32, z_34, z_35, z_40, z_41, z_42, z_43, z_45, z_50, z_51, z_52, z_53, z_54]
  · refine Rep_new (Rep_felled hC.2.1 (by omega) (by omega)) (by omega) (by rw [wu_ne (by omega)]; exact h4) c6 (fun q k h1 h2 => by simp (disch := omega) only [y_up2]; rw [jf _ (by omega), y_up2 (by omega)]) (by simp (disch := omega) only [y_up2]; exact j5) ?_
    refine ⟨?_, ?_, ?_, ?_, ?_, ?_, ?_, ?_, ?_, ?_, ?_, ?_, ?_, ?_, ?_, ?_, ?_, fun e => ?_, ?_⟩
    all_goals try (rw [pcw_0]; simp (disch := omega) only [y_up2]; exact g0')
    all_goals try (rw [pcw_at (by omega)]; simp (disch := omega) only [y_up1, y_up2, g0', g1, g7, g5, g6, g9, g10, g11, g12, g13, g14, g15, g16, g17, g18]; rfl)
    · rw [pcw_at (by omega)]
      simp (disch := omega) only [y_up1, y_up2]
      show _ = hrt _ (Int32.ofNat t)
      unfold hrt
      rw [if_neg (by rw [t1]; exact id), z_nat (by omega), if_pos (by omega), pcw_ne (by omega), wu_ne (by omega)]
theorem m_fell {t c wd : Nat} {pl : Int32} (h : MR B i σ) (hc : isc σ.1 39 60) (ht : t < cn σ.1 39) (a : ¬ y < 0 ∧ ¬ 2 < y) (g0 : σ.1 (40 + 7 * t + 6) = 0) (h4 : σ.1 460 = Int32.ofNat c) (c6 : c < 120) (hw0 : σ.1 (40 + 7 * t) = Int32.ofNat wd) (w6 : wd < 6) (hpl : (0 < σ.1 (5 + wd) ∧ pl = 0) ∨ (¬ 0 < σ.1 (5 + wd) ∧ pl = 1)) : MRs B i ((pcw (wu σ.1 (40 + 7 * t + 6) 1) c (npf y pl (lnx y (σ.1 (40 + 7 * t + 2)) (σ.1 (40 + 7 * t + 4))) (σ.1 (40 + 7 * t + 3)) (bdx y (σ.1 (40 + 7 * t + 4))) (σ.1 (40 + 7 * t + 1)) 0 0 (Int32.ofNat t) (σ.1 0) (-1) (σ.1 0 + σ.1 (5 + wd)))), σ.1, σ.2.2.1, true, σ.2.2.2.2) (am_fx am_P (d + 150) 29 0 [some (.ref 874), some (.int (Int32.ofNat t)), some (.int y), none, none] [] (am_wI B i)) (some (.int (Int32.ofNat c))) 0 := by
  have hM : Md B := h.1.1
  have h60 := hc.2
  have t1 : (Int32.ofNat t < 0) = False := z_neg (by omega)
  have t2 := eq_true (ck_nat hc (by omega) ht).2
  have e5 := h.2.1 39 (by omega)
  have e6 : i 875 460 = Int32.ofNat c := (h.2.1 460 (by omega)).trans h4
  have q6 := h.2.1 (40 + 7 * t + 6) (by omega)
  have c6' : ¬ Int32.ofNat c = 120 := by rw [show (120 : Int32) = Int32.ofNat 120 from rfl, z_inj (by omega) (by omega)]; omega
  obtain ⟨i1, E, hD, hf⟩ := m_deed (d := d + 149) (MR_0 h)
  have z0 : i1 874 0 = 0 := (hf _ _ (by omega) (by omega)).trans (y_up1 rfl rfl)
  have d1 := hD.2.1 (40 + 7 * t + 1) (by omega)
  have d2 := hD.2.1 (40 + 7 * t + 2) (by omega)
  have d3 := hD.2.1 (40 + 7 * t + 3) (by omega)
  have d4 := hD.2.1 (40 + 7 * t + 4) (by omega)
  obtain ⟨j, E2, hj, jf⟩ := m_begins (B := B) (i := am_up2 i1 875 (40 + 7 * t + 6) 1) (w := (wu σ.1 (40 + 7 * t + 6) 1)) (d := d + 146) (x := y) (y := σ.1 (40 + 7 * t + 1)) (z := lnx y (σ.1 (40 + 7 * t + 2)) (σ.1 (40 + 7 * t + 4))) (u := σ.1 (40 + 7 * t + 3)) (v := bdx y (σ.1 (40 + 7 * t + 4))) (t := Int32.ofNat t) hM (up_wu hD.2.1) (by rw [wu_ne (by omega)]; exact h4) c6
  have j0 : j 875 0 = σ.1 0 := by rw [hj _ (by omega), pcw_ne (by omega), wu_ne (by omega)]
  have jw : j 875 (40 + 7 * t) = Int32.ofNat wd := by rw [hj _ (by omega), pcw_ne (by omega), wu_ne (by omega)]; exact hw0
  have jr : j 875 (5 + wd) = σ.1 (5 + wd) := by rw [hj _ (by omega), pcw_ne (by omega), wu_ne (by omega)]
  refine MRs_d hf (MRs_w hD (i' := am_up2 (am_up2 j 875 (461 + 18 * c + 17) (σ.1 0 + σ.1 (5 + wd))) 875 (461 + 18 * c + 1) pl) ?_ (by simp (disch := omega) only [y_up2]; rw [jf _ _ (by omega), y_up2 (by omega)]; exact z0) (fun s hs => ?_) (fun q k h1 h2 => by simp (disch := omega) only [y_up2]; rw [jf _ _ (by omega), y_up2 (by omega)]))
  · rw [bk_29_0]
    rcases hpl with ⟨gp, rfl⟩ | ⟨gp, rfl⟩
    · by_cases k : y = 1
      · subst k
        rw [show bdx 1 (σ.1 (40 + 7 * t + 4)) = σ.1 (40 + 7 * t + 4) from rfl] at E2
        simp (maxSteps := 2000000) (disch := omega) only [(fun d x0 x1 B i => bk_21_0 d x0 x1 (am_wI B i)), m_in, z_pred hc.1, Classical.not_not, (fun d x0 x1 x2 B i => bk_20_0 d x0 x1 x2 (am_wI B i)), (fun d x0 x1 x2 s0 s1 B i => bk_29_33 d x0 x1 x2 s0 s1 (am_wI B i)), t1, t2, a.1, a.2, m_thr0, e5, e6, q6, hM, g0, c6', E, d1, d2, d3, d4, m_longAs hM, E2, (fun d x0 x1 s0 s1 s2 s3 s4 s5 B i => bk_29_123 d x0 x1 s0 s1 s2 s3 s4 s5 (am_wI B i)), (fun d x0 x3 x4 B i => bk_29_157 d x0 x3 x4 (am_wI B i)), (fun d x0 B i => bk_13_0 d x0 (am_wI B i)), (fun d x0 x1 x2 x3 B i => bk_25_0 d x0 x1 x2 x3 (am_wI B i)), (fun d x0 x1 B i => bk_23_0 d x0 x1 (am_wI B i)), j0, jw, jr, gp, y_ckd, y_ck2d, y_ond, y_onn, y_oI, y_oIx, y_oJ, y_oV, y_oVx, y_oR, y_oRn, y_oRx, y_b0, y_b1, y_bi, y_bid, y_wIK, y_wIL, y_wII, y_wIJ, y_wIR, y_wIN, y_wIw, y_sI, ↓reduceIte, Nat.reduceEqDiff, eq_self, true_or, or_true, false_or, or_false, and_true, true_and, false_and, and_false, not_true, not_false_eq_true, tf_T, tf_F, y_up1, y_up2, y_xx, y_nx, y_sJ, y_sR, Int32.reduceLT, y_nxK, y_nxL, y_nxR, y_sJK, y_sJL, y_sJR, y_sJN, y_sRK, y_sRL, y_sRN, Nat.add_zero, z_nat, z_lit, z_lit0, z_lit1, z_in0, z_in1, z_addl0, z_lt, z_ltl, z_llt, z_inj, z_injl, z_add, z_addl, z_ladd, z_mul, z_mull, z_lmul, z_neg, z_negl, z_in, z_inl, z_ltT, z_ltF, z_eqF, z_10, z_01, z_litne, z_ne0, z_0ne, z_ne1, z_1ne, z_lt64, z_02, z_03, z_04, z_05, z_12, z_13, z_14, z_15, z_20, z_21, z_23, z_24, z_25, z_30, z_31, z_32, z_34, z_35, z_40, z_41, z_42, z_43, z_45, z_50, z_51, z_52, z_53, z_54]
      · rw [show bdx y (σ.1 (40 + 7 * t + 4)) = 0 from if_neg k] at E2
        simp (maxSteps := 2000000) (disch := omega) only [(fun d x0 x1 B i => bk_21_0 d x0 x1 (am_wI B i)), m_in, z_pred hc.1, Classical.not_not, (fun d x0 x1 x2 B i => bk_20_0 d x0 x1 x2 (am_wI B i)), (fun d x0 x1 x2 s0 s1 B i => bk_29_33 d x0 x1 x2 s0 s1 (am_wI B i)), t1, t2, a.1, a.2, m_thr0, e5, e6, q6, hM, g0, c6', E, d1, d2, d3, d4, m_longAs hM, E2, (fun d x0 x1 s0 s1 s2 s3 s4 s5 B i => bk_29_123 d x0 x1 s0 s1 s2 s3 s4 s5 (am_wI B i)), (fun d x0 x3 x4 B i => bk_29_157 d x0 x3 x4 (am_wI B i)), (fun d x0 B i => bk_13_0 d x0 (am_wI B i)), (fun d x0 x1 x2 x3 B i => bk_25_0 d x0 x1 x2 x3 (am_wI B i)), (fun d x0 x1 B i => bk_23_0 d x0 x1 (am_wI B i)), j0, jw, jr, gp, k, y_ckd, y_ck2d, y_ond, y_onn, y_oI, y_oIx, y_oJ, y_oV, y_oVx, y_oR, y_oRn, y_oRx, y_b0, y_b1, y_bi, y_bid, y_wIK, y_wIL, y_wII, y_wIJ, y_wIR, y_wIN, y_wIw, y_sI, ↓reduceIte, Nat.reduceEqDiff, eq_self, true_or, or_true, false_or, or_false, and_true, true_and, false_and, and_false, not_true, not_false_eq_true, tf_T, tf_F, y_up1, y_up2, y_xx, y_nx, y_sJ, y_sR, Int32.reduceLT, y_nxK, y_nxL, y_nxR, y_sJK, y_sJL, y_sJR, y_sJN, y_sRK, y_sRL, y_sRN, Nat.add_zero, z_nat, z_lit, z_lit0, z_lit1, z_in0, z_in1, z_addl0, z_lt, z_ltl, z_llt, z_inj, z_injl, z_add, z_addl, z_ladd, z_mul, z_mull, z_lmul, z_neg, z_negl, z_in, z_inl, z_ltT, z_ltF, z_eqF, z_10, z_01, z_litne, z_ne0, z_0ne, z_ne1, z_1ne, z_lt64, z_02, z_03, z_04, z_05, z_12, z_13, z_14, z_15, z_20, z_21, z_23, z_24, z_25, z_30, z_31, z_32, z_34, z_35, z_40, z_41, z_42, z_43, z_45, z_50, z_51, z_52, z_53, z_54]
    · have up1 : am_up2 (am_up2 j 875 (461 + 18 * c + 17) (σ.1 0 + σ.1 (5 + wd))) 875 (461 + 18 * c + 1) 1 = am_up2 j 875 (461 + 18 * c + 17) (σ.1 0 + σ.1 (5 + wd)) := up_same (by rw [y_up2 (by omega), hj _ (by omega), pcw_at (by omega)]; rfl)
      rw [up1]
      by_cases k : y = 1
      · subst k
        rw [show bdx 1 (σ.1 (40 + 7 * t + 4)) = σ.1 (40 + 7 * t + 4) from rfl] at E2
        simp (maxSteps := 2000000) (disch := omega) only [(fun d x0 x1 B i => bk_21_0 d x0 x1 (am_wI B i)), m_in, z_pred hc.1, Classical.not_not, (fun d x0 x1 x2 B i => bk_20_0 d x0 x1 x2 (am_wI B i)), (fun d x0 x1 x2 s0 s1 B i => bk_29_33 d x0 x1 x2 s0 s1 (am_wI B i)), t1, t2, a.1, a.2, m_thr0, e5, e6, q6, hM, g0, c6', E, d1, d2, d3, d4, m_longAs hM, E2, (fun d x0 x1 s0 s1 s2 s3 s4 s5 B i => bk_29_123 d x0 x1 s0 s1 s2 s3 s4 s5 (am_wI B i)), (fun d x0 x3 x4 B i => bk_29_157 d x0 x3 x4 (am_wI B i)), (fun d x0 B i => bk_13_0 d x0 (am_wI B i)), (fun d x0 x1 x2 x3 B i => bk_25_0 d x0 x1 x2 x3 (am_wI B i)), (fun d x0 x1 B i => bk_23_0 d x0 x1 (am_wI B i)), j0, jw, jr, gp, y_ckd, y_ck2d, y_ond, y_onn, y_oI, y_oIx, y_oJ, y_oV, y_oVx, y_oR, y_oRn, y_oRx, y_b0, y_b1, y_bi, y_bid, y_wIK, y_wIL, y_wII, y_wIJ, y_wIR, y_wIN, y_wIw, y_sI, ↓reduceIte, Nat.reduceEqDiff, eq_self, true_or, or_true, false_or, or_false, and_true, true_and, false_and, and_false, not_true, not_false_eq_true, tf_T, tf_F, y_up1, y_up2, y_xx, y_nx, y_sJ, y_sR, Int32.reduceLT, y_nxK, y_nxL, y_nxR, y_sJK, y_sJL, y_sJR, y_sJN, y_sRK, y_sRL, y_sRN, Nat.add_zero, z_nat, z_lit, z_lit0, z_lit1, z_in0, z_in1, z_addl0, z_lt, z_ltl, z_llt, z_inj, z_injl, z_add, z_addl, z_ladd, z_mul, z_mull, z_lmul, z_neg, z_negl, z_in, z_inl, z_ltT, z_ltF, z_eqF, z_10, z_01, z_litne, z_ne0, z_0ne, z_ne1, z_1ne, z_lt64, z_02, z_03, z_04, z_05, z_12, z_13, z_14, z_15, z_20, z_21, z_23, z_24, z_25, z_30, z_31, z_32, z_34, z_35, z_40, z_41, z_42, z_43, z_45, z_50, z_51, z_52, z_53, z_54]
      · rw [show bdx y (σ.1 (40 + 7 * t + 4)) = 0 from if_neg k] at E2
        simp (maxSteps := 2000000) (disch := omega) only [(fun d x0 x1 B i => bk_21_0 d x0 x1 (am_wI B i)), m_in, z_pred hc.1, Classical.not_not, (fun d x0 x1 x2 B i => bk_20_0 d x0 x1 x2 (am_wI B i)), (fun d x0 x1 x2 s0 s1 B i => bk_29_33 d x0 x1 x2 s0 s1 (am_wI B i)), t1, t2, a.1, a.2, m_thr0, e5, e6, q6, hM, g0, c6', E, d1, d2, d3, d4, m_longAs hM, E2, (fun d x0 x1 s0 s1 s2 s3 s4 s5 B i => bk_29_123 d x0 x1 s0 s1 s2 s3 s4 s5 (am_wI B i)), (fun d x0 x3 x4 B i => bk_29_157 d x0 x3 x4 (am_wI B i)), (fun d x0 B i => bk_13_0 d x0 (am_wI B i)), (fun d x0 x1 x2 x3 B i => bk_25_0 d x0 x1 x2 x3 (am_wI B i)), (fun d x0 x1 B i => bk_23_0 d x0 x1 (am_wI B i)), j0, jw, jr, gp, k, y_ckd, y_ck2d, y_ond, y_onn, y_oI, y_oIx, y_oJ, y_oV, y_oVx, y_oR, y_oRn, y_oRx, y_b0, y_b1, y_bi, y_bid, y_wIK, y_wIL, y_wII, y_wIJ, y_wIR, y_wIN, y_wIw, y_sI, ↓reduceIte, Nat.reduceEqDiff, eq_self, true_or, or_true, false_or, or_false, and_true, true_and, false_and, and_false, not_true, not_false_eq_true, tf_T, tf_F, y_up1, y_up2, y_xx, y_nx, y_sJ, y_sR, Int32.reduceLT, y_nxK, y_nxL, y_nxR, y_sJK, y_sJL, y_sJR, y_sJN, y_sRK, y_sRL, y_sRN, Nat.add_zero, z_nat, z_lit, z_lit0, z_lit1, z_in0, z_in1, z_addl0, z_lt, z_ltl, z_llt, z_inj, z_injl, z_add, z_addl, z_ladd, z_mul, z_mull, z_lmul, z_neg, z_negl, z_in, z_inl, z_ltT, z_ltF, z_eqF, z_10, z_01, z_litne, z_ne0, z_0ne, z_ne1, z_1ne, z_lt64, z_02, z_03, z_04, z_05, z_12, z_13, z_14, z_15, z_20, z_21, z_23, z_24, z_25, z_30, z_31, z_32, z_34, z_35, z_40, z_41, z_42, z_43, z_45, z_50, z_51, z_52, z_53, z_54]
  · by_cases e : 461 + 18 * c ≤ s ∧ s < 461 + 18 * c + 18
    · obtain ⟨k, rfl⟩ : ∃ k, s = 461 + 18 * c + k := ⟨s - (461 + 18 * c), by omega⟩
      have hk : k < 18 := by omega
      rw [pcw_at hk]
      have hjk := hj (461 + 18 * c + k) hs
      rw [pcw_at hk] at hjk
      have h : k = 0 ∨ k = 1 ∨ k = 2 ∨ k = 3 ∨ k = 4 ∨ k = 5 ∨ k = 6 ∨ k = 7 ∨ k = 8 ∨ k = 9 ∨ k = 10 ∨ k = 11 ∨ k = 12 ∨ k = 13 ∨ k = 14 ∨ k = 15 ∨ k = 16 ∨ k = 17 := by omega
      rcases h with rfl | rfl | rfl | rfl | rfl | rfl | rfl | rfl | rfl | rfl | rfl | rfl | rfl | rfl | rfl | rfl | rfl | rfl <;> simp (disch := omega) only [y_up1, y_up2] <;> first | rfl | exact hjk
    · simp (disch := omega) only [y_up2]
      rw [hj s hs]
      exact pcw_out e
theorem Wd_fell {t c wd : Nat} {pl : Int32} (h : Wd w) (hc : isc w 39 60) (ht : t < cn w 39) (a : ¬ y < 0 ∧ ¬ 2 < y) (h4 : w 460 = Int32.ofNat c) (c6 : c < 120) (hp : pl = 0 ∨ pl = 1) : Wd (pcw (wu w (40 + 7 * t + 6) 1) c (npf y pl (lnx y (w (40 + 7 * t + 2)) (w (40 + 7 * t + 4))) (w (40 + 7 * t + 3)) (bdx y (w (40 + 7 * t + 4))) (w (40 + 7 * t + 1)) 0 0 (Int32.ofNat t) (w 0) (-1) v)) := by
  have h60 := hc.2
  have h1 := Wd_felled h ht (by omega)
  have hc1 : wu w (40 + 7 * t + 6) 1 460 = Int32.ofNat c := by rw [wu_ne (by omega)]; exact h4
  obtain ⟨zl, zt, zb⟩ := h.2.2.2.2.2.2.2.2.2.1.1 t ht (by omega)
  obtain ⟨t0, ts, tt, -, -⟩ := h.2.2.1.1 t ht (by omega)
  obtain ⟨m, em, m5, m1⟩ := lnx_ok (x := y) zl zb
  rw [em]
  have k0 := h.1.1
  have k02 := k0.2
  have c2 : cn (pcw (wu w (40 + 7 * t + 6) 1) c (npf y pl (Int32.ofNat m) (w (40 + 7 * t + 3)) (bdx y (w (40 + 7 * t + 4))) (w (40 + 7 * t + 1)) 0 0 (Int32.ofNat t) (w 0) (-1) v)) (461 + 18 * c + 2) = m := cn_of (pcw_at (by omega)) (by omega)
  have hlt : lnt (pcw (wu w (40 + 7 * t + 6) 1) c (npf y pl (Int32.ofNat m) (w (40 + 7 * t + 3)) (bdx y (w (40 + 7 * t + 4))) (w (40 + 7 * t + 1)) 0 0 (Int32.ofNat t) (w 0) (-1) v)) c ≤ 100 := by
    unfold lnt
    rw [c2]
    split <;> omega
  refine Wd_new h1 hc1 c6 ⟨?_, ?_, ?_, ?_, ?_, ?_, ?_, ?_, ?_, ?_, ?_, ?_, ?_⟩ ?_
  · rw [c2, pcw_at (by omega)]
    exact ⟨rfl, m5, by omega, fun _ => m1⟩
  · rw [pcw_0]
    refine ⟨a.1, (z_rg (c := 4) a.1 a.2 (by decide)).2⟩
  · rw [pcw_at (by omega)]
    show ¬ pl < 0 ∧ pl < 7
    rcases hp with rfl | rfl <;> decide
  · rw [pcw_at (by omega)]
    exact tt
  · rw [pcw_at (by omega)]
    exact ts
  · rw [pcw_at (by omega), pcw_ne (by omega), wu_ne (by omega)]
    show ¬ (0 : Int32) < 0 ∧ ¬ w 0 < 0
    refine ⟨by decide, ?_⟩
    rw [k0.1, z_neg (by omega)]
    exact id
  · rw [pcw_at (by omega)]
    show ¬ (0 : Int32) < 0 ∧ (0 : Int32) < 101
    decide
  · rw [pcw_at (by omega), pcw_ne (by omega), wu_ne (by omega)]
    exact Or.inr (ck_nat hc (by omega) ht)
  · rw [pcw_at (by omega)]
    exact Or.inl rfl
  · rw [pcw_at (by omega)]
    exact fun q => by
      have q : pl = 3 := q
      rcases hp with rfl | rfl <;> exact absurd q (by decide)
  · rw [pcw_at (by omega)]
    exact Or.inl rfl
  · rw [pcw_at (by omega)]
    exact Or.inl rfl
  · rw [pcw_at (by omega)]
    exact Or.inl rfl
  · rw [lng_new hc1 c6]
    have := h1.2.2.2.1.2
    rw [cn_of hc1 (by omega)] at this
    omega
theorem k_fell (h : Sim B i σ) (hs : Sc B i L j) (hO : am_K B 892 = 22 ∧ am_L B 892 = 1) : Stq B i d 536 j := by
  have hc := h.2.2.1.1.2.1
  have h60 := hc.2
  have h4 := h.2.2.1.1.2.2.1
  by_cases g : ¬ i 0 (j + 1) < 0 ∧ i 0 (j + 1) < σ.1 39
  rotate_left
  · exact kx_4_1 h hs hO (f_fell_x0 (d := d + 48) h.1 g) fun B0 i0 h0 => m_fell_x0 (d := d + 49) h0 hc g
  obtain ⟨t, e, ht⟩ := nat_ck hc (by omega) g
  by_cases a : ¬ i 0 (j + 2) < 0 ∧ ¬ 2 < i 0 (j + 2)
  rotate_left
  · exact kx_4_2 h hs hO (by rw [e]; exact f_fell_x1 (d := d + 48) h.1 hc ht a) fun B0 i0 h0 => by rw [e]; exact m_fell_x1 (d := d + 49) h0 hc ht a
  obtain ⟨t0, -, -, tf, -⟩ := h.2.2.1.2.2.1.1 t ht (by omega)
  by_cases g1 : σ.1 (40 + 7 * t + 6) = 0 ∧ cn σ.1 460 < 120
  rotate_left
  · exact kk_4 h hs hO h.2.2 (by rw [e]; exact f_fell0 (d := d + 48) h.1 hc ht a g1 tf h4) fun B0 i0 h0 => by rw [e]; exact m_fell0 (d := d + 49) h0 hc ht a g1 tf h4
  obtain ⟨wd, hw0, w6⟩ := z_lk 6 (by omega) t0.1 t0.2
  by_cases gp : 0 < σ.1 (5 + wd)
  · exact kk_4 (σ' := ((pcw (wu σ.1 (40 + 7 * t + 6) 1) (cn σ.1 460) (npf (i 0 (j + 2)) 0 (lnx (i 0 (j + 2)) (σ.1 (40 + 7 * t + 2)) (σ.1 (40 + 7 * t + 4))) (σ.1 (40 + 7 * t + 3)) (bdx (i 0 (j + 2)) (σ.1 (40 + 7 * t + 4))) (σ.1 (40 + 7 * t + 1)) 0 0 (Int32.ofNat t) (σ.1 0) (-1) (σ.1 0 + σ.1 (5 + wd)))), σ.1, σ.2.2.1, true, σ.2.2.2.2)) h hs hO ⟨Wd_fell (wd := wd) h.2.2.1 hc ht a h4.1 g1.2 (Or.inl rfl), fun _ => h.2.2.1, h.2.2.2.2.1, h.2.2.2.2.2⟩ (by rw [e]; exact f_fell (d := d + 48) h.1 h.2.2.1 hc ht a g1.1 h4.1 g1.2 hw0 w6 (Or.inl ⟨gp, rfl⟩)) fun B0 i0 h0 => by rw [e]; exact m_fell (d := d + 49) h0 hc ht a g1.1 h4.1 g1.2 hw0 w6 (Or.inl ⟨gp, rfl⟩)
  · exact kk_4 (σ' := ((pcw (wu σ.1 (40 + 7 * t + 6) 1) (cn σ.1 460) (npf (i 0 (j + 2)) 1 (lnx (i 0 (j + 2)) (σ.1 (40 + 7 * t + 2)) (σ.1 (40 + 7 * t + 4))) (σ.1 (40 + 7 * t + 3)) (bdx (i 0 (j + 2)) (σ.1 (40 + 7 * t + 4))) (σ.1 (40 + 7 * t + 1)) 0 0 (Int32.ofNat t) (σ.1 0) (-1) (σ.1 0 + σ.1 (5 + wd)))), σ.1, σ.2.2.1, true, σ.2.2.2.2)) h hs hO ⟨Wd_fell (wd := wd) h.2.2.1 hc ht a h4.1 g1.2 (Or.inr rfl), fun _ => h.2.2.1, h.2.2.2.2.1, h.2.2.2.2.2⟩ (by rw [e]; exact f_fell (d := d + 48) h.1 h.2.2.1 hc ht a g1.1 h4.1 g1.2 hw0 w6 (Or.inr ⟨gp, rfl⟩)) fun B0 i0 h0 => by rw [e]; exact m_fell (d := d + 49) h0 hc ht a g1.1 h4.1 g1.2 hw0 w6 (Or.inr ⟨gp, rfl⟩)
end Fell
