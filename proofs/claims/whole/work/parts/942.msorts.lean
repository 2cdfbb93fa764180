/-! TEXTS ON THE TAPE, the model: a line. Made by wip/whole/math/942.py. -/
section ModE
variable {B : am_A} {i j k i' : Nat → Nat → Int32} {N : Nat → Nat} {d D L p b e q n s f c v K : Nat} {u : Nat → Int32} {st : PS} {x : am_X} {r : PR}
theorem upw {y : Int32} (h : ∀ z, i 875 z = u z) : ∀ z, am_up2 i 875 K y 875 z = wu u K y z := fun z => by
  by_cases q : z = K
  · rw [q, y_up1 rfl rfl, wu_at rfl]
  · rw [y_up2 (by omega), wu_ne q]
    exact h z
theorem m_sorts (hM : Md B) (hX : Stx B j) (hc : MT N L j) (e8 : j 874 8 = Int32.ofNat e) (e10 : j 874 10 = Int32.ofNat b) (hbe : b ≤ e) (heL : e ≤ L) (E : am_fx am_P (D + 3) 41 0 [some (.ref 874)] [] (am_wI B i) = some (.inl none, am_wI B j)) (h12 : n < 12) : am_fx am_P (D + 3 + 1) 53 0 [some (.ref 874), some (.int (Int32.ofNat n)), none, none] [] (am_wI B i) = am_fx am_P (D + 3 + 1) 53 72 [some (.ref 874), none, some (.int (Int32.ofNat (12044 + 4 * n))), none] [.int (txn (wix N b e [10, 11, 12, 13] 0))] (am_wI B j) := by
  have ek : (3542 : Int32) + 850 * 10 + 2 = Int32.ofNat 12044 := by decide
  have n12 : ¬ Int32.ofNat n = 12 := fun q => by rw [z_injl (by omega) (by decide)] at q; omega
  rw [show wix N b e [10, 11, 12, 13] 0 = (if isw N b e (sx 10) then some 0 else (if isw N b e (sx 11) then some 1 else (if isw N b e (sx 12) then some 2 else (if isw N b e (sx 13) then some 3 else none)))) from rfl]
  have W10 := m_isWord (d := D + 3) hM hX hc e8 e10 hbe heL (q := 10) (by omega) (sxs 10 (by omega) (by omega))
  have k10 := (hX 10 (by omega) (by omega)).1
  by_cases g10 : isw N b e (sx 10)
  · rw [if_pos g10] at W10 ⊢
    rw [bk_53_0]
    simp (disch := omega) only [E, n12, bk_48_0, bk_47_0, ek, k10, W10, txn, z_39, z_390, hM, y_ckd, y_ck2d, y_ond, y_onn, y_oI, y_oIx, y_oJ, y_oV, y_oVx, y_oR, y_oRn, y_oRx, y_b0, y_b1, y_bi, y_bid, y_wIK, y_wIL, y_wII, y_wIJ, y_wIR, y_wIN, y_wIw, y_sI, ↓reduceIte, Nat.reduceEqDiff, eq_self, true_or, or_true, false_or, or_false, and_true, true_and, false_and, and_false, not_true, not_false_eq_true, tf_T, tf_F, y_up1, y_up2, y_xx, y_nx, y_sJ, y_sR, Int32.reduceLT, y_nxK, y_nxL, y_nxR, y_sJK, y_sJL, y_sJR, y_sJN, y_sRK, y_sRL, y_sRN, Nat.add_zero, z_nat, z_lit, z_lit0, z_lit1, z_in0, z_in1, z_addl0, z_lt, z_ltl, z_llt, z_inj, z_injl, z_add, z_addl, z_ladd, z_mul, z_mull, z_lmul, z_neg, z_negl, z_in, z_inl, z_ltT, z_ltF, z_eqF, z_10, z_01, z_litne, z_ne0, z_0ne, z_ne1, z_1ne, z_lt64, z_02, z_03, z_04, z_05, z_12, z_13, z_14, z_15, z_20, z_21, z_23, z_24, z_25, z_30, z_31, z_32, z_34, z_35, z_40, z_41, z_42, z_43, z_45, z_50, z_51, z_52, z_53, z_54]
    rfl
  rw [if_neg g10] at W10 ⊢
  have W11 := m_isWord (d := D + 3) hM hX hc e8 e10 hbe heL (q := 11) (by omega) (sxs 11 (by omega) (by omega))
  have k11 := (hX 11 (by omega) (by omega)).1
  by_cases g11 : isw N b e (sx 11)
  · rw [if_pos g11] at W11 ⊢
    rw [bk_53_0]
    simp (disch := omega) only [E, n12, bk_48_0, bk_47_0, ek, k10, W10, k11, W11, txn, z_39, z_390, hM, y_ckd, y_ck2d, y_ond, y_onn, y_oI, y_oIx, y_oJ, y_oV, y_oVx, y_oR, y_oRn, y_oRx, y_b0, y_b1, y_bi, y_bid, y_wIK, y_wIL, y_wII, y_wIJ, y_wIR, y_wIN, y_wIw, y_sI, ↓reduceIte, Nat.reduceEqDiff, eq_self, true_or, or_true, false_or, or_false, and_true, true_and, false_and, and_false, not_true, not_false_eq_true, tf_T, tf_F, y_up1, y_up2, y_xx, y_nx, y_sJ, y_sR, Int32.reduceLT, y_nxK, y_nxL, y_nxR, y_sJK, y_sJL, y_sJR, y_sJN, y_sRK, y_sRL, y_sRN, Nat.add_zero, z_nat, z_lit, z_lit0, z_lit1, z_in0, z_in1, z_addl0, z_lt, z_ltl, z_llt, z_inj, z_injl, z_add, z_addl, z_ladd, z_mul, z_mull, z_lmul, z_neg, z_negl, z_in, z_inl, z_ltT, z_ltF, z_eqF, z_10, z_01, z_litne, z_ne0, z_0ne, z_ne1, z_1ne, z_lt64, z_02, z_03, z_04, z_05, z_12, z_13, z_14, z_15, z_20, z_21, z_23, z_24, z_25, z_30, z_31, z_32, z_34, z_35, z_40, z_41, z_42, z_43, z_45, z_50, z_51, z_52, z_53, z_54]
    rfl
  rw [if_neg g11] at W11 ⊢
  have W12 := m_isWord (d := D + 3) hM hX hc e8 e10 hbe heL (q := 12) (by omega) (sxs 12 (by omega) (by omega))
  have k12 := (hX 12 (by omega) (by omega)).1
  by_cases g12 : isw N b e (sx 12)
  · rw [if_pos g12] at W12 ⊢
    rw [bk_53_0]
    simp (disch := omega) only [E, n12, bk_48_0, bk_47_0, ek, k10, W10, k11, W11, k12, W12, txn, z_39, z_390, hM, y_ckd, y_ck2d, y_ond, y_onn, y_oI, y_oIx, y_oJ, y_oV, y_oVx, y_oR, y_oRn, y_oRx, y_b0, y_b1, y_bi, y_bid, y_wIK, y_wIL, y_wII, y_wIJ, y_wIR, y_wIN, y_wIw, y_sI, ↓reduceIte, Nat.reduceEqDiff, eq_self, true_or, or_true, false_or, or_false, and_true, true_and, false_and, and_false, not_true, not_false_eq_true, tf_T, tf_F, y_up1, y_up2, y_xx, y_nx, y_sJ, y_sR, Int32.reduceLT, y_nxK, y_nxL, y_nxR, y_sJK, y_sJL, y_sJR, y_sJN, y_sRK, y_sRL, y_sRN, Nat.add_zero, z_nat, z_lit, z_lit0, z_lit1, z_in0, z_in1, z_addl0, z_lt, z_ltl, z_llt, z_inj, z_injl, z_add, z_addl, z_ladd, z_mul, z_mull, z_lmul, z_neg, z_negl, z_in, z_inl, z_ltT, z_ltF, z_eqF, z_10, z_01, z_litne, z_ne0, z_0ne, z_ne1, z_1ne, z_lt64, z_02, z_03, z_04, z_05, z_12, z_13, z_14, z_15, z_20, z_21, z_23, z_24, z_25, z_30, z_31, z_32, z_34, z_35, z_40, z_41, z_42, z_43, z_45, z_50, z_51, z_52, z_53, z_54]
    rfl
  rw [if_neg g12] at W12 ⊢
  have W13 := m_isWord (d := D + 3) hM hX hc e8 e10 hbe heL (q := 13) (by omega) (sxs 13 (by omega) (by omega))
  have k13 := (hX 13 (by omega) (by omega)).1
  by_cases g13 : isw N b e (sx 13)
  · rw [if_pos g13] at W13 ⊢
    rw [bk_53_0]
    simp (disch := omega) only [E, n12, bk_48_0, bk_47_0, ek, k10, W10, k11, W11, k12, W12, k13, W13, txn, z_39, z_390, hM, y_ckd, y_ck2d, y_ond, y_onn, y_oI, y_oIx, y_oJ, y_oV, y_oVx, y_oR, y_oRn, y_oRx, y_b0, y_b1, y_bi, y_bid, y_wIK, y_wIL, y_wII, y_wIJ, y_wIR, y_wIN, y_wIw, y_sI, ↓reduceIte, Nat.reduceEqDiff, eq_self, true_or, or_true, false_or, or_false, and_true, true_and, false_and, and_false, not_true, not_false_eq_true, tf_T, tf_F, y_up1, y_up2, y_xx, y_nx, y_sJ, y_sR, Int32.reduceLT, y_nxK, y_nxL, y_nxR, y_sJK, y_sJL, y_sJR, y_sJN, y_sRK, y_sRL, y_sRN, Nat.add_zero, z_nat, z_lit, z_lit0, z_lit1, z_in0, z_in1, z_addl0, z_lt, z_ltl, z_llt, z_inj, z_injl, z_add, z_addl, z_ladd, z_mul, z_mull, z_lmul, z_neg, z_negl, z_in, z_inl, z_ltT, z_ltF, z_eqF, z_10, z_01, z_litne, z_ne0, z_0ne, z_ne1, z_1ne, z_lt64, z_02, z_03, z_04, z_05, z_12, z_13, z_14, z_15, z_20, z_21, z_23, z_24, z_25, z_30, z_31, z_32, z_34, z_35, z_40, z_41, z_42, z_43, z_45, z_50, z_51, z_52, z_53, z_54]
    rfl
  rw [if_neg g13] at W13 ⊢
  rw [bk_53_0]
  simp (disch := omega) only [E, n12, bk_48_0, bk_47_0, ek, k10, W10, k11, W11, k12, W12, k13, W13, txn, z_39, z_390, hM, y_ckd, y_ck2d, y_ond, y_onn, y_oI, y_oIx, y_oJ, y_oV, y_oVx, y_oR, y_oRn, y_oRx, y_b0, y_b1, y_bi, y_bid, y_wIK, y_wIL, y_wII, y_wIJ, y_wIR, y_wIN, y_wIw, y_sI, ↓reduceIte, Nat.reduceEqDiff, eq_self, true_or, or_true, false_or, or_false, and_true, true_and, false_and, and_false, not_true, not_false_eq_true, tf_T, tf_F, y_up1, y_up2, y_xx, y_nx, y_sJ, y_sR, Int32.reduceLT, y_nxK, y_nxL, y_nxR, y_sJK, y_sJL, y_sJR, y_sJN, y_sRK, y_sRL, y_sRN, Nat.add_zero, z_nat, z_lit, z_lit0, z_lit1, z_in0, z_in1, z_addl0, z_lt, z_ltl, z_llt, z_inj, z_injl, z_add, z_addl, z_ladd, z_mul, z_mull, z_lmul, z_neg, z_negl, z_in, z_inl, z_ltT, z_ltF, z_eqF, z_10, z_01, z_litne, z_ne0, z_0ne, z_ne1, z_1ne, z_lt64, z_02, z_03, z_04, z_05, z_12, z_13, z_14, z_15, z_20, z_21, z_23, z_24, z_25, z_30, z_31, z_32, z_34, z_35, z_40, z_41, z_42, z_43, z_45, z_50, z_51, z_52, z_53, z_54]
theorem m_kinds (hM : Md B) (hX : Stx B j) (hc : MT N L j) (e8 : j 874 8 = Int32.ofNat e) (e10 : j 874 10 = Int32.ofNat b) (hbe : b ≤ e) (heL : e ≤ L) (E : am_fx am_P (D + 3) 41 0 [some (.ref 874)] [] (am_wI B (am_up2 i 875 (K + 3) (i 874 14))) = some (.inl none, am_wI B j)) (hK : K + 4 < 12892) : am_fx am_P (D + 3 + 1) 53 92 [some (.ref 874), none, some (.int (Int32.ofNat K)), some (.int (0))] [] (am_wI B i) = am_fx am_P (D + 3 + 1) 53 219 [some (.ref 874), none, some (.int (Int32.ofNat K)), some (.int (0))] [] (am_wI B (am_up2 j 875 (K + 1) (txn (wix N b e [14, 15, 16, 17] 0)))) := by
  rw [show wix N b e [14, 15, 16, 17] 0 = (if isw N b e (sx 14) then some 0 else (if isw N b e (sx 15) then some 1 else (if isw N b e (sx 16) then some 2 else (if isw N b e (sx 17) then some 3 else none)))) from rfl]
  have W14 := m_isWord (d := D + 3) hM hX hc e8 e10 hbe heL (q := 14) (by omega) (sxs 14 (by omega) (by omega))
  have k14 := (hX 14 (by omega) (by omega)).1
  by_cases g14 : isw N b e (sx 14)
  · rw [if_pos g14] at W14 ⊢
    rw [bk_53_92]
    simp (disch := omega) only [E, k14, W14, txn, z_39, z_390, hM, y_ckd, y_ck2d, y_ond, y_onn, y_oI, y_oIx, y_oJ, y_oV, y_oVx, y_oR, y_oRn, y_oRx, y_b0, y_b1, y_bi, y_bid, y_wIK, y_wIL, y_wII, y_wIJ, y_wIR, y_wIN, y_wIw, y_sI, ↓reduceIte, Nat.reduceEqDiff, eq_self, true_or, or_true, false_or, or_false, and_true, true_and, false_and, and_false, not_true, not_false_eq_true, tf_T, tf_F, y_up1, y_up2, y_xx, y_nx, y_sJ, y_sR, Int32.reduceLT, y_nxK, y_nxL, y_nxR, y_sJK, y_sJL, y_sJR, y_sJN, y_sRK, y_sRL, y_sRN, Nat.add_zero, z_nat, z_lit, z_lit0, z_lit1, z_in0, z_in1, z_addl0, z_lt, z_ltl, z_llt, z_inj, z_injl, z_add, z_addl, z_ladd, z_mul, z_mull, z_lmul, z_neg, z_negl, z_in, z_inl, z_ltT, z_ltF, z_eqF, z_10, z_01, z_litne, z_ne0, z_0ne, z_ne1, z_1ne, z_lt64, z_02, z_03, z_04, z_05, z_12, z_13, z_14, z_15, z_20, z_21, z_23, z_24, z_25, z_30, z_31, z_32, z_34, z_35, z_40, z_41, z_42, z_43, z_45, z_50, z_51, z_52, z_53, z_54]
    rfl
  rw [if_neg g14] at W14 ⊢
  have W15 := m_isWord (d := D + 3) hM hX hc e8 e10 hbe heL (q := 15) (by omega) (sxs 15 (by omega) (by omega))
  have k15 := (hX 15 (by omega) (by omega)).1
  by_cases g15 : isw N b e (sx 15)
  · rw [if_pos g15] at W15 ⊢
    rw [bk_53_92]
    simp (disch := omega) only [E, k14, W14, k15, W15, txn, z_39, z_390, hM, y_ckd, y_ck2d, y_ond, y_onn, y_oI, y_oIx, y_oJ, y_oV, y_oVx, y_oR, y_oRn, y_oRx, y_b0, y_b1, y_bi, y_bid, y_wIK, y_wIL, y_wII, y_wIJ, y_wIR, y_wIN, y_wIw, y_sI, ↓reduceIte, Nat.reduceEqDiff, eq_self, true_or, or_true, false_or, or_false, and_true, true_and, false_and, and_false, not_true, not_false_eq_true, tf_T, tf_F, y_up1, y_up2, y_xx, y_nx, y_sJ, y_sR, Int32.reduceLT, y_nxK, y_nxL, y_nxR, y_sJK, y_sJL, y_sJR, y_sJN, y_sRK, y_sRL, y_sRN, Nat.add_zero, z_nat, z_lit, z_lit0, z_lit1, z_in0, z_in1, z_addl0, z_lt, z_ltl, z_llt, z_inj, z_injl, z_add, z_addl, z_ladd, z_mul, z_mull, z_lmul, z_neg, z_negl, z_in, z_inl, z_ltT, z_ltF, z_eqF, z_10, z_01, z_litne, z_ne0, z_0ne, z_ne1, z_1ne, z_lt64, z_02, z_03, z_04, z_05, z_12, z_13, z_14, z_15, z_20, z_21, z_23, z_24, z_25, z_30, z_31, z_32, z_34, z_35, z_40, z_41, z_42, z_43, z_45, z_50, z_51, z_52, z_53, z_54]
    rfl
  rw [if_neg g15] at W15 ⊢
  have W16 := m_isWord (d := D + 3) hM hX hc e8 e10 hbe heL (q := 16) (by omega) (sxs 16 (by omega) (by omega))
  have k16 := (hX 16 (by omega) (by omega)).1
  by_cases g16 : isw N b e (sx 16)
  · rw [if_pos g16] at W16 ⊢
    rw [bk_53_92]
    simp (disch := omega) only [E, k14, W14, k15, W15, k16, W16, txn, z_39, z_390, hM, y_ckd, y_ck2d, y_ond, y_onn, y_oI, y_oIx, y_oJ, y_oV, y_oVx, y_oR, y_oRn, y_oRx, y_b0, y_b1, y_bi, y_bid, y_wIK, y_wIL, y_wII, y_wIJ, y_wIR, y_wIN, y_wIw, y_sI, ↓reduceIte, Nat.reduceEqDiff, eq_self, true_or, or_true, false_or, or_false, and_true, true_and, false_and, and_false, not_true, not_false_eq_true, tf_T, tf_F, y_up1, y_up2, y_xx, y_nx, y_sJ, y_sR, Int32.reduceLT, y_nxK, y_nxL, y_nxR, y_sJK, y_sJL, y_sJR, y_sJN, y_sRK, y_sRL, y_sRN, Nat.add_zero, z_nat, z_lit, z_lit0, z_lit1, z_in0, z_in1, z_addl0, z_lt, z_ltl, z_llt, z_inj, z_injl, z_add, z_addl, z_ladd, z_mul, z_mull, z_lmul, z_neg, z_negl, z_in, z_inl, z_ltT, z_ltF, z_eqF, z_10, z_01, z_litne, z_ne0, z_0ne, z_ne1, z_1ne, z_lt64, z_02, z_03, z_04, z_05, z_12, z_13, z_14, z_15, z_20, z_21, z_23, z_24, z_25, z_30, z_31, z_32, z_34, z_35, z_40, z_41, z_42, z_43, z_45, z_50, z_51, z_52, z_53, z_54]
    rfl
  rw [if_neg g16] at W16 ⊢
  have W17 := m_isWord (d := D + 3) hM hX hc e8 e10 hbe heL (q := 17) (by omega) (sxs 17 (by omega) (by omega))
  have k17 := (hX 17 (by omega) (by omega)).1
  by_cases g17 : isw N b e (sx 17)
  · rw [if_pos g17] at W17 ⊢
    rw [bk_53_92]
    simp (disch := omega) only [E, k14, W14, k15, W15, k16, W16, k17, W17, txn, z_39, z_390, hM, y_ckd, y_ck2d, y_ond, y_onn, y_oI, y_oIx, y_oJ, y_oV, y_oVx, y_oR, y_oRn, y_oRx, y_b0, y_b1, y_bi, y_bid, y_wIK, y_wIL, y_wII, y_wIJ, y_wIR, y_wIN, y_wIw, y_sI, ↓reduceIte, Nat.reduceEqDiff, eq_self, true_or, or_true, false_or, or_false, and_true, true_and, false_and, and_false, not_true, not_false_eq_true, tf_T, tf_F, y_up1, y_up2, y_xx, y_nx, y_sJ, y_sR, Int32.reduceLT, y_nxK, y_nxL, y_nxR, y_sJK, y_sJL, y_sJR, y_sJN, y_sRK, y_sRL, y_sRN, Nat.add_zero, z_nat, z_lit, z_lit0, z_lit1, z_in0, z_in1, z_addl0, z_lt, z_ltl, z_llt, z_inj, z_injl, z_add, z_addl, z_ladd, z_mul, z_mull, z_lmul, z_neg, z_negl, z_in, z_inl, z_ltT, z_ltF, z_eqF, z_10, z_01, z_litne, z_ne0, z_0ne, z_ne1, z_1ne, z_lt64, z_02, z_03, z_04, z_05, z_12, z_13, z_14, z_15, z_20, z_21, z_23, z_24, z_25, z_30, z_31, z_32, z_34, z_35, z_40, z_41, z_42, z_43, z_45, z_50, z_51, z_52, z_53, z_54]
    rfl
  rw [if_neg g17] at W17 ⊢
  rw [bk_53_92]
  simp (disch := omega) only [E, k14, W14, k15, W15, k16, W16, k17, W17, txn, z_39, z_390, hM, y_ckd, y_ck2d, y_ond, y_onn, y_oI, y_oIx, y_oJ, y_oV, y_oVx, y_oR, y_oRn, y_oRx, y_b0, y_b1, y_bi, y_bid, y_wIK, y_wIL, y_wII, y_wIJ, y_wIR, y_wIN, y_wIw, y_sI, ↓reduceIte, Nat.reduceEqDiff, eq_self, true_or, or_true, false_or, or_false, and_true, true_and, false_and, and_false, not_true, not_false_eq_true, tf_T, tf_F, y_up1, y_up2, y_xx, y_nx, y_sJ, y_sR, Int32.reduceLT, y_nxK, y_nxL, y_nxR, y_sJK, y_sJL, y_sJR, y_sJN, y_sRK, y_sRL, y_sRN, Nat.add_zero, z_nat, z_lit, z_lit0, z_lit1, z_in0, z_in1, z_addl0, z_lt, z_ltl, z_llt, z_inj, z_injl, z_add, z_addl, z_ladd, z_mul, z_mull, z_lmul, z_neg, z_negl, z_in, z_inl, z_ltT, z_ltF, z_eqF, z_10, z_01, z_litne, z_ne0, z_0ne, z_ne1, z_1ne, z_lt64, z_02, z_03, z_04, z_05, z_12, z_13, z_14, z_15, z_20, z_21, z_23, z_24, z_25, z_30, z_31, z_32, z_34, z_35, z_40, z_41, z_42, z_43, z_45, z_50, z_51, z_52, z_53, z_54]
end ModE
