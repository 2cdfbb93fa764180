/-! OUT, BREAKS: made by wip/whole/math/65.py. -/
section Outs
variable {B B1 : am_A} {i i1 : Nat → Nat → Int32} {σ σ' : Sg} {w : Nat → Int32} {L j d b : Nat} {x y : Int32}
theorem f_out_x0 (h : CR B i σ) (g : ¬ (¬ x < 0 ∧ x < σ.1 2621)) : FRs B i σ (am_fx am_P (d + 150) 311 0 [some (.ref 64), some (.int x), some (.int y), none, none] [] (am_wI B i)) (.inr 1) := by
  refine FRs_x h ?_
  have hF : Fc B := h.1.1
  have hY : Yd B 94 := h.1.2.1
  rw [bk_311_0]
  simp (disch := omega) only [c_shN0 hF hY h.2.1.2.2.2.1.1 g, hF, hY, y_ckd, y_ck2d, y_ond, y_onn, y_oI, y_oIx, y_oJ, y_oV, y_oVx, y_oR, y_oRn, y_oRx, y_b0, y_b1, y_bi, y_bid, y_wIK, y_wIL, y_wII, y_wIJ, y_wIR, y_wIN, y_wIw, y_sI, ↓reduceIte, Nat.reduceEqDiff, eq_self, true_or, or_true, false_or, or_false, and_true, true_and, false_and, and_false, not_true, not_false_eq_true, tf_T, tf_F, y_up1, y_up2, y_xx, y_nx, y_sJ, y_sR, Int32.reduceLT, y_nxK, y_nxL, y_nxR, y_sJK, y_sJL, y_sJR, y_sJN, y_sRK, y_sRL, y_sRN, Nat.add_zero, z_nat, z_lit, z_lit0, z_lit1, z_in0, z_in1, z_addl0, z_lt, z_ltl, z_llt, z_inj, z_injl, z_add, z_addl, z_ladd, z_mul, z_mull, z_lmul, z_neg, z_negl, z_in, z_inl, z_ltT, z_ltF, z_eqF, z_10, z_01, z_litne, z_ne0, z_0ne, z_ne1, z_1ne, z_lt64, z_02, z_03, z_04, z_05, z_12, z_13, z_14, z_15, z_20, z_21, z_23, z_24, z_25, z_30, z_31, z_32, z_34, z_35, z_40, z_41, z_42, z_43, z_45, z_50, z_51, z_52, z_53, z_54]
theorem m_out_x0 (h : MR B i σ) (hc : isc σ.1 2621 8) (g : ¬ (¬ x < 0 ∧ x < σ.1 2621)) : MRs B i σ (am_fx am_P (d + 150) 82 0 [some (.ref 874), some (.int x), some (.int y), none, none] [] (am_wI B i)) (some (.int 0)) 1 := by
  refine MRs_x h ?_
  have hM : Md B := h.1.1
  have e5 := h.2.1 2621 (by omega)
  rw [bk_82_0]
  simp (maxSteps := 2000000) (disch := omega) only [(fun d x0 x1 B i => bk_69_0 d x0 x1 (am_wI B i)), (fun d x0 x1 x2 B i => bk_71_0 d x0 x1 x2 (am_wI B i)), m_in, z_pred hc.1, Classical.not_not, g, m_thr1 hM, e5, hM, y_ckd, y_ck2d, y_ond, y_onn, y_oI, y_oIx, y_oJ, y_oV, y_oVx, y_oR, y_oRn, y_oRx, y_b0, y_b1, y_bi, y_bid, y_wIK, y_wIL, y_wII, y_wIJ, y_wIR, y_wIN, y_wIw, y_sI, ↓reduceIte, Nat.reduceEqDiff, eq_self, true_or, or_true, false_or, or_false, and_true, true_and, false_and, and_false, not_true, not_false_eq_true, tf_T, tf_F, y_up1, y_up2, y_xx, y_nx, y_sJ, y_sR, Int32.reduceLT, y_nxK, y_nxL, y_nxR, y_sJK, y_sJL, y_sJR, y_sJN, y_sRK, y_sRL, y_sRN, Nat.add_zero, z_nat, z_lit, z_lit0, z_lit1, z_in0, z_in1, z_addl0, z_lt, z_ltl, z_llt, z_inj, z_injl, z_add, z_addl, z_ladd, z_mul, z_mull, z_lmul, z_neg, z_negl, z_in, z_inl, z_ltT, z_ltF, z_eqF, z_10, z_01, z_litne, z_ne0, z_0ne, z_ne1, z_1ne, z_lt64, z_02, z_03, z_04, z_05, z_12, z_13, z_14, z_15, z_20, z_21, z_23, z_24, z_25, z_30, z_31, z_32, z_34, z_35, z_40, z_41, z_42, z_43, z_45, z_50, z_51, z_52, z_53, z_54]
theorem f_out_x1 {p : Nat} (h : CR B i σ) (hc : isc σ.1 2621 8) (hp : p < cn σ.1 2621) (g : ¬ (¬ y < 0 ∧ y < σ.1 (2622 + 49 * p + 8))) : FRs B i σ (am_fx am_P (d + 150) 311 0 [some (.ref 64), some (.int (Int32.ofNat p)), some (.int y), none, none] [] (am_wI B i)) (.inr 1) := by
  refine FRs_x h ?_
  have hF : Fc B := h.1.1
  have hY : Yd B 94 := h.1.2.1
  have h8 := hc.2
  have t1 : (Int32.ofNat p < 0) = False := z_neg (by omega)
  have t2 := eq_true (ck_nat hc (by omega) hp).2
  have a9 := (h.2.1.2.2.2.1.2 p hp (by omega)).2.2.2.2.2.2.2.2.1
  rw [bk_311_0]
  simp (maxSteps := 1000000) (disch := omega) only [c_shN hF hY h.2.1.2.2.2.1.1 hc hp, a9, c_ckI0 g, hF, hY, y_ckd, y_ck2d, y_ond, y_onn, y_oI, y_oIx, y_oJ, y_oV, y_oVx, y_oR, y_oRn, y_oRx, y_b0, y_b1, y_bi, y_bid, y_wIK, y_wIL, y_wII, y_wIJ, y_wIR, y_wIN, y_wIw, y_sI, ↓reduceIte, Nat.reduceEqDiff, eq_self, true_or, or_true, false_or, or_false, and_true, true_and, false_and, and_false, not_true, not_false_eq_true, tf_T, tf_F, y_up1, y_up2, y_xx, y_nx, y_sJ, y_sR, Int32.reduceLT, y_nxK, y_nxL, y_nxR, y_sJK, y_sJL, y_sJR, y_sJN, y_sRK, y_sRL, y_sRN, Nat.add_zero, z_nat, z_lit, z_lit0, z_lit1, z_in0, z_in1, z_addl0, z_lt, z_ltl, z_llt, z_inj, z_injl, z_add, z_addl, z_ladd, z_mul, z_mull, z_lmul, z_neg, z_negl, z_in, z_inl, z_ltT, z_ltF, z_eqF, z_10, z_01, z_litne, z_ne0, z_0ne, z_ne1, z_1ne, z_lt64, z_02, z_03, z_04, z_05, z_12, z_13, z_14, z_15, z_20, z_21, z_23, z_24, z_25, z_30, z_31, z_32, z_34, z_35, z_40, z_41, z_42, z_43, z_45, z_50, z_51, z_52, z_53, z_54]
theorem m_out_x1 {p : Nat} (h : MR B i σ) (hc : isc σ.1 2621 8) (hp : p < cn σ.1 2621) (hn : isc σ.1 (2622 + 49 * p + 8) 8) (g : ¬ (¬ y < 0 ∧ y < σ.1 (2622 + 49 * p + 8))) : MRs B i σ (am_fx am_P (d + 150) 82 0 [some (.ref 874), some (.int (Int32.ofNat p)), some (.int y), none, none] [] (am_wI B i)) (some (.int 0)) 1 := by
  refine MRs_x h ?_
  have hM : Md B := h.1.1
  have h8 := hc.2
  have t1 : (Int32.ofNat p < 0) = False := z_neg (by omega)
  have t2 := eq_true (ck_nat hc (by omega) hp).2
  have e5 := h.2.1 2621 (by omega)
  have e8 := h.2.1 (2622 + 49 * p + 8) (by omega)
  rw [bk_82_0]
  simp (maxSteps := 2000000) (disch := omega) only [(fun d x0 x1 B i => bk_69_0 d x0 x1 (am_wI B i)), (fun d x0 x1 x2 B i => bk_71_0 d x0 x1 x2 (am_wI B i)), m_in, z_pred hc.1, Classical.not_not, z_pred hn.1, (fun d x0 x1 x2 B i => bk_67_0 d x0 x1 x2 (am_wI B i)), (fun d x0 x1 B i => bk_66_0 d x0 x1 (am_wI B i)), (fun d x0 x1 x2 x3 B i => bk_68_0 d x0 x1 x2 x3 (am_wI B i)), (fun d x0 x1 B i => bk_70_0 d x0 x1 (am_wI B i)), z_39, z_390, t1, t2, e8, g, m_thr1 hM, e5, hM, y_ckd, y_ck2d, y_ond, y_onn, y_oI, y_oIx, y_oJ, y_oV, y_oVx, y_oR, y_oRn, y_oRx, y_b0, y_b1, y_bi, y_bid, y_wIK, y_wIL, y_wII, y_wIJ, y_wIR, y_wIN, y_wIw, y_sI, ↓reduceIte, Nat.reduceEqDiff, eq_self, true_or, or_true, false_or, or_false, and_true, true_and, false_and, and_false, not_true, not_false_eq_true, tf_T, tf_F, y_up1, y_up2, y_xx, y_nx, y_sJ, y_sR, Int32.reduceLT, y_nxK, y_nxL, y_nxR, y_sJK, y_sJL, y_sJR, y_sJN, y_sRK, y_sRL, y_sRN, Nat.add_zero, z_nat, z_lit, z_lit0, z_lit1, z_in0, z_in1, z_addl0, z_lt, z_ltl, z_llt, z_inj, z_injl, z_add, z_addl, z_ladd, z_mul, z_mull, z_lmul, z_neg, z_negl, z_in, z_inl, z_ltT, z_ltF, z_eqF, z_10, z_01, z_litne, z_ne0, z_0ne, z_ne1, z_1ne, z_lt64, z_02, z_03, z_04, z_05, z_12, z_13, z_14, z_15, z_20, z_21, z_23, z_24, z_25, z_30, z_31, z_32, z_34, z_35, z_40, z_41, z_42, z_43, z_45, z_50, z_51, z_52, z_53, z_54]
theorem f_out0 {p n : Nat} (h : CR B i σ) (hc : isc σ.1 2621 8) (hp : p < cn σ.1 2621) (hn : isc σ.1 (2622 + 49 * p + 8) 8) (hq : n < cn σ.1 (2622 + 49 * p + 8)) (g : σ.1 (2622 + 49 * p + 9 + 5 * n + 4) = -1 ∨ ¬ (σ.1 (2622 + 49 * p) = 1 ∨ σ.1 (2622 + 49 * p) = 3)) (gv : σ.1 (2622 + 49 * p + 9 + 5 * n + 4) = -1 ∨ ¬ σ.1 (2622 + 49 * p + 9 + 5 * n + 4) < 0) : FRs B i σ (am_fx am_P (d + 150) 311 0 [some (.ref 64), some (.int (Int32.ofNat p)), some (.int (Int32.ofNat n)), none, none] [] (am_wI B i)) (.inl (some (.int (-1)))) := by
  refine FRs_0 h ?_
  have hF : Fc B := h.1.1
  have hY : Yd B 94 := h.1.2.1
  have h8 := hc.2
  have t1 : (Int32.ofNat p < 0) = False := z_neg (by omega)
  have t2 := eq_true (ck_nat hc (by omega) hp).2
  have n8 := hn.2
  have t3 : (Int32.ofNat n < 0) = False := z_neg (by omega)
  have t4 := eq_true (ck_nat hn (by omega) hq).2
  obtain ⟨a1, a2, a3, a4, a5, a6, a7, a8, a9, a10⟩ := h.2.1.2.2.2.1.2 p hp (by omega)
  rw [bk_311_0]
  by_cases g0 : σ.1 (2622 + 49 * p + 9 + 5 * n + 4) = -1
  · simp (maxSteps := 2000000) (disch := omega) only [c_shN hF hY h.2.1.2.2.2.1.1 hc hp, c_ckI1 (ck_nat hn (by omega) hq), c_pieceOf hY h.2.1.2.2.2.1 hc hp hn hq, (fun d x0 x1 x2 B i => bk_311_0 d x0 x1 x2 (am_wI B i)), (fun d B i => bk_311_34 d (am_wI B i)), (fun d x0 B i => bk_229_0 d x0 (am_wI B i)), a1, a9, hF, hY, g0, y_ckd, y_ck2d, y_ond, y_onn, y_oI, y_oIx, y_oJ, y_oV, y_oVx, y_oR, y_oRn, y_oRx, y_b0, y_b1, y_bi, y_bid, y_wIK, y_wIL, y_wII, y_wIJ, y_wIR, y_wIN, y_wIw, y_sI, ↓reduceIte, Nat.reduceEqDiff, eq_self, true_or, or_true, false_or, or_false, and_true, true_and, false_and, and_false, not_true, not_false_eq_true, tf_T, tf_F, y_up1, y_up2, y_xx, y_nx, y_sJ, y_sR, Int32.reduceLT, y_nxK, y_nxL, y_nxR, y_sJK, y_sJL, y_sJR, y_sJN, y_sRK, y_sRL, y_sRN, Nat.add_zero, z_nat, z_lit, z_lit0, z_lit1, z_in0, z_in1, z_addl0, z_lt, z_ltl, z_llt, z_inj, z_injl, z_add, z_addl, z_ladd, z_mul, z_mull, z_lmul, z_neg, z_negl, z_in, z_inl, z_ltT, z_ltF, z_eqF, z_10, z_01, z_litne, z_ne0, z_0ne, z_ne1, z_1ne, z_lt64, z_02, z_03, z_04, z_05, z_12, z_13, z_14, z_15, z_20, z_21, z_23, z_24, z_25, z_30, z_31, z_32, z_34, z_35, z_40, z_41, z_42, z_43, z_45, z_50, z_51, z_52, z_53, z_54]
  · obtain ⟨g1, g2⟩ := not_or.mp (g.resolve_left g0)
    simp (maxSteps := 2000000) (disch := omega) only [c_shN hF hY h.2.1.2.2.2.1.1 hc hp, c_ckI1 (ck_nat hn (by omega) hq), c_pieceOf hY h.2.1.2.2.2.1 hc hp hn hq, (fun d x0 x1 x2 B i => bk_311_0 d x0 x1 x2 (am_wI B i)), (fun d B i => bk_311_34 d (am_wI B i)), (fun d x0 B i => bk_229_0 d x0 (am_wI B i)), a1, a9, hF, hY, g0, g1, g2, y_ckd, y_ck2d, y_ond, y_onn, y_oI, y_oIx, y_oJ, y_oV, y_oVx, y_oR, y_oRn, y_oRx, y_b0, y_b1, y_bi, y_bid, y_wIK, y_wIL, y_wII, y_wIJ, y_wIR, y_wIN, y_wIw, y_sI, ↓reduceIte, Nat.reduceEqDiff, eq_self, true_or, or_true, false_or, or_false, and_true, true_and, false_and, and_false, not_true, not_false_eq_true, tf_T, tf_F, y_up1, y_up2, y_xx, y_nx, y_sJ, y_sR, Int32.reduceLT, y_nxK, y_nxL, y_nxR, y_sJK, y_sJL, y_sJR, y_sJN, y_sRK, y_sRL, y_sRN, Nat.add_zero, z_nat, z_lit, z_lit0, z_lit1, z_in0, z_in1, z_addl0, z_lt, z_ltl, z_llt, z_inj, z_injl, z_add, z_addl, z_ladd, z_mul, z_mull, z_lmul, z_neg, z_negl, z_in, z_inl, z_ltT, z_ltF, z_eqF, z_10, z_01, z_litne, z_ne0, z_0ne, z_ne1, z_1ne, z_lt64, z_02, z_03, z_04, z_05, z_12, z_13, z_14, z_15, z_20, z_21, z_23, z_24, z_25, z_30, z_31, z_32, z_34, z_35, z_40, z_41, z_42, z_43, z_45, z_50, z_51, z_52, z_53, z_54]
theorem m_out0 {p n : Nat} (h : MR B i σ) (hc : isc σ.1 2621 8) (hp : p < cn σ.1 2621) (hn : isc σ.1 (2622 + 49 * p + 8) 8) (hq : n < cn σ.1 (2622 + 49 * p + 8)) (g : σ.1 (2622 + 49 * p + 9 + 5 * n + 4) = -1 ∨ ¬ (σ.1 (2622 + 49 * p) = 1 ∨ σ.1 (2622 + 49 * p) = 3)) (gv : σ.1 (2622 + 49 * p + 9 + 5 * n + 4) = -1 ∨ ¬ σ.1 (2622 + 49 * p + 9 + 5 * n + 4) < 0) : MRs B i σ (am_fx am_P (d + 150) 82 0 [some (.ref 874), some (.int (Int32.ofNat p)), some (.int (Int32.ofNat n)), none, none] [] (am_wI B i)) (some (.int (-1))) 0 := by
  refine MRs_0 h ?_
  have hM : Md B := h.1.1
  have h8 := hc.2
  have t1 : (Int32.ofNat p < 0) = False := z_neg (by omega)
  have t2 := eq_true (ck_nat hc (by omega) hp).2
  have n8 := hn.2
  have t3 : (Int32.ofNat n < 0) = False := z_neg (by omega)
  have t4 := eq_true (ck_nat hn (by omega) hq).2
  have e5 := h.2.1 2621 (by omega)
  have e8 := h.2.1 (2622 + 49 * p + 8) (by omega)
  have e0 := h.2.1 (2622 + 49 * p) (by omega)
  have e4 := h.2.1 (2622 + 49 * p + 9 + 5 * n + 4) (by omega)
  rw [bk_82_0]
  by_cases g0 : σ.1 (2622 + 49 * p + 9 + 5 * n + 4) = -1
  · simp (maxSteps := 2000000) (disch := omega) only [(fun d x0 x1 B i => bk_69_0 d x0 x1 (am_wI B i)), (fun d x0 x1 x2 B i => bk_71_0 d x0 x1 x2 (am_wI B i)), m_in, z_pred hc.1, Classical.not_not, z_pred hn.1, (fun d x0 x1 x2 B i => bk_67_0 d x0 x1 x2 (am_wI B i)), (fun d x0 x1 B i => bk_66_0 d x0 x1 (am_wI B i)), (fun d x0 x1 x2 x3 B i => bk_68_0 d x0 x1 x2 x3 (am_wI B i)), (fun d x0 x1 B i => bk_70_0 d x0 x1 (am_wI B i)), z_39, z_390, (fun d x0 x1 B i => bk_77_0 d x0 x1 (am_wI B i)), m_thr0, t1, t2, t3, t4, e5, e8, e0, e4, hM, g0, z_lm1, y_ckd, y_ck2d, y_ond, y_onn, y_oI, y_oIx, y_oJ, y_oV, y_oVx, y_oR, y_oRn, y_oRx, y_b0, y_b1, y_bi, y_bid, y_wIK, y_wIL, y_wII, y_wIJ, y_wIR, y_wIN, y_wIw, y_sI, ↓reduceIte, Nat.reduceEqDiff, eq_self, true_or, or_true, false_or, or_false, and_true, true_and, false_and, and_false, not_true, not_false_eq_true, tf_T, tf_F, y_up1, y_up2, y_xx, y_nx, y_sJ, y_sR, Int32.reduceLT, y_nxK, y_nxL, y_nxR, y_sJK, y_sJL, y_sJR, y_sJN, y_sRK, y_sRL, y_sRN, Nat.add_zero, z_nat, z_lit, z_lit0, z_lit1, z_in0, z_in1, z_addl0, z_lt, z_ltl, z_llt, z_inj, z_injl, z_add, z_addl, z_ladd, z_mul, z_mull, z_lmul, z_neg, z_negl, z_in, z_inl, z_ltT, z_ltF, z_eqF, z_10, z_01, z_litne, z_ne0, z_0ne, z_ne1, z_1ne, z_lt64, z_02, z_03, z_04, z_05, z_12, z_13, z_14, z_15, z_20, z_21, z_23, z_24, z_25, z_30, z_31, z_32, z_34, z_35, z_40, z_41, z_42, z_43, z_45, z_50, z_51, z_52, z_53, z_54]
  · obtain ⟨g1, g2⟩ := not_or.mp (g.resolve_left g0)
    have g3 := gv.resolve_left g0
    simp (maxSteps := 2000000) (disch := omega) only [(fun d x0 x1 B i => bk_69_0 d x0 x1 (am_wI B i)), (fun d x0 x1 x2 B i => bk_71_0 d x0 x1 x2 (am_wI B i)), m_in, z_pred hc.1, Classical.not_not, z_pred hn.1, (fun d x0 x1 x2 B i => bk_67_0 d x0 x1 x2 (am_wI B i)), (fun d x0 x1 B i => bk_66_0 d x0 x1 (am_wI B i)), (fun d x0 x1 x2 x3 B i => bk_68_0 d x0 x1 x2 x3 (am_wI B i)), (fun d x0 x1 B i => bk_70_0 d x0 x1 (am_wI B i)), z_39, z_390, (fun d x0 x1 B i => bk_77_0 d x0 x1 (am_wI B i)), m_thr0, t1, t2, t3, t4, e5, e8, e0, e4, hM, g3, g1, g2, y_ckd, y_ck2d, y_ond, y_onn, y_oI, y_oIx, y_oJ, y_oV, y_oVx, y_oR, y_oRn, y_oRx, y_b0, y_b1, y_bi, y_bid, y_wIK, y_wIL, y_wII, y_wIJ, y_wIR, y_wIN, y_wIw, y_sI, ↓reduceIte, Nat.reduceEqDiff, eq_self, true_or, or_true, false_or, or_false, and_true, true_and, false_and, and_false, not_true, not_false_eq_true, tf_T, tf_F, y_up1, y_up2, y_xx, y_nx, y_sJ, y_sR, Int32.reduceLT, y_nxK, y_nxL, y_nxR, y_sJK, y_sJL, y_sJR, y_sJN, y_sRK, y_sRL, y_sRN, Nat.add_zero, z_nat, z_lit, z_lit0, z_lit1, z_in0, z_in1, z_addl0, z_lt, z_ltl, z_llt, z_inj, z_injl, z_add, z_addl, z_ladd, z_mul, z_mull, z_lmul, z_neg, z_negl, z_in, z_inl, z_ltT, z_ltF, z_eqF, z_10, z_01, z_litne, z_ne0, z_0ne, z_ne1, z_1ne, z_lt64, z_02, z_03, z_04, z_05, z_12, z_13, z_14, z_15, z_20, z_21, z_23, z_24, z_25, z_30, z_31, z_32, z_34, z_35, z_40, z_41, z_42, z_43, z_45, z_50, z_51, z_52, z_53, z_54]
theorem f_out {p n r : Nat} (h : CR B i σ) (hW : Wd σ.1) (hc : isc σ.1 2621 8) (hp : p < cn σ.1 2621) (hn : isc σ.1 (2622 + 49 * p + 8) 8) (hq : n < cn σ.1 (2622 + 49 * p + 8)) (h4 : isc σ.1 460 120) (hr : r < cn σ.1 460) (g0 : σ.1 (2622 + 49 * p + 9 + 5 * n + 4) = Int32.ofNat r) (g : σ.1 (2622 + 49 * p) = 1 ∨ σ.1 (2622 + 49 * p) = 3) : FRs B i ((frw σ.1 p n r), σ.1, σ.2.2.1, true, σ.2.2.2.2) (am_fx am_P (d + 150) 311 0 [some (.ref 64), some (.int (Int32.ofNat p)), some (.int (Int32.ofNat n)), none, none] [] (am_wI B i)) (.inl (some (.int (Int32.ofNat r)))) := by
  have hF : Fc B := h.1.1
  have hY : Yd B 94 := h.1.2.1
  have h8 := hc.2
  have t1 : (Int32.ofNat p < 0) = False := z_neg (by omega)
  have t2 := eq_true (ck_nat hc (by omega) hp).2
  have n8 := hn.2
  have t3 : (Int32.ofNat n < 0) = False := z_neg (by omega)
  have t4 := eq_true (ck_nat hn (by omega) hq).2
  have r4 := h4.2
  obtain ⟨B1, i1, E, hC, hS, hf⟩ := c_remember (d := d + 143) h hW
  have hF1 : Fc B1 := hC.1.1
  have hY1 : Yd B1 94 := hC.1.2.1
  obtain ⟨a1, a2, a3, a4, a5, a6, a7, a8, a9, a10⟩ := h.2.1.2.2.2.1.2 p hp (by omega)
  have gm : ¬ Int32.ofNat r = -1 := z_nm1 (by omega)
  have ce := c_pieceOf (d := d + 148) hY h.2.1.2.2.2.1 hc hp hn hq
  rw [g0] at ce
  refine FRs_tr hS hf (FRs_w (i' := fri i1 94 p n r) hC ?_ (Rep_take hC.2.1 (by omega) hp (by omega) (by omega) hr (by omega)) (by intros; simp (disch := omega) only [y_up2]))
  rw [bk_311_0]
  have cT := c_takeOut (d := d + 146) hY1 hC.2.1.2.2.2.1 hC.2.1.2.2.1.1 hc hp hn hq h4 g0 hr
  rcases g with g | g
  · simp (maxSteps := 2000000) (disch := omega) only [c_shN hF hY h.2.1.2.2.2.1.1 hc hp, c_ckI1 (ck_nat hn (by omega) hq), ce, gm, (fun d x0 B i => bk_229_0 d x0 (am_wI B i)), a1, a9, g, E, cT, hF, hY, hF1, hY1, y_ckd, y_ck2d, y_ond, y_onn, y_oI, y_oIx, y_oJ, y_oV, y_oVx, y_oR, y_oRn, y_oRx, y_b0, y_b1, y_bi, y_bid, y_wIK, y_wIL, y_wII, y_wIJ, y_wIR, y_wIN, y_wIw, y_sI, ↓reduceIte, Nat.reduceEqDiff, eq_self, true_or, or_true, false_or, or_false, and_true, true_and, false_and, and_false, not_true, not_false_eq_true, tf_T, tf_F, y_up1, y_up2, y_xx, y_nx, y_sJ, y_sR, Int32.reduceLT, y_nxK, y_nxL, y_nxR, y_sJK, y_sJL, y_sJR, y_sJN, y_sRK, y_sRL, y_sRN, Nat.add_zero, z_nat, z_lit, z_lit0, z_lit1, z_in0, z_in1, z_addl0, z_lt, z_ltl, z_llt, z_inj, z_injl, z_add, z_addl, z_ladd, z_mul, z_mull, z_lmul, z_neg, z_negl, z_in, z_inl, z_ltT, z_ltF, z_eqF, z_10, z_01, z_litne, z_ne0, z_0ne, z_ne1, z_1ne, z_lt64, z_02, z_03, z_04, z_05, z_12, z_13, z_14, z_15, z_20, z_21, z_23, z_24, z_25, z_30, z_31, z_32, z_34, z_35, z_40, z_41, z_42, z_43, z_45, z_50, z_51, z_52, z_53, z_54]
  · simp (maxSteps := 2000000) (disch := omega) only [c_shN hF hY h.2.1.2.2.2.1.1 hc hp, c_ckI1 (ck_nat hn (by omega) hq), ce, gm, (fun d x0 B i => bk_229_0 d x0 (am_wI B i)), a1, a9, g, E, cT, hF, hY, hF1, hY1, y_ckd, y_ck2d, y_ond, y_onn, y_oI, y_oIx, y_oJ, y_oV, y_oVx, y_oR, y_oRn, y_oRx, y_b0, y_b1, y_bi, y_bid, y_wIK, y_wIL, y_wII, y_wIJ, y_wIR, y_wIN, y_wIw, y_sI, ↓reduceIte, Nat.reduceEqDiff, eq_self, true_or, or_true, false_or, or_false, and_true, true_and, false_and, and_false, not_true, not_false_eq_true, tf_T, tf_F, y_up1, y_up2, y_xx, y_nx, y_sJ, y_sR, Int32.reduceLT, y_nxK, y_nxL, y_nxR, y_sJK, y_sJL, y_sJR, y_sJN, y_sRK, y_sRL, y_sRN, Nat.add_zero, z_nat, z_lit, z_lit0, z_lit1, z_in0, z_in1, z_addl0, z_lt, z_ltl, z_llt, z_inj, z_injl, z_add, z_addl, z_ladd, z_mul, z_mull, z_lmul, z_neg, z_negl, z_in, z_inl, z_ltT, z_ltF, z_eqF, z_10, z_01, z_litne, z_ne0, z_0ne, z_ne1, z_1ne, z_lt64, z_02, z_03, z_04, z_05, z_12, z_13, z_14, z_15, z_20, z_21, z_23, z_24, z_25, z_30, z_31, z_32, z_34, z_35, z_40, z_41, z_42, z_43, z_45, z_50, z_51, z_52, z_53, z_54]
theorem m_out {p n r : Nat} (h : MR B i σ) (hc : isc σ.1 2621 8) (hp : p < cn σ.1 2621) (hn : isc σ.1 (2622 + 49 * p + 8) 8) (hq : n < cn σ.1 (2622 + 49 * p + 8)) (h4 : isc σ.1 460 120) (hr : r < cn σ.1 460) (g0 : σ.1 (2622 + 49 * p + 9 + 5 * n + 4) = Int32.ofNat r) (g : σ.1 (2622 + 49 * p) = 1 ∨ σ.1 (2622 + 49 * p) = 3) : MRs B i ((frw σ.1 p n r), σ.1, σ.2.2.1, true, σ.2.2.2.2) (am_fx am_P (d + 150) 82 0 [some (.ref 874), some (.int (Int32.ofNat p)), some (.int (Int32.ofNat n)), none, none] [] (am_wI B i)) (some (.int (Int32.ofNat r))) 0 := by
  have hM : Md B := h.1.1
  have h8 := hc.2
  have t1 : (Int32.ofNat p < 0) = False := z_neg (by omega)
  have t2 := eq_true (ck_nat hc (by omega) hp).2
  have n8 := hn.2
  have t3 : (Int32.ofNat n < 0) = False := z_neg (by omega)
  have t4 := eq_true (ck_nat hn (by omega) hq).2
  have e5 := h.2.1 2621 (by omega)
  have e8 := h.2.1 (2622 + 49 * p + 8) (by omega)
  have e0 := h.2.1 (2622 + 49 * p) (by omega)
  have e4 := h.2.1 (2622 + 49 * p + 9 + 5 * n + 4) (by omega)
  have r4 := h4.2
  obtain ⟨i1, E, hD, hf⟩ := m_deed (d := d + 149) (MR_0 h)
  have z0 : i1 874 0 = 0 := (hf _ _ (by omega) (by omega)).trans (y_up1 rfl rfl)
  have gm : ¬ Int32.ofNat r < 0 := by rw [z_neg (by omega)]; exact id
  have cT := m_frees (B := B) (i := i1) (d := d + 146) (s := p) (n := n) (p := r) hM (by omega) (by omega) (by omega) ((hD.2.1 _ (by omega)).trans g0)
  refine MRs_d hf (MRs_w hD (i' := frm i1 p n r) ?_ (by simp (disch := omega) only [y_up2, z0]) (frm_w hD.2.1) (by intros; simp (disch := omega) only [y_up2]))
  rw [bk_82_0]
  rcases g with g | g
  · simp (maxSteps := 2000000) (disch := omega) only [(fun d x0 x1 B i => bk_69_0 d x0 x1 (am_wI B i)), (fun d x0 x1 x2 B i => bk_71_0 d x0 x1 x2 (am_wI B i)), m_in, z_pred hc.1, Classical.not_not, z_pred hn.1, (fun d x0 x1 x2 B i => bk_67_0 d x0 x1 x2 (am_wI B i)), (fun d x0 x1 B i => bk_66_0 d x0 x1 (am_wI B i)), (fun d x0 x1 x2 x3 B i => bk_68_0 d x0 x1 x2 x3 (am_wI B i)), (fun d x0 x1 B i => bk_70_0 d x0 x1 (am_wI B i)), z_39, z_390, (fun d x0 x1 B i => bk_77_0 d x0 x1 (am_wI B i)), m_thr0, t1, t2, t3, t4, e5, e8, e0, e4, hM, g0, gm, g, E, cT, y_ckd, y_ck2d, y_ond, y_onn, y_oI, y_oIx, y_oJ, y_oV, y_oVx, y_oR, y_oRn, y_oRx, y_b0, y_b1, y_bi, y_bid, y_wIK, y_wIL, y_wII, y_wIJ, y_wIR, y_wIN, y_wIw, y_sI, ↓reduceIte, Nat.reduceEqDiff, eq_self, true_or, or_true, false_or, or_false, and_true, true_and, false_and, and_false, not_true, not_false_eq_true, tf_T, tf_F, y_up1, y_up2, y_xx, y_nx, y_sJ, y_sR, Int32.reduceLT, y_nxK, y_nxL, y_nxR, y_sJK, y_sJL, y_sJR, y_sJN, y_sRK, y_sRL, y_sRN, Nat.add_zero, z_nat, z_lit, z_lit0, z_lit1, z_in0, z_in1, z_addl0, z_lt, z_ltl, z_llt, z_inj, z_injl, z_add, z_addl, z_ladd, z_mul, z_mull, z_lmul, z_neg, z_negl, z_in, z_inl, z_ltT, z_ltF, z_eqF, z_10, z_01, z_litne, z_ne0, z_0ne, z_ne1, z_1ne, z_lt64, z_02, z_03, z_04, z_05, z_12, z_13, z_14, z_15, z_20, z_21, z_23, z_24, z_25, z_30, z_31, z_32, z_34, z_35, z_40, z_41, z_42, z_43, z_45, z_50, z_51, z_52, z_53, z_54]
  · simp (maxSteps := 2000000) (disch := omega) only [(fun d x0 x1 B i => bk_69_0 d x0 x1 (am_wI B i)), (fun d x0 x1 x2 B i => bk_71_0 d x0 x1 x2 (am_wI B i)), m_in, z_pred hc.1, Classical.not_not, z_pred hn.1, (fun d x0 x1 x2 B i => bk_67_0 d x0 x1 x2 (am_wI B i)), (fun d x0 x1 B i => bk_66_0 d x0 x1 (am_wI B i)), (fun d x0 x1 x2 x3 B i => bk_68_0 d x0 x1 x2 x3 (am_wI B i)), (fun d x0 x1 B i => bk_70_0 d x0 x1 (am_wI B i)), z_39, z_390, (fun d x0 x1 B i => bk_77_0 d x0 x1 (am_wI B i)), m_thr0, t1, t2, t3, t4, e5, e8, e0, e4, hM, g0, gm, g, E, cT, y_ckd, y_ck2d, y_ond, y_onn, y_oI, y_oIx, y_oJ, y_oV, y_oVx, y_oR, y_oRn, y_oRx, y_b0, y_b1, y_bi, y_bid, y_wIK, y_wIL, y_wII, y_wIJ, y_wIR, y_wIN, y_wIw, y_sI, ↓reduceIte, Nat.reduceEqDiff, eq_self, true_or, or_true, false_or, or_false, and_true, true_and, false_and, and_false, not_true, not_false_eq_true, tf_T, tf_F, y_up1, y_up2, y_xx, y_nx, y_sJ, y_sR, Int32.reduceLT, y_nxK, y_nxL, y_nxR, y_sJK, y_sJL, y_sJR, y_sJN, y_sRK, y_sRL, y_sRN, Nat.add_zero, z_nat, z_lit, z_lit0, z_lit1, z_in0, z_in1, z_addl0, z_lt, z_ltl, z_llt, z_inj, z_injl, z_add, z_addl, z_ladd, z_mul, z_mull, z_lmul, z_neg, z_negl, z_in, z_inl, z_ltT, z_ltF, z_eqF, z_10, z_01, z_litne, z_ne0, z_0ne, z_ne1, z_1ne, z_lt64, z_02, z_03, z_04, z_05, z_12, z_13, z_14, z_15, z_20, z_21, z_23, z_24, z_25, z_30, z_31, z_32, z_34, z_35, z_40, z_41, z_42, z_43, z_45, z_50, z_51, z_52, z_53, z_54]
theorem k_out (h : Sim B i σ) (hs : Sc B i L j) (hO : am_K B 892 = 22 ∧ am_L B 892 = 1) : Stq B i d 1581 j := by
  have hc := h.2.2.1.1.2.2.2.1
  have h4 := h.2.2.1.1.2.2.1
  have h8 := hc.2
  have r4 := h4.2
  by_cases g : ¬ i 0 (j + 1) < 0 ∧ i 0 (j + 1) < σ.1 2621
  rotate_left
  · exact kx_19_1 h hs hO (f_out_x0 (d := d + 48) h.1 g) fun B0 i0 h0 => m_out_x0 (d := d + 49) h0 hc g
  obtain ⟨p, e, hp⟩ := nat_ck hc (by omega) g
  obtain ⟨c0, c1, c3, c4, c5, c6, c7, hn, c9⟩ := h.2.2.1.2.2.2.2.1.1 p hp (by omega)
  have n8 := hn.2
  by_cases g1 : ¬ i 0 (j + 2) < 0 ∧ i 0 (j + 2) < σ.1 (2622 + 49 * p + 8)
  rotate_left
  · exact kx_19_1 h hs hO (by rw [e]; exact f_out_x1 (d := d + 48) h.1 hc hp g1) fun B0 i0 h0 => by rw [e]; exact m_out_x1 (d := d + 49) h0 hc hp hn g1
  obtain ⟨n, e2, hq⟩ := nat_ck hn (by omega) g1
  have cv := (c9 n hq (by omega)).2
  by_cases g2 : σ.1 (2622 + 49 * p + 9 + 5 * n + 4) = -1 ∨ ¬ (σ.1 (2622 + 49 * p) = 1 ∨ σ.1 (2622 + 49 * p) = 3)
  · have gv := cv.imp id fun q => q.1
    exact kk_19 h hs hO h.2.2 (by rw [e, e2]; exact f_out0 (d := d + 48) h.1 hc hp hn hq g2 gv) fun B0 i0 h0 => by rw [e, e2]; exact m_out0 (d := d + 49) h0 hc hp hn hq g2 gv
  · obtain ⟨g3, g4⟩ := not_or.mp g2
    have g4 := Classical.not_not.mp g4
    obtain ⟨er, hr⟩ := nn_of cv h4.1 (by omega) g3
    exact kk_19 (σ' := ((frw σ.1 p n (cn σ.1 (2622 + 49 * p + 9 + 5 * n + 4))), σ.1, σ.2.2.1, true, σ.2.2.2.2)) h hs hO ⟨Wd_take h.2.2.1 hp (by omega) (by omega) hr (by omega) hq er, fun _ => h.2.2.1, h.2.2.2.2.1, h.2.2.2.2.2⟩ (by rw [e, e2]; exact f_out (d := d + 48) h.1 h.2.2.1 hc hp hn hq h4 hr er g4) fun B0 i0 h0 => by rw [e, e2]; exact m_out (d := d + 49) h0 hc hp hn hq h4 hr er g4
end Outs
