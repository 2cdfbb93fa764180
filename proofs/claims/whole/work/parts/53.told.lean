/-! A PIECE AND A SHIP TOLD: made by wip/whole/math/53.py. -/
section Told
variable {B : am_A} {i : Nat → Nat → Int32} {σ : Sg} {w : Nat → Int32} {L j d : Nat} {x y : Int32}
theorem f_piece_x0 (h : CR B i σ) (g : ¬ (¬ x < 0 ∧ x < σ.1 460)) : FRs B i σ (am_fx am_P (d + 150) 299 0 [some (.ref 64), some (.int x), some (.int y), none] [] (am_wI B i)) (.inr 1) := by
  refine FRs_x h ?_
  have hF : Fc B := h.1.1
  have hY : Yd B 94 := h.1.2.1
  rw [bk_299_0]
  simp (disch := omega) only [c_pcN0 hF hY h.2.1.2.2.1.1 g, hF, hY, y_ckd, y_ck2d, y_ond, y_onn, y_oI, y_oIx, y_oJ, y_oV, y_oVx, y_oR, y_oRn, y_oRx, y_b0, y_b1, y_bi, y_bid, y_wIK, y_wIL, y_wII, y_wIJ, y_wIR, y_wIN, y_wIw, y_sI, ↓reduceIte, Nat.reduceEqDiff, eq_self, true_or, or_true, false_or, or_false, and_true, true_and, false_and, and_false, not_true, not_false_eq_true, tf_T, tf_F, y_up1, y_up2, y_xx, y_nx, y_sJ, y_sR, Int32.reduceLT, y_nxK, y_nxL, y_nxR, y_sJK, y_sJL, y_sJR, y_sJN, y_sRK, y_sRL, y_sRN, z_nat, z_lit, z_lit0, z_lit1, z_in0, z_in1, z_addl0, z_lt, z_ltl, z_llt, z_inj, z_injl, z_add, z_addl, z_ladd, z_mul, z_mull, z_lmul, z_neg, z_negl, z_in, z_inl, z_ltT, z_ltF, z_eqF, z_10, z_01, z_litne, z_ne0, z_0ne, z_ne1, z_1ne, z_lt64, z_02, z_03, z_04, z_05, z_12, z_13, z_14, z_15, z_20, z_21, z_23, z_24, z_25, z_30, z_31, z_32, z_34, z_35, z_40, z_41, z_42, z_43, z_45, z_50, z_51, z_52, z_53, z_54]
theorem m_piece_x0 (h : MR B i σ) (hc : isc σ.1 460 120) (g : ¬ (¬ x < 0 ∧ x < σ.1 460)) : MRs B i σ (am_fx am_P (d + 150) 34 0 [some (.ref 874), some (.int x), some (.int y)] [] (am_wI B i)) (some (.int 0)) 1 := by
  refine MRs_x h ?_
  have hM : Md B := h.1.1
  have e5 := h.2.1 460 (by omega)
  rw [bk_34_0]
  simp (disch := omega) only [(fun d x0 x1 B i => bk_26_0 d x0 x1 (am_wI B i)), m_in, z_pred hc.1, Classical.not_not, g, m_thr1 hM, e5, hM, y_ckd, y_ck2d, y_ond, y_onn, y_oI, y_oIx, y_oJ, y_oV, y_oVx, y_oR, y_oRn, y_oRx, y_b0, y_b1, y_bi, y_bid, y_wIK, y_wIL, y_wII, y_wIJ, y_wIR, y_wIN, y_wIw, y_sI, ↓reduceIte, Nat.reduceEqDiff, eq_self, true_or, or_true, false_or, or_false, and_true, true_and, false_and, and_false, not_true, not_false_eq_true, tf_T, tf_F, y_up1, y_up2, y_xx, y_nx, y_sJ, y_sR, Int32.reduceLT, y_nxK, y_nxL, y_nxR, y_sJK, y_sJL, y_sJR, y_sJN, y_sRK, y_sRL, y_sRN, z_nat, z_lit, z_lit0, z_lit1, z_in0, z_in1, z_addl0, z_lt, z_ltl, z_llt, z_inj, z_injl, z_add, z_addl, z_ladd, z_mul, z_mull, z_lmul, z_neg, z_negl, z_in, z_inl, z_ltT, z_ltF, z_eqF, z_10, z_01, z_litne, z_ne0, z_0ne, z_ne1, z_1ne, z_lt64, z_02, z_03, z_04, z_05, z_12, z_13, z_14, z_15, z_20, z_21, z_23, z_24, z_25, z_30, z_31, z_32, z_34, z_35, z_40, z_41, z_42, z_43, z_45, z_50, z_51, z_52, z_53, z_54]
theorem f_piece_x1 {p : Nat} (h : CR B i σ) (hc : isc σ.1 460 120) (hp : p < cn σ.1 460) (g : ¬ (¬ y < 0 ∧ ¬ 14 < y)) : FRs B i σ (am_fx am_P (d + 150) 299 0 [some (.ref 64), some (.int (Int32.ofNat p)), some (.int y), none] [] (am_wI B i)) (.inr 5) := by
  refine FRs_x h ?_
  have hF : Fc B := h.1.1
  have hY : Yd B 94 := h.1.2.1
  rw [bk_299_0]
  simp (disch := omega) only [c_pcN hF hY h.2.1.2.2.1.1 hc hp, c_within0 g, hF, hY, y_ckd, y_ck2d, y_ond, y_onn, y_oI, y_oIx, y_oJ, y_oV, y_oVx, y_oR, y_oRn, y_oRx, y_b0, y_b1, y_bi, y_bid, y_wIK, y_wIL, y_wII, y_wIJ, y_wIR, y_wIN, y_wIw, y_sI, ↓reduceIte, Nat.reduceEqDiff, eq_self, true_or, or_true, false_or, or_false, and_true, true_and, false_and, and_false, not_true, not_false_eq_true, tf_T, tf_F, y_up1, y_up2, y_xx, y_nx, y_sJ, y_sR, Int32.reduceLT, y_nxK, y_nxL, y_nxR, y_sJK, y_sJL, y_sJR, y_sJN, y_sRK, y_sRL, y_sRN, z_nat, z_lit, z_lit0, z_lit1, z_in0, z_in1, z_addl0, z_lt, z_ltl, z_llt, z_inj, z_injl, z_add, z_addl, z_ladd, z_mul, z_mull, z_lmul, z_neg, z_negl, z_in, z_inl, z_ltT, z_ltF, z_eqF, z_10, z_01, z_litne, z_ne0, z_0ne, z_ne1, z_1ne, z_lt64, z_02, z_03, z_04, z_05, z_12, z_13, z_14, z_15, z_20, z_21, z_23, z_24, z_25, z_30, z_31, z_32, z_34, z_35, z_40, z_41, z_42, z_43, z_45, z_50, z_51, z_52, z_53, z_54]
theorem m_piece_x1 {p : Nat} (h : MR B i σ) (hc : isc σ.1 460 120) (hp : p < cn σ.1 460) (g : ¬ (¬ y < 0 ∧ ¬ 14 < y)) : MRs B i σ (am_fx am_P (d + 150) 34 0 [some (.ref 874), some (.int (Int32.ofNat p)), some (.int y)] [] (am_wI B i)) (some (.int 0)) 2 := by
  refine MRs_x h ?_
  have hM : Md B := h.1.1
  have h120 := hc.2
  have t1 : (Int32.ofNat p < 0) = False := z_neg (by omega)
  have t2 := eq_true (ck_nat hc (by omega) hp).2
  have e5 := h.2.1 460 (by omega)
  rw [bk_34_0]
  simp (disch := omega) only [(fun d x0 x1 B i => bk_26_0 d x0 x1 (am_wI B i)), (fun d x0 x1 x2 s0 s1 B i => bk_34_34 d x0 x1 x2 s0 s1 (am_wI B i)), m_in, z_pred hc.1, Classical.not_not, t1, t2, g, m_thr0, m_thr1 hM, e5, hM, y_ckd, y_ck2d, y_ond, y_onn, y_oI, y_oIx, y_oJ, y_oV, y_oVx, y_oR, y_oRn, y_oRx, y_b0, y_b1, y_bi, y_bid, y_wIK, y_wIL, y_wII, y_wIJ, y_wIR, y_wIN, y_wIw, y_sI, ↓reduceIte, Nat.reduceEqDiff, eq_self, true_or, or_true, false_or, or_false, and_true, true_and, false_and, and_false, not_true, not_false_eq_true, tf_T, tf_F, y_up1, y_up2, y_xx, y_nx, y_sJ, y_sR, Int32.reduceLT, y_nxK, y_nxL, y_nxR, y_sJK, y_sJL, y_sJR, y_sJN, y_sRK, y_sRL, y_sRN, z_nat, z_lit, z_lit0, z_lit1, z_in0, z_in1, z_addl0, z_lt, z_ltl, z_llt, z_inj, z_injl, z_add, z_addl, z_ladd, z_mul, z_mull, z_lmul, z_neg, z_negl, z_in, z_inl, z_ltT, z_ltF, z_eqF, z_10, z_01, z_litne, z_ne0, z_0ne, z_ne1, z_1ne, z_lt64, z_02, z_03, z_04, z_05, z_12, z_13, z_14, z_15, z_20, z_21, z_23, z_24, z_25, z_30, z_31, z_32, z_34, z_35, z_40, z_41, z_42, z_43, z_45, z_50, z_51, z_52, z_53, z_54]
theorem f_piece_0 {p : Nat} (h : CR B i σ) (hc : isc σ.1 460 120) (hp : p < cn σ.1 460) : FRs B i σ (am_fx am_P (d + 150) 299 0 [some (.ref 64), some (.int (Int32.ofNat p)), some (.int 0), none] [] (am_wI B i)) (.inl (some (.int (σ.1 (461 + 18 * p + 0))))) := by
  refine FRs_0 h ?_
  have hF : Fc B := h.1.1
  have hY : Yd B 94 := h.1.2.1
  have h120 := hc.2
  obtain ⟨a0, a1, a2, a3, a4, a5, a6, a7, a8, a9, a10, a11, a12, a13, a14, a15, a16, a17, a18⟩ := h.2.1.2.2.1.2 p hp (by omega)
  rw [bk_299_0]
  simp (disch := omega) only [c_pcN hF hY h.2.1.2.2.1.1 hc hp, c_within1 (x := 0) (a := 0) (c := 14) (by decide), (fun d x0 x1 B i => bk_164_0 d x0 x1 (am_wI B i)), z_01, z_02, z_03, z_04, z_05, u_0_6, u_0_7, a0, hF, hY, y_ckd, y_ck2d, y_ond, y_onn, y_oI, y_oIx, y_oJ, y_oV, y_oVx, y_oR, y_oRn, y_oRx, y_b0, y_b1, y_bi, y_bid, y_wIK, y_wIL, y_wII, y_wIJ, y_wIR, y_wIN, y_wIw, y_sI, ↓reduceIte, Nat.reduceEqDiff, eq_self, true_or, or_true, false_or, or_false, and_true, true_and, false_and, and_false, not_true, not_false_eq_true, tf_T, tf_F, y_up1, y_up2, y_xx, y_nx, y_sJ, y_sR, Int32.reduceLT, y_nxK, y_nxL, y_nxR, y_sJK, y_sJL, y_sJR, y_sJN, y_sRK, y_sRL, y_sRN, z_nat, z_lit, z_lit0, z_lit1, z_in0, z_in1, z_addl0, z_lt, z_ltl, z_llt, z_inj, z_injl, z_add, z_addl, z_ladd, z_mul, z_mull, z_lmul, z_neg, z_negl, z_in, z_inl, z_ltT, z_ltF, z_eqF, z_10, z_01, z_litne, z_ne0, z_0ne, z_ne1, z_1ne, z_lt64, z_02, z_03, z_04, z_05, z_12, z_13, z_14, z_15, z_20, z_21, z_23, z_24, z_25, z_30, z_31, z_32, z_34, z_35, z_40, z_41, z_42, z_43, z_45, z_50, z_51, z_52, z_53, z_54, Nat.add_zero]
theorem m_piece_0 {p : Nat} (h : MR B i σ) (hc : isc σ.1 460 120) (hp : p < cn σ.1 460) : MRs B i σ (am_fx am_P (d + 150) 34 0 [some (.ref 874), some (.int (Int32.ofNat p)), some (.int 0)] [] (am_wI B i)) (some (.int (σ.1 (461 + 18 * p + 0)))) 0 := by
  refine MRs_0 h ?_
  have hM : Md B := h.1.1
  have h120 := hc.2
  have t1 : (Int32.ofNat p < 0) = False := z_neg (by omega)
  have t2 := eq_true (ck_nat hc (by omega) hp).2
  have e5 := h.2.1 460 (by omega)
  have e := h.2.1 (461 + 18 * p + 0) (by omega)
  rw [bk_34_0]
  simp (disch := omega) only [(fun d x0 x1 B i => bk_26_0 d x0 x1 (am_wI B i)), (fun d x0 x1 x2 s0 s1 B i => bk_34_34 d x0 x1 x2 s0 s1 (am_wI B i)), (fun d x0 x1 x2 B i => bk_24_0 d x0 x1 x2 (am_wI B i)), (fun d x0 x1 B i => bk_23_0 d x0 x1 (am_wI B i)), m_in, z_pred hc.1, Classical.not_not, t1, t2, m_thr0, e5, e, hM, y_ckd, y_ck2d, y_ond, y_onn, y_oI, y_oIx, y_oJ, y_oV, y_oVx, y_oR, y_oRn, y_oRx, y_b0, y_b1, y_bi, y_bid, y_wIK, y_wIL, y_wII, y_wIJ, y_wIR, y_wIN, y_wIw, y_sI, ↓reduceIte, Nat.reduceEqDiff, eq_self, true_or, or_true, false_or, or_false, and_true, true_and, false_and, and_false, not_true, not_false_eq_true, tf_T, tf_F, y_up1, y_up2, y_xx, y_nx, y_sJ, y_sR, Int32.reduceLT, y_nxK, y_nxL, y_nxR, y_sJK, y_sJL, y_sJR, y_sJN, y_sRK, y_sRL, y_sRN, z_nat, z_lit, z_lit0, z_lit1, z_in0, z_in1, z_addl0, z_lt, z_ltl, z_llt, z_inj, z_injl, z_add, z_addl, z_ladd, z_mul, z_mull, z_lmul, z_neg, z_negl, z_in, z_inl, z_ltT, z_ltF, z_eqF, z_10, z_01, z_litne, z_ne0, z_0ne, z_ne1, z_1ne, z_lt64, z_02, z_03, z_04, z_05, z_12, z_13, z_14, z_15, z_20, z_21, z_23, z_24, z_25, z_30, z_31, z_32, z_34, z_35, z_40, z_41, z_42, z_43, z_45, z_50, z_51, z_52, z_53, z_54]
theorem f_piece_1 {p : Nat} (h : CR B i σ) (hc : isc σ.1 460 120) (hp : p < cn σ.1 460) : FRs B i σ (am_fx am_P (d + 150) 299 0 [some (.ref 64), some (.int (Int32.ofNat p)), some (.int 1), none] [] (am_wI B i)) (.inl (some (.int (σ.1 (461 + 18 * p + 1))))) := by
  refine FRs_0 h ?_
  have hF : Fc B := h.1.1
  have hY : Yd B 94 := h.1.2.1
  have h120 := hc.2
  obtain ⟨a0, a1, a2, a3, a4, a5, a6, a7, a8, a9, a10, a11, a12, a13, a14, a15, a16, a17, a18⟩ := h.2.1.2.2.1.2 p hp (by omega)
  rw [bk_299_0]
  simp (disch := omega) only [c_pcN hF hY h.2.1.2.2.1.1 hc hp, c_within1 (x := 1) (a := 0) (c := 14) (by decide), (fun d x0 x1 B i => bk_164_0 d x0 x1 (am_wI B i)), z_10, z_12, z_13, z_14, z_15, u_1_6, u_1_7, a1, hF, hY, y_ckd, y_ck2d, y_ond, y_onn, y_oI, y_oIx, y_oJ, y_oV, y_oVx, y_oR, y_oRn, y_oRx, y_b0, y_b1, y_bi, y_bid, y_wIK, y_wIL, y_wII, y_wIJ, y_wIR, y_wIN, y_wIw, y_sI, ↓reduceIte, Nat.reduceEqDiff, eq_self, true_or, or_true, false_or, or_false, and_true, true_and, false_and, and_false, not_true, not_false_eq_true, tf_T, tf_F, y_up1, y_up2, y_xx, y_nx, y_sJ, y_sR, Int32.reduceLT, y_nxK, y_nxL, y_nxR, y_sJK, y_sJL, y_sJR, y_sJN, y_sRK, y_sRL, y_sRN, z_nat, z_lit, z_lit0, z_lit1, z_in0, z_in1, z_addl0, z_lt, z_ltl, z_llt, z_inj, z_injl, z_add, z_addl, z_ladd, z_mul, z_mull, z_lmul, z_neg, z_negl, z_in, z_inl, z_ltT, z_ltF, z_eqF, z_10, z_01, z_litne, z_ne0, z_0ne, z_ne1, z_1ne, z_lt64, z_02, z_03, z_04, z_05, z_12, z_13, z_14, z_15, z_20, z_21, z_23, z_24, z_25, z_30, z_31, z_32, z_34, z_35, z_40, z_41, z_42, z_43, z_45, z_50, z_51, z_52, z_53, z_54, Nat.add_zero]
theorem m_piece_1 {p : Nat} (h : MR B i σ) (hc : isc σ.1 460 120) (hp : p < cn σ.1 460) : MRs B i σ (am_fx am_P (d + 150) 34 0 [some (.ref 874), some (.int (Int32.ofNat p)), some (.int 1)] [] (am_wI B i)) (some (.int (σ.1 (461 + 18 * p + 1)))) 0 := by
  refine MRs_0 h ?_
  have hM : Md B := h.1.1
  have h120 := hc.2
  have t1 : (Int32.ofNat p < 0) = False := z_neg (by omega)
  have t2 := eq_true (ck_nat hc (by omega) hp).2
  have e5 := h.2.1 460 (by omega)
  have e := h.2.1 (461 + 18 * p + 1) (by omega)
  rw [bk_34_0]
  simp (disch := omega) only [(fun d x0 x1 B i => bk_26_0 d x0 x1 (am_wI B i)), (fun d x0 x1 x2 s0 s1 B i => bk_34_34 d x0 x1 x2 s0 s1 (am_wI B i)), (fun d x0 x1 x2 B i => bk_24_0 d x0 x1 x2 (am_wI B i)), (fun d x0 x1 B i => bk_23_0 d x0 x1 (am_wI B i)), m_in, z_pred hc.1, Classical.not_not, t1, t2, m_thr0, e5, e, hM, y_ckd, y_ck2d, y_ond, y_onn, y_oI, y_oIx, y_oJ, y_oV, y_oVx, y_oR, y_oRn, y_oRx, y_b0, y_b1, y_bi, y_bid, y_wIK, y_wIL, y_wII, y_wIJ, y_wIR, y_wIN, y_wIw, y_sI, ↓reduceIte, Nat.reduceEqDiff, eq_self, true_or, or_true, false_or, or_false, and_true, true_and, false_and, and_false, not_true, not_false_eq_true, tf_T, tf_F, y_up1, y_up2, y_xx, y_nx, y_sJ, y_sR, Int32.reduceLT, y_nxK, y_nxL, y_nxR, y_sJK, y_sJL, y_sJR, y_sJN, y_sRK, y_sRL, y_sRN, z_nat, z_lit, z_lit0, z_lit1, z_in0, z_in1, z_addl0, z_lt, z_ltl, z_llt, z_inj, z_injl, z_add, z_addl, z_ladd, z_mul, z_mull, z_lmul, z_neg, z_negl, z_in, z_inl, z_ltT, z_ltF, z_eqF, z_10, z_01, z_litne, z_ne0, z_0ne, z_ne1, z_1ne, z_lt64, z_02, z_03, z_04, z_05, z_12, z_13, z_14, z_15, z_20, z_21, z_23, z_24, z_25, z_30, z_31, z_32, z_34, z_35, z_40, z_41, z_42, z_43, z_45, z_50, z_51, z_52, z_53, z_54]
theorem f_piece_2 {p : Nat} (h : CR B i σ) (hc : isc σ.1 460 120) (hp : p < cn σ.1 460) : FRs B i σ (am_fx am_P (d + 150) 299 0 [some (.ref 64), some (.int (Int32.ofNat p)), some (.int 2), none] [] (am_wI B i)) (.inl (some (.int (σ.1 (461 + 18 * p + 2))))) := by
  refine FRs_0 h ?_
  have hF : Fc B := h.1.1
  have hY : Yd B 94 := h.1.2.1
  have h120 := hc.2
  obtain ⟨a0, a1, a2, a3, a4, a5, a6, a7, a8, a9, a10, a11, a12, a13, a14, a15, a16, a17, a18⟩ := h.2.1.2.2.1.2 p hp (by omega)
  rw [bk_299_0]
  simp (disch := omega) only [c_pcN hF hY h.2.1.2.2.1.1 hc hp, c_within1 (x := 2) (a := 0) (c := 14) (by decide), (fun d x0 x1 B i => bk_164_0 d x0 x1 (am_wI B i)), z_20, z_21, z_23, z_24, z_25, u_2_6, u_2_7, a2, hF, hY, y_ckd, y_ck2d, y_ond, y_onn, y_oI, y_oIx, y_oJ, y_oV, y_oVx, y_oR, y_oRn, y_oRx, y_b0, y_b1, y_bi, y_bid, y_wIK, y_wIL, y_wII, y_wIJ, y_wIR, y_wIN, y_wIw, y_sI, ↓reduceIte, Nat.reduceEqDiff, eq_self, true_or, or_true, false_or, or_false, and_true, true_and, false_and, and_false, not_true, not_false_eq_true, tf_T, tf_F, y_up1, y_up2, y_xx, y_nx, y_sJ, y_sR, Int32.reduceLT, y_nxK, y_nxL, y_nxR, y_sJK, y_sJL, y_sJR, y_sJN, y_sRK, y_sRL, y_sRN, z_nat, z_lit, z_lit0, z_lit1, z_in0, z_in1, z_addl0, z_lt, z_ltl, z_llt, z_inj, z_injl, z_add, z_addl, z_ladd, z_mul, z_mull, z_lmul, z_neg, z_negl, z_in, z_inl, z_ltT, z_ltF, z_eqF, z_10, z_01, z_litne, z_ne0, z_0ne, z_ne1, z_1ne, z_lt64, z_02, z_03, z_04, z_05, z_12, z_13, z_14, z_15, z_20, z_21, z_23, z_24, z_25, z_30, z_31, z_32, z_34, z_35, z_40, z_41, z_42, z_43, z_45, z_50, z_51, z_52, z_53, z_54, Nat.add_zero]
theorem m_piece_2 {p : Nat} (h : MR B i σ) (hc : isc σ.1 460 120) (hp : p < cn σ.1 460) : MRs B i σ (am_fx am_P (d + 150) 34 0 [some (.ref 874), some (.int (Int32.ofNat p)), some (.int 2)] [] (am_wI B i)) (some (.int (σ.1 (461 + 18 * p + 2)))) 0 := by
  refine MRs_0 h ?_
  have hM : Md B := h.1.1
  have h120 := hc.2
  have t1 : (Int32.ofNat p < 0) = False := z_neg (by omega)
  have t2 := eq_true (ck_nat hc (by omega) hp).2
  have e5 := h.2.1 460 (by omega)
  have e := h.2.1 (461 + 18 * p + 2) (by omega)
  rw [bk_34_0]
  simp (disch := omega) only [(fun d x0 x1 B i => bk_26_0 d x0 x1 (am_wI B i)), (fun d x0 x1 x2 s0 s1 B i => bk_34_34 d x0 x1 x2 s0 s1 (am_wI B i)), (fun d x0 x1 x2 B i => bk_24_0 d x0 x1 x2 (am_wI B i)), (fun d x0 x1 B i => bk_23_0 d x0 x1 (am_wI B i)), m_in, z_pred hc.1, Classical.not_not, t1, t2, m_thr0, e5, e, hM, y_ckd, y_ck2d, y_ond, y_onn, y_oI, y_oIx, y_oJ, y_oV, y_oVx, y_oR, y_oRn, y_oRx, y_b0, y_b1, y_bi, y_bid, y_wIK, y_wIL, y_wII, y_wIJ, y_wIR, y_wIN, y_wIw, y_sI, ↓reduceIte, Nat.reduceEqDiff, eq_self, true_or, or_true, false_or, or_false, and_true, true_and, false_and, and_false, not_true, not_false_eq_true, tf_T, tf_F, y_up1, y_up2, y_xx, y_nx, y_sJ, y_sR, Int32.reduceLT, y_nxK, y_nxL, y_nxR, y_sJK, y_sJL, y_sJR, y_sJN, y_sRK, y_sRL, y_sRN, z_nat, z_lit, z_lit0, z_lit1, z_in0, z_in1, z_addl0, z_lt, z_ltl, z_llt, z_inj, z_injl, z_add, z_addl, z_ladd, z_mul, z_mull, z_lmul, z_neg, z_negl, z_in, z_inl, z_ltT, z_ltF, z_eqF, z_10, z_01, z_litne, z_ne0, z_0ne, z_ne1, z_1ne, z_lt64, z_02, z_03, z_04, z_05, z_12, z_13, z_14, z_15, z_20, z_21, z_23, z_24, z_25, z_30, z_31, z_32, z_34, z_35, z_40, z_41, z_42, z_43, z_45, z_50, z_51, z_52, z_53, z_54]
theorem f_piece_3 {p : Nat} (h : CR B i σ) (hc : isc σ.1 460 120) (hp : p < cn σ.1 460) : FRs B i σ (am_fx am_P (d + 150) 299 0 [some (.ref 64), some (.int (Int32.ofNat p)), some (.int 3), none] [] (am_wI B i)) (.inl (some (.int (σ.1 (461 + 18 * p + 3))))) := by
  refine FRs_0 h ?_
  have hF : Fc B := h.1.1
  have hY : Yd B 94 := h.1.2.1
  have h120 := hc.2
  obtain ⟨a0, a1, a2, a3, a4, a5, a6, a7, a8, a9, a10, a11, a12, a13, a14, a15, a16, a17, a18⟩ := h.2.1.2.2.1.2 p hp (by omega)
  rw [bk_299_0]
  simp (disch := omega) only [c_pcN hF hY h.2.1.2.2.1.1 hc hp, c_within1 (x := 3) (a := 0) (c := 14) (by decide), (fun d x0 x1 B i => bk_164_0 d x0 x1 (am_wI B i)), z_30, z_31, z_32, z_34, z_35, u_3_6, u_3_7, a3, hF, hY, y_ckd, y_ck2d, y_ond, y_onn, y_oI, y_oIx, y_oJ, y_oV, y_oVx, y_oR, y_oRn, y_oRx, y_b0, y_b1, y_bi, y_bid, y_wIK, y_wIL, y_wII, y_wIJ, y_wIR, y_wIN, y_wIw, y_sI, ↓reduceIte, Nat.reduceEqDiff, eq_self, true_or, or_true, false_or, or_false, and_true, true_and, false_and, and_false, not_true, not_false_eq_true, tf_T, tf_F, y_up1, y_up2, y_xx, y_nx, y_sJ, y_sR, Int32.reduceLT, y_nxK, y_nxL, y_nxR, y_sJK, y_sJL, y_sJR, y_sJN, y_sRK, y_sRL, y_sRN, z_nat, z_lit, z_lit0, z_lit1, z_in0, z_in1, z_addl0, z_lt, z_ltl, z_llt, z_inj, z_injl, z_add, z_addl, z_ladd, z_mul, z_mull, z_lmul, z_neg, z_negl, z_in, z_inl, z_ltT, z_ltF, z_eqF, z_10, z_01, z_litne, z_ne0, z_0ne, z_ne1, z_1ne, z_lt64, z_02, z_03, z_04, z_05, z_12, z_13, z_14, z_15, z_20, z_21, z_23, z_24, z_25, z_30, z_31, z_32, z_34, z_35, z_40, z_41, z_42, z_43, z_45, z_50, z_51, z_52, z_53, z_54, Nat.add_zero]
theorem m_piece_3 {p : Nat} (h : MR B i σ) (hc : isc σ.1 460 120) (hp : p < cn σ.1 460) : MRs B i σ (am_fx am_P (d + 150) 34 0 [some (.ref 874), some (.int (Int32.ofNat p)), some (.int 3)] [] (am_wI B i)) (some (.int (σ.1 (461 + 18 * p + 3)))) 0 := by
  refine MRs_0 h ?_
  have hM : Md B := h.1.1
  have h120 := hc.2
  have t1 : (Int32.ofNat p < 0) = False := z_neg (by omega)
  have t2 := eq_true (ck_nat hc (by omega) hp).2
  have e5 := h.2.1 460 (by omega)
  have e := h.2.1 (461 + 18 * p + 3) (by omega)
  rw [bk_34_0]
  simp (disch := omega) only [(fun d x0 x1 B i => bk_26_0 d x0 x1 (am_wI B i)), (fun d x0 x1 x2 s0 s1 B i => bk_34_34 d x0 x1 x2 s0 s1 (am_wI B i)), (fun d x0 x1 x2 B i => bk_24_0 d x0 x1 x2 (am_wI B i)), (fun d x0 x1 B i => bk_23_0 d x0 x1 (am_wI B i)), m_in, z_pred hc.1, Classical.not_not, t1, t2, m_thr0, e5, e, hM, y_ckd, y_ck2d, y_ond, y_onn, y_oI, y_oIx, y_oJ, y_oV, y_oVx, y_oR, y_oRn, y_oRx, y_b0, y_b1, y_bi, y_bid, y_wIK, y_wIL, y_wII, y_wIJ, y_wIR, y_wIN, y_wIw, y_sI, ↓reduceIte, Nat.reduceEqDiff, eq_self, true_or, or_true, false_or, or_false, and_true, true_and, false_and, and_false, not_true, not_false_eq_true, tf_T, tf_F, y_up1, y_up2, y_xx, y_nx, y_sJ, y_sR, Int32.reduceLT, y_nxK, y_nxL, y_nxR, y_sJK, y_sJL, y_sJR, y_sJN, y_sRK, y_sRL, y_sRN, z_nat, z_lit, z_lit0, z_lit1, z_in0, z_in1, z_addl0, z_lt, z_ltl, z_llt, z_inj, z_injl, z_add, z_addl, z_ladd, z_mul, z_mull, z_lmul, z_neg, z_negl, z_in, z_inl, z_ltT, z_ltF, z_eqF, z_10, z_01, z_litne, z_ne0, z_0ne, z_ne1, z_1ne, z_lt64, z_02, z_03, z_04, z_05, z_12, z_13, z_14, z_15, z_20, z_21, z_23, z_24, z_25, z_30, z_31, z_32, z_34, z_35, z_40, z_41, z_42, z_43, z_45, z_50, z_51, z_52, z_53, z_54]
theorem f_piece_4 {p : Nat} (h : CR B i σ) (hc : isc σ.1 460 120) (hp : p < cn σ.1 460) : FRs B i σ (am_fx am_P (d + 150) 299 0 [some (.ref 64), some (.int (Int32.ofNat p)), some (.int 4), none] [] (am_wI B i)) (.inl (some (.int (σ.1 (461 + 18 * p + 4))))) := by
  refine FRs_0 h ?_
  have hF : Fc B := h.1.1
  have hY : Yd B 94 := h.1.2.1
  have h120 := hc.2
  obtain ⟨a0, a1, a2, a3, a4, a5, a6, a7, a8, a9, a10, a11, a12, a13, a14, a15, a16, a17, a18⟩ := h.2.1.2.2.1.2 p hp (by omega)
  rw [bk_299_0]
  simp (disch := omega) only [c_pcN hF hY h.2.1.2.2.1.1 hc hp, c_within1 (x := 4) (a := 0) (c := 14) (by decide), (fun d x0 x1 B i => bk_164_0 d x0 x1 (am_wI B i)), z_40, z_41, z_42, z_43, z_45, u_4_6, u_4_7, a4, hF, hY, y_ckd, y_ck2d, y_ond, y_onn, y_oI, y_oIx, y_oJ, y_oV, y_oVx, y_oR, y_oRn, y_oRx, y_b0, y_b1, y_bi, y_bid, y_wIK, y_wIL, y_wII, y_wIJ, y_wIR, y_wIN, y_wIw, y_sI, ↓reduceIte, Nat.reduceEqDiff, eq_self, true_or, or_true, false_or, or_false, and_true, true_and, false_and, and_false, not_true, not_false_eq_true, tf_T, tf_F, y_up1, y_up2, y_xx, y_nx, y_sJ, y_sR, Int32.reduceLT, y_nxK, y_nxL, y_nxR, y_sJK, y_sJL, y_sJR, y_sJN, y_sRK, y_sRL, y_sRN, z_nat, z_lit, z_lit0, z_lit1, z_in0, z_in1, z_addl0, z_lt, z_ltl, z_llt, z_inj, z_injl, z_add, z_addl, z_ladd, z_mul, z_mull, z_lmul, z_neg, z_negl, z_in, z_inl, z_ltT, z_ltF, z_eqF, z_10, z_01, z_litne, z_ne0, z_0ne, z_ne1, z_1ne, z_lt64, z_02, z_03, z_04, z_05, z_12, z_13, z_14, z_15, z_20, z_21, z_23, z_24, z_25, z_30, z_31, z_32, z_34, z_35, z_40, z_41, z_42, z_43, z_45, z_50, z_51, z_52, z_53, z_54, Nat.add_zero]
theorem m_piece_4 {p : Nat} (h : MR B i σ) (hc : isc σ.1 460 120) (hp : p < cn σ.1 460) : MRs B i σ (am_fx am_P (d + 150) 34 0 [some (.ref 874), some (.int (Int32.ofNat p)), some (.int 4)] [] (am_wI B i)) (some (.int (σ.1 (461 + 18 * p + 4)))) 0 := by
  refine MRs_0 h ?_
  have hM : Md B := h.1.1
  have h120 := hc.2
  have t1 : (Int32.ofNat p < 0) = False := z_neg (by omega)
  have t2 := eq_true (ck_nat hc (by omega) hp).2
  have e5 := h.2.1 460 (by omega)
  have e := h.2.1 (461 + 18 * p + 4) (by omega)
  rw [bk_34_0]
  simp (disch := omega) only [(fun d x0 x1 B i => bk_26_0 d x0 x1 (am_wI B i)), (fun d x0 x1 x2 s0 s1 B i => bk_34_34 d x0 x1 x2 s0 s1 (am_wI B i)), (fun d x0 x1 x2 B i => bk_24_0 d x0 x1 x2 (am_wI B i)), (fun d x0 x1 B i => bk_23_0 d x0 x1 (am_wI B i)), m_in, z_pred hc.1, Classical.not_not, t1, t2, m_thr0, e5, e, hM, y_ckd, y_ck2d, y_ond, y_onn, y_oI, y_oIx, y_oJ, y_oV, y_oVx, y_oR, y_oRn, y_oRx, y_b0, y_b1, y_bi, y_bid, y_wIK, y_wIL, y_wII, y_wIJ, y_wIR, y_wIN, y_wIw, y_sI, ↓reduceIte, Nat.reduceEqDiff, eq_self, true_or, or_true, false_or, or_false, and_true, true_and, false_and, and_false, not_true, not_false_eq_true, tf_T, tf_F, y_up1, y_up2, y_xx, y_nx, y_sJ, y_sR, Int32.reduceLT, y_nxK, y_nxL, y_nxR, y_sJK, y_sJL, y_sJR, y_sJN, y_sRK, y_sRL, y_sRN, z_nat, z_lit, z_lit0, z_lit1, z_in0, z_in1, z_addl0, z_lt, z_ltl, z_llt, z_inj, z_injl, z_add, z_addl, z_ladd, z_mul, z_mull, z_lmul, z_neg, z_negl, z_in, z_inl, z_ltT, z_ltF, z_eqF, z_10, z_01, z_litne, z_ne0, z_0ne, z_ne1, z_1ne, z_lt64, z_02, z_03, z_04, z_05, z_12, z_13, z_14, z_15, z_20, z_21, z_23, z_24, z_25, z_30, z_31, z_32, z_34, z_35, z_40, z_41, z_42, z_43, z_45, z_50, z_51, z_52, z_53, z_54]
theorem f_piece_5 {p : Nat} (h : CR B i σ) (hc : isc σ.1 460 120) (hp : p < cn σ.1 460) : FRs B i σ (am_fx am_P (d + 150) 299 0 [some (.ref 64), some (.int (Int32.ofNat p)), some (.int 5), none] [] (am_wI B i)) (.inl (some (.int (σ.1 (461 + 18 * p + 5))))) := by
  refine FRs_0 h ?_
  have hF : Fc B := h.1.1
  have hY : Yd B 94 := h.1.2.1
  have h120 := hc.2
  obtain ⟨a0, a1, a2, a3, a4, a5, a6, a7, a8, a9, a10, a11, a12, a13, a14, a15, a16, a17, a18⟩ := h.2.1.2.2.1.2 p hp (by omega)
  rw [bk_299_0]
  simp (disch := omega) only [c_pcN hF hY h.2.1.2.2.1.1 hc hp, c_within1 (x := 5) (a := 0) (c := 14) (by decide), (fun d x0 x1 B i => bk_164_0 d x0 x1 (am_wI B i)), z_50, z_51, z_52, z_53, z_54, u_5_6, u_5_7, a5, hF, hY, y_ckd, y_ck2d, y_ond, y_onn, y_oI, y_oIx, y_oJ, y_oV, y_oVx, y_oR, y_oRn, y_oRx, y_b0, y_b1, y_bi, y_bid, y_wIK, y_wIL, y_wII, y_wIJ, y_wIR, y_wIN, y_wIw, y_sI, ↓reduceIte, Nat.reduceEqDiff, eq_self, true_or, or_true, false_or, or_false, and_true, true_and, false_and, and_false, not_true, not_false_eq_true, tf_T, tf_F, y_up1, y_up2, y_xx, y_nx, y_sJ, y_sR, Int32.reduceLT, y_nxK, y_nxL, y_nxR, y_sJK, y_sJL, y_sJR, y_sJN, y_sRK, y_sRL, y_sRN, z_nat, z_lit, z_lit0, z_lit1, z_in0, z_in1, z_addl0, z_lt, z_ltl, z_llt, z_inj, z_injl, z_add, z_addl, z_ladd, z_mul, z_mull, z_lmul, z_neg, z_negl, z_in, z_inl, z_ltT, z_ltF, z_eqF, z_10, z_01, z_litne, z_ne0, z_0ne, z_ne1, z_1ne, z_lt64, z_02, z_03, z_04, z_05, z_12, z_13, z_14, z_15, z_20, z_21, z_23, z_24, z_25, z_30, z_31, z_32, z_34, z_35, z_40, z_41, z_42, z_43, z_45, z_50, z_51, z_52, z_53, z_54, Nat.add_zero]
theorem m_piece_5 {p : Nat} (h : MR B i σ) (hc : isc σ.1 460 120) (hp : p < cn σ.1 460) : MRs B i σ (am_fx am_P (d + 150) 34 0 [some (.ref 874), some (.int (Int32.ofNat p)), some (.int 5)] [] (am_wI B i)) (some (.int (σ.1 (461 + 18 * p + 5)))) 0 := by
  refine MRs_0 h ?_
  have hM : Md B := h.1.1
  have h120 := hc.2
  have t1 : (Int32.ofNat p < 0) = False := z_neg (by omega)
  have t2 := eq_true (ck_nat hc (by omega) hp).2
  have e5 := h.2.1 460 (by omega)
  have e := h.2.1 (461 + 18 * p + 5) (by omega)
  rw [bk_34_0]
  simp (disch := omega) only [(fun d x0 x1 B i => bk_26_0 d x0 x1 (am_wI B i)), (fun d x0 x1 x2 s0 s1 B i => bk_34_34 d x0 x1 x2 s0 s1 (am_wI B i)), (fun d x0 x1 x2 B i => bk_24_0 d x0 x1 x2 (am_wI B i)), (fun d x0 x1 B i => bk_23_0 d x0 x1 (am_wI B i)), m_in, z_pred hc.1, Classical.not_not, t1, t2, m_thr0, e5, e, hM, y_ckd, y_ck2d, y_ond, y_onn, y_oI, y_oIx, y_oJ, y_oV, y_oVx, y_oR, y_oRn, y_oRx, y_b0, y_b1, y_bi, y_bid, y_wIK, y_wIL, y_wII, y_wIJ, y_wIR, y_wIN, y_wIw, y_sI, ↓reduceIte, Nat.reduceEqDiff, eq_self, true_or, or_true, false_or, or_false, and_true, true_and, false_and, and_false, not_true, not_false_eq_true, tf_T, tf_F, y_up1, y_up2, y_xx, y_nx, y_sJ, y_sR, Int32.reduceLT, y_nxK, y_nxL, y_nxR, y_sJK, y_sJL, y_sJR, y_sJN, y_sRK, y_sRL, y_sRN, z_nat, z_lit, z_lit0, z_lit1, z_in0, z_in1, z_addl0, z_lt, z_ltl, z_llt, z_inj, z_injl, z_add, z_addl, z_ladd, z_mul, z_mull, z_lmul, z_neg, z_negl, z_in, z_inl, z_ltT, z_ltF, z_eqF, z_10, z_01, z_litne, z_ne0, z_0ne, z_ne1, z_1ne, z_lt64, z_02, z_03, z_04, z_05, z_12, z_13, z_14, z_15, z_20, z_21, z_23, z_24, z_25, z_30, z_31, z_32, z_34, z_35, z_40, z_41, z_42, z_43, z_45, z_50, z_51, z_52, z_53, z_54]
theorem f_piece_6 {p : Nat} (h : CR B i σ) (hc : isc σ.1 460 120) (hp : p < cn σ.1 460) : FRs B i σ (am_fx am_P (d + 150) 299 0 [some (.ref 64), some (.int (Int32.ofNat p)), some (.int 6), none] [] (am_wI B i)) (.inl (some (.int (σ.1 (461 + 18 * p + 6))))) := by
  refine FRs_0 h ?_
  have hF : Fc B := h.1.1
  have hY : Yd B 94 := h.1.2.1
  have h120 := hc.2
  obtain ⟨a0, a1, a2, a3, a4, a5, a6, a7, a8, a9, a10, a11, a12, a13, a14, a15, a16, a17, a18⟩ := h.2.1.2.2.1.2 p hp (by omega)
  rw [bk_299_0]
  simp (disch := omega) only [c_pcN hF hY h.2.1.2.2.1.1 hc hp, c_within1 (x := 6) (a := 0) (c := 14) (by decide), (fun d x0 x1 B i => bk_164_0 d x0 x1 (am_wI B i)), u_6_0, u_6_1, u_6_2, u_6_3, u_6_4, u_6_5, u_6_7, a6, hF, hY, y_ckd, y_ck2d, y_ond, y_onn, y_oI, y_oIx, y_oJ, y_oV, y_oVx, y_oR, y_oRn, y_oRx, y_b0, y_b1, y_bi, y_bid, y_wIK, y_wIL, y_wII, y_wIJ, y_wIR, y_wIN, y_wIw, y_sI, ↓reduceIte, Nat.reduceEqDiff, eq_self, true_or, or_true, false_or, or_false, and_true, true_and, false_and, and_false, not_true, not_false_eq_true, tf_T, tf_F, y_up1, y_up2, y_xx, y_nx, y_sJ, y_sR, Int32.reduceLT, y_nxK, y_nxL, y_nxR, y_sJK, y_sJL, y_sJR, y_sJN, y_sRK, y_sRL, y_sRN, z_nat, z_lit, z_lit0, z_lit1, z_in0, z_in1, z_addl0, z_lt, z_ltl, z_llt, z_inj, z_injl, z_add, z_addl, z_ladd, z_mul, z_mull, z_lmul, z_neg, z_negl, z_in, z_inl, z_ltT, z_ltF, z_eqF, z_10, z_01, z_litne, z_ne0, z_0ne, z_ne1, z_1ne, z_lt64, z_02, z_03, z_04, z_05, z_12, z_13, z_14, z_15, z_20, z_21, z_23, z_24, z_25, z_30, z_31, z_32, z_34, z_35, z_40, z_41, z_42, z_43, z_45, z_50, z_51, z_52, z_53, z_54, Nat.add_zero]
theorem m_piece_6 {p : Nat} (h : MR B i σ) (hc : isc σ.1 460 120) (hp : p < cn σ.1 460) : MRs B i σ (am_fx am_P (d + 150) 34 0 [some (.ref 874), some (.int (Int32.ofNat p)), some (.int 6)] [] (am_wI B i)) (some (.int (σ.1 (461 + 18 * p + 6)))) 0 := by
  refine MRs_0 h ?_
  have hM : Md B := h.1.1
  have h120 := hc.2
  have t1 : (Int32.ofNat p < 0) = False := z_neg (by omega)
  have t2 := eq_true (ck_nat hc (by omega) hp).2
  have e5 := h.2.1 460 (by omega)
  have e := h.2.1 (461 + 18 * p + 6) (by omega)
  rw [bk_34_0]
  simp (disch := omega) only [(fun d x0 x1 B i => bk_26_0 d x0 x1 (am_wI B i)), (fun d x0 x1 x2 s0 s1 B i => bk_34_34 d x0 x1 x2 s0 s1 (am_wI B i)), (fun d x0 x1 x2 B i => bk_24_0 d x0 x1 x2 (am_wI B i)), (fun d x0 x1 B i => bk_23_0 d x0 x1 (am_wI B i)), m_in, z_pred hc.1, Classical.not_not, t1, t2, m_thr0, e5, e, hM, y_ckd, y_ck2d, y_ond, y_onn, y_oI, y_oIx, y_oJ, y_oV, y_oVx, y_oR, y_oRn, y_oRx, y_b0, y_b1, y_bi, y_bid, y_wIK, y_wIL, y_wII, y_wIJ, y_wIR, y_wIN, y_wIw, y_sI, ↓reduceIte, Nat.reduceEqDiff, eq_self, true_or, or_true, false_or, or_false, and_true, true_and, false_and, and_false, not_true, not_false_eq_true, tf_T, tf_F, y_up1, y_up2, y_xx, y_nx, y_sJ, y_sR, Int32.reduceLT, y_nxK, y_nxL, y_nxR, y_sJK, y_sJL, y_sJR, y_sJN, y_sRK, y_sRL, y_sRN, z_nat, z_lit, z_lit0, z_lit1, z_in0, z_in1, z_addl0, z_lt, z_ltl, z_llt, z_inj, z_injl, z_add, z_addl, z_ladd, z_mul, z_mull, z_lmul, z_neg, z_negl, z_in, z_inl, z_ltT, z_ltF, z_eqF, z_10, z_01, z_litne, z_ne0, z_0ne, z_ne1, z_1ne, z_lt64, z_02, z_03, z_04, z_05, z_12, z_13, z_14, z_15, z_20, z_21, z_23, z_24, z_25, z_30, z_31, z_32, z_34, z_35, z_40, z_41, z_42, z_43, z_45, z_50, z_51, z_52, z_53, z_54]
theorem f_piece_7 {p : Nat} (h : CR B i σ) (hc : isc σ.1 460 120) (hp : p < cn σ.1 460) : FRs B i σ (am_fx am_P (d + 150) 299 0 [some (.ref 64), some (.int (Int32.ofNat p)), some (.int 7), none] [] (am_wI B i)) (.inl (some (.int (σ.1 (461 + 18 * p + 7))))) := by
  refine FRs_0 h ?_
  have hF : Fc B := h.1.1
  have hY : Yd B 94 := h.1.2.1
  have h120 := hc.2
  obtain ⟨a0, a1, a2, a3, a4, a5, a6, a7, a8, a9, a10, a11, a12, a13, a14, a15, a16, a17, a18⟩ := h.2.1.2.2.1.2 p hp (by omega)
  rw [bk_299_0]
  simp (disch := omega) only [c_pcN hF hY h.2.1.2.2.1.1 hc hp, c_within1 (x := 7) (a := 0) (c := 14) (by decide), (fun d x0 x1 B i => bk_164_0 d x0 x1 (am_wI B i)), u_7_0, u_7_1, u_7_2, u_7_3, u_7_4, u_7_5, u_7_6, a7, hF, hY, y_ckd, y_ck2d, y_ond, y_onn, y_oI, y_oIx, y_oJ, y_oV, y_oVx, y_oR, y_oRn, y_oRx, y_b0, y_b1, y_bi, y_bid, y_wIK, y_wIL, y_wII, y_wIJ, y_wIR, y_wIN, y_wIw, y_sI, ↓reduceIte, Nat.reduceEqDiff, eq_self, true_or, or_true, false_or, or_false, and_true, true_and, false_and, and_false, not_true, not_false_eq_true, tf_T, tf_F, y_up1, y_up2, y_xx, y_nx, y_sJ, y_sR, Int32.reduceLT, y_nxK, y_nxL, y_nxR, y_sJK, y_sJL, y_sJR, y_sJN, y_sRK, y_sRL, y_sRN, z_nat, z_lit, z_lit0, z_lit1, z_in0, z_in1, z_addl0, z_lt, z_ltl, z_llt, z_inj, z_injl, z_add, z_addl, z_ladd, z_mul, z_mull, z_lmul, z_neg, z_negl, z_in, z_inl, z_ltT, z_ltF, z_eqF, z_10, z_01, z_litne, z_ne0, z_0ne, z_ne1, z_1ne, z_lt64, z_02, z_03, z_04, z_05, z_12, z_13, z_14, z_15, z_20, z_21, z_23, z_24, z_25, z_30, z_31, z_32, z_34, z_35, z_40, z_41, z_42, z_43, z_45, z_50, z_51, z_52, z_53, z_54, Nat.add_zero]
theorem m_piece_7 {p : Nat} (h : MR B i σ) (hc : isc σ.1 460 120) (hp : p < cn σ.1 460) : MRs B i σ (am_fx am_P (d + 150) 34 0 [some (.ref 874), some (.int (Int32.ofNat p)), some (.int 7)] [] (am_wI B i)) (some (.int (σ.1 (461 + 18 * p + 7)))) 0 := by
  refine MRs_0 h ?_
  have hM : Md B := h.1.1
  have h120 := hc.2
  have t1 : (Int32.ofNat p < 0) = False := z_neg (by omega)
  have t2 := eq_true (ck_nat hc (by omega) hp).2
  have e5 := h.2.1 460 (by omega)
  have e := h.2.1 (461 + 18 * p + 7) (by omega)
  rw [bk_34_0]
  simp (disch := omega) only [(fun d x0 x1 B i => bk_26_0 d x0 x1 (am_wI B i)), (fun d x0 x1 x2 s0 s1 B i => bk_34_34 d x0 x1 x2 s0 s1 (am_wI B i)), (fun d x0 x1 x2 B i => bk_24_0 d x0 x1 x2 (am_wI B i)), (fun d x0 x1 B i => bk_23_0 d x0 x1 (am_wI B i)), m_in, z_pred hc.1, Classical.not_not, t1, t2, m_thr0, e5, e, hM, y_ckd, y_ck2d, y_ond, y_onn, y_oI, y_oIx, y_oJ, y_oV, y_oVx, y_oR, y_oRn, y_oRx, y_b0, y_b1, y_bi, y_bid, y_wIK, y_wIL, y_wII, y_wIJ, y_wIR, y_wIN, y_wIw, y_sI, ↓reduceIte, Nat.reduceEqDiff, eq_self, true_or, or_true, false_or, or_false, and_true, true_and, false_and, and_false, not_true, not_false_eq_true, tf_T, tf_F, y_up1, y_up2, y_xx, y_nx, y_sJ, y_sR, Int32.reduceLT, y_nxK, y_nxL, y_nxR, y_sJK, y_sJL, y_sJR, y_sJN, y_sRK, y_sRL, y_sRN, z_nat, z_lit, z_lit0, z_lit1, z_in0, z_in1, z_addl0, z_lt, z_ltl, z_llt, z_inj, z_injl, z_add, z_addl, z_ladd, z_mul, z_mull, z_lmul, z_neg, z_negl, z_in, z_inl, z_ltT, z_ltF, z_eqF, z_10, z_01, z_litne, z_ne0, z_0ne, z_ne1, z_1ne, z_lt64, z_02, z_03, z_04, z_05, z_12, z_13, z_14, z_15, z_20, z_21, z_23, z_24, z_25, z_30, z_31, z_32, z_34, z_35, z_40, z_41, z_42, z_43, z_45, z_50, z_51, z_52, z_53, z_54]
theorem f_piece_8 {p : Nat} (h : CR B i σ) (hc : isc σ.1 460 120) (hp : p < cn σ.1 460) : FRs B i σ (am_fx am_P (d + 150) 299 0 [some (.ref 64), some (.int (Int32.ofNat p)), some (.int 8), none] [] (am_wI B i)) (.inl (some (.int (σ.1 (461 + 18 * p + 8))))) := by
  refine FRs_0 h ?_
  have hF : Fc B := h.1.1
  have hY : Yd B 94 := h.1.2.1
  have h120 := hc.2
  obtain ⟨a0, a1, a2, a3, a4, a5, a6, a7, a8, a9, a10, a11, a12, a13, a14, a15, a16, a17, a18⟩ := h.2.1.2.2.1.2 p hp (by omega)
  rw [bk_299_0]
  simp (disch := omega) only [c_pcN hF hY h.2.1.2.2.1.1 hc hp, c_within1 (x := 8) (a := 0) (c := 14) (by decide), (fun d x0 x1 B i => bk_165_0 d x0 x1 (am_wI B i)), u_8_9, u_8_10, u_8_11, u_8_12, u_8_13, a8, hF, hY, y_ckd, y_ck2d, y_ond, y_onn, y_oI, y_oIx, y_oJ, y_oV, y_oVx, y_oR, y_oRn, y_oRx, y_b0, y_b1, y_bi, y_bid, y_wIK, y_wIL, y_wII, y_wIJ, y_wIR, y_wIN, y_wIw, y_sI, ↓reduceIte, Nat.reduceEqDiff, eq_self, true_or, or_true, false_or, or_false, and_true, true_and, false_and, and_false, not_true, not_false_eq_true, tf_T, tf_F, y_up1, y_up2, y_xx, y_nx, y_sJ, y_sR, Int32.reduceLT, y_nxK, y_nxL, y_nxR, y_sJK, y_sJL, y_sJR, y_sJN, y_sRK, y_sRL, y_sRN, z_nat, z_lit, z_lit0, z_lit1, z_in0, z_in1, z_addl0, z_lt, z_ltl, z_llt, z_inj, z_injl, z_add, z_addl, z_ladd, z_mul, z_mull, z_lmul, z_neg, z_negl, z_in, z_inl, z_ltT, z_ltF, z_eqF, z_10, z_01, z_litne, z_ne0, z_0ne, z_ne1, z_1ne, z_lt64, z_02, z_03, z_04, z_05, z_12, z_13, z_14, z_15, z_20, z_21, z_23, z_24, z_25, z_30, z_31, z_32, z_34, z_35, z_40, z_41, z_42, z_43, z_45, z_50, z_51, z_52, z_53, z_54, Nat.add_zero]
theorem m_piece_8 {p : Nat} (h : MR B i σ) (hc : isc σ.1 460 120) (hp : p < cn σ.1 460) : MRs B i σ (am_fx am_P (d + 150) 34 0 [some (.ref 874), some (.int (Int32.ofNat p)), some (.int 8)] [] (am_wI B i)) (some (.int (σ.1 (461 + 18 * p + 8)))) 0 := by
  refine MRs_0 h ?_
  have hM : Md B := h.1.1
  have h120 := hc.2
  have t1 : (Int32.ofNat p < 0) = False := z_neg (by omega)
  have t2 := eq_true (ck_nat hc (by omega) hp).2
  have e5 := h.2.1 460 (by omega)
  have e := h.2.1 (461 + 18 * p + 8) (by omega)
  rw [bk_34_0]
  simp (disch := omega) only [(fun d x0 x1 B i => bk_26_0 d x0 x1 (am_wI B i)), (fun d x0 x1 x2 s0 s1 B i => bk_34_34 d x0 x1 x2 s0 s1 (am_wI B i)), (fun d x0 x1 x2 B i => bk_24_0 d x0 x1 x2 (am_wI B i)), (fun d x0 x1 B i => bk_23_0 d x0 x1 (am_wI B i)), m_in, z_pred hc.1, Classical.not_not, t1, t2, m_thr0, e5, e, hM, y_ckd, y_ck2d, y_ond, y_onn, y_oI, y_oIx, y_oJ, y_oV, y_oVx, y_oR, y_oRn, y_oRx, y_b0, y_b1, y_bi, y_bid, y_wIK, y_wIL, y_wII, y_wIJ, y_wIR, y_wIN, y_wIw, y_sI, ↓reduceIte, Nat.reduceEqDiff, eq_self, true_or, or_true, false_or, or_false, and_true, true_and, false_and, and_false, not_true, not_false_eq_true, tf_T, tf_F, y_up1, y_up2, y_xx, y_nx, y_sJ, y_sR, Int32.reduceLT, y_nxK, y_nxL, y_nxR, y_sJK, y_sJL, y_sJR, y_sJN, y_sRK, y_sRL, y_sRN, z_nat, z_lit, z_lit0, z_lit1, z_in0, z_in1, z_addl0, z_lt, z_ltl, z_llt, z_inj, z_injl, z_add, z_addl, z_ladd, z_mul, z_mull, z_lmul, z_neg, z_negl, z_in, z_inl, z_ltT, z_ltF, z_eqF, z_10, z_01, z_litne, z_ne0, z_0ne, z_ne1, z_1ne, z_lt64, z_02, z_03, z_04, z_05, z_12, z_13, z_14, z_15, z_20, z_21, z_23, z_24, z_25, z_30, z_31, z_32, z_34, z_35, z_40, z_41, z_42, z_43, z_45, z_50, z_51, z_52, z_53, z_54]
theorem f_piece_9 {p : Nat} (h : CR B i σ) (hc : isc σ.1 460 120) (hp : p < cn σ.1 460) : FRs B i σ (am_fx am_P (d + 150) 299 0 [some (.ref 64), some (.int (Int32.ofNat p)), some (.int 9), none] [] (am_wI B i)) (.inl (some (.int (σ.1 (461 + 18 * p + 9))))) := by
  refine FRs_0 h ?_
  have hF : Fc B := h.1.1
  have hY : Yd B 94 := h.1.2.1
  have h120 := hc.2
  obtain ⟨a0, a1, a2, a3, a4, a5, a6, a7, a8, a9, a10, a11, a12, a13, a14, a15, a16, a17, a18⟩ := h.2.1.2.2.1.2 p hp (by omega)
  rw [bk_299_0]
  simp (disch := omega) only [c_pcN hF hY h.2.1.2.2.1.1 hc hp, c_within1 (x := 9) (a := 0) (c := 14) (by decide), (fun d x0 x1 B i => bk_165_0 d x0 x1 (am_wI B i)), u_9_8, u_9_10, u_9_11, u_9_12, u_9_13, a9, hF, hY, y_ckd, y_ck2d, y_ond, y_onn, y_oI, y_oIx, y_oJ, y_oV, y_oVx, y_oR, y_oRn, y_oRx, y_b0, y_b1, y_bi, y_bid, y_wIK, y_wIL, y_wII, y_wIJ, y_wIR, y_wIN, y_wIw, y_sI, ↓reduceIte, Nat.reduceEqDiff, eq_self, true_or, or_true, false_or, or_false, and_true, true_and, false_and, and_false, not_true, not_false_eq_true, tf_T, tf_F, y_up1, y_up2, y_xx, y_nx, y_sJ, y_sR, Int32.reduceLT, y_nxK, y_nxL, y_nxR, y_sJK, y_sJL, y_sJR, y_sJN, y_sRK, y_sRL, y_sRN, z_nat, z_lit, z_lit0, z_lit1, z_in0, z_in1, z_addl0, z_lt, z_ltl, z_llt, z_inj, z_injl, z_add, z_addl, z_ladd, z_mul, z_mull, z_lmul, z_neg, z_negl, z_in, z_inl, z_ltT, z_ltF, z_eqF, z_10, z_01, z_litne, z_ne0, z_0ne, z_ne1, z_1ne, z_lt64, z_02, z_03, z_04, z_05, z_12, z_13, z_14, z_15, z_20, z_21, z_23, z_24, z_25, z_30, z_31, z_32, z_34, z_35, z_40, z_41, z_42, z_43, z_45, z_50, z_51, z_52, z_53, z_54, Nat.add_zero]
theorem m_piece_9 {p : Nat} (h : MR B i σ) (hc : isc σ.1 460 120) (hp : p < cn σ.1 460) : MRs B i σ (am_fx am_P (d + 150) 34 0 [some (.ref 874), some (.int (Int32.ofNat p)), some (.int 9)] [] (am_wI B i)) (some (.int (σ.1 (461 + 18 * p + 9)))) 0 := by
  refine MRs_0 h ?_
  have hM : Md B := h.1.1
  have h120 := hc.2
  have t1 : (Int32.ofNat p < 0) = False := z_neg (by omega)
  have t2 := eq_true (ck_nat hc (by omega) hp).2
  have e5 := h.2.1 460 (by omega)
  have e := h.2.1 (461 + 18 * p + 9) (by omega)
  rw [bk_34_0]
  simp (disch := omega) only [(fun d x0 x1 B i => bk_26_0 d x0 x1 (am_wI B i)), (fun d x0 x1 x2 s0 s1 B i => bk_34_34 d x0 x1 x2 s0 s1 (am_wI B i)), (fun d x0 x1 x2 B i => bk_24_0 d x0 x1 x2 (am_wI B i)), (fun d x0 x1 B i => bk_23_0 d x0 x1 (am_wI B i)), m_in, z_pred hc.1, Classical.not_not, t1, t2, m_thr0, e5, e, hM, y_ckd, y_ck2d, y_ond, y_onn, y_oI, y_oIx, y_oJ, y_oV, y_oVx, y_oR, y_oRn, y_oRx, y_b0, y_b1, y_bi, y_bid, y_wIK, y_wIL, y_wII, y_wIJ, y_wIR, y_wIN, y_wIw, y_sI, ↓reduceIte, Nat.reduceEqDiff, eq_self, true_or, or_true, false_or, or_false, and_true, true_and, false_and, and_false, not_true, not_false_eq_true, tf_T, tf_F, y_up1, y_up2, y_xx, y_nx, y_sJ, y_sR, Int32.reduceLT, y_nxK, y_nxL, y_nxR, y_sJK, y_sJL, y_sJR, y_sJN, y_sRK, y_sRL, y_sRN, z_nat, z_lit, z_lit0, z_lit1, z_in0, z_in1, z_addl0, z_lt, z_ltl, z_llt, z_inj, z_injl, z_add, z_addl, z_ladd, z_mul, z_mull, z_lmul, z_neg, z_negl, z_in, z_inl, z_ltT, z_ltF, z_eqF, z_10, z_01, z_litne, z_ne0, z_0ne, z_ne1, z_1ne, z_lt64, z_02, z_03, z_04, z_05, z_12, z_13, z_14, z_15, z_20, z_21, z_23, z_24, z_25, z_30, z_31, z_32, z_34, z_35, z_40, z_41, z_42, z_43, z_45, z_50, z_51, z_52, z_53, z_54]
theorem f_piece_10 {p : Nat} (h : CR B i σ) (hc : isc σ.1 460 120) (hp : p < cn σ.1 460) : FRs B i σ (am_fx am_P (d + 150) 299 0 [some (.ref 64), some (.int (Int32.ofNat p)), some (.int 10), none] [] (am_wI B i)) (.inl (some (.int (σ.1 (461 + 18 * p + 10))))) := by
  refine FRs_0 h ?_
  have hF : Fc B := h.1.1
  have hY : Yd B 94 := h.1.2.1
  have h120 := hc.2
  obtain ⟨a0, a1, a2, a3, a4, a5, a6, a7, a8, a9, a10, a11, a12, a13, a14, a15, a16, a17, a18⟩ := h.2.1.2.2.1.2 p hp (by omega)
  rw [bk_299_0]
  simp (disch := omega) only [c_pcN hF hY h.2.1.2.2.1.1 hc hp, c_within1 (x := 10) (a := 0) (c := 14) (by decide), (fun d x0 x1 B i => bk_165_0 d x0 x1 (am_wI B i)), u_10_8, u_10_9, u_10_11, u_10_12, u_10_13, a10, hF, hY, y_ckd, y_ck2d, y_ond, y_onn, y_oI, y_oIx, y_oJ, y_oV, y_oVx, y_oR, y_oRn, y_oRx, y_b0, y_b1, y_bi, y_bid, y_wIK, y_wIL, y_wII, y_wIJ, y_wIR, y_wIN, y_wIw, y_sI, ↓reduceIte, Nat.reduceEqDiff, eq_self, true_or, or_true, false_or, or_false, and_true, true_and, false_and, and_false, not_true, not_false_eq_true, tf_T, tf_F, y_up1, y_up2, y_xx, y_nx, y_sJ, y_sR, Int32.reduceLT, y_nxK, y_nxL, y_nxR, y_sJK, y_sJL, y_sJR, y_sJN, y_sRK, y_sRL, y_sRN, z_nat, z_lit, z_lit0, z_lit1, z_in0, z_in1, z_addl0, z_lt, z_ltl, z_llt, z_inj, z_injl, z_add, z_addl, z_ladd, z_mul, z_mull, z_lmul, z_neg, z_negl, z_in, z_inl, z_ltT, z_ltF, z_eqF, z_10, z_01, z_litne, z_ne0, z_0ne, z_ne1, z_1ne, z_lt64, z_02, z_03, z_04, z_05, z_12, z_13, z_14, z_15, z_20, z_21, z_23, z_24, z_25, z_30, z_31, z_32, z_34, z_35, z_40, z_41, z_42, z_43, z_45, z_50, z_51, z_52, z_53, z_54, Nat.add_zero]
theorem m_piece_10 {p : Nat} (h : MR B i σ) (hc : isc σ.1 460 120) (hp : p < cn σ.1 460) : MRs B i σ (am_fx am_P (d + 150) 34 0 [some (.ref 874), some (.int (Int32.ofNat p)), some (.int 10)] [] (am_wI B i)) (some (.int (σ.1 (461 + 18 * p + 10)))) 0 := by
  refine MRs_0 h ?_
  have hM : Md B := h.1.1
  have h120 := hc.2
  have t1 : (Int32.ofNat p < 0) = False := z_neg (by omega)
  have t2 := eq_true (ck_nat hc (by omega) hp).2
  have e5 := h.2.1 460 (by omega)
  have e := h.2.1 (461 + 18 * p + 10) (by omega)
  rw [bk_34_0]
  simp (disch := omega) only [(fun d x0 x1 B i => bk_26_0 d x0 x1 (am_wI B i)), (fun d x0 x1 x2 s0 s1 B i => bk_34_34 d x0 x1 x2 s0 s1 (am_wI B i)), (fun d x0 x1 x2 B i => bk_24_0 d x0 x1 x2 (am_wI B i)), (fun d x0 x1 B i => bk_23_0 d x0 x1 (am_wI B i)), m_in, z_pred hc.1, Classical.not_not, t1, t2, m_thr0, e5, e, hM, y_ckd, y_ck2d, y_ond, y_onn, y_oI, y_oIx, y_oJ, y_oV, y_oVx, y_oR, y_oRn, y_oRx, y_b0, y_b1, y_bi, y_bid, y_wIK, y_wIL, y_wII, y_wIJ, y_wIR, y_wIN, y_wIw, y_sI, ↓reduceIte, Nat.reduceEqDiff, eq_self, true_or, or_true, false_or, or_false, and_true, true_and, false_and, and_false, not_true, not_false_eq_true, tf_T, tf_F, y_up1, y_up2, y_xx, y_nx, y_sJ, y_sR, Int32.reduceLT, y_nxK, y_nxL, y_nxR, y_sJK, y_sJL, y_sJR, y_sJN, y_sRK, y_sRL, y_sRN, z_nat, z_lit, z_lit0, z_lit1, z_in0, z_in1, z_addl0, z_lt, z_ltl, z_llt, z_inj, z_injl, z_add, z_addl, z_ladd, z_mul, z_mull, z_lmul, z_neg, z_negl, z_in, z_inl, z_ltT, z_ltF, z_eqF, z_10, z_01, z_litne, z_ne0, z_0ne, z_ne1, z_1ne, z_lt64, z_02, z_03, z_04, z_05, z_12, z_13, z_14, z_15, z_20, z_21, z_23, z_24, z_25, z_30, z_31, z_32, z_34, z_35, z_40, z_41, z_42, z_43, z_45, z_50, z_51, z_52, z_53, z_54]
theorem f_piece_11 {p : Nat} (h : CR B i σ) (hc : isc σ.1 460 120) (hp : p < cn σ.1 460) : FRs B i σ (am_fx am_P (d + 150) 299 0 [some (.ref 64), some (.int (Int32.ofNat p)), some (.int 11), none] [] (am_wI B i)) (.inl (some (.int (σ.1 (461 + 18 * p + 11))))) := by
  refine FRs_0 h ?_
  have hF : Fc B := h.1.1
  have hY : Yd B 94 := h.1.2.1
  have h120 := hc.2
  obtain ⟨a0, a1, a2, a3, a4, a5, a6, a7, a8, a9, a10, a11, a12, a13, a14, a15, a16, a17, a18⟩ := h.2.1.2.2.1.2 p hp (by omega)
  rw [bk_299_0]
  simp (disch := omega) only [c_pcN hF hY h.2.1.2.2.1.1 hc hp, c_within1 (x := 11) (a := 0) (c := 14) (by decide), (fun d x0 x1 B i => bk_165_0 d x0 x1 (am_wI B i)), u_11_8, u_11_9, u_11_10, u_11_12, u_11_13, a11, hF, hY, y_ckd, y_ck2d, y_ond, y_onn, y_oI, y_oIx, y_oJ, y_oV, y_oVx, y_oR, y_oRn, y_oRx, y_b0, y_b1, y_bi, y_bid, y_wIK, y_wIL, y_wII, y_wIJ, y_wIR, y_wIN, y_wIw, y_sI, ↓reduceIte, Nat.reduceEqDiff, eq_self, true_or, or_true, false_or, or_false, and_true, true_and, false_and, and_false, not_true, not_false_eq_true, tf_T, tf_F, y_up1, y_up2, y_xx, y_nx, y_sJ, y_sR, Int32.reduceLT, y_nxK, y_nxL, y_nxR, y_sJK, y_sJL, y_sJR, y_sJN, y_sRK, y_sRL, y_sRN, z_nat, z_lit, z_lit0, z_lit1, z_in0, z_in1, z_addl0, z_lt, z_ltl, z_llt, z_inj, z_injl, z_add, z_addl, z_ladd, z_mul, z_mull, z_lmul, z_neg, z_negl, z_in, z_inl, z_ltT, z_ltF, z_eqF, z_10, z_01, z_litne, z_ne0, z_0ne, z_ne1, z_1ne, z_lt64, z_02, z_03, z_04, z_05, z_12, z_13, z_14, z_15, z_20, z_21, z_23, z_24, z_25, z_30, z_31, z_32, z_34, z_35, z_40, z_41, z_42, z_43, z_45, z_50, z_51, z_52, z_53, z_54, Nat.add_zero]
theorem m_piece_11 {p : Nat} (h : MR B i σ) (hc : isc σ.1 460 120) (hp : p < cn σ.1 460) : MRs B i σ (am_fx am_P (d + 150) 34 0 [some (.ref 874), some (.int (Int32.ofNat p)), some (.int 11)] [] (am_wI B i)) (some (.int (σ.1 (461 + 18 * p + 11)))) 0 := by
  refine MRs_0 h ?_
  have hM : Md B := h.1.1
  have h120 := hc.2
  have t1 : (Int32.ofNat p < 0) = False := z_neg (by omega)
  have t2 := eq_true (ck_nat hc (by omega) hp).2
  have e5 := h.2.1 460 (by omega)
  have e := h.2.1 (461 + 18 * p + 11) (by omega)
  rw [bk_34_0]
  simp (disch := omega) only [(fun d x0 x1 B i => bk_26_0 d x0 x1 (am_wI B i)), (fun d x0 x1 x2 s0 s1 B i => bk_34_34 d x0 x1 x2 s0 s1 (am_wI B i)), (fun d x0 x1 x2 B i => bk_24_0 d x0 x1 x2 (am_wI B i)), (fun d x0 x1 B i => bk_23_0 d x0 x1 (am_wI B i)), m_in, z_pred hc.1, Classical.not_not, t1, t2, m_thr0, e5, e, hM, y_ckd, y_ck2d, y_ond, y_onn, y_oI, y_oIx, y_oJ, y_oV, y_oVx, y_oR, y_oRn, y_oRx, y_b0, y_b1, y_bi, y_bid, y_wIK, y_wIL, y_wII, y_wIJ, y_wIR, y_wIN, y_wIw, y_sI, ↓reduceIte, Nat.reduceEqDiff, eq_self, true_or, or_true, false_or, or_false, and_true, true_and, false_and, and_false, not_true, not_false_eq_true, tf_T, tf_F, y_up1, y_up2, y_xx, y_nx, y_sJ, y_sR, Int32.reduceLT, y_nxK, y_nxL, y_nxR, y_sJK, y_sJL, y_sJR, y_sJN, y_sRK, y_sRL, y_sRN, z_nat, z_lit, z_lit0, z_lit1, z_in0, z_in1, z_addl0, z_lt, z_ltl, z_llt, z_inj, z_injl, z_add, z_addl, z_ladd, z_mul, z_mull, z_lmul, z_neg, z_negl, z_in, z_inl, z_ltT, z_ltF, z_eqF, z_10, z_01, z_litne, z_ne0, z_0ne, z_ne1, z_1ne, z_lt64, z_02, z_03, z_04, z_05, z_12, z_13, z_14, z_15, z_20, z_21, z_23, z_24, z_25, z_30, z_31, z_32, z_34, z_35, z_40, z_41, z_42, z_43, z_45, z_50, z_51, z_52, z_53, z_54]
theorem f_piece_12 {p : Nat} (h : CR B i σ) (hc : isc σ.1 460 120) (hp : p < cn σ.1 460) : FRs B i σ (am_fx am_P (d + 150) 299 0 [some (.ref 64), some (.int (Int32.ofNat p)), some (.int 12), none] [] (am_wI B i)) (.inl (some (.int (σ.1 (461 + 18 * p + 12))))) := by
  refine FRs_0 h ?_
  have hF : Fc B := h.1.1
  have hY : Yd B 94 := h.1.2.1
  have h120 := hc.2
  obtain ⟨a0, a1, a2, a3, a4, a5, a6, a7, a8, a9, a10, a11, a12, a13, a14, a15, a16, a17, a18⟩ := h.2.1.2.2.1.2 p hp (by omega)
  rw [bk_299_0]
  simp (disch := omega) only [c_pcN hF hY h.2.1.2.2.1.1 hc hp, c_within1 (x := 12) (a := 0) (c := 14) (by decide), (fun d x0 x1 B i => bk_165_0 d x0 x1 (am_wI B i)), u_12_8, u_12_9, u_12_10, u_12_11, u_12_13, a12, hF, hY, y_ckd, y_ck2d, y_ond, y_onn, y_oI, y_oIx, y_oJ, y_oV, y_oVx, y_oR, y_oRn, y_oRx, y_b0, y_b1, y_bi, y_bid, y_wIK, y_wIL, y_wII, y_wIJ, y_wIR, y_wIN, y_wIw, y_sI, ↓reduceIte, Nat.reduceEqDiff, eq_self, true_or, or_true, false_or, or_false, and_true, true_and, false_and, and_false, not_true, not_false_eq_true, tf_T, tf_F, y_up1, y_up2, y_xx, y_nx, y_sJ, y_sR, Int32.reduceLT, y_nxK, y_nxL, y_nxR, y_sJK, y_sJL, y_sJR, y_sJN, y_sRK, y_sRL, y_sRN, z_nat, z_lit, z_lit0, z_lit1, z_in0, z_in1, z_addl0, z_lt, z_ltl, z_llt, z_inj, z_injl, z_add, z_addl, z_ladd, z_mul, z_mull, z_lmul, z_neg, z_negl, z_in, z_inl, z_ltT, z_ltF, z_eqF, z_10, z_01, z_litne, z_ne0, z_0ne, z_ne1, z_1ne, z_lt64, z_02, z_03, z_04, z_05, z_12, z_13, z_14, z_15, z_20, z_21, z_23, z_24, z_25, z_30, z_31, z_32, z_34, z_35, z_40, z_41, z_42, z_43, z_45, z_50, z_51, z_52, z_53, z_54, Nat.add_zero]
theorem m_piece_12 {p : Nat} (h : MR B i σ) (hc : isc σ.1 460 120) (hp : p < cn σ.1 460) : MRs B i σ (am_fx am_P (d + 150) 34 0 [some (.ref 874), some (.int (Int32.ofNat p)), some (.int 12)] [] (am_wI B i)) (some (.int (σ.1 (461 + 18 * p + 12)))) 0 := by
  refine MRs_0 h ?_
  have hM : Md B := h.1.1
  have h120 := hc.2
  have t1 : (Int32.ofNat p < 0) = False := z_neg (by omega)
  have t2 := eq_true (ck_nat hc (by omega) hp).2
  have e5 := h.2.1 460 (by omega)
  have e := h.2.1 (461 + 18 * p + 12) (by omega)
  rw [bk_34_0]
  simp (disch := omega) only [(fun d x0 x1 B i => bk_26_0 d x0 x1 (am_wI B i)), (fun d x0 x1 x2 s0 s1 B i => bk_34_34 d x0 x1 x2 s0 s1 (am_wI B i)), (fun d x0 x1 x2 B i => bk_24_0 d x0 x1 x2 (am_wI B i)), (fun d x0 x1 B i => bk_23_0 d x0 x1 (am_wI B i)), m_in, z_pred hc.1, Classical.not_not, t1, t2, m_thr0, e5, e, hM, y_ckd, y_ck2d, y_ond, y_onn, y_oI, y_oIx, y_oJ, y_oV, y_oVx, y_oR, y_oRn, y_oRx, y_b0, y_b1, y_bi, y_bid, y_wIK, y_wIL, y_wII, y_wIJ, y_wIR, y_wIN, y_wIw, y_sI, ↓reduceIte, Nat.reduceEqDiff, eq_self, true_or, or_true, false_or, or_false, and_true, true_and, false_and, and_false, not_true, not_false_eq_true, tf_T, tf_F, y_up1, y_up2, y_xx, y_nx, y_sJ, y_sR, Int32.reduceLT, y_nxK, y_nxL, y_nxR, y_sJK, y_sJL, y_sJR, y_sJN, y_sRK, y_sRL, y_sRN, z_nat, z_lit, z_lit0, z_lit1, z_in0, z_in1, z_addl0, z_lt, z_ltl, z_llt, z_inj, z_injl, z_add, z_addl, z_ladd, z_mul, z_mull, z_lmul, z_neg, z_negl, z_in, z_inl, z_ltT, z_ltF, z_eqF, z_10, z_01, z_litne, z_ne0, z_0ne, z_ne1, z_1ne, z_lt64, z_02, z_03, z_04, z_05, z_12, z_13, z_14, z_15, z_20, z_21, z_23, z_24, z_25, z_30, z_31, z_32, z_34, z_35, z_40, z_41, z_42, z_43, z_45, z_50, z_51, z_52, z_53, z_54]
theorem f_piece_13 {p : Nat} (h : CR B i σ) (hc : isc σ.1 460 120) (hp : p < cn σ.1 460) (hb : σ.1 (461 + 18 * p + 13) = 0 ∨ σ.1 (461 + 18 * p + 13) = 1) : FRs B i σ (am_fx am_P (d + 150) 299 0 [some (.ref 64), some (.int (Int32.ofNat p)), some (.int 13), none] [] (am_wI B i)) (.inl (some (.int (σ.1 (461 + 18 * p + 13))))) := by
  refine FRs_0 h ?_
  have hF : Fc B := h.1.1
  have hY : Yd B 94 := h.1.2.1
  have h120 := hc.2
  obtain ⟨a0, a1, a2, a3, a4, a5, a6, a7, a8, a9, a10, a11, a12, a13, a14, a15, a16, a17, a18⟩ := h.2.1.2.2.1.2 p hp (by omega)
  rw [bk_299_0]
  simp (disch := omega) only [c_pcN hF hY h.2.1.2.2.1.1 hc hp, c_within1 (x := 13) (a := 0) (c := 14) (by decide), (fun d x0 x1 B i => bk_165_0 d x0 x1 (am_wI B i)), u_13_8, u_13_9, u_13_10, u_13_11, u_13_12, a13, hF, hY, y_ckd, y_ck2d, y_ond, y_onn, y_oI, y_oIx, y_oJ, y_oV, y_oVx, y_oR, y_oRn, y_oRx, y_b0, y_b1, y_bi, y_bid, y_wIK, y_wIL, y_wII, y_wIJ, y_wIR, y_wIN, y_wIw, y_sI, ↓reduceIte, Nat.reduceEqDiff, eq_self, true_or, or_true, false_or, or_false, and_true, true_and, false_and, and_false, not_true, not_false_eq_true, tf_T, tf_F, y_up1, y_up2, y_xx, y_nx, y_sJ, y_sR, Int32.reduceLT, y_nxK, y_nxL, y_nxR, y_sJK, y_sJL, y_sJR, y_sJN, y_sRK, y_sRL, y_sRN, z_nat, z_lit, z_lit0, z_lit1, z_in0, z_in1, z_addl0, z_lt, z_ltl, z_llt, z_inj, z_injl, z_add, z_addl, z_ladd, z_mul, z_mull, z_lmul, z_neg, z_negl, z_in, z_inl, z_ltT, z_ltF, z_eqF, z_10, z_01, z_litne, z_ne0, z_0ne, z_ne1, z_1ne, z_lt64, z_02, z_03, z_04, z_05, z_12, z_13, z_14, z_15, z_20, z_21, z_23, z_24, z_25, z_30, z_31, z_32, z_34, z_35, z_40, z_41, z_42, z_43, z_45, z_50, z_51, z_52, z_53, z_54, Nat.add_zero]
  rcases hb with g | g <;> simp only [g, ↓reduceIte, z_10, y_oI]
theorem m_piece_13 {p : Nat} (h : MR B i σ) (hc : isc σ.1 460 120) (hp : p < cn σ.1 460) : MRs B i σ (am_fx am_P (d + 150) 34 0 [some (.ref 874), some (.int (Int32.ofNat p)), some (.int 13)] [] (am_wI B i)) (some (.int (σ.1 (461 + 18 * p + 13)))) 0 := by
  refine MRs_0 h ?_
  have hM : Md B := h.1.1
  have h120 := hc.2
  have t1 : (Int32.ofNat p < 0) = False := z_neg (by omega)
  have t2 := eq_true (ck_nat hc (by omega) hp).2
  have e5 := h.2.1 460 (by omega)
  have e := h.2.1 (461 + 18 * p + 13) (by omega)
  rw [bk_34_0]
  simp (disch := omega) only [(fun d x0 x1 B i => bk_26_0 d x0 x1 (am_wI B i)), (fun d x0 x1 x2 s0 s1 B i => bk_34_34 d x0 x1 x2 s0 s1 (am_wI B i)), (fun d x0 x1 x2 B i => bk_24_0 d x0 x1 x2 (am_wI B i)), (fun d x0 x1 B i => bk_23_0 d x0 x1 (am_wI B i)), m_in, z_pred hc.1, Classical.not_not, t1, t2, m_thr0, e5, e, hM, y_ckd, y_ck2d, y_ond, y_onn, y_oI, y_oIx, y_oJ, y_oV, y_oVx, y_oR, y_oRn, y_oRx, y_b0, y_b1, y_bi, y_bid, y_wIK, y_wIL, y_wII, y_wIJ, y_wIR, y_wIN, y_wIw, y_sI, ↓reduceIte, Nat.reduceEqDiff, eq_self, true_or, or_true, false_or, or_false, and_true, true_and, false_and, and_false, not_true, not_false_eq_true, tf_T, tf_F, y_up1, y_up2, y_xx, y_nx, y_sJ, y_sR, Int32.reduceLT, y_nxK, y_nxL, y_nxR, y_sJK, y_sJL, y_sJR, y_sJN, y_sRK, y_sRL, y_sRN, z_nat, z_lit, z_lit0, z_lit1, z_in0, z_in1, z_addl0, z_lt, z_ltl, z_llt, z_inj, z_injl, z_add, z_addl, z_ladd, z_mul, z_mull, z_lmul, z_neg, z_negl, z_in, z_inl, z_ltT, z_ltF, z_eqF, z_10, z_01, z_litne, z_ne0, z_0ne, z_ne1, z_1ne, z_lt64, z_02, z_03, z_04, z_05, z_12, z_13, z_14, z_15, z_20, z_21, z_23, z_24, z_25, z_30, z_31, z_32, z_34, z_35, z_40, z_41, z_42, z_43, z_45, z_50, z_51, z_52, z_53, z_54]
theorem f_piece_14 {p : Nat} (h : CR B i σ) (hc : isc σ.1 460 120) (hp : p < cn σ.1 460) : FRs B i σ (am_fx am_P (d + 150) 299 0 [some (.ref 64), some (.int (Int32.ofNat p)), some (.int 14), none] [] (am_wI B i)) (.inl (some (.int (σ.1 (461 + 18 * p + 14))))) := by
  refine FRs_0 h ?_
  have hF : Fc B := h.1.1
  have hY : Yd B 94 := h.1.2.1
  have h120 := hc.2
  obtain ⟨a0, a1, a2, a3, a4, a5, a6, a7, a8, a9, a10, a11, a12, a13, a14, a15, a16, a17, a18⟩ := h.2.1.2.2.1.2 p hp (by omega)
  rw [bk_299_0]
  simp (disch := omega) only [c_pcN hF hY h.2.1.2.2.1.1 hc hp, c_within1 (x := 14) (a := 0) (c := 14) (by decide), (fun d x0 x1 B i => bk_165_0 d x0 x1 (am_wI B i)), u_14_8, u_14_9, u_14_10, u_14_11, u_14_12, u_14_13, a14, hF, hY, y_ckd, y_ck2d, y_ond, y_onn, y_oI, y_oIx, y_oJ, y_oV, y_oVx, y_oR, y_oRn, y_oRx, y_b0, y_b1, y_bi, y_bid, y_wIK, y_wIL, y_wII, y_wIJ, y_wIR, y_wIN, y_wIw, y_sI, ↓reduceIte, Nat.reduceEqDiff, eq_self, true_or, or_true, false_or, or_false, and_true, true_and, false_and, and_false, not_true, not_false_eq_true, tf_T, tf_F, y_up1, y_up2, y_xx, y_nx, y_sJ, y_sR, Int32.reduceLT, y_nxK, y_nxL, y_nxR, y_sJK, y_sJL, y_sJR, y_sJN, y_sRK, y_sRL, y_sRN, z_nat, z_lit, z_lit0, z_lit1, z_in0, z_in1, z_addl0, z_lt, z_ltl, z_llt, z_inj, z_injl, z_add, z_addl, z_ladd, z_mul, z_mull, z_lmul, z_neg, z_negl, z_in, z_inl, z_ltT, z_ltF, z_eqF, z_10, z_01, z_litne, z_ne0, z_0ne, z_ne1, z_1ne, z_lt64, z_02, z_03, z_04, z_05, z_12, z_13, z_14, z_15, z_20, z_21, z_23, z_24, z_25, z_30, z_31, z_32, z_34, z_35, z_40, z_41, z_42, z_43, z_45, z_50, z_51, z_52, z_53, z_54, Nat.add_zero]
theorem m_piece_14 {p : Nat} (h : MR B i σ) (hc : isc σ.1 460 120) (hp : p < cn σ.1 460) : MRs B i σ (am_fx am_P (d + 150) 34 0 [some (.ref 874), some (.int (Int32.ofNat p)), some (.int 14)] [] (am_wI B i)) (some (.int (σ.1 (461 + 18 * p + 14)))) 0 := by
  refine MRs_0 h ?_
  have hM : Md B := h.1.1
  have h120 := hc.2
  have t1 : (Int32.ofNat p < 0) = False := z_neg (by omega)
  have t2 := eq_true (ck_nat hc (by omega) hp).2
  have e5 := h.2.1 460 (by omega)
  have e := h.2.1 (461 + 18 * p + 14) (by omega)
  rw [bk_34_0]
  simp (disch := omega) only [(fun d x0 x1 B i => bk_26_0 d x0 x1 (am_wI B i)), (fun d x0 x1 x2 s0 s1 B i => bk_34_34 d x0 x1 x2 s0 s1 (am_wI B i)), (fun d x0 x1 x2 B i => bk_24_0 d x0 x1 x2 (am_wI B i)), (fun d x0 x1 B i => bk_23_0 d x0 x1 (am_wI B i)), m_in, z_pred hc.1, Classical.not_not, t1, t2, m_thr0, e5, e, hM, y_ckd, y_ck2d, y_ond, y_onn, y_oI, y_oIx, y_oJ, y_oV, y_oVx, y_oR, y_oRn, y_oRx, y_b0, y_b1, y_bi, y_bid, y_wIK, y_wIL, y_wII, y_wIJ, y_wIR, y_wIN, y_wIw, y_sI, ↓reduceIte, Nat.reduceEqDiff, eq_self, true_or, or_true, false_or, or_false, and_true, true_and, false_and, and_false, not_true, not_false_eq_true, tf_T, tf_F, y_up1, y_up2, y_xx, y_nx, y_sJ, y_sR, Int32.reduceLT, y_nxK, y_nxL, y_nxR, y_sJK, y_sJL, y_sJR, y_sJN, y_sRK, y_sRL, y_sRN, z_nat, z_lit, z_lit0, z_lit1, z_in0, z_in1, z_addl0, z_lt, z_ltl, z_llt, z_inj, z_injl, z_add, z_addl, z_ladd, z_mul, z_mull, z_lmul, z_neg, z_negl, z_in, z_inl, z_ltT, z_ltF, z_eqF, z_10, z_01, z_litne, z_ne0, z_0ne, z_ne1, z_1ne, z_lt64, z_02, z_03, z_04, z_05, z_12, z_13, z_14, z_15, z_20, z_21, z_23, z_24, z_25, z_30, z_31, z_32, z_34, z_35, z_40, z_41, z_42, z_43, z_45, z_50, z_51, z_52, z_53, z_54]
theorem k_piece (h : Sim B i σ) (hs : Sc B i L j) (hO : am_K B 892 = 22 ∧ am_L B 892 = 1) : Stq B i d 807 j := by
  have hc := h.2.2.1.1.2.2.1
  by_cases g : ¬ i 0 (j + 1) < 0 ∧ i 0 (j + 1) < σ.1 460
  rotate_left
  · exact kx_8_1 h hs hO (f_piece_x0 (d := d + 48) h.1 g) fun B0 i0 h0 => m_piece_x0 (d := d + 49) h0 hc g
  obtain ⟨p, e, hp⟩ := nat_ck hc (by omega) g
  have h120 := hc.2
  have hb := (h.2.2.1.2.2.2.1.1 p hp (by omega)).2.2.2.2.2.2.2.2.2.2.1
  by_cases n0 : i 0 (j + 2) = 0
  · exact kk_8 h hs hO h.2.2 (by rw [e, n0]; exact f_piece_0 (d := d + 48) h.1 hc hp) fun B0 i0 h0 => by rw [e, n0]; exact m_piece_0 (d := d + 49) h0 hc hp
  by_cases n1 : i 0 (j + 2) = 1
  · exact kk_8 h hs hO h.2.2 (by rw [e, n1]; exact f_piece_1 (d := d + 48) h.1 hc hp) fun B0 i0 h0 => by rw [e, n1]; exact m_piece_1 (d := d + 49) h0 hc hp
  by_cases n2 : i 0 (j + 2) = 2
  · exact kk_8 h hs hO h.2.2 (by rw [e, n2]; exact f_piece_2 (d := d + 48) h.1 hc hp) fun B0 i0 h0 => by rw [e, n2]; exact m_piece_2 (d := d + 49) h0 hc hp
  by_cases n3 : i 0 (j + 2) = 3
  · exact kk_8 h hs hO h.2.2 (by rw [e, n3]; exact f_piece_3 (d := d + 48) h.1 hc hp) fun B0 i0 h0 => by rw [e, n3]; exact m_piece_3 (d := d + 49) h0 hc hp
  by_cases n4 : i 0 (j + 2) = 4
  · exact kk_8 h hs hO h.2.2 (by rw [e, n4]; exact f_piece_4 (d := d + 48) h.1 hc hp) fun B0 i0 h0 => by rw [e, n4]; exact m_piece_4 (d := d + 49) h0 hc hp
  by_cases n5 : i 0 (j + 2) = 5
  · exact kk_8 h hs hO h.2.2 (by rw [e, n5]; exact f_piece_5 (d := d + 48) h.1 hc hp) fun B0 i0 h0 => by rw [e, n5]; exact m_piece_5 (d := d + 49) h0 hc hp
  by_cases n6 : i 0 (j + 2) = 6
  · exact kk_8 h hs hO h.2.2 (by rw [e, n6]; exact f_piece_6 (d := d + 48) h.1 hc hp) fun B0 i0 h0 => by rw [e, n6]; exact m_piece_6 (d := d + 49) h0 hc hp
  by_cases n7 : i 0 (j + 2) = 7
  · exact kk_8 h hs hO h.2.2 (by rw [e, n7]; exact f_piece_7 (d := d + 48) h.1 hc hp) fun B0 i0 h0 => by rw [e, n7]; exact m_piece_7 (d := d + 49) h0 hc hp
  by_cases n8 : i 0 (j + 2) = 8
  · exact kk_8 h hs hO h.2.2 (by rw [e, n8]; exact f_piece_8 (d := d + 48) h.1 hc hp) fun B0 i0 h0 => by rw [e, n8]; exact m_piece_8 (d := d + 49) h0 hc hp
  by_cases n9 : i 0 (j + 2) = 9
  · exact kk_8 h hs hO h.2.2 (by rw [e, n9]; exact f_piece_9 (d := d + 48) h.1 hc hp) fun B0 i0 h0 => by rw [e, n9]; exact m_piece_9 (d := d + 49) h0 hc hp
  by_cases n10 : i 0 (j + 2) = 10
  · exact kk_8 h hs hO h.2.2 (by rw [e, n10]; exact f_piece_10 (d := d + 48) h.1 hc hp) fun B0 i0 h0 => by rw [e, n10]; exact m_piece_10 (d := d + 49) h0 hc hp
  by_cases n11 : i 0 (j + 2) = 11
  · exact kk_8 h hs hO h.2.2 (by rw [e, n11]; exact f_piece_11 (d := d + 48) h.1 hc hp) fun B0 i0 h0 => by rw [e, n11]; exact m_piece_11 (d := d + 49) h0 hc hp
  by_cases n12 : i 0 (j + 2) = 12
  · exact kk_8 h hs hO h.2.2 (by rw [e, n12]; exact f_piece_12 (d := d + 48) h.1 hc hp) fun B0 i0 h0 => by rw [e, n12]; exact m_piece_12 (d := d + 49) h0 hc hp
  by_cases n13 : i 0 (j + 2) = 13
  · exact kk_8 h hs hO h.2.2 (by rw [e, n13]; exact f_piece_13 (d := d + 48) h.1 hc hp hb) fun B0 i0 h0 => by rw [e, n13]; exact m_piece_13 (d := d + 49) h0 hc hp
  by_cases n14 : i 0 (j + 2) = 14
  · exact kk_8 h hs hO h.2.2 (by rw [e, n14]; exact f_piece_14 (d := d + 48) h.1 hc hp) fun B0 i0 h0 => by rw [e, n14]; exact m_piece_14 (d := d + 49) h0 hc hp
  have g2 : ¬ (¬ i 0 (j + 2) < 0 ∧ ¬ 14 < i 0 (j + 2)) := fun g => by
    obtain ⟨q4, q10⟩ := g
    rw [Int32.lt_iff_toInt_lt] at q4 q10
    rw [show (0 : Int32).toInt = 0 from by decide] at q4
    rw [show (14 : Int32).toInt = 14 from by decide] at q10
    have q : ∀ k : Int32, ¬ i 0 (j + 2) = k → (i 0 (j + 2)).toInt ≠ k.toInt := fun k n e => n (Int32.toInt_inj.mp e)
    have r0 := q 0 n0
    rw [show (0 : Int32).toInt = 0 from by decide] at r0
    have r1 := q 1 n1
    rw [show (1 : Int32).toInt = 1 from by decide] at r1
    have r2 := q 2 n2
    rw [show (2 : Int32).toInt = 2 from by decide] at r2
    have r3 := q 3 n3
    rw [show (3 : Int32).toInt = 3 from by decide] at r3
    have r4 := q 4 n4
    rw [show (4 : Int32).toInt = 4 from by decide] at r4
    have r5 := q 5 n5
    rw [show (5 : Int32).toInt = 5 from by decide] at r5
    have r6 := q 6 n6
    rw [show (6 : Int32).toInt = 6 from by decide] at r6
    have r7 := q 7 n7
    rw [show (7 : Int32).toInt = 7 from by decide] at r7
    have r8 := q 8 n8
    rw [show (8 : Int32).toInt = 8 from by decide] at r8
    have r9 := q 9 n9
    rw [show (9 : Int32).toInt = 9 from by decide] at r9
    have r10 := q 10 n10
    rw [show (10 : Int32).toInt = 10 from by decide] at r10
    have r11 := q 11 n11
    rw [show (11 : Int32).toInt = 11 from by decide] at r11
    have r12 := q 12 n12
    rw [show (12 : Int32).toInt = 12 from by decide] at r12
    have r13 := q 13 n13
    rw [show (13 : Int32).toInt = 13 from by decide] at r13
    have r14 := q 14 n14
    rw [show (14 : Int32).toInt = 14 from by decide] at r14
    omega
  exact kx_8_5 h hs hO (by rw [e]; exact f_piece_x1 (d := d + 48) h.1 hc hp g2) fun B0 i0 h0 => by rw [e]; exact m_piece_x1 (d := d + 49) h0 hc hp g2
theorem f_led_x0 (h : CR B i σ) (g : ¬ (¬ x < 0 ∧ x < σ.1 2621)) : FRs B i σ (am_fx am_P (d + 150) 323 0 [some (.ref 64), some (.int x), some (.int y), none] [] (am_wI B i)) (.inr 1) := by
  refine FRs_x h ?_
  have hF : Fc B := h.1.1
  have hY : Yd B 94 := h.1.2.1
  rw [bk_323_0]
  simp (disch := omega) only [c_shN0 hF hY h.2.1.2.2.2.1.1 g, hF, hY, y_ckd, y_ck2d, y_ond, y_onn, y_oI, y_oIx, y_oJ, y_oV, y_oVx, y_oR, y_oRn, y_oRx, y_b0, y_b1, y_bi, y_bid, y_wIK, y_wIL, y_wII, y_wIJ, y_wIR, y_wIN, y_wIw, y_sI, ↓reduceIte, Nat.reduceEqDiff, eq_self, true_or, or_true, false_or, or_false, and_true, true_and, false_and, and_false, not_true, not_false_eq_true, tf_T, tf_F, y_up1, y_up2, y_xx, y_nx, y_sJ, y_sR, Int32.reduceLT, y_nxK, y_nxL, y_nxR, y_sJK, y_sJL, y_sJR, y_sJN, y_sRK, y_sRL, y_sRN, z_nat, z_lit, z_lit0, z_lit1, z_in0, z_in1, z_addl0, z_lt, z_ltl, z_llt, z_inj, z_injl, z_add, z_addl, z_ladd, z_mul, z_mull, z_lmul, z_neg, z_negl, z_in, z_inl, z_ltT, z_ltF, z_eqF, z_10, z_01, z_litne, z_ne0, z_0ne, z_ne1, z_1ne, z_lt64, z_02, z_03, z_04, z_05, z_12, z_13, z_14, z_15, z_20, z_21, z_23, z_24, z_25, z_30, z_31, z_32, z_34, z_35, z_40, z_41, z_42, z_43, z_45, z_50, z_51, z_52, z_53, z_54]
theorem m_led_x0 (h : MR B i σ) (hc : isc σ.1 2621 8) (g : ¬ (¬ x < 0 ∧ x < σ.1 2621)) : MRs B i σ (am_fx am_P (d + 150) 106 0 [some (.ref 874), some (.int x), some (.int y), none, none] [] (am_wI B i)) (some (.int 0)) 1 := by
  refine MRs_x h ?_
  have hM : Md B := h.1.1
  have e5 := h.2.1 2621 (by omega)
  rw [bk_106_0]
  simp (maxSteps := 2000000) (disch := omega) only [(fun d x0 x1 B i => bk_69_0 d x0 x1 (am_wI B i)), m_in, z_pred hc.1, Classical.not_not, g, m_thr1 hM, e5, hM, y_ckd, y_ck2d, y_ond, y_onn, y_oI, y_oIx, y_oJ, y_oV, y_oVx, y_oR, y_oRn, y_oRx, y_b0, y_b1, y_bi, y_bid, y_wIK, y_wIL, y_wII, y_wIJ, y_wIR, y_wIN, y_wIw, y_sI, ↓reduceIte, Nat.reduceEqDiff, eq_self, true_or, or_true, false_or, or_false, and_true, true_and, false_and, and_false, not_true, not_false_eq_true, tf_T, tf_F, y_up1, y_up2, y_xx, y_nx, y_sJ, y_sR, Int32.reduceLT, y_nxK, y_nxL, y_nxR, y_sJK, y_sJL, y_sJR, y_sJN, y_sRK, y_sRL, y_sRN, z_nat, z_lit, z_lit0, z_lit1, z_in0, z_in1, z_addl0, z_lt, z_ltl, z_llt, z_inj, z_injl, z_add, z_addl, z_ladd, z_mul, z_mull, z_lmul, z_neg, z_negl, z_in, z_inl, z_ltT, z_ltF, z_eqF, z_10, z_01, z_litne, z_ne0, z_0ne, z_ne1, z_1ne, z_lt64, z_02, z_03, z_04, z_05, z_12, z_13, z_14, z_15, z_20, z_21, z_23, z_24, z_25, z_30, z_31, z_32, z_34, z_35, z_40, z_41, z_42, z_43, z_45, z_50, z_51, z_52, z_53, z_54]
theorem f_led_x1 {p : Nat} (h : CR B i σ) (hc : isc σ.1 2621 8) (hp : p < cn σ.1 2621) (n0 : ¬ y = 0) (n1 : ¬ y = 1) (n2 : ¬ y = 2) (n3 : ¬ y = 3) (n4 : ¬ y = 4) (n5 : ¬ y = 5) (n6 : ¬ y = 6) (n7 : ¬ y = 7) (n8 : ¬ y = 8) (n9 : ¬ y = 9) (n10 : ¬ y = 10) (n11 : ¬ y = 11) (g : ¬ (¬ y < 0 ∧ ¬ 9 < y)) : FRs B i σ (am_fx am_P (d + 150) 323 0 [some (.ref 64), some (.int (Int32.ofNat p)), some (.int y), none] [] (am_wI B i)) (.inr 5) := by
  refine FRs_x h ?_
  have hF : Fc B := h.1.1
  have hY : Yd B 94 := h.1.2.1
  rw [bk_323_0]
  simp (disch := omega) only [c_shN hF hY h.2.1.2.2.2.1.1 hc hp, c_within0 g, (fun d x0 x1 x2 x3 B i => bk_323_63 d x0 x1 x2 x3 (am_wI B i)), n0, n1, n2, n3, n4, n5, n6, n7, n8, n9, n10, n11, hF, hY, y_ckd, y_ck2d, y_ond, y_onn, y_oI, y_oIx, y_oJ, y_oV, y_oVx, y_oR, y_oRn, y_oRx, y_b0, y_b1, y_bi, y_bid, y_wIK, y_wIL, y_wII, y_wIJ, y_wIR, y_wIN, y_wIw, y_sI, ↓reduceIte, Nat.reduceEqDiff, eq_self, true_or, or_true, false_or, or_false, and_true, true_and, false_and, and_false, not_true, not_false_eq_true, tf_T, tf_F, y_up1, y_up2, y_xx, y_nx, y_sJ, y_sR, Int32.reduceLT, y_nxK, y_nxL, y_nxR, y_sJK, y_sJL, y_sJR, y_sJN, y_sRK, y_sRL, y_sRN, z_nat, z_lit, z_lit0, z_lit1, z_in0, z_in1, z_addl0, z_lt, z_ltl, z_llt, z_inj, z_injl, z_add, z_addl, z_ladd, z_mul, z_mull, z_lmul, z_neg, z_negl, z_in, z_inl, z_ltT, z_ltF, z_eqF, z_10, z_01, z_litne, z_ne0, z_0ne, z_ne1, z_1ne, z_lt64, z_02, z_03, z_04, z_05, z_12, z_13, z_14, z_15, z_20, z_21, z_23, z_24, z_25, z_30, z_31, z_32, z_34, z_35, z_40, z_41, z_42, z_43, z_45, z_50, z_51, z_52, z_53, z_54]
theorem m_led_x1 {p : Nat} (h : MR B i σ) (hc : isc σ.1 2621 8) (hp : p < cn σ.1 2621) (n0 : ¬ y = 0) (n1 : ¬ y = 1) (n2 : ¬ y = 2) (n3 : ¬ y = 3) (n4 : ¬ y = 4) (n5 : ¬ y = 5) (n6 : ¬ y = 6) (n7 : ¬ y = 7) (n8 : ¬ y = 8) (n9 : ¬ y = 9) (n10 : ¬ y = 10) (n11 : ¬ y = 11) : MRs B i σ (am_fx am_P (d + 150) 106 0 [some (.ref 874), some (.int (Int32.ofNat p)), some (.int y), none, none] [] (am_wI B i)) (some (.int 0)) 2 := by
  refine MRs_x h ?_
  have hM : Md B := h.1.1
  have h120 := hc.2
  have t1 : (Int32.ofNat p < 0) = False := z_neg (by omega)
  have t2 := eq_true (ck_nat hc (by omega) hp).2
  have e5 := h.2.1 2621 (by omega)
  rw [bk_106_0]
  simp (disch := omega) only [(fun d x0 x1 B i => bk_69_0 d x0 x1 (am_wI B i)), (fun d x0 x1 x3 B i => bk_106_222 d x0 x1 x3 (am_wI B i)), m_in, z_pred hc.1, Classical.not_not, t1, t2, m_thr0, n0, n1, n2, n3, n4, n5, n6, n7, n8, n9, n10, n11, e5, hM, y_ckd, y_ck2d, y_ond, y_onn, y_oI, y_oIx, y_oJ, y_oV, y_oVx, y_oR, y_oRn, y_oRx, y_b0, y_b1, y_bi, y_bid, y_wIK, y_wIL, y_wII, y_wIJ, y_wIR, y_wIN, y_wIw, y_sI, ↓reduceIte, Nat.reduceEqDiff, eq_self, true_or, or_true, false_or, or_false, and_true, true_and, false_and, and_false, not_true, not_false_eq_true, tf_T, tf_F, y_up1, y_up2, y_xx, y_nx, y_sJ, y_sR, Int32.reduceLT, y_nxK, y_nxL, y_nxR, y_sJK, y_sJL, y_sJR, y_sJN, y_sRK, y_sRL, y_sRN, z_nat, z_lit, z_lit0, z_lit1, z_in0, z_in1, z_addl0, z_lt, z_ltl, z_llt, z_inj, z_injl, z_add, z_addl, z_ladd, z_mul, z_mull, z_lmul, z_neg, z_negl, z_in, z_inl, z_ltT, z_ltF, z_eqF, z_10, z_01, z_litne, z_ne0, z_0ne, z_ne1, z_1ne, z_lt64, z_02, z_03, z_04, z_05, z_12, z_13, z_14, z_15, z_20, z_21, z_23, z_24, z_25, z_30, z_31, z_32, z_34, z_35, z_40, z_41, z_42, z_43, z_45, z_50, z_51, z_52, z_53, z_54]
theorem f_led_0 {p : Nat} (h : CR B i σ) (hc : isc σ.1 2621 8) (hp : p < cn σ.1 2621)  : FRs B i σ (am_fx am_P (d + 150) 323 0 [some (.ref 64), some (.int (Int32.ofNat p)), some (.int 0), none] [] (am_wI B i)) (.inl (some (.int (σ.1 (2622 + 49 * p + 0))))) := by
  refine FRs_0 h ?_
  have hF : Fc B := h.1.1
  have hY : Yd B 94 := h.1.2.1
  have h120 := hc.2
  obtain ⟨a1, a2, a3, a4, a5, a6, a7, a8, a9, a10⟩ := h.2.1.2.2.2.1.2 p hp (by omega)
  rw [bk_323_0]
  simp (disch := omega) only [c_shN hF hY h.2.1.2.2.2.1.1 hc hp, (fun d x0 x1 x2 x3 B i => bk_323_63 d x0 x1 x2 x3 (am_wI B i)), (fun d x0 x1 B i => bk_233_0 d x0 x1 (am_wI B i)), c_within1 (x := 0) (a := 0) (c := 9) (by decide), z_01, z_02, z_03, z_04, z_05, u_0_6, u_0_7, u_0_8, u_0_9, u_0_10, u_0_11, a1, hF, hY, y_ckd, y_ck2d, y_ond, y_onn, y_oI, y_oIx, y_oJ, y_oV, y_oVx, y_oR, y_oRn, y_oRx, y_b0, y_b1, y_bi, y_bid, y_wIK, y_wIL, y_wII, y_wIJ, y_wIR, y_wIN, y_wIw, y_sI, ↓reduceIte, Nat.reduceEqDiff, eq_self, true_or, or_true, false_or, or_false, and_true, true_and, false_and, and_false, not_true, not_false_eq_true, tf_T, tf_F, y_up1, y_up2, y_xx, y_nx, y_sJ, y_sR, Int32.reduceLT, y_nxK, y_nxL, y_nxR, y_sJK, y_sJL, y_sJR, y_sJN, y_sRK, y_sRL, y_sRN, z_nat, z_lit, z_lit0, z_lit1, z_in0, z_in1, z_addl0, z_lt, z_ltl, z_llt, z_inj, z_injl, z_add, z_addl, z_ladd, z_mul, z_mull, z_lmul, z_neg, z_negl, z_in, z_inl, z_ltT, z_ltF, z_eqF, z_10, z_01, z_litne, z_ne0, z_0ne, z_ne1, z_1ne, z_lt64, z_02, z_03, z_04, z_05, z_12, z_13, z_14, z_15, z_20, z_21, z_23, z_24, z_25, z_30, z_31, z_32, z_34, z_35, z_40, z_41, z_42, z_43, z_45, z_50, z_51, z_52, z_53, z_54, Nat.add_zero]
theorem m_led_0 {p : Nat} (h : MR B i σ) (hc : isc σ.1 2621 8) (hp : p < cn σ.1 2621)  : MRs B i σ (am_fx am_P (d + 150) 106 0 [some (.ref 874), some (.int (Int32.ofNat p)), some (.int 0), none, none] [] (am_wI B i)) (some (.int (σ.1 (2622 + 49 * p + 0)))) 0 := by
  refine MRs_0 h ?_
  have hM : Md B := h.1.1
  have h120 := hc.2
  have t1 : (Int32.ofNat p < 0) = False := z_neg (by omega)
  have t2 := eq_true (ck_nat hc (by omega) hp).2
  have e5 := h.2.1 2621 (by omega)
  have hw := up_o (q := 874) (k := 0) (v := 0) (by omega) h.2.1
  have e := h.2.1 (2622 + 49 * p + 0) (by omega)
  rw [bk_106_0]
  simp (disch := omega) only [(fun d x0 x1 B i => bk_69_0 d x0 x1 (am_wI B i)), (fun d x0 x1 x3 B i => bk_106_84 d x0 x1 x3 (am_wI B i)), (fun d x0 x1 x2 B i => bk_67_0 d x0 x1 x2 (am_wI B i)), (fun d x0 x1 B i => bk_66_0 d x0 x1 (am_wI B i)), m_in, z_pred hc.1, Classical.not_not, t1, t2, m_thr0, z_01, z_02, z_03, z_04, z_05, u_0_6, u_0_7, u_0_8, u_0_9, u_0_10, u_0_11, e5, e, hM, y_ckd, y_ck2d, y_ond, y_onn, y_oI, y_oIx, y_oJ, y_oV, y_oVx, y_oR, y_oRn, y_oRx, y_b0, y_b1, y_bi, y_bid, y_wIK, y_wIL, y_wII, y_wIJ, y_wIR, y_wIN, y_wIw, y_sI, ↓reduceIte, Nat.reduceEqDiff, eq_self, true_or, or_true, false_or, or_false, and_true, true_and, false_and, and_false, not_true, not_false_eq_true, tf_T, tf_F, y_up1, y_up2, y_xx, y_nx, y_sJ, y_sR, Int32.reduceLT, y_nxK, y_nxL, y_nxR, y_sJK, y_sJL, y_sJR, y_sJN, y_sRK, y_sRL, y_sRN, z_nat, z_lit, z_lit0, z_lit1, z_in0, z_in1, z_addl0, z_lt, z_ltl, z_llt, z_inj, z_injl, z_add, z_addl, z_ladd, z_mul, z_mull, z_lmul, z_neg, z_negl, z_in, z_inl, z_ltT, z_ltF, z_eqF, z_10, z_01, z_litne, z_ne0, z_0ne, z_ne1, z_1ne, z_lt64, z_02, z_03, z_04, z_05, z_12, z_13, z_14, z_15, z_20, z_21, z_23, z_24, z_25, z_30, z_31, z_32, z_34, z_35, z_40, z_41, z_42, z_43, z_45, z_50, z_51, z_52, z_53, z_54]
theorem f_led_1 {p : Nat} (h : CR B i σ) (hc : isc σ.1 2621 8) (hp : p < cn σ.1 2621)  : FRs B i σ (am_fx am_P (d + 150) 323 0 [some (.ref 64), some (.int (Int32.ofNat p)), some (.int 1), none] [] (am_wI B i)) (.inl (some (.int (σ.1 (2622 + 49 * p + 1))))) := by
  refine FRs_0 h ?_
  have hF : Fc B := h.1.1
  have hY : Yd B 94 := h.1.2.1
  have h120 := hc.2
  obtain ⟨a1, a2, a3, a4, a5, a6, a7, a8, a9, a10⟩ := h.2.1.2.2.2.1.2 p hp (by omega)
  rw [bk_323_0]
  simp (disch := omega) only [c_shN hF hY h.2.1.2.2.2.1.1 hc hp, (fun d x0 x1 x2 x3 B i => bk_323_63 d x0 x1 x2 x3 (am_wI B i)), (fun d x0 x1 B i => bk_233_0 d x0 x1 (am_wI B i)), c_within1 (x := 1) (a := 0) (c := 9) (by decide), z_10, z_12, z_13, z_14, z_15, u_1_6, u_1_7, u_1_8, u_1_9, u_1_10, u_1_11, a2, hF, hY, y_ckd, y_ck2d, y_ond, y_onn, y_oI, y_oIx, y_oJ, y_oV, y_oVx, y_oR, y_oRn, y_oRx, y_b0, y_b1, y_bi, y_bid, y_wIK, y_wIL, y_wII, y_wIJ, y_wIR, y_wIN, y_wIw, y_sI, ↓reduceIte, Nat.reduceEqDiff, eq_self, true_or, or_true, false_or, or_false, and_true, true_and, false_and, and_false, not_true, not_false_eq_true, tf_T, tf_F, y_up1, y_up2, y_xx, y_nx, y_sJ, y_sR, Int32.reduceLT, y_nxK, y_nxL, y_nxR, y_sJK, y_sJL, y_sJR, y_sJN, y_sRK, y_sRL, y_sRN, z_nat, z_lit, z_lit0, z_lit1, z_in0, z_in1, z_addl0, z_lt, z_ltl, z_llt, z_inj, z_injl, z_add, z_addl, z_ladd, z_mul, z_mull, z_lmul, z_neg, z_negl, z_in, z_inl, z_ltT, z_ltF, z_eqF, z_10, z_01, z_litne, z_ne0, z_0ne, z_ne1, z_1ne, z_lt64, z_02, z_03, z_04, z_05, z_12, z_13, z_14, z_15, z_20, z_21, z_23, z_24, z_25, z_30, z_31, z_32, z_34, z_35, z_40, z_41, z_42, z_43, z_45, z_50, z_51, z_52, z_53, z_54, Nat.add_zero]
theorem m_led_1 {p : Nat} (h : MR B i σ) (hc : isc σ.1 2621 8) (hp : p < cn σ.1 2621)  : MRs B i σ (am_fx am_P (d + 150) 106 0 [some (.ref 874), some (.int (Int32.ofNat p)), some (.int 1), none, none] [] (am_wI B i)) (some (.int (σ.1 (2622 + 49 * p + 1)))) 0 := by
  refine MRs_0 h ?_
  have hM : Md B := h.1.1
  have h120 := hc.2
  have t1 : (Int32.ofNat p < 0) = False := z_neg (by omega)
  have t2 := eq_true (ck_nat hc (by omega) hp).2
  have e5 := h.2.1 2621 (by omega)
  have hw := up_o (q := 874) (k := 0) (v := 0) (by omega) h.2.1
  have e := h.2.1 (2622 + 49 * p + 1) (by omega)
  rw [bk_106_0]
  simp (disch := omega) only [(fun d x0 x1 B i => bk_69_0 d x0 x1 (am_wI B i)), (fun d x0 x1 x3 B i => bk_106_91 d x0 x1 x3 (am_wI B i)), (fun d x0 x1 x2 B i => bk_67_0 d x0 x1 x2 (am_wI B i)), (fun d x0 x1 B i => bk_66_0 d x0 x1 (am_wI B i)), m_in, z_pred hc.1, Classical.not_not, t1, t2, m_thr0, z_10, z_12, z_13, z_14, z_15, u_1_6, u_1_7, u_1_8, u_1_9, u_1_10, u_1_11, e5, e, hM, y_ckd, y_ck2d, y_ond, y_onn, y_oI, y_oIx, y_oJ, y_oV, y_oVx, y_oR, y_oRn, y_oRx, y_b0, y_b1, y_bi, y_bid, y_wIK, y_wIL, y_wII, y_wIJ, y_wIR, y_wIN, y_wIw, y_sI, ↓reduceIte, Nat.reduceEqDiff, eq_self, true_or, or_true, false_or, or_false, and_true, true_and, false_and, and_false, not_true, not_false_eq_true, tf_T, tf_F, y_up1, y_up2, y_xx, y_nx, y_sJ, y_sR, Int32.reduceLT, y_nxK, y_nxL, y_nxR, y_sJK, y_sJL, y_sJR, y_sJN, y_sRK, y_sRL, y_sRN, z_nat, z_lit, z_lit0, z_lit1, z_in0, z_in1, z_addl0, z_lt, z_ltl, z_llt, z_inj, z_injl, z_add, z_addl, z_ladd, z_mul, z_mull, z_lmul, z_neg, z_negl, z_in, z_inl, z_ltT, z_ltF, z_eqF, z_10, z_01, z_litne, z_ne0, z_0ne, z_ne1, z_1ne, z_lt64, z_02, z_03, z_04, z_05, z_12, z_13, z_14, z_15, z_20, z_21, z_23, z_24, z_25, z_30, z_31, z_32, z_34, z_35, z_40, z_41, z_42, z_43, z_45, z_50, z_51, z_52, z_53, z_54]
theorem f_led_2 {p : Nat} (h : CR B i σ) (hc : isc σ.1 2621 8) (hp : p < cn σ.1 2621)  : FRs B i σ (am_fx am_P (d + 150) 323 0 [some (.ref 64), some (.int (Int32.ofNat p)), some (.int 2), none] [] (am_wI B i)) (.inl (some (.int (σ.1 (2622 + 49 * p + 8))))) := by
  refine FRs_0 h ?_
  have hF : Fc B := h.1.1
  have hY : Yd B 94 := h.1.2.1
  have h120 := hc.2
  obtain ⟨a1, a2, a3, a4, a5, a6, a7, a8, a9, a10⟩ := h.2.1.2.2.2.1.2 p hp (by omega)
  rw [bk_323_0]
  simp (disch := omega) only [c_shN hF hY h.2.1.2.2.2.1.1 hc hp, (fun d x0 x1 x2 x3 B i => bk_323_63 d x0 x1 x2 x3 (am_wI B i)), (fun d x0 x1 B i => bk_233_0 d x0 x1 (am_wI B i)), c_within1 (x := 2) (a := 0) (c := 9) (by decide), z_20, z_21, z_23, z_24, z_25, u_2_6, u_2_7, u_2_8, u_2_9, u_2_10, u_2_11, a9, hF, hY, y_ckd, y_ck2d, y_ond, y_onn, y_oI, y_oIx, y_oJ, y_oV, y_oVx, y_oR, y_oRn, y_oRx, y_b0, y_b1, y_bi, y_bid, y_wIK, y_wIL, y_wII, y_wIJ, y_wIR, y_wIN, y_wIw, y_sI, ↓reduceIte, Nat.reduceEqDiff, eq_self, true_or, or_true, false_or, or_false, and_true, true_and, false_and, and_false, not_true, not_false_eq_true, tf_T, tf_F, y_up1, y_up2, y_xx, y_nx, y_sJ, y_sR, Int32.reduceLT, y_nxK, y_nxL, y_nxR, y_sJK, y_sJL, y_sJR, y_sJN, y_sRK, y_sRL, y_sRN, z_nat, z_lit, z_lit0, z_lit1, z_in0, z_in1, z_addl0, z_lt, z_ltl, z_llt, z_inj, z_injl, z_add, z_addl, z_ladd, z_mul, z_mull, z_lmul, z_neg, z_negl, z_in, z_inl, z_ltT, z_ltF, z_eqF, z_10, z_01, z_litne, z_ne0, z_0ne, z_ne1, z_1ne, z_lt64, z_02, z_03, z_04, z_05, z_12, z_13, z_14, z_15, z_20, z_21, z_23, z_24, z_25, z_30, z_31, z_32, z_34, z_35, z_40, z_41, z_42, z_43, z_45, z_50, z_51, z_52, z_53, z_54, Nat.add_zero]
theorem m_led_2 {p : Nat} (h : MR B i σ) (hc : isc σ.1 2621 8) (hp : p < cn σ.1 2621)  : MRs B i σ (am_fx am_P (d + 150) 106 0 [some (.ref 874), some (.int (Int32.ofNat p)), some (.int 2), none, none] [] (am_wI B i)) (some (.int (σ.1 (2622 + 49 * p + 8)))) 0 := by
  refine MRs_0 h ?_
  have hM : Md B := h.1.1
  have h120 := hc.2
  have t1 : (Int32.ofNat p < 0) = False := z_neg (by omega)
  have t2 := eq_true (ck_nat hc (by omega) hp).2
  have e5 := h.2.1 2621 (by omega)
  have hw := up_o (q := 874) (k := 0) (v := 0) (by omega) h.2.1
  have e := h.2.1 (2622 + 49 * p + 8) (by omega)
  rw [bk_106_0]
  simp (disch := omega) only [(fun d x0 x1 B i => bk_69_0 d x0 x1 (am_wI B i)), (fun d x0 x1 x3 B i => bk_106_98 d x0 x1 x3 (am_wI B i)), (fun d x0 x1 x2 B i => bk_67_0 d x0 x1 x2 (am_wI B i)), (fun d x0 x1 B i => bk_66_0 d x0 x1 (am_wI B i)), m_in, z_pred hc.1, Classical.not_not, t1, t2, m_thr0, z_20, z_21, z_23, z_24, z_25, u_2_6, u_2_7, u_2_8, u_2_9, u_2_10, u_2_11, e5, e, hM, y_ckd, y_ck2d, y_ond, y_onn, y_oI, y_oIx, y_oJ, y_oV, y_oVx, y_oR, y_oRn, y_oRx, y_b0, y_b1, y_bi, y_bid, y_wIK, y_wIL, y_wII, y_wIJ, y_wIR, y_wIN, y_wIw, y_sI, ↓reduceIte, Nat.reduceEqDiff, eq_self, true_or, or_true, false_or, or_false, and_true, true_and, false_and, and_false, not_true, not_false_eq_true, tf_T, tf_F, y_up1, y_up2, y_xx, y_nx, y_sJ, y_sR, Int32.reduceLT, y_nxK, y_nxL, y_nxR, y_sJK, y_sJL, y_sJR, y_sJN, y_sRK, y_sRL, y_sRN, z_nat, z_lit, z_lit0, z_lit1, z_in0, z_in1, z_addl0, z_lt, z_ltl, z_llt, z_inj, z_injl, z_add, z_addl, z_ladd, z_mul, z_mull, z_lmul, z_neg, z_negl, z_in, z_inl, z_ltT, z_ltF, z_eqF, z_10, z_01, z_litne, z_ne0, z_0ne, z_ne1, z_1ne, z_lt64, z_02, z_03, z_04, z_05, z_12, z_13, z_14, z_15, z_20, z_21, z_23, z_24, z_25, z_30, z_31, z_32, z_34, z_35, z_40, z_41, z_42, z_43, z_45, z_50, z_51, z_52, z_53, z_54]
theorem f_led_3 {p : Nat} (h : CR B i σ) (hc : isc σ.1 2621 8) (hp : p < cn σ.1 2621) (hn : isc σ.1 (2622 + 49 * p + 8) 8) (hv : ∀ n, n < cn σ.1 (2622 + 49 * p + 8) → n < 8 → σ.1 (2622 + 49 * p + 9 + 5 * n + 4) = -1 ∨ ¬ σ.1 (2622 + 49 * p + 9 + 5 * n + 4) < 0 ∧ σ.1 (2622 + 49 * p + 9 + 5 * n + 4) < σ.1 460) (h4 : isc σ.1 460 120) : FRs B i σ (am_fx am_P (d + 150) 323 0 [some (.ref 64), some (.int (Int32.ofNat p)), some (.int 3), none] [] (am_wI B i)) (.inl (some (.int (nfit σ.1 p)))) := by
  refine FRs_0 h ?_
  have hF : Fc B := h.1.1
  have hY : Yd B 94 := h.1.2.1
  have h120 := hc.2
  obtain ⟨a1, a2, a3, a4, a5, a6, a7, a8, a9, a10⟩ := h.2.1.2.2.2.1.2 p hp (by omega)
  rw [bk_323_0]
  simp (disch := omega) only [c_shN hF hY h.2.1.2.2.2.1.1 hc hp, (fun d x0 x1 x2 x3 B i => bk_323_63 d x0 x1 x2 x3 (am_wI B i)), (fun d x0 x1 B i => bk_233_0 d x0 x1 (am_wI B i)), c_within1 (x := 3) (a := 0) (c := 9) (by decide), c_fit hY h.2.1.2.2.2.1 hc hp hn, z_30, z_31, z_32, z_34, z_35, u_3_6, u_3_7, u_3_8, u_3_9, u_3_10, u_3_11, hF, hY, y_ckd, y_ck2d, y_ond, y_onn, y_oI, y_oIx, y_oJ, y_oV, y_oVx, y_oR, y_oRn, y_oRx, y_b0, y_b1, y_bi, y_bid, y_wIK, y_wIL, y_wII, y_wIJ, y_wIR, y_wIN, y_wIw, y_sI, ↓reduceIte, Nat.reduceEqDiff, eq_self, true_or, or_true, false_or, or_false, and_true, true_and, false_and, and_false, not_true, not_false_eq_true, tf_T, tf_F, y_up1, y_up2, y_xx, y_nx, y_sJ, y_sR, Int32.reduceLT, y_nxK, y_nxL, y_nxR, y_sJK, y_sJL, y_sJR, y_sJN, y_sRK, y_sRL, y_sRN, z_nat, z_lit, z_lit0, z_lit1, z_in0, z_in1, z_addl0, z_lt, z_ltl, z_llt, z_inj, z_injl, z_add, z_addl, z_ladd, z_mul, z_mull, z_lmul, z_neg, z_negl, z_in, z_inl, z_ltT, z_ltF, z_eqF, z_10, z_01, z_litne, z_ne0, z_0ne, z_ne1, z_1ne, z_lt64, z_02, z_03, z_04, z_05, z_12, z_13, z_14, z_15, z_20, z_21, z_23, z_24, z_25, z_30, z_31, z_32, z_34, z_35, z_40, z_41, z_42, z_43, z_45, z_50, z_51, z_52, z_53, z_54, Nat.add_zero]
theorem m_led_3 {p : Nat} (h : MR B i σ) (hc : isc σ.1 2621 8) (hp : p < cn σ.1 2621) (hn : isc σ.1 (2622 + 49 * p + 8) 8) (hv : ∀ n, n < cn σ.1 (2622 + 49 * p + 8) → n < 8 → σ.1 (2622 + 49 * p + 9 + 5 * n + 4) = -1 ∨ ¬ σ.1 (2622 + 49 * p + 9 + 5 * n + 4) < 0 ∧ σ.1 (2622 + 49 * p + 9 + 5 * n + 4) < σ.1 460) (h4 : isc σ.1 460 120) : MRs B i σ (am_fx am_P (d + 150) 106 0 [some (.ref 874), some (.int (Int32.ofNat p)), some (.int 3), none, none] [] (am_wI B i)) (some (.int (nfit σ.1 p))) 0 := by
  refine MRs_0 h ?_
  have hM : Md B := h.1.1
  have h120 := hc.2
  have t1 : (Int32.ofNat p < 0) = False := z_neg (by omega)
  have t2 := eq_true (ck_nat hc (by omega) hp).2
  have e5 := h.2.1 2621 (by omega)
  have hw := up_o (q := 874) (k := 0) (v := 0) (by omega) h.2.1
  rw [bk_106_0]
  simp (disch := omega) only [(fun d x0 x1 B i => bk_69_0 d x0 x1 (am_wI B i)), (fun d x0 x1 x3 B i => bk_106_106 d x0 x1 x3 (am_wI B i)), m_fitOf hM hw hc hp hn hv h4, (fun d x0 x1 x2 B i => bk_67_0 d x0 x1 x2 (am_wI B i)), (fun d x0 x1 B i => bk_66_0 d x0 x1 (am_wI B i)), m_in, z_pred hc.1, Classical.not_not, t1, t2, m_thr0, z_30, z_31, z_32, z_34, z_35, u_3_6, u_3_7, u_3_8, u_3_9, u_3_10, u_3_11, e5, hM, y_ckd, y_ck2d, y_ond, y_onn, y_oI, y_oIx, y_oJ, y_oV, y_oVx, y_oR, y_oRn, y_oRx, y_b0, y_b1, y_bi, y_bid, y_wIK, y_wIL, y_wII, y_wIJ, y_wIR, y_wIN, y_wIw, y_sI, ↓reduceIte, Nat.reduceEqDiff, eq_self, true_or, or_true, false_or, or_false, and_true, true_and, false_and, and_false, not_true, not_false_eq_true, tf_T, tf_F, y_up1, y_up2, y_xx, y_nx, y_sJ, y_sR, Int32.reduceLT, y_nxK, y_nxL, y_nxR, y_sJK, y_sJL, y_sJR, y_sJN, y_sRK, y_sRL, y_sRN, z_nat, z_lit, z_lit0, z_lit1, z_in0, z_in1, z_addl0, z_lt, z_ltl, z_llt, z_inj, z_injl, z_add, z_addl, z_ladd, z_mul, z_mull, z_lmul, z_neg, z_negl, z_in, z_inl, z_ltT, z_ltF, z_eqF, z_10, z_01, z_litne, z_ne0, z_0ne, z_ne1, z_1ne, z_lt64, z_02, z_03, z_04, z_05, z_12, z_13, z_14, z_15, z_20, z_21, z_23, z_24, z_25, z_30, z_31, z_32, z_34, z_35, z_40, z_41, z_42, z_43, z_45, z_50, z_51, z_52, z_53, z_54]
theorem f_led_4 {p : Nat} (h : CR B i σ) (hc : isc σ.1 2621 8) (hp : p < cn σ.1 2621)  : FRs B i σ (am_fx am_P (d + 150) 323 0 [some (.ref 64), some (.int (Int32.ofNat p)), some (.int 4), none] [] (am_wI B i)) (.inl (some (.int (σ.1 (2622 + 49 * p + 4))))) := by
  refine FRs_0 h ?_
  have hF : Fc B := h.1.1
  have hY : Yd B 94 := h.1.2.1
  have h120 := hc.2
  obtain ⟨a1, a2, a3, a4, a5, a6, a7, a8, a9, a10⟩ := h.2.1.2.2.2.1.2 p hp (by omega)
  rw [bk_323_0]
  simp (disch := omega) only [c_shN hF hY h.2.1.2.2.2.1.1 hc hp, (fun d x0 x1 x2 x3 B i => bk_323_63 d x0 x1 x2 x3 (am_wI B i)), (fun d x0 x1 B i => bk_233_0 d x0 x1 (am_wI B i)), c_within1 (x := 4) (a := 0) (c := 9) (by decide), z_40, z_41, z_42, z_43, z_45, u_4_6, u_4_7, u_4_8, u_4_9, u_4_10, u_4_11, a5, hF, hY, y_ckd, y_ck2d, y_ond, y_onn, y_oI, y_oIx, y_oJ, y_oV, y_oVx, y_oR, y_oRn, y_oRx, y_b0, y_b1, y_bi, y_bid, y_wIK, y_wIL, y_wII, y_wIJ, y_wIR, y_wIN, y_wIw, y_sI, ↓reduceIte, Nat.reduceEqDiff, eq_self, true_or, or_true, false_or, or_false, and_true, true_and, false_and, and_false, not_true, not_false_eq_true, tf_T, tf_F, y_up1, y_up2, y_xx, y_nx, y_sJ, y_sR, Int32.reduceLT, y_nxK, y_nxL, y_nxR, y_sJK, y_sJL, y_sJR, y_sJN, y_sRK, y_sRL, y_sRN, z_nat, z_lit, z_lit0, z_lit1, z_in0, z_in1, z_addl0, z_lt, z_ltl, z_llt, z_inj, z_injl, z_add, z_addl, z_ladd, z_mul, z_mull, z_lmul, z_neg, z_negl, z_in, z_inl, z_ltT, z_ltF, z_eqF, z_10, z_01, z_litne, z_ne0, z_0ne, z_ne1, z_1ne, z_lt64, z_02, z_03, z_04, z_05, z_12, z_13, z_14, z_15, z_20, z_21, z_23, z_24, z_25, z_30, z_31, z_32, z_34, z_35, z_40, z_41, z_42, z_43, z_45, z_50, z_51, z_52, z_53, z_54, Nat.add_zero]
theorem m_led_4 {p : Nat} (h : MR B i σ) (hc : isc σ.1 2621 8) (hp : p < cn σ.1 2621)  : MRs B i σ (am_fx am_P (d + 150) 106 0 [some (.ref 874), some (.int (Int32.ofNat p)), some (.int 4), none, none] [] (am_wI B i)) (some (.int (σ.1 (2622 + 49 * p + 4)))) 0 := by
  refine MRs_0 h ?_
  have hM : Md B := h.1.1
  have h120 := hc.2
  have t1 : (Int32.ofNat p < 0) = False := z_neg (by omega)
  have t2 := eq_true (ck_nat hc (by omega) hp).2
  have e5 := h.2.1 2621 (by omega)
  have hw := up_o (q := 874) (k := 0) (v := 0) (by omega) h.2.1
  have e := h.2.1 (2622 + 49 * p + 4) (by omega)
  rw [bk_106_0]
  simp (disch := omega) only [(fun d x0 x1 B i => bk_69_0 d x0 x1 (am_wI B i)), (fun d x0 x1 x3 B i => bk_106_112 d x0 x1 x3 (am_wI B i)), (fun d x0 x1 x2 B i => bk_67_0 d x0 x1 x2 (am_wI B i)), (fun d x0 x1 B i => bk_66_0 d x0 x1 (am_wI B i)), m_in, z_pred hc.1, Classical.not_not, t1, t2, m_thr0, z_40, z_41, z_42, z_43, z_45, u_4_6, u_4_7, u_4_8, u_4_9, u_4_10, u_4_11, e5, e, hM, y_ckd, y_ck2d, y_ond, y_onn, y_oI, y_oIx, y_oJ, y_oV, y_oVx, y_oR, y_oRn, y_oRx, y_b0, y_b1, y_bi, y_bid, y_wIK, y_wIL, y_wII, y_wIJ, y_wIR, y_wIN, y_wIw, y_sI, ↓reduceIte, Nat.reduceEqDiff, eq_self, true_or, or_true, false_or, or_false, and_true, true_and, false_and, and_false, not_true, not_false_eq_true, tf_T, tf_F, y_up1, y_up2, y_xx, y_nx, y_sJ, y_sR, Int32.reduceLT, y_nxK, y_nxL, y_nxR, y_sJK, y_sJL, y_sJR, y_sJN, y_sRK, y_sRL, y_sRN, z_nat, z_lit, z_lit0, z_lit1, z_in0, z_in1, z_addl0, z_lt, z_ltl, z_llt, z_inj, z_injl, z_add, z_addl, z_ladd, z_mul, z_mull, z_lmul, z_neg, z_negl, z_in, z_inl, z_ltT, z_ltF, z_eqF, z_10, z_01, z_litne, z_ne0, z_0ne, z_ne1, z_1ne, z_lt64, z_02, z_03, z_04, z_05, z_12, z_13, z_14, z_15, z_20, z_21, z_23, z_24, z_25, z_30, z_31, z_32, z_34, z_35, z_40, z_41, z_42, z_43, z_45, z_50, z_51, z_52, z_53, z_54]
theorem f_led_5 {p : Nat} (h : CR B i σ) (hc : isc σ.1 2621 8) (hp : p < cn σ.1 2621)  : FRs B i σ (am_fx am_P (d + 150) 323 0 [some (.ref 64), some (.int (Int32.ofNat p)), some (.int 5), none] [] (am_wI B i)) (.inl (some (.int (σ.1 (2622 + 49 * p + 5))))) := by
  refine FRs_0 h ?_
  have hF : Fc B := h.1.1
  have hY : Yd B 94 := h.1.2.1
  have h120 := hc.2
  obtain ⟨a1, a2, a3, a4, a5, a6, a7, a8, a9, a10⟩ := h.2.1.2.2.2.1.2 p hp (by omega)
  rw [bk_323_0]
  simp (disch := omega) only [c_shN hF hY h.2.1.2.2.2.1.1 hc hp, (fun d x0 x1 x2 x3 B i => bk_323_63 d x0 x1 x2 x3 (am_wI B i)), (fun d x0 x1 B i => bk_233_0 d x0 x1 (am_wI B i)), c_within1 (x := 5) (a := 0) (c := 9) (by decide), z_50, z_51, z_52, z_53, z_54, u_5_6, u_5_7, u_5_8, u_5_9, u_5_10, u_5_11, a6, hF, hY, y_ckd, y_ck2d, y_ond, y_onn, y_oI, y_oIx, y_oJ, y_oV, y_oVx, y_oR, y_oRn, y_oRx, y_b0, y_b1, y_bi, y_bid, y_wIK, y_wIL, y_wII, y_wIJ, y_wIR, y_wIN, y_wIw, y_sI, ↓reduceIte, Nat.reduceEqDiff, eq_self, true_or, or_true, false_or, or_false, and_true, true_and, false_and, and_false, not_true, not_false_eq_true, tf_T, tf_F, y_up1, y_up2, y_xx, y_nx, y_sJ, y_sR, Int32.reduceLT, y_nxK, y_nxL, y_nxR, y_sJK, y_sJL, y_sJR, y_sJN, y_sRK, y_sRL, y_sRN, z_nat, z_lit, z_lit0, z_lit1, z_in0, z_in1, z_addl0, z_lt, z_ltl, z_llt, z_inj, z_injl, z_add, z_addl, z_ladd, z_mul, z_mull, z_lmul, z_neg, z_negl, z_in, z_inl, z_ltT, z_ltF, z_eqF, z_10, z_01, z_litne, z_ne0, z_0ne, z_ne1, z_1ne, z_lt64, z_02, z_03, z_04, z_05, z_12, z_13, z_14, z_15, z_20, z_21, z_23, z_24, z_25, z_30, z_31, z_32, z_34, z_35, z_40, z_41, z_42, z_43, z_45, z_50, z_51, z_52, z_53, z_54, Nat.add_zero]
theorem m_led_5 {p : Nat} (h : MR B i σ) (hc : isc σ.1 2621 8) (hp : p < cn σ.1 2621)  : MRs B i σ (am_fx am_P (d + 150) 106 0 [some (.ref 874), some (.int (Int32.ofNat p)), some (.int 5), none, none] [] (am_wI B i)) (some (.int (σ.1 (2622 + 49 * p + 5)))) 0 := by
  refine MRs_0 h ?_
  have hM : Md B := h.1.1
  have h120 := hc.2
  have t1 : (Int32.ofNat p < 0) = False := z_neg (by omega)
  have t2 := eq_true (ck_nat hc (by omega) hp).2
  have e5 := h.2.1 2621 (by omega)
  have hw := up_o (q := 874) (k := 0) (v := 0) (by omega) h.2.1
  have e := h.2.1 (2622 + 49 * p + 5) (by omega)
  rw [bk_106_0]
  simp (disch := omega) only [(fun d x0 x1 B i => bk_69_0 d x0 x1 (am_wI B i)), (fun d x0 x1 x3 B i => bk_106_119 d x0 x1 x3 (am_wI B i)), (fun d x0 x1 x2 B i => bk_67_0 d x0 x1 x2 (am_wI B i)), (fun d x0 x1 B i => bk_66_0 d x0 x1 (am_wI B i)), m_in, z_pred hc.1, Classical.not_not, t1, t2, m_thr0, z_50, z_51, z_52, z_53, z_54, u_5_6, u_5_7, u_5_8, u_5_9, u_5_10, u_5_11, e5, e, hM, y_ckd, y_ck2d, y_ond, y_onn, y_oI, y_oIx, y_oJ, y_oV, y_oVx, y_oR, y_oRn, y_oRx, y_b0, y_b1, y_bi, y_bid, y_wIK, y_wIL, y_wII, y_wIJ, y_wIR, y_wIN, y_wIw, y_sI, ↓reduceIte, Nat.reduceEqDiff, eq_self, true_or, or_true, false_or, or_false, and_true, true_and, false_and, and_false, not_true, not_false_eq_true, tf_T, tf_F, y_up1, y_up2, y_xx, y_nx, y_sJ, y_sR, Int32.reduceLT, y_nxK, y_nxL, y_nxR, y_sJK, y_sJL, y_sJR, y_sJN, y_sRK, y_sRL, y_sRN, z_nat, z_lit, z_lit0, z_lit1, z_in0, z_in1, z_addl0, z_lt, z_ltl, z_llt, z_inj, z_injl, z_add, z_addl, z_ladd, z_mul, z_mull, z_lmul, z_neg, z_negl, z_in, z_inl, z_ltT, z_ltF, z_eqF, z_10, z_01, z_litne, z_ne0, z_0ne, z_ne1, z_1ne, z_lt64, z_02, z_03, z_04, z_05, z_12, z_13, z_14, z_15, z_20, z_21, z_23, z_24, z_25, z_30, z_31, z_32, z_34, z_35, z_40, z_41, z_42, z_43, z_45, z_50, z_51, z_52, z_53, z_54]
theorem f_led_6 {p : Nat} (h : CR B i σ) (hc : isc σ.1 2621 8) (hp : p < cn σ.1 2621) (hb : σ.1 (2622 + 49 * p + 6) = 0 ∨ σ.1 (2622 + 49 * p + 6) = 1) : FRs B i σ (am_fx am_P (d + 150) 323 0 [some (.ref 64), some (.int (Int32.ofNat p)), some (.int 6), none] [] (am_wI B i)) (.inl (some (.int (σ.1 (2622 + 49 * p + 6))))) := by
  refine FRs_0 h ?_
  have hF : Fc B := h.1.1
  have hY : Yd B 94 := h.1.2.1
  have h120 := hc.2
  obtain ⟨a1, a2, a3, a4, a5, a6, a7, a8, a9, a10⟩ := h.2.1.2.2.2.1.2 p hp (by omega)
  rw [bk_323_0]
  simp (disch := omega) only [c_shN hF hY h.2.1.2.2.2.1.1 hc hp, (fun d x0 x1 x2 x3 B i => bk_323_63 d x0 x1 x2 x3 (am_wI B i)), (fun d x0 x1 B i => bk_233_0 d x0 x1 (am_wI B i)), c_within1 (x := 6) (a := 0) (c := 9) (by decide), u_6_0, u_6_1, u_6_2, u_6_3, u_6_4, u_6_5, u_6_7, u_6_8, u_6_9, u_6_10, u_6_11, a7, hF, hY, y_ckd, y_ck2d, y_ond, y_onn, y_oI, y_oIx, y_oJ, y_oV, y_oVx, y_oR, y_oRn, y_oRx, y_b0, y_b1, y_bi, y_bid, y_wIK, y_wIL, y_wII, y_wIJ, y_wIR, y_wIN, y_wIw, y_sI, ↓reduceIte, Nat.reduceEqDiff, eq_self, true_or, or_true, false_or, or_false, and_true, true_and, false_and, and_false, not_true, not_false_eq_true, tf_T, tf_F, y_up1, y_up2, y_xx, y_nx, y_sJ, y_sR, Int32.reduceLT, y_nxK, y_nxL, y_nxR, y_sJK, y_sJL, y_sJR, y_sJN, y_sRK, y_sRL, y_sRN, z_nat, z_lit, z_lit0, z_lit1, z_in0, z_in1, z_addl0, z_lt, z_ltl, z_llt, z_inj, z_injl, z_add, z_addl, z_ladd, z_mul, z_mull, z_lmul, z_neg, z_negl, z_in, z_inl, z_ltT, z_ltF, z_eqF, z_10, z_01, z_litne, z_ne0, z_0ne, z_ne1, z_1ne, z_lt64, z_02, z_03, z_04, z_05, z_12, z_13, z_14, z_15, z_20, z_21, z_23, z_24, z_25, z_30, z_31, z_32, z_34, z_35, z_40, z_41, z_42, z_43, z_45, z_50, z_51, z_52, z_53, z_54, Nat.add_zero]
  rcases hb with g | g <;> simp only [g, ↓reduceIte, z_10, y_oI]
theorem m_led_6 {p : Nat} (h : MR B i σ) (hc : isc σ.1 2621 8) (hp : p < cn σ.1 2621)  : MRs B i σ (am_fx am_P (d + 150) 106 0 [some (.ref 874), some (.int (Int32.ofNat p)), some (.int 6), none, none] [] (am_wI B i)) (some (.int (σ.1 (2622 + 49 * p + 6)))) 0 := by
  refine MRs_0 h ?_
  have hM : Md B := h.1.1
  have h120 := hc.2
  have t1 : (Int32.ofNat p < 0) = False := z_neg (by omega)
  have t2 := eq_true (ck_nat hc (by omega) hp).2
  have e5 := h.2.1 2621 (by omega)
  have hw := up_o (q := 874) (k := 0) (v := 0) (by omega) h.2.1
  have e := h.2.1 (2622 + 49 * p + 6) (by omega)
  rw [bk_106_0]
  simp (disch := omega) only [(fun d x0 x1 B i => bk_69_0 d x0 x1 (am_wI B i)), (fun d x0 x1 x3 B i => bk_106_126 d x0 x1 x3 (am_wI B i)), (fun d x0 x1 x2 B i => bk_67_0 d x0 x1 x2 (am_wI B i)), (fun d x0 x1 B i => bk_66_0 d x0 x1 (am_wI B i)), m_in, z_pred hc.1, Classical.not_not, t1, t2, m_thr0, u_6_0, u_6_1, u_6_2, u_6_3, u_6_4, u_6_5, u_6_7, u_6_8, u_6_9, u_6_10, u_6_11, e5, e, hM, y_ckd, y_ck2d, y_ond, y_onn, y_oI, y_oIx, y_oJ, y_oV, y_oVx, y_oR, y_oRn, y_oRx, y_b0, y_b1, y_bi, y_bid, y_wIK, y_wIL, y_wII, y_wIJ, y_wIR, y_wIN, y_wIw, y_sI, ↓reduceIte, Nat.reduceEqDiff, eq_self, true_or, or_true, false_or, or_false, and_true, true_and, false_and, and_false, not_true, not_false_eq_true, tf_T, tf_F, y_up1, y_up2, y_xx, y_nx, y_sJ, y_sR, Int32.reduceLT, y_nxK, y_nxL, y_nxR, y_sJK, y_sJL, y_sJR, y_sJN, y_sRK, y_sRL, y_sRN, z_nat, z_lit, z_lit0, z_lit1, z_in0, z_in1, z_addl0, z_lt, z_ltl, z_llt, z_inj, z_injl, z_add, z_addl, z_ladd, z_mul, z_mull, z_lmul, z_neg, z_negl, z_in, z_inl, z_ltT, z_ltF, z_eqF, z_10, z_01, z_litne, z_ne0, z_0ne, z_ne1, z_1ne, z_lt64, z_02, z_03, z_04, z_05, z_12, z_13, z_14, z_15, z_20, z_21, z_23, z_24, z_25, z_30, z_31, z_32, z_34, z_35, z_40, z_41, z_42, z_43, z_45, z_50, z_51, z_52, z_53, z_54]
theorem f_led_7 {p : Nat} (h : CR B i σ) (hc : isc σ.1 2621 8) (hp : p < cn σ.1 2621)  : FRs B i σ (am_fx am_P (d + 150) 323 0 [some (.ref 64), some (.int (Int32.ofNat p)), some (.int 7), none] [] (am_wI B i)) (.inl (some (.int (σ.1 (2622 + 49 * p + 7))))) := by
  refine FRs_0 h ?_
  have hF : Fc B := h.1.1
  have hY : Yd B 94 := h.1.2.1
  have h120 := hc.2
  obtain ⟨a1, a2, a3, a4, a5, a6, a7, a8, a9, a10⟩ := h.2.1.2.2.2.1.2 p hp (by omega)
  rw [bk_323_0]
  simp (disch := omega) only [c_shN hF hY h.2.1.2.2.2.1.1 hc hp, (fun d x0 x1 x2 x3 B i => bk_323_63 d x0 x1 x2 x3 (am_wI B i)), (fun d x0 x1 B i => bk_233_0 d x0 x1 (am_wI B i)), c_within1 (x := 7) (a := 0) (c := 9) (by decide), u_7_0, u_7_1, u_7_2, u_7_3, u_7_4, u_7_5, u_7_6, u_7_8, u_7_9, u_7_10, u_7_11, a8, hF, hY, y_ckd, y_ck2d, y_ond, y_onn, y_oI, y_oIx, y_oJ, y_oV, y_oVx, y_oR, y_oRn, y_oRx, y_b0, y_b1, y_bi, y_bid, y_wIK, y_wIL, y_wII, y_wIJ, y_wIR, y_wIN, y_wIw, y_sI, ↓reduceIte, Nat.reduceEqDiff, eq_self, true_or, or_true, false_or, or_false, and_true, true_and, false_and, and_false, not_true, not_false_eq_true, tf_T, tf_F, y_up1, y_up2, y_xx, y_nx, y_sJ, y_sR, Int32.reduceLT, y_nxK, y_nxL, y_nxR, y_sJK, y_sJL, y_sJR, y_sJN, y_sRK, y_sRL, y_sRN, z_nat, z_lit, z_lit0, z_lit1, z_in0, z_in1, z_addl0, z_lt, z_ltl, z_llt, z_inj, z_injl, z_add, z_addl, z_ladd, z_mul, z_mull, z_lmul, z_neg, z_negl, z_in, z_inl, z_ltT, z_ltF, z_eqF, z_10, z_01, z_litne, z_ne0, z_0ne, z_ne1, z_1ne, z_lt64, z_02, z_03, z_04, z_05, z_12, z_13, z_14, z_15, z_20, z_21, z_23, z_24, z_25, z_30, z_31, z_32, z_34, z_35, z_40, z_41, z_42, z_43, z_45, z_50, z_51, z_52, z_53, z_54, Nat.add_zero]
theorem m_led_7 {p : Nat} (h : MR B i σ) (hc : isc σ.1 2621 8) (hp : p < cn σ.1 2621)  : MRs B i σ (am_fx am_P (d + 150) 106 0 [some (.ref 874), some (.int (Int32.ofNat p)), some (.int 7), none, none] [] (am_wI B i)) (some (.int (σ.1 (2622 + 49 * p + 7)))) 0 := by
  refine MRs_0 h ?_
  have hM : Md B := h.1.1
  have h120 := hc.2
  have t1 : (Int32.ofNat p < 0) = False := z_neg (by omega)
  have t2 := eq_true (ck_nat hc (by omega) hp).2
  have e5 := h.2.1 2621 (by omega)
  have hw := up_o (q := 874) (k := 0) (v := 0) (by omega) h.2.1
  have e := h.2.1 (2622 + 49 * p + 7) (by omega)
  rw [bk_106_0]
  simp (disch := omega) only [(fun d x0 x1 B i => bk_69_0 d x0 x1 (am_wI B i)), (fun d x0 x1 x3 B i => bk_106_134 d x0 x1 x3 (am_wI B i)), (fun d x0 x1 x2 B i => bk_67_0 d x0 x1 x2 (am_wI B i)), (fun d x0 x1 B i => bk_66_0 d x0 x1 (am_wI B i)), m_in, z_pred hc.1, Classical.not_not, t1, t2, m_thr0, u_7_0, u_7_1, u_7_2, u_7_3, u_7_4, u_7_5, u_7_6, u_7_8, u_7_9, u_7_10, u_7_11, e5, e, hM, y_ckd, y_ck2d, y_ond, y_onn, y_oI, y_oIx, y_oJ, y_oV, y_oVx, y_oR, y_oRn, y_oRx, y_b0, y_b1, y_bi, y_bid, y_wIK, y_wIL, y_wII, y_wIJ, y_wIR, y_wIN, y_wIw, y_sI, ↓reduceIte, Nat.reduceEqDiff, eq_self, true_or, or_true, false_or, or_false, and_true, true_and, false_and, and_false, not_true, not_false_eq_true, tf_T, tf_F, y_up1, y_up2, y_xx, y_nx, y_sJ, y_sR, Int32.reduceLT, y_nxK, y_nxL, y_nxR, y_sJK, y_sJL, y_sJR, y_sJN, y_sRK, y_sRL, y_sRN, z_nat, z_lit, z_lit0, z_lit1, z_in0, z_in1, z_addl0, z_lt, z_ltl, z_llt, z_inj, z_injl, z_add, z_addl, z_ladd, z_mul, z_mull, z_lmul, z_neg, z_negl, z_in, z_inl, z_ltT, z_ltF, z_eqF, z_10, z_01, z_litne, z_ne0, z_0ne, z_ne1, z_1ne, z_lt64, z_02, z_03, z_04, z_05, z_12, z_13, z_14, z_15, z_20, z_21, z_23, z_24, z_25, z_30, z_31, z_32, z_34, z_35, z_40, z_41, z_42, z_43, z_45, z_50, z_51, z_52, z_53, z_54]
theorem f_led_8 {p : Nat} (h : CR B i σ) (hc : isc σ.1 2621 8) (hp : p < cn σ.1 2621) (hn : isc σ.1 (2622 + 49 * p + 8) 8) (hv : ∀ n, n < cn σ.1 (2622 + 49 * p + 8) → n < 8 → σ.1 (2622 + 49 * p + 9 + 5 * n + 4) = -1 ∨ ¬ σ.1 (2622 + 49 * p + 9 + 5 * n + 4) < 0 ∧ σ.1 (2622 + 49 * p + 9 + 5 * n + 4) < σ.1 460) (h4 : isc σ.1 460 120) (hb : ∀ p, p < cn σ.1 460 → p < 120 → σ.1 (461 + 18 * p + 13) = 0 ∨ σ.1 (461 + 18 * p + 13) = 1) : FRs B i σ (am_fx am_P (d + 150) 323 0 [some (.ref 64), some (.int (Int32.ofNat p)), some (.int 8), none] [] (am_wI B i)) (.inl (some (.int (nbad σ.1 p)))) := by
  refine FRs_0 h ?_
  have hF : Fc B := h.1.1
  have hY : Yd B 94 := h.1.2.1
  have h120 := hc.2
  obtain ⟨a1, a2, a3, a4, a5, a6, a7, a8, a9, a10⟩ := h.2.1.2.2.2.1.2 p hp (by omega)
  rw [bk_323_0]
  simp (disch := omega) only [c_shN hF hY h.2.1.2.2.2.1.1 hc hp, c_bad hY h.2.1.2.2.2.1 hc hp hn h.2.1.2.2.1 h4 hv hb, u_8_0, u_8_1, u_8_2, u_8_3, u_8_4, u_8_5, u_8_6, u_8_7, u_8_9, u_8_10, u_8_11, hF, hY, y_ckd, y_ck2d, y_ond, y_onn, y_oI, y_oIx, y_oJ, y_oV, y_oVx, y_oR, y_oRn, y_oRx, y_b0, y_b1, y_bi, y_bid, y_wIK, y_wIL, y_wII, y_wIJ, y_wIR, y_wIN, y_wIw, y_sI, ↓reduceIte, Nat.reduceEqDiff, eq_self, true_or, or_true, false_or, or_false, and_true, true_and, false_and, and_false, not_true, not_false_eq_true, tf_T, tf_F, y_up1, y_up2, y_xx, y_nx, y_sJ, y_sR, Int32.reduceLT, y_nxK, y_nxL, y_nxR, y_sJK, y_sJL, y_sJR, y_sJN, y_sRK, y_sRL, y_sRN, z_nat, z_lit, z_lit0, z_lit1, z_in0, z_in1, z_addl0, z_lt, z_ltl, z_llt, z_inj, z_injl, z_add, z_addl, z_ladd, z_mul, z_mull, z_lmul, z_neg, z_negl, z_in, z_inl, z_ltT, z_ltF, z_eqF, z_10, z_01, z_litne, z_ne0, z_0ne, z_ne1, z_1ne, z_lt64, z_02, z_03, z_04, z_05, z_12, z_13, z_14, z_15, z_20, z_21, z_23, z_24, z_25, z_30, z_31, z_32, z_34, z_35, z_40, z_41, z_42, z_43, z_45, z_50, z_51, z_52, z_53, z_54, Nat.add_zero]
theorem m_led_8 {p : Nat} (h : MR B i σ) (hc : isc σ.1 2621 8) (hp : p < cn σ.1 2621) (hn : isc σ.1 (2622 + 49 * p + 8) 8) (hv : ∀ n, n < cn σ.1 (2622 + 49 * p + 8) → n < 8 → σ.1 (2622 + 49 * p + 9 + 5 * n + 4) = -1 ∨ ¬ σ.1 (2622 + 49 * p + 9 + 5 * n + 4) < 0 ∧ σ.1 (2622 + 49 * p + 9 + 5 * n + 4) < σ.1 460) (h4 : isc σ.1 460 120) : MRs B i σ (am_fx am_P (d + 150) 106 0 [some (.ref 874), some (.int (Int32.ofNat p)), some (.int 8), none, none] [] (am_wI B i)) (some (.int (nbad σ.1 p))) 0 := by
  refine MRs_0 h ?_
  have hM : Md B := h.1.1
  have h120 := hc.2
  have t1 : (Int32.ofNat p < 0) = False := z_neg (by omega)
  have t2 := eq_true (ck_nat hc (by omega) hp).2
  have e5 := h.2.1 2621 (by omega)
  have hw := up_o (q := 874) (k := 0) (v := 0) (by omega) h.2.1
  rw [bk_106_0]
  simp (disch := omega) only [(fun d x0 x1 B i => bk_69_0 d x0 x1 (am_wI B i)), (fun d x0 x1 x3 B i => bk_106_142 d x0 x1 x3 (am_wI B i)), m_badOf hM hw hc hp hn hv h4, (fun d x0 x1 x2 B i => bk_67_0 d x0 x1 x2 (am_wI B i)), (fun d x0 x1 B i => bk_66_0 d x0 x1 (am_wI B i)), m_in, z_pred hc.1, Classical.not_not, t1, t2, m_thr0, u_8_0, u_8_1, u_8_2, u_8_3, u_8_4, u_8_5, u_8_6, u_8_7, u_8_9, u_8_10, u_8_11, e5, hM, y_ckd, y_ck2d, y_ond, y_onn, y_oI, y_oIx, y_oJ, y_oV, y_oVx, y_oR, y_oRn, y_oRx, y_b0, y_b1, y_bi, y_bid, y_wIK, y_wIL, y_wII, y_wIJ, y_wIR, y_wIN, y_wIw, y_sI, ↓reduceIte, Nat.reduceEqDiff, eq_self, true_or, or_true, false_or, or_false, and_true, true_and, false_and, and_false, not_true, not_false_eq_true, tf_T, tf_F, y_up1, y_up2, y_xx, y_nx, y_sJ, y_sR, Int32.reduceLT, y_nxK, y_nxL, y_nxR, y_sJK, y_sJL, y_sJR, y_sJN, y_sRK, y_sRL, y_sRN, z_nat, z_lit, z_lit0, z_lit1, z_in0, z_in1, z_addl0, z_lt, z_ltl, z_llt, z_inj, z_injl, z_add, z_addl, z_ladd, z_mul, z_mull, z_lmul, z_neg, z_negl, z_in, z_inl, z_ltT, z_ltF, z_eqF, z_10, z_01, z_litne, z_ne0, z_0ne, z_ne1, z_1ne, z_lt64, z_02, z_03, z_04, z_05, z_12, z_13, z_14, z_15, z_20, z_21, z_23, z_24, z_25, z_30, z_31, z_32, z_34, z_35, z_40, z_41, z_42, z_43, z_45, z_50, z_51, z_52, z_53, z_54]
theorem f_led_9 {p : Nat} (h : CR B i σ) (hc : isc σ.1 2621 8) (hp : p < cn σ.1 2621)  : FRs B i σ (am_fx am_P (d + 150) 323 0 [some (.ref 64), some (.int (Int32.ofNat p)), some (.int 9), none] [] (am_wI B i)) (.inl (some (.int (σ.1 (2622 + 49 * p + 2))))) := by
  refine FRs_0 h ?_
  have hF : Fc B := h.1.1
  have hY : Yd B 94 := h.1.2.1
  have h120 := hc.2
  obtain ⟨a1, a2, a3, a4, a5, a6, a7, a8, a9, a10⟩ := h.2.1.2.2.2.1.2 p hp (by omega)
  rw [bk_323_0]
  simp (disch := omega) only [c_shN hF hY h.2.1.2.2.2.1.1 hc hp, (fun d x0 x1 x2 x3 B i => bk_323_63 d x0 x1 x2 x3 (am_wI B i)), (fun d x0 x1 B i => bk_233_0 d x0 x1 (am_wI B i)), c_within1 (x := 9) (a := 0) (c := 9) (by decide), u_9_0, u_9_1, u_9_2, u_9_3, u_9_4, u_9_5, u_9_6, u_9_7, u_9_8, u_9_10, u_9_11, a3, hF, hY, y_ckd, y_ck2d, y_ond, y_onn, y_oI, y_oIx, y_oJ, y_oV, y_oVx, y_oR, y_oRn, y_oRx, y_b0, y_b1, y_bi, y_bid, y_wIK, y_wIL, y_wII, y_wIJ, y_wIR, y_wIN, y_wIw, y_sI, ↓reduceIte, Nat.reduceEqDiff, eq_self, true_or, or_true, false_or, or_false, and_true, true_and, false_and, and_false, not_true, not_false_eq_true, tf_T, tf_F, y_up1, y_up2, y_xx, y_nx, y_sJ, y_sR, Int32.reduceLT, y_nxK, y_nxL, y_nxR, y_sJK, y_sJL, y_sJR, y_sJN, y_sRK, y_sRL, y_sRN, z_nat, z_lit, z_lit0, z_lit1, z_in0, z_in1, z_addl0, z_lt, z_ltl, z_llt, z_inj, z_injl, z_add, z_addl, z_ladd, z_mul, z_mull, z_lmul, z_neg, z_negl, z_in, z_inl, z_ltT, z_ltF, z_eqF, z_10, z_01, z_litne, z_ne0, z_0ne, z_ne1, z_1ne, z_lt64, z_02, z_03, z_04, z_05, z_12, z_13, z_14, z_15, z_20, z_21, z_23, z_24, z_25, z_30, z_31, z_32, z_34, z_35, z_40, z_41, z_42, z_43, z_45, z_50, z_51, z_52, z_53, z_54, Nat.add_zero]
theorem m_led_9 {p : Nat} (h : MR B i σ) (hc : isc σ.1 2621 8) (hp : p < cn σ.1 2621)  : MRs B i σ (am_fx am_P (d + 150) 106 0 [some (.ref 874), some (.int (Int32.ofNat p)), some (.int 9), none, none] [] (am_wI B i)) (some (.int (σ.1 (2622 + 49 * p + 2)))) 0 := by
  refine MRs_0 h ?_
  have hM : Md B := h.1.1
  have h120 := hc.2
  have t1 : (Int32.ofNat p < 0) = False := z_neg (by omega)
  have t2 := eq_true (ck_nat hc (by omega) hp).2
  have e5 := h.2.1 2621 (by omega)
  have hw := up_o (q := 874) (k := 0) (v := 0) (by omega) h.2.1
  have e := h.2.1 (2622 + 49 * p + 2) (by omega)
  rw [bk_106_0]
  simp (disch := omega) only [(fun d x0 x1 B i => bk_69_0 d x0 x1 (am_wI B i)), (fun d x0 x1 x3 B i => bk_106_203 d x0 x1 x3 (am_wI B i)), (fun d x0 x1 x2 B i => bk_67_0 d x0 x1 x2 (am_wI B i)), (fun d x0 x1 B i => bk_66_0 d x0 x1 (am_wI B i)), m_in, z_pred hc.1, Classical.not_not, t1, t2, m_thr0, u_9_0, u_9_1, u_9_2, u_9_3, u_9_4, u_9_5, u_9_6, u_9_7, u_9_8, u_9_10, u_9_11, e5, e, hM, y_ckd, y_ck2d, y_ond, y_onn, y_oI, y_oIx, y_oJ, y_oV, y_oVx, y_oR, y_oRn, y_oRx, y_b0, y_b1, y_bi, y_bid, y_wIK, y_wIL, y_wII, y_wIJ, y_wIR, y_wIN, y_wIw, y_sI, ↓reduceIte, Nat.reduceEqDiff, eq_self, true_or, or_true, false_or, or_false, and_true, true_and, false_and, and_false, not_true, not_false_eq_true, tf_T, tf_F, y_up1, y_up2, y_xx, y_nx, y_sJ, y_sR, Int32.reduceLT, y_nxK, y_nxL, y_nxR, y_sJK, y_sJL, y_sJR, y_sJN, y_sRK, y_sRL, y_sRN, z_nat, z_lit, z_lit0, z_lit1, z_in0, z_in1, z_addl0, z_lt, z_ltl, z_llt, z_inj, z_injl, z_add, z_addl, z_ladd, z_mul, z_mull, z_lmul, z_neg, z_negl, z_in, z_inl, z_ltT, z_ltF, z_eqF, z_10, z_01, z_litne, z_ne0, z_0ne, z_ne1, z_1ne, z_lt64, z_02, z_03, z_04, z_05, z_12, z_13, z_14, z_15, z_20, z_21, z_23, z_24, z_25, z_30, z_31, z_32, z_34, z_35, z_40, z_41, z_42, z_43, z_45, z_50, z_51, z_52, z_53, z_54]
theorem f_led_10 {p : Nat} (h : CR B i σ) (hc : isc σ.1 2621 8) (hp : p < cn σ.1 2621) (hn : isc σ.1 (2622 + 49 * p + 8) 8) (hv : ∀ n, n < cn σ.1 (2622 + 49 * p + 8) → n < 8 → σ.1 (2622 + 49 * p + 9 + 5 * n + 4) = -1 ∨ ¬ σ.1 (2622 + 49 * p + 9 + 5 * n + 4) < 0 ∧ σ.1 (2622 + 49 * p + 9 + 5 * n + 4) < σ.1 460) (h4 : isc σ.1 460 120) : FRs B i σ (am_fx am_P (d + 150) 323 0 [some (.ref 64), some (.int (Int32.ofNat p)), some (.int 10), none] [] (am_wI B i)) (.inl (some (.int (wrst σ.1 p)))) := by
  refine FRs_0 h ?_
  have hF : Fc B := h.1.1
  have hY : Yd B 94 := h.1.2.1
  have h120 := hc.2
  obtain ⟨a1, a2, a3, a4, a5, a6, a7, a8, a9, a10⟩ := h.2.1.2.2.2.1.2 p hp (by omega)
  rw [bk_323_0]
  simp (disch := omega) only [c_shN hF hY h.2.1.2.2.2.1.1 hc hp, c_worst hY h.2.1.2.2.2.1 hc hp hn h.2.1.2.2.1 h4 hv, u_10_0, u_10_1, u_10_2, u_10_3, u_10_4, u_10_5, u_10_6, u_10_7, u_10_8, u_10_9, u_10_11, hF, hY, y_ckd, y_ck2d, y_ond, y_onn, y_oI, y_oIx, y_oJ, y_oV, y_oVx, y_oR, y_oRn, y_oRx, y_b0, y_b1, y_bi, y_bid, y_wIK, y_wIL, y_wII, y_wIJ, y_wIR, y_wIN, y_wIw, y_sI, ↓reduceIte, Nat.reduceEqDiff, eq_self, true_or, or_true, false_or, or_false, and_true, true_and, false_and, and_false, not_true, not_false_eq_true, tf_T, tf_F, y_up1, y_up2, y_xx, y_nx, y_sJ, y_sR, Int32.reduceLT, y_nxK, y_nxL, y_nxR, y_sJK, y_sJL, y_sJR, y_sJN, y_sRK, y_sRL, y_sRN, z_nat, z_lit, z_lit0, z_lit1, z_in0, z_in1, z_addl0, z_lt, z_ltl, z_llt, z_inj, z_injl, z_add, z_addl, z_ladd, z_mul, z_mull, z_lmul, z_neg, z_negl, z_in, z_inl, z_ltT, z_ltF, z_eqF, z_10, z_01, z_litne, z_ne0, z_0ne, z_ne1, z_1ne, z_lt64, z_02, z_03, z_04, z_05, z_12, z_13, z_14, z_15, z_20, z_21, z_23, z_24, z_25, z_30, z_31, z_32, z_34, z_35, z_40, z_41, z_42, z_43, z_45, z_50, z_51, z_52, z_53, z_54, Nat.add_zero]
theorem m_led_10 {p : Nat} (h : MR B i σ) (hc : isc σ.1 2621 8) (hp : p < cn σ.1 2621) (hn : isc σ.1 (2622 + 49 * p + 8) 8) (hv : ∀ n, n < cn σ.1 (2622 + 49 * p + 8) → n < 8 → σ.1 (2622 + 49 * p + 9 + 5 * n + 4) = -1 ∨ ¬ σ.1 (2622 + 49 * p + 9 + 5 * n + 4) < 0 ∧ σ.1 (2622 + 49 * p + 9 + 5 * n + 4) < σ.1 460) (h4 : isc σ.1 460 120) : MRs B i σ (am_fx am_P (d + 150) 106 0 [some (.ref 874), some (.int (Int32.ofNat p)), some (.int 10), none, none] [] (am_wI B i)) (some (.int (wrst σ.1 p))) 0 := by
  refine MRs_0 h ?_
  have hM : Md B := h.1.1
  have h120 := hc.2
  have t1 : (Int32.ofNat p < 0) = False := z_neg (by omega)
  have t2 := eq_true (ck_nat hc (by omega) hp).2
  have e5 := h.2.1 2621 (by omega)
  have hw := up_o (q := 874) (k := 0) (v := 0) (by omega) h.2.1
  rw [bk_106_0]
  simp (disch := omega) only [(fun d x0 x1 B i => bk_69_0 d x0 x1 (am_wI B i)), (fun d x0 x1 x3 B i => bk_106_210 d x0 x1 x3 (am_wI B i)), m_worstOf hM hw hc hp hn hv h4, (fun d x0 x1 x2 B i => bk_67_0 d x0 x1 x2 (am_wI B i)), (fun d x0 x1 B i => bk_66_0 d x0 x1 (am_wI B i)), m_in, z_pred hc.1, Classical.not_not, t1, t2, m_thr0, u_10_0, u_10_1, u_10_2, u_10_3, u_10_4, u_10_5, u_10_6, u_10_7, u_10_8, u_10_9, u_10_11, e5, hM, y_ckd, y_ck2d, y_ond, y_onn, y_oI, y_oIx, y_oJ, y_oV, y_oVx, y_oR, y_oRn, y_oRx, y_b0, y_b1, y_bi, y_bid, y_wIK, y_wIL, y_wII, y_wIJ, y_wIR, y_wIN, y_wIw, y_sI, ↓reduceIte, Nat.reduceEqDiff, eq_self, true_or, or_true, false_or, or_false, and_true, true_and, false_and, and_false, not_true, not_false_eq_true, tf_T, tf_F, y_up1, y_up2, y_xx, y_nx, y_sJ, y_sR, Int32.reduceLT, y_nxK, y_nxL, y_nxR, y_sJK, y_sJL, y_sJR, y_sJN, y_sRK, y_sRL, y_sRN, z_nat, z_lit, z_lit0, z_lit1, z_in0, z_in1, z_addl0, z_lt, z_ltl, z_llt, z_inj, z_injl, z_add, z_addl, z_ladd, z_mul, z_mull, z_lmul, z_neg, z_negl, z_in, z_inl, z_ltT, z_ltF, z_eqF, z_10, z_01, z_litne, z_ne0, z_0ne, z_ne1, z_1ne, z_lt64, z_02, z_03, z_04, z_05, z_12, z_13, z_14, z_15, z_20, z_21, z_23, z_24, z_25, z_30, z_31, z_32, z_34, z_35, z_40, z_41, z_42, z_43, z_45, z_50, z_51, z_52, z_53, z_54]
theorem f_led_11 {p : Nat} (h : CR B i σ) (hc : isc σ.1 2621 8) (hp : p < cn σ.1 2621) (hg : isc σ.1 3019 8) : FRs B i σ (am_fx am_P (d + 150) 323 0 [some (.ref 64), some (.int (Int32.ofNat p)), some (.int 11), none] [] (am_wI B i)) (.inl (some (.int (ngg σ.1 (Int32.ofNat p))))) := by
  refine FRs_0 h ?_
  have hF : Fc B := h.1.1
  have hY : Yd B 94 := h.1.2.1
  have h120 := hc.2
  obtain ⟨a1, a2, a3, a4, a5, a6, a7, a8, a9, a10⟩ := h.2.1.2.2.2.1.2 p hp (by omega)
  rw [bk_323_0]
  simp (disch := omega) only [c_shN hF hY h.2.1.2.2.2.1.1 hc hp, c_gangsOn hY h.2.1.2.2.2.2.1 hg, u_11_0, u_11_1, u_11_2, u_11_3, u_11_4, u_11_5, u_11_6, u_11_7, u_11_8, u_11_9, u_11_10, hF, hY, y_ckd, y_ck2d, y_ond, y_onn, y_oI, y_oIx, y_oJ, y_oV, y_oVx, y_oR, y_oRn, y_oRx, y_b0, y_b1, y_bi, y_bid, y_wIK, y_wIL, y_wII, y_wIJ, y_wIR, y_wIN, y_wIw, y_sI, ↓reduceIte, Nat.reduceEqDiff, eq_self, true_or, or_true, false_or, or_false, and_true, true_and, false_and, and_false, not_true, not_false_eq_true, tf_T, tf_F, y_up1, y_up2, y_xx, y_nx, y_sJ, y_sR, Int32.reduceLT, y_nxK, y_nxL, y_nxR, y_sJK, y_sJL, y_sJR, y_sJN, y_sRK, y_sRL, y_sRN, z_nat, z_lit, z_lit0, z_lit1, z_in0, z_in1, z_addl0, z_lt, z_ltl, z_llt, z_inj, z_injl, z_add, z_addl, z_ladd, z_mul, z_mull, z_lmul, z_neg, z_negl, z_in, z_inl, z_ltT, z_ltF, z_eqF, z_10, z_01, z_litne, z_ne0, z_0ne, z_ne1, z_1ne, z_lt64, z_02, z_03, z_04, z_05, z_12, z_13, z_14, z_15, z_20, z_21, z_23, z_24, z_25, z_30, z_31, z_32, z_34, z_35, z_40, z_41, z_42, z_43, z_45, z_50, z_51, z_52, z_53, z_54, Nat.add_zero]
theorem m_led_11 {p : Nat} (h : MR B i σ) (hc : isc σ.1 2621 8) (hp : p < cn σ.1 2621) (hg : isc σ.1 3019 8) : MRs B i σ (am_fx am_P (d + 150) 106 0 [some (.ref 874), some (.int (Int32.ofNat p)), some (.int 11), none, none] [] (am_wI B i)) (some (.int (ngg σ.1 (Int32.ofNat p)))) 0 := by
  refine MRs_0 h ?_
  have hM : Md B := h.1.1
  have h120 := hc.2
  have t1 : (Int32.ofNat p < 0) = False := z_neg (by omega)
  have t2 := eq_true (ck_nat hc (by omega) hp).2
  have e5 := h.2.1 2621 (by omega)
  have hw := up_o (q := 874) (k := 0) (v := 0) (by omega) h.2.1
  rw [bk_106_0]
  simp (disch := omega) only [(fun d x0 x1 B i => bk_69_0 d x0 x1 (am_wI B i)), (fun d x0 x1 x3 B i => bk_106_216 d x0 x1 x3 (am_wI B i)), m_gangsOn hM hw hg, (fun d x0 x1 x2 B i => bk_67_0 d x0 x1 x2 (am_wI B i)), (fun d x0 x1 B i => bk_66_0 d x0 x1 (am_wI B i)), m_in, z_pred hc.1, Classical.not_not, t1, t2, m_thr0, u_11_0, u_11_1, u_11_2, u_11_3, u_11_4, u_11_5, u_11_6, u_11_7, u_11_8, u_11_9, u_11_10, e5, hM, y_ckd, y_ck2d, y_ond, y_onn, y_oI, y_oIx, y_oJ, y_oV, y_oVx, y_oR, y_oRn, y_oRx, y_b0, y_b1, y_bi, y_bid, y_wIK, y_wIL, y_wII, y_wIJ, y_wIR, y_wIN, y_wIw, y_sI, ↓reduceIte, Nat.reduceEqDiff, eq_self, true_or, or_true, false_or, or_false, and_true, true_and, false_and, and_false, not_true, not_false_eq_true, tf_T, tf_F, y_up1, y_up2, y_xx, y_nx, y_sJ, y_sR, Int32.reduceLT, y_nxK, y_nxL, y_nxR, y_sJK, y_sJL, y_sJR, y_sJN, y_sRK, y_sRL, y_sRN, z_nat, z_lit, z_lit0, z_lit1, z_in0, z_in1, z_addl0, z_lt, z_ltl, z_llt, z_inj, z_injl, z_add, z_addl, z_ladd, z_mul, z_mull, z_lmul, z_neg, z_negl, z_in, z_inl, z_ltT, z_ltF, z_eqF, z_10, z_01, z_litne, z_ne0, z_0ne, z_ne1, z_1ne, z_lt64, z_02, z_03, z_04, z_05, z_12, z_13, z_14, z_15, z_20, z_21, z_23, z_24, z_25, z_30, z_31, z_32, z_34, z_35, z_40, z_41, z_42, z_43, z_45, z_50, z_51, z_52, z_53, z_54]
theorem k_led (h : Sim B i σ) (hs : Sc B i L j) (hO : am_K B 892 = 22 ∧ am_L B 892 = 1) : Stq B i d 2445 j := by
  have hc := h.2.2.1.1.2.2.2.1
  have h4 := h.2.2.1.1.2.2.1
  have hg := h.2.2.1.1.2.2.2.2.2.1
  by_cases g : ¬ i 0 (j + 1) < 0 ∧ i 0 (j + 1) < σ.1 2621
  rotate_left
  · exact kx_31_1 h hs hO (f_led_x0 (d := d + 48) h.1 g) fun B0 i0 h0 => m_led_x0 (d := d + 49) h0 hc g
  obtain ⟨p, e, hp⟩ := nat_ck hc (by omega) g
  have h8 := hc.2
  have h120 := h4.2
  obtain ⟨-, -, -, -, -, b6, -, hn, b9⟩ := h.2.2.1.2.2.2.2.1.1 p hp (by omega)
  have hv := fun n h1 h2 => (b9 n h1 h2).2
  have hb : ∀ p, p < cn σ.1 460 → p < 120 → σ.1 (461 + 18 * p + 13) = 0 ∨ σ.1 (461 + 18 * p + 13) = 1 := fun p h1 h2 => (h.2.2.1.2.2.2.1.1 p h1 h2).2.2.2.2.2.2.2.2.2.2.1
  by_cases n0 : i 0 (j + 2) = 0
  · exact kk_31 h hs hO h.2.2 (by rw [e, n0]; exact f_led_0 (d := d + 48) h.1 hc hp) fun B0 i0 h0 => by rw [e, n0]; exact m_led_0 (d := d + 49) h0 hc hp
  by_cases n1 : i 0 (j + 2) = 1
  · exact kk_31 h hs hO h.2.2 (by rw [e, n1]; exact f_led_1 (d := d + 48) h.1 hc hp) fun B0 i0 h0 => by rw [e, n1]; exact m_led_1 (d := d + 49) h0 hc hp
  by_cases n2 : i 0 (j + 2) = 2
  · exact kk_31 h hs hO h.2.2 (by rw [e, n2]; exact f_led_2 (d := d + 48) h.1 hc hp) fun B0 i0 h0 => by rw [e, n2]; exact m_led_2 (d := d + 49) h0 hc hp
  by_cases n3 : i 0 (j + 2) = 3
  · exact kk_31 h hs hO h.2.2 (by rw [e, n3]; exact f_led_3 (d := d + 48) h.1 hc hp hn hv h4) fun B0 i0 h0 => by rw [e, n3]; exact m_led_3 (d := d + 49) h0 hc hp hn hv h4
  by_cases n4 : i 0 (j + 2) = 4
  · exact kk_31 h hs hO h.2.2 (by rw [e, n4]; exact f_led_4 (d := d + 48) h.1 hc hp) fun B0 i0 h0 => by rw [e, n4]; exact m_led_4 (d := d + 49) h0 hc hp
  by_cases n5 : i 0 (j + 2) = 5
  · exact kk_31 h hs hO h.2.2 (by rw [e, n5]; exact f_led_5 (d := d + 48) h.1 hc hp) fun B0 i0 h0 => by rw [e, n5]; exact m_led_5 (d := d + 49) h0 hc hp
  by_cases n6 : i 0 (j + 2) = 6
  · exact kk_31 h hs hO h.2.2 (by rw [e, n6]; exact f_led_6 (d := d + 48) h.1 hc hp b6) fun B0 i0 h0 => by rw [e, n6]; exact m_led_6 (d := d + 49) h0 hc hp
  by_cases n7 : i 0 (j + 2) = 7
  · exact kk_31 h hs hO h.2.2 (by rw [e, n7]; exact f_led_7 (d := d + 48) h.1 hc hp) fun B0 i0 h0 => by rw [e, n7]; exact m_led_7 (d := d + 49) h0 hc hp
  by_cases n8 : i 0 (j + 2) = 8
  · exact kk_31 h hs hO h.2.2 (by rw [e, n8]; exact f_led_8 (d := d + 48) h.1 hc hp hn hv h4 hb) fun B0 i0 h0 => by rw [e, n8]; exact m_led_8 (d := d + 49) h0 hc hp hn hv h4
  by_cases n9 : i 0 (j + 2) = 9
  · exact kk_31 h hs hO h.2.2 (by rw [e, n9]; exact f_led_9 (d := d + 48) h.1 hc hp) fun B0 i0 h0 => by rw [e, n9]; exact m_led_9 (d := d + 49) h0 hc hp
  by_cases n10 : i 0 (j + 2) = 10
  · exact kk_31 h hs hO h.2.2 (by rw [e, n10]; exact f_led_10 (d := d + 48) h.1 hc hp hn hv h4) fun B0 i0 h0 => by rw [e, n10]; exact m_led_10 (d := d + 49) h0 hc hp hn hv h4
  by_cases n11 : i 0 (j + 2) = 11
  · exact kk_31 h hs hO h.2.2 (by rw [e, n11]; exact f_led_11 (d := d + 48) h.1 hc hp hg) fun B0 i0 h0 => by rw [e, n11]; exact m_led_11 (d := d + 49) h0 hc hp hg
  have g2 : ¬ (¬ i 0 (j + 2) < 0 ∧ ¬ 9 < i 0 (j + 2)) := fun g => by
    obtain ⟨q4, q10⟩ := g
    rw [Int32.lt_iff_toInt_lt] at q4 q10
    rw [show (0 : Int32).toInt = 0 from by decide] at q4
    rw [show (9 : Int32).toInt = 9 from by decide] at q10
    have q : ∀ k : Int32, ¬ i 0 (j + 2) = k → (i 0 (j + 2)).toInt ≠ k.toInt := fun k n e => n (Int32.toInt_inj.mp e)
    have r0 := q 0 n0
    rw [show (0 : Int32).toInt = 0 from by decide] at r0
    have r1 := q 1 n1
    rw [show (1 : Int32).toInt = 1 from by decide] at r1
    have r2 := q 2 n2
    rw [show (2 : Int32).toInt = 2 from by decide] at r2
    have r3 := q 3 n3
    rw [show (3 : Int32).toInt = 3 from by decide] at r3
    have r4 := q 4 n4
    rw [show (4 : Int32).toInt = 4 from by decide] at r4
    have r5 := q 5 n5
    rw [show (5 : Int32).toInt = 5 from by decide] at r5
    have r6 := q 6 n6
    rw [show (6 : Int32).toInt = 6 from by decide] at r6
    have r7 := q 7 n7
    rw [show (7 : Int32).toInt = 7 from by decide] at r7
    have r8 := q 8 n8
    rw [show (8 : Int32).toInt = 8 from by decide] at r8
    have r9 := q 9 n9
    rw [show (9 : Int32).toInt = 9 from by decide] at r9
    omega
  exact kx_31_5 h hs hO (by rw [e]; exact f_led_x1 (d := d + 48) h.1 hc hp n0 n1 n2 n3 n4 n5 n6 n7 n8 n9 n10 n11 g2) fun B0 i0 h0 => by rw [e]; exact m_led_x1 (d := d + 49) h0 hc hp n0 n1 n2 n3 n4 n5 n6 n7 n8 n9 n10 n11
end Told
