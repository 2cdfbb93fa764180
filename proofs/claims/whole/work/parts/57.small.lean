/-! LAY, SHUT, WORKS: made by wip/whole/math/57.py. -/
section Small
variable {B : am_A} {i : Nat → Nat → Int32} {σ : Sg} {w : Nat → Int32} {L j d : Nat} {x y : Int32}
theorem f_lay_x0 {x : Int32} (h : CR B i σ) (g : ¬ (¬ x < 0 ∧ x < σ.1 2621)) : FRs B i σ (am_fx am_P (d + 150) 309 0 [some (.ref 64), some (.int x), none] [] (am_wI B i)) (.inr 1) := by
  refine FRs_x h ?_
  have hF : Fc B := h.1.1
  have hY : Yd B 94 := h.1.2.1
  rw [bk_309_0]
  simp (disch := omega) only [c_shN0 hF hY h.2.1.2.2.2.1.1 g, hF, hY, y_ckd, y_ck2d, y_ond, y_onn, y_oI, y_oIx, y_oJ, y_oV, y_oVx, y_oR, y_oRn, y_oRx, y_b0, y_b1, y_bi, y_bid, y_wIK, y_wIL, y_wII, y_wIJ, y_wIR, y_wIN, y_wIw, y_sI, ↓reduceIte, Nat.reduceEqDiff, eq_self, true_or, or_true, false_or, or_false, and_true, true_and, false_and, and_false, not_true, not_false_eq_true, tf_T, tf_F, y_up1, y_up2, y_xx, y_nx, y_sJ, y_sR, Int32.reduceLT, y_nxK, y_nxL, y_nxR, y_sJK, y_sJL, y_sJR, y_sJN, y_sRK, y_sRL, y_sRN, Nat.add_zero, z_nat, z_lit, z_lit0, z_lit1, z_in0, z_in1, z_addl0, z_lt, z_ltl, z_llt, z_inj, z_injl, z_add, z_addl, z_ladd, z_mul, z_mull, z_lmul, z_neg, z_negl, z_in, z_inl, z_ltT, z_ltF, z_eqF, z_10, z_01, z_litne, z_ne0, z_0ne, z_ne1, z_1ne, z_lt64, z_02, z_03, z_04, z_05, z_12, z_13, z_14, z_15, z_20, z_21, z_23, z_24, z_25, z_30, z_31, z_32, z_34, z_35, z_40, z_41, z_42, z_43, z_45, z_50, z_51, z_52, z_53, z_54]
theorem m_lay_x0 {x : Int32} (h : MR B i σ) (hc : isc σ.1 2621 8) (g : ¬ (¬ x < 0 ∧ x < σ.1 2621)) : MRs B i σ (am_fx am_P (d + 150) 76 0 [some (.ref 874), some (.int x)] [] (am_wI B i)) (some (.int 0)) 1 := by
  refine MRs_x h ?_
  have hM : Md B := h.1.1
  have e5 := h.2.1 2621 (by omega)
  rw [bk_76_0]
  simp (disch := omega) only [(fun d B i => bk_76_41 d (am_wI B i)), (fun d x0 x1 B i => bk_69_0 d x0 x1 (am_wI B i)), m_in, z_pred hc.1, Classical.not_not, g, m_thr1 hM, e5, hM, y_ckd, y_ck2d, y_ond, y_onn, y_oI, y_oIx, y_oJ, y_oV, y_oVx, y_oR, y_oRn, y_oRx, y_b0, y_b1, y_bi, y_bid, y_wIK, y_wIL, y_wII, y_wIJ, y_wIR, y_wIN, y_wIw, y_sI, ↓reduceIte, Nat.reduceEqDiff, eq_self, true_or, or_true, false_or, or_false, and_true, true_and, false_and, and_false, not_true, not_false_eq_true, tf_T, tf_F, y_up1, y_up2, y_xx, y_nx, y_sJ, y_sR, Int32.reduceLT, y_nxK, y_nxL, y_nxR, y_sJK, y_sJL, y_sJR, y_sJN, y_sRK, y_sRL, y_sRN, Nat.add_zero, z_nat, z_lit, z_lit0, z_lit1, z_in0, z_in1, z_addl0, z_lt, z_ltl, z_llt, z_inj, z_injl, z_add, z_addl, z_ladd, z_mul, z_mull, z_lmul, z_neg, z_negl, z_in, z_inl, z_ltT, z_ltF, z_eqF, z_10, z_01, z_litne, z_ne0, z_0ne, z_ne1, z_1ne, z_lt64, z_02, z_03, z_04, z_05, z_12, z_13, z_14, z_15, z_20, z_21, z_23, z_24, z_25, z_30, z_31, z_32, z_34, z_35, z_40, z_41, z_42, z_43, z_45, z_50, z_51, z_52, z_53, z_54]
theorem f_lay0 {p : Nat} (h : CR B i σ) (hc : isc σ.1 2621 8) (hp : p < cn σ.1 2621) (g : ¬ (σ.1 (2622 + 49 * p) = 0 ∧ nst σ.1 1 < σ.1 2)) : FRs B i σ (am_fx am_P (d + 150) 309 0 [some (.ref 64), some (.int (Int32.ofNat p)), none] [] (am_wI B i)) (.inl (some (.int 0))) := by
  refine FRs_0 h ?_
  have hF : Fc B := h.1.1
  have hY : Yd B 94 := h.1.2.1
  have h8 := hc.2
  have t1 : (Int32.ofNat p < 0) = False := z_neg (by omega)
  have t2 := eq_true (ck_nat hc (by omega) hp).2
  obtain ⟨a1, a2, a3, a4, a5, a6, a7, a8, a9, a10⟩ := h.2.1.2.2.2.1.2 p hp (by omega)
  have e9 := h.2.1.1.2.2.1
  rw [bk_309_0]
  by_cases g0 : σ.1 (2622 + 49 * p) = 0
  · have g1 : ¬ nst σ.1 1 < σ.1 2 := fun q => g ⟨g0, q⟩
    simp (disch := omega) only [c_shN hF hY h.2.1.2.2.2.1.1 hc hp, c_onSlips hY h.2.1.2.2.2.1 hc, a1, g0, g1, e9, hF, hY, y_ckd, y_ck2d, y_ond, y_onn, y_oI, y_oIx, y_oJ, y_oV, y_oVx, y_oR, y_oRn, y_oRx, y_b0, y_b1, y_bi, y_bid, y_wIK, y_wIL, y_wII, y_wIJ, y_wIR, y_wIN, y_wIw, y_sI, ↓reduceIte, Nat.reduceEqDiff, eq_self, true_or, or_true, false_or, or_false, and_true, true_and, false_and, and_false, not_true, not_false_eq_true, tf_T, tf_F, y_up1, y_up2, y_xx, y_nx, y_sJ, y_sR, Int32.reduceLT, y_nxK, y_nxL, y_nxR, y_sJK, y_sJL, y_sJR, y_sJN, y_sRK, y_sRL, y_sRN, Nat.add_zero, z_nat, z_lit, z_lit0, z_lit1, z_in0, z_in1, z_addl0, z_lt, z_ltl, z_llt, z_inj, z_injl, z_add, z_addl, z_ladd, z_mul, z_mull, z_lmul, z_neg, z_negl, z_in, z_inl, z_ltT, z_ltF, z_eqF, z_10, z_01, z_litne, z_ne0, z_0ne, z_ne1, z_1ne, z_lt64, z_02, z_03, z_04, z_05, z_12, z_13, z_14, z_15, z_20, z_21, z_23, z_24, z_25, z_30, z_31, z_32, z_34, z_35, z_40, z_41, z_42, z_43, z_45, z_50, z_51, z_52, z_53, z_54]
  · simp (disch := omega) only [c_shN hF hY h.2.1.2.2.2.1.1 hc hp, a1, g0, hF, hY, y_ckd, y_ck2d, y_ond, y_onn, y_oI, y_oIx, y_oJ, y_oV, y_oVx, y_oR, y_oRn, y_oRx, y_b0, y_b1, y_bi, y_bid, y_wIK, y_wIL, y_wII, y_wIJ, y_wIR, y_wIN, y_wIw, y_sI, ↓reduceIte, Nat.reduceEqDiff, eq_self, true_or, or_true, false_or, or_false, and_true, true_and, false_and, and_false, not_true, not_false_eq_true, tf_T, tf_F, y_up1, y_up2, y_xx, y_nx, y_sJ, y_sR, Int32.reduceLT, y_nxK, y_nxL, y_nxR, y_sJK, y_sJL, y_sJR, y_sJN, y_sRK, y_sRL, y_sRN, Nat.add_zero, z_nat, z_lit, z_lit0, z_lit1, z_in0, z_in1, z_addl0, z_lt, z_ltl, z_llt, z_inj, z_injl, z_add, z_addl, z_ladd, z_mul, z_mull, z_lmul, z_neg, z_negl, z_in, z_inl, z_ltT, z_ltF, z_eqF, z_10, z_01, z_litne, z_ne0, z_0ne, z_ne1, z_1ne, z_lt64, z_02, z_03, z_04, z_05, z_12, z_13, z_14, z_15, z_20, z_21, z_23, z_24, z_25, z_30, z_31, z_32, z_34, z_35, z_40, z_41, z_42, z_43, z_45, z_50, z_51, z_52, z_53, z_54]
theorem m_lay0 {p : Nat} (h : MR B i σ) (hc : isc σ.1 2621 8) (hp : p < cn σ.1 2621) (g : ¬ (σ.1 (2622 + 49 * p) = 0 ∧ nst σ.1 1 < σ.1 2)) : MRs B i σ (am_fx am_P (d + 150) 76 0 [some (.ref 874), some (.int (Int32.ofNat p))] [] (am_wI B i)) (some (.int 0)) 0 := by
  refine MRs_0 h ?_
  have hM : Md B := h.1.1
  have h8 := hc.2
  have t1 : (Int32.ofNat p < 0) = False := z_neg (by omega)
  have t2 := eq_true (ck_nat hc (by omega) hp).2
  have e5 := h.2.1 2621 (by omega)
  have e2 := h.2.1 2 (by omega)
  have e := h.2.1 (2622 + 49 * p) (by omega)
  have hw := up_o (q := 874) (k := 0) (v := 0) (by omega) h.2.1
  rw [bk_76_0]
  by_cases g0 : σ.1 (2622 + 49 * p) = 0
  · have g1 : ¬ nst σ.1 1 < σ.1 2 := fun q => g ⟨g0, q⟩
    simp (disch := omega) only [(fun d x0 x1 B i => bk_69_0 d x0 x1 (am_wI B i)), m_in, z_pred hc.1, Classical.not_not, (fun d x0 x1 x2 B i => bk_67_0 d x0 x1 x2 (am_wI B i)), (fun d x0 x1 B i => bk_66_0 d x0 x1 (am_wI B i)), (fun d x0 x1 x2 x3 B i => bk_68_0 d x0 x1 x2 x3 (am_wI B i)), (fun d B i => bk_76_41 d (am_wI B i)), m_inState hM hw hc, m_thr0, t1, t2, g0, g1, e, e2, e5, hM, y_ckd, y_ck2d, y_ond, y_onn, y_oI, y_oIx, y_oJ, y_oV, y_oVx, y_oR, y_oRn, y_oRx, y_b0, y_b1, y_bi, y_bid, y_wIK, y_wIL, y_wII, y_wIJ, y_wIR, y_wIN, y_wIw, y_sI, ↓reduceIte, Nat.reduceEqDiff, eq_self, true_or, or_true, false_or, or_false, and_true, true_and, false_and, and_false, not_true, not_false_eq_true, tf_T, tf_F, y_up1, y_up2, y_xx, y_nx, y_sJ, y_sR, Int32.reduceLT, y_nxK, y_nxL, y_nxR, y_sJK, y_sJL, y_sJR, y_sJN, y_sRK, y_sRL, y_sRN, Nat.add_zero, z_nat, z_lit, z_lit0, z_lit1, z_in0, z_in1, z_addl0, z_lt, z_ltl, z_llt, z_inj, z_injl, z_add, z_addl, z_ladd, z_mul, z_mull, z_lmul, z_neg, z_negl, z_in, z_inl, z_ltT, z_ltF, z_eqF, z_10, z_01, z_litne, z_ne0, z_0ne, z_ne1, z_1ne, z_lt64, z_02, z_03, z_04, z_05, z_12, z_13, z_14, z_15, z_20, z_21, z_23, z_24, z_25, z_30, z_31, z_32, z_34, z_35, z_40, z_41, z_42, z_43, z_45, z_50, z_51, z_52, z_53, z_54]
  · simp (disch := omega) only [(fun d x0 x1 B i => bk_69_0 d x0 x1 (am_wI B i)), m_in, z_pred hc.1, Classical.not_not, (fun d x0 x1 x2 B i => bk_67_0 d x0 x1 x2 (am_wI B i)), (fun d x0 x1 B i => bk_66_0 d x0 x1 (am_wI B i)), (fun d x0 x1 x2 x3 B i => bk_68_0 d x0 x1 x2 x3 (am_wI B i)), (fun d B i => bk_76_41 d (am_wI B i)), m_thr0, t1, t2, g0, e, e2, e5, hM, y_ckd, y_ck2d, y_ond, y_onn, y_oI, y_oIx, y_oJ, y_oV, y_oVx, y_oR, y_oRn, y_oRx, y_b0, y_b1, y_bi, y_bid, y_wIK, y_wIL, y_wII, y_wIJ, y_wIR, y_wIN, y_wIw, y_sI, ↓reduceIte, Nat.reduceEqDiff, eq_self, true_or, or_true, false_or, or_false, and_true, true_and, false_and, and_false, not_true, not_false_eq_true, tf_T, tf_F, y_up1, y_up2, y_xx, y_nx, y_sJ, y_sR, Int32.reduceLT, y_nxK, y_nxL, y_nxR, y_sJK, y_sJL, y_sJR, y_sJN, y_sRK, y_sRL, y_sRN, Nat.add_zero, z_nat, z_lit, z_lit0, z_lit1, z_in0, z_in1, z_addl0, z_lt, z_ltl, z_llt, z_inj, z_injl, z_add, z_addl, z_ladd, z_mul, z_mull, z_lmul, z_neg, z_negl, z_in, z_inl, z_ltT, z_ltF, z_eqF, z_10, z_01, z_litne, z_ne0, z_0ne, z_ne1, z_1ne, z_lt64, z_02, z_03, z_04, z_05, z_12, z_13, z_14, z_15, z_20, z_21, z_23, z_24, z_25, z_30, z_31, z_32, z_34, z_35, z_40, z_41, z_42, z_43, z_45, z_50, z_51, z_52, z_53, z_54]
theorem f_lay {p : Nat} (h : CR B i σ) (hc : isc σ.1 2621 8) (hp : p < cn σ.1 2621) (g0 : σ.1 (2622 + 49 * p) = 0) (g1 : nst σ.1 1 < σ.1 2) : FRs B i ((wu σ.1 (2622 + 49 * p) 1), σ.2) (am_fx am_P (d + 150) 309 0 [some (.ref 64), some (.int (Int32.ofNat p)), none] [] (am_wI B i)) (.inl (some (.int 1))) := by
  have hF : Fc B := h.1.1
  have hY : Yd B 94 := h.1.2.1
  have h8 := hc.2
  have t1 : (Int32.ofNat p < 0) = False := z_neg (by omega)
  have t2 := eq_true (ck_nat hc (by omega) hp).2
  obtain ⟨a1, a2, a3, a4, a5, a6, a7, a8, a9, a10⟩ := h.2.1.2.2.2.1.2 p hp (by omega)
  have e9 := h.2.1.1.2.2.1
  refine FRs_w (i' := (am_up2 i (94 + 212 + 6 * p) 3 1)) h ?_ ?_ (by intros; simp (disch := omega) only [y_up2])
  · rw [bk_309_0]
    simp (disch := omega) only [c_shN hF hY h.2.1.2.2.2.1.1 hc hp, c_onSlips hY h.2.1.2.2.2.1 hc, a1, g0, g1, e9, hF, hY, y_ckd, y_ck2d, y_ond, y_onn, y_oI, y_oIx, y_oJ, y_oV, y_oVx, y_oR, y_oRn, y_oRx, y_b0, y_b1, y_bi, y_bid, y_wIK, y_wIL, y_wII, y_wIJ, y_wIR, y_wIN, y_wIw, y_sI, ↓reduceIte, Nat.reduceEqDiff, eq_self, true_or, or_true, false_or, or_false, and_true, true_and, false_and, and_false, not_true, not_false_eq_true, tf_T, tf_F, y_up1, y_up2, y_xx, y_nx, y_sJ, y_sR, Int32.reduceLT, y_nxK, y_nxL, y_nxR, y_sJK, y_sJL, y_sJR, y_sJN, y_sRK, y_sRL, y_sRN, Nat.add_zero, z_nat, z_lit, z_lit0, z_lit1, z_in0, z_in1, z_addl0, z_lt, z_ltl, z_llt, z_inj, z_injl, z_add, z_addl, z_ladd, z_mul, z_mull, z_lmul, z_neg, z_negl, z_in, z_inl, z_ltT, z_ltF, z_eqF, z_10, z_01, z_litne, z_ne0, z_0ne, z_ne1, z_1ne, z_lt64, z_02, z_03, z_04, z_05, z_12, z_13, z_14, z_15, z_20, z_21, z_23, z_24, z_25, z_30, z_31, z_32, z_34, z_35, z_40, z_41, z_42, z_43, z_45, z_50, z_51, z_52, z_53, z_54]
  · refine Rep_sh h.2.1 (by omega) (by omega) (by intros; simp (disch := omega) only [y_up2]) (by intros; simp (disch := omega) only [wu_ne]) (ShR_8 (h.2.1.2.2.2.1.2 p hp (by omega)) (by intros; simp (disch := omega) only [y_up2]) (by intros; simp (disch := omega) only [wu_ne]) ?_ ?_ ?_ ?_ ?_ ?_ ?_ ?_ ?_)
    all_goals (simp (disch := omega) only [y_up1, y_up2, wu_at, wu_ne]; try assumption)
theorem m_lay {p : Nat} (h : MR B i σ) (hc : isc σ.1 2621 8) (hp : p < cn σ.1 2621) (g0 : σ.1 (2622 + 49 * p) = 0) (g1 : nst σ.1 1 < σ.1 2) : MRs B i ((wu σ.1 (2622 + 49 * p) 1), σ.2) (am_fx am_P (d + 150) 76 0 [some (.ref 874), some (.int (Int32.ofNat p))] [] (am_wI B i)) (some (.int 1)) 0 := by
  have hM : Md B := h.1.1
  have h8 := hc.2
  have t1 : (Int32.ofNat p < 0) = False := z_neg (by omega)
  have t2 := eq_true (ck_nat hc (by omega) hp).2
  have e5 := h.2.1 2621 (by omega)
  have e2 := h.2.1 2 (by omega)
  have e := h.2.1 (2622 + 49 * p) (by omega)
  have hw := up_o (q := 874) (k := 0) (v := 0) (by omega) h.2.1
  refine MRs_w (i' := (am_up2 (am_up2 i 874 0 0) 875 (2622 + 49 * p) 1)) h ?_ (by rw [y_up2 (by omega), y_up1 rfl rfl]) (up_wu (up_o (by omega) h.2.1)) (by intros; simp (disch := omega) only [y_up2])
  rw [bk_76_0]
  simp (disch := omega) only [(fun d x0 x1 B i => bk_69_0 d x0 x1 (am_wI B i)), m_in, z_pred hc.1, Classical.not_not, (fun d x0 x1 x2 B i => bk_67_0 d x0 x1 x2 (am_wI B i)), (fun d x0 x1 B i => bk_66_0 d x0 x1 (am_wI B i)), (fun d x0 x1 x2 x3 B i => bk_68_0 d x0 x1 x2 x3 (am_wI B i)), (fun d B i => bk_76_41 d (am_wI B i)), m_inState hM hw hc, m_thr0, t1, t2, g0, g1, e, e2, e5, hM, y_ckd, y_ck2d, y_ond, y_onn, y_oI, y_oIx, y_oJ, y_oV, y_oVx, y_oR, y_oRn, y_oRx, y_b0, y_b1, y_bi, y_bid, y_wIK, y_wIL, y_wII, y_wIJ, y_wIR, y_wIN, y_wIw, y_sI, ↓reduceIte, Nat.reduceEqDiff, eq_self, true_or, or_true, false_or, or_false, and_true, true_and, false_and, and_false, not_true, not_false_eq_true, tf_T, tf_F, y_up1, y_up2, y_xx, y_nx, y_sJ, y_sR, Int32.reduceLT, y_nxK, y_nxL, y_nxR, y_sJK, y_sJL, y_sJR, y_sJN, y_sRK, y_sRL, y_sRN, Nat.add_zero, z_nat, z_lit, z_lit0, z_lit1, z_in0, z_in1, z_addl0, z_lt, z_ltl, z_llt, z_inj, z_injl, z_add, z_addl, z_ladd, z_mul, z_mull, z_lmul, z_neg, z_negl, z_in, z_inl, z_ltT, z_ltF, z_eqF, z_10, z_01, z_litne, z_ne0, z_0ne, z_ne1, z_1ne, z_lt64, z_02, z_03, z_04, z_05, z_12, z_13, z_14, z_15, z_20, z_21, z_23, z_24, z_25, z_30, z_31, z_32, z_34, z_35, z_40, z_41, z_42, z_43, z_45, z_50, z_51, z_52, z_53, z_54]
theorem k_lay (h : Sim B i σ) (hs : Sc B i L j) (hO : am_K B 892 = 22 ∧ am_L B 892 = 1) : Stq B i d 1403 j := by
  have hc := h.2.2.1.1.2.2.2.1
  have h8 := hc.2
  by_cases g : ¬ i 0 (j + 1) < 0 ∧ i 0 (j + 1) < σ.1 2621
  rotate_left
  · exact kx_17_1 h hs hO (f_lay_x0 (d := d + 48) h.1 g) fun B0 i0 h0 => m_lay_x0 (d := d + 49) h0 hc g
  obtain ⟨p, e, hp⟩ := nat_ck hc (by omega) g
  obtain ⟨b0, b1, b3, b4, b5, b6, b7, b8, b9⟩ := h.2.2.1.2.2.2.2.1.1 p hp (by omega)
  by_cases g0 : σ.1 (2622 + 49 * p) = 0 ∧ nst σ.1 1 < σ.1 2
  · exact kk_17 (σ' := ((wu σ.1 (2622 + 49 * p) 1), σ.2)) h hs hO (SW_now h.2.2 (Wd_sh8 h.2.2.1 hp (by omega) (by intros; simp (disch := omega) only [wu_ne]) (by rw [wu_at rfl]; decide) (by rw [wu_ne (by omega)]; exact b1) (by rw [wu_ne (by omega)]; exact b3) (fun q => absurd q (by rw [wu_at rfl]; decide)) (fun _ => by rw [wu_ne (by omega)]; exact b5 (by rw [g0.1]; decide)) (by rw [wu_ne (by omega)]; exact b6) (by rw [wu_ne (by omega)]; exact b7))) (by rw [e]; exact f_lay (d := d + 48) h.1 hc hp g0.1 g0.2) fun B0 i0 h0 => by rw [e]; exact m_lay (d := d + 49) h0 hc hp g0.1 g0.2
  · exact kk_17 h hs hO h.2.2 (by rw [e]; exact f_lay0 (d := d + 48) h.1 hc hp g0) fun B0 i0 h0 => by rw [e]; exact m_lay0 (d := d + 49) h0 hc hp g0
theorem f_shut_x0 {x : Int32} (h : CR B i σ) (g : ¬ (¬ x < 0 ∧ x < σ.1 2621)) : FRs B i σ (am_fx am_P (d + 150) 321 0 [some (.ref 64), some (.int x), none] [] (am_wI B i)) (.inr 1) := by
  refine FRs_x h ?_
  have hF : Fc B := h.1.1
  have hY : Yd B 94 := h.1.2.1
  rw [bk_321_0]
  simp (disch := omega) only [c_shN0 hF hY h.2.1.2.2.2.1.1 g, hF, hY, y_ckd, y_ck2d, y_ond, y_onn, y_oI, y_oIx, y_oJ, y_oV, y_oVx, y_oR, y_oRn, y_oRx, y_b0, y_b1, y_bi, y_bid, y_wIK, y_wIL, y_wII, y_wIJ, y_wIR, y_wIN, y_wIw, y_sI, ↓reduceIte, Nat.reduceEqDiff, eq_self, true_or, or_true, false_or, or_false, and_true, true_and, false_and, and_false, not_true, not_false_eq_true, tf_T, tf_F, y_up1, y_up2, y_xx, y_nx, y_sJ, y_sR, Int32.reduceLT, y_nxK, y_nxL, y_nxR, y_sJK, y_sJL, y_sJR, y_sJN, y_sRK, y_sRL, y_sRN, Nat.add_zero, z_nat, z_lit, z_lit0, z_lit1, z_in0, z_in1, z_addl0, z_lt, z_ltl, z_llt, z_inj, z_injl, z_add, z_addl, z_ladd, z_mul, z_mull, z_lmul, z_neg, z_negl, z_in, z_inl, z_ltT, z_ltF, z_eqF, z_10, z_01, z_litne, z_ne0, z_0ne, z_ne1, z_1ne, z_lt64, z_02, z_03, z_04, z_05, z_12, z_13, z_14, z_15, z_20, z_21, z_23, z_24, z_25, z_30, z_31, z_32, z_34, z_35, z_40, z_41, z_42, z_43, z_45, z_50, z_51, z_52, z_53, z_54]
theorem m_shut_x0 {x : Int32} (h : MR B i σ) (hc : isc σ.1 2621 8) (g : ¬ (¬ x < 0 ∧ x < σ.1 2621)) : MRs B i σ (am_fx am_P (d + 150) 104 0 [some (.ref 874), some (.int x)] [] (am_wI B i)) (some (.int 0)) 1 := by
  refine MRs_x h ?_
  have hM : Md B := h.1.1
  have e5 := h.2.1 2621 (by omega)
  rw [bk_104_0]
  simp (disch := omega) only [(fun d x0 x1 B i => bk_69_0 d x0 x1 (am_wI B i)), m_in, z_pred hc.1, Classical.not_not, g, m_thr1 hM, e5, hM, y_ckd, y_ck2d, y_ond, y_onn, y_oI, y_oIx, y_oJ, y_oV, y_oVx, y_oR, y_oRn, y_oRx, y_b0, y_b1, y_bi, y_bid, y_wIK, y_wIL, y_wII, y_wIJ, y_wIR, y_wIN, y_wIw, y_sI, ↓reduceIte, Nat.reduceEqDiff, eq_self, true_or, or_true, false_or, or_false, and_true, true_and, false_and, and_false, not_true, not_false_eq_true, tf_T, tf_F, y_up1, y_up2, y_xx, y_nx, y_sJ, y_sR, Int32.reduceLT, y_nxK, y_nxL, y_nxR, y_sJK, y_sJL, y_sJR, y_sJN, y_sRK, y_sRL, y_sRN, Nat.add_zero, z_nat, z_lit, z_lit0, z_lit1, z_in0, z_in1, z_addl0, z_lt, z_ltl, z_llt, z_inj, z_injl, z_add, z_addl, z_ladd, z_mul, z_mull, z_lmul, z_neg, z_negl, z_in, z_inl, z_ltT, z_ltF, z_eqF, z_10, z_01, z_litne, z_ne0, z_0ne, z_ne1, z_1ne, z_lt64, z_02, z_03, z_04, z_05, z_12, z_13, z_14, z_15, z_20, z_21, z_23, z_24, z_25, z_30, z_31, z_32, z_34, z_35, z_40, z_41, z_42, z_43, z_45, z_50, z_51, z_52, z_53, z_54]
theorem f_shut0 {p : Nat} (h : CR B i σ) (hc : isc σ.1 2621 8) (hp : p < cn σ.1 2621) (hn : isc σ.1 (2622 + 49 * p + 8) 8) (hv : ∀ n, n < cn σ.1 (2622 + 49 * p + 8) → n < 8 → σ.1 (2622 + 49 * p + 9 + 5 * n + 4) = -1 ∨ ¬ σ.1 (2622 + 49 * p + 9 + 5 * n + 4) < 0 ∧ σ.1 (2622 + 49 * p + 9 + 5 * n + 4) < σ.1 460) (h4 : isc σ.1 460 120) (g : ¬ (¬ σ.1 (2622 + 49 * p + 6) = 0 ∧ σ.1 (2622 + 49 * p) = 3 ∧ ¬ 80 < wrst σ.1 p)) : FRs B i σ (am_fx am_P (d + 150) 321 0 [some (.ref 64), some (.int (Int32.ofNat p)), none] [] (am_wI B i)) (.inl (some (.int 0))) := by
  refine FRs_0 h ?_
  have hF : Fc B := h.1.1
  have hY : Yd B 94 := h.1.2.1
  have h8 := hc.2
  have t1 : (Int32.ofNat p < 0) = False := z_neg (by omega)
  have t2 := eq_true (ck_nat hc (by omega) hp).2
  obtain ⟨a1, a2, a3, a4, a5, a6, a7, a8, a9, a10⟩ := h.2.1.2.2.2.1.2 p hp (by omega)
  rw [bk_321_0]
  by_cases g0 : σ.1 (2622 + 49 * p + 6) = 0
  · simp (disch := omega) only [c_shN hF hY h.2.1.2.2.2.1.1 hc hp, a1, a7, g0, hF, hY, y_ckd, y_ck2d, y_ond, y_onn, y_oI, y_oIx, y_oJ, y_oV, y_oVx, y_oR, y_oRn, y_oRx, y_b0, y_b1, y_bi, y_bid, y_wIK, y_wIL, y_wII, y_wIJ, y_wIR, y_wIN, y_wIw, y_sI, ↓reduceIte, Nat.reduceEqDiff, eq_self, true_or, or_true, false_or, or_false, and_true, true_and, false_and, and_false, not_true, not_false_eq_true, tf_T, tf_F, y_up1, y_up2, y_xx, y_nx, y_sJ, y_sR, Int32.reduceLT, y_nxK, y_nxL, y_nxR, y_sJK, y_sJL, y_sJR, y_sJN, y_sRK, y_sRL, y_sRN, Nat.add_zero, z_nat, z_lit, z_lit0, z_lit1, z_in0, z_in1, z_addl0, z_lt, z_ltl, z_llt, z_inj, z_injl, z_add, z_addl, z_ladd, z_mul, z_mull, z_lmul, z_neg, z_negl, z_in, z_inl, z_ltT, z_ltF, z_eqF, z_10, z_01, z_litne, z_ne0, z_0ne, z_ne1, z_1ne, z_lt64, z_02, z_03, z_04, z_05, z_12, z_13, z_14, z_15, z_20, z_21, z_23, z_24, z_25, z_30, z_31, z_32, z_34, z_35, z_40, z_41, z_42, z_43, z_45, z_50, z_51, z_52, z_53, z_54]
  by_cases g1 : σ.1 (2622 + 49 * p) = 3
  rotate_left
  · simp (disch := omega) only [c_shN hF hY h.2.1.2.2.2.1.1 hc hp, a1, a7, g0, g1, hF, hY, y_ckd, y_ck2d, y_ond, y_onn, y_oI, y_oIx, y_oJ, y_oV, y_oVx, y_oR, y_oRn, y_oRx, y_b0, y_b1, y_bi, y_bid, y_wIK, y_wIL, y_wII, y_wIJ, y_wIR, y_wIN, y_wIw, y_sI, ↓reduceIte, Nat.reduceEqDiff, eq_self, true_or, or_true, false_or, or_false, and_true, true_and, false_and, and_false, not_true, not_false_eq_true, tf_T, tf_F, y_up1, y_up2, y_xx, y_nx, y_sJ, y_sR, Int32.reduceLT, y_nxK, y_nxL, y_nxR, y_sJK, y_sJL, y_sJR, y_sJN, y_sRK, y_sRL, y_sRN, Nat.add_zero, z_nat, z_lit, z_lit0, z_lit1, z_in0, z_in1, z_addl0, z_lt, z_ltl, z_llt, z_inj, z_injl, z_add, z_addl, z_ladd, z_mul, z_mull, z_lmul, z_neg, z_negl, z_in, z_inl, z_ltT, z_ltF, z_eqF, z_10, z_01, z_litne, z_ne0, z_0ne, z_ne1, z_1ne, z_lt64, z_02, z_03, z_04, z_05, z_12, z_13, z_14, z_15, z_20, z_21, z_23, z_24, z_25, z_30, z_31, z_32, z_34, z_35, z_40, z_41, z_42, z_43, z_45, z_50, z_51, z_52, z_53, z_54]
  have g2 : 80 < wrst σ.1 p := Decidable.byContradiction fun q => g ⟨g0, g1, q⟩
  simp (disch := omega) only [c_shN hF hY h.2.1.2.2.2.1.1 hc hp, a1, a7, c_worst hY h.2.1.2.2.2.1 hc hp hn h.2.1.2.2.1 h4 hv, g0, g1, g2, hF, hY, y_ckd, y_ck2d, y_ond, y_onn, y_oI, y_oIx, y_oJ, y_oV, y_oVx, y_oR, y_oRn, y_oRx, y_b0, y_b1, y_bi, y_bid, y_wIK, y_wIL, y_wII, y_wIJ, y_wIR, y_wIN, y_wIw, y_sI, ↓reduceIte, Nat.reduceEqDiff, eq_self, true_or, or_true, false_or, or_false, and_true, true_and, false_and, and_false, not_true, not_false_eq_true, tf_T, tf_F, y_up1, y_up2, y_xx, y_nx, y_sJ, y_sR, Int32.reduceLT, y_nxK, y_nxL, y_nxR, y_sJK, y_sJL, y_sJR, y_sJN, y_sRK, y_sRL, y_sRN, Nat.add_zero, z_nat, z_lit, z_lit0, z_lit1, z_in0, z_in1, z_addl0, z_lt, z_ltl, z_llt, z_inj, z_injl, z_add, z_addl, z_ladd, z_mul, z_mull, z_lmul, z_neg, z_negl, z_in, z_inl, z_ltT, z_ltF, z_eqF, z_10, z_01, z_litne, z_ne0, z_0ne, z_ne1, z_1ne, z_lt64, z_02, z_03, z_04, z_05, z_12, z_13, z_14, z_15, z_20, z_21, z_23, z_24, z_25, z_30, z_31, z_32, z_34, z_35, z_40, z_41, z_42, z_43, z_45, z_50, z_51, z_52, z_53, z_54]
theorem m_shut0 {p : Nat} (h : MR B i σ) (hc : isc σ.1 2621 8) (hp : p < cn σ.1 2621) (hn : isc σ.1 (2622 + 49 * p + 8) 8) (hv : ∀ n, n < cn σ.1 (2622 + 49 * p + 8) → n < 8 → σ.1 (2622 + 49 * p + 9 + 5 * n + 4) = -1 ∨ ¬ σ.1 (2622 + 49 * p + 9 + 5 * n + 4) < 0 ∧ σ.1 (2622 + 49 * p + 9 + 5 * n + 4) < σ.1 460) (h4 : isc σ.1 460 120) (g : ¬ (¬ σ.1 (2622 + 49 * p + 6) = 0 ∧ σ.1 (2622 + 49 * p) = 3 ∧ ¬ 80 < wrst σ.1 p)) : MRs B i σ (am_fx am_P (d + 150) 104 0 [some (.ref 874), some (.int (Int32.ofNat p))] [] (am_wI B i)) (some (.int 0)) 0 := by
  refine MRs_0 h ?_
  have hM : Md B := h.1.1
  have h8 := hc.2
  have t1 : (Int32.ofNat p < 0) = False := z_neg (by omega)
  have t2 := eq_true (ck_nat hc (by omega) hp).2
  have e5 := h.2.1 2621 (by omega)
  have e := h.2.1 (2622 + 49 * p) (by omega)
  have e6 := h.2.1 (2622 + 49 * p + 6) (by omega)
  have hw := up_o (q := 874) (k := 0) (v := 0) (by omega) h.2.1
  rw [bk_104_0]
  by_cases g0 : σ.1 (2622 + 49 * p + 6) = 0
  · simp (disch := omega) only [(fun d x0 x1 B i => bk_69_0 d x0 x1 (am_wI B i)), m_in, z_pred hc.1, Classical.not_not, (fun d x0 x1 x2 B i => bk_67_0 d x0 x1 x2 (am_wI B i)), (fun d x0 x1 B i => bk_66_0 d x0 x1 (am_wI B i)), (fun d x0 x1 x2 x3 B i => bk_68_0 d x0 x1 x2 x3 (am_wI B i)), (fun d x0 x1 B i => bk_104_38 d x0 x1 (am_wI B i)), m_thr0, t1, t2, e, e6, e5, hM, g0, y_ckd, y_ck2d, y_ond, y_onn, y_oI, y_oIx, y_oJ, y_oV, y_oVx, y_oR, y_oRn, y_oRx, y_b0, y_b1, y_bi, y_bid, y_wIK, y_wIL, y_wII, y_wIJ, y_wIR, y_wIN, y_wIw, y_sI, ↓reduceIte, Nat.reduceEqDiff, eq_self, true_or, or_true, false_or, or_false, and_true, true_and, false_and, and_false, not_true, not_false_eq_true, tf_T, tf_F, y_up1, y_up2, y_xx, y_nx, y_sJ, y_sR, Int32.reduceLT, y_nxK, y_nxL, y_nxR, y_sJK, y_sJL, y_sJR, y_sJN, y_sRK, y_sRL, y_sRN, Nat.add_zero, z_nat, z_lit, z_lit0, z_lit1, z_in0, z_in1, z_addl0, z_lt, z_ltl, z_llt, z_inj, z_injl, z_add, z_addl, z_ladd, z_mul, z_mull, z_lmul, z_neg, z_negl, z_in, z_inl, z_ltT, z_ltF, z_eqF, z_10, z_01, z_litne, z_ne0, z_0ne, z_ne1, z_1ne, z_lt64, z_02, z_03, z_04, z_05, z_12, z_13, z_14, z_15, z_20, z_21, z_23, z_24, z_25, z_30, z_31, z_32, z_34, z_35, z_40, z_41, z_42, z_43, z_45, z_50, z_51, z_52, z_53, z_54]
  by_cases g1 : σ.1 (2622 + 49 * p) = 3
  rotate_left
  · simp (disch := omega) only [(fun d x0 x1 B i => bk_69_0 d x0 x1 (am_wI B i)), m_in, z_pred hc.1, Classical.not_not, (fun d x0 x1 x2 B i => bk_67_0 d x0 x1 x2 (am_wI B i)), (fun d x0 x1 B i => bk_66_0 d x0 x1 (am_wI B i)), (fun d x0 x1 x2 x3 B i => bk_68_0 d x0 x1 x2 x3 (am_wI B i)), (fun d x0 x1 B i => bk_104_38 d x0 x1 (am_wI B i)), m_thr0, t1, t2, e, e6, e5, hM, g0, g1, y_ckd, y_ck2d, y_ond, y_onn, y_oI, y_oIx, y_oJ, y_oV, y_oVx, y_oR, y_oRn, y_oRx, y_b0, y_b1, y_bi, y_bid, y_wIK, y_wIL, y_wII, y_wIJ, y_wIR, y_wIN, y_wIw, y_sI, ↓reduceIte, Nat.reduceEqDiff, eq_self, true_or, or_true, false_or, or_false, and_true, true_and, false_and, and_false, not_true, not_false_eq_true, tf_T, tf_F, y_up1, y_up2, y_xx, y_nx, y_sJ, y_sR, Int32.reduceLT, y_nxK, y_nxL, y_nxR, y_sJK, y_sJL, y_sJR, y_sJN, y_sRK, y_sRL, y_sRN, Nat.add_zero, z_nat, z_lit, z_lit0, z_lit1, z_in0, z_in1, z_addl0, z_lt, z_ltl, z_llt, z_inj, z_injl, z_add, z_addl, z_ladd, z_mul, z_mull, z_lmul, z_neg, z_negl, z_in, z_inl, z_ltT, z_ltF, z_eqF, z_10, z_01, z_litne, z_ne0, z_0ne, z_ne1, z_1ne, z_lt64, z_02, z_03, z_04, z_05, z_12, z_13, z_14, z_15, z_20, z_21, z_23, z_24, z_25, z_30, z_31, z_32, z_34, z_35, z_40, z_41, z_42, z_43, z_45, z_50, z_51, z_52, z_53, z_54]
  have g2 : 80 < wrst σ.1 p := Decidable.byContradiction fun q => g ⟨g0, g1, q⟩
  simp (disch := omega) only [(fun d x0 x1 B i => bk_69_0 d x0 x1 (am_wI B i)), m_in, z_pred hc.1, Classical.not_not, (fun d x0 x1 x2 B i => bk_67_0 d x0 x1 x2 (am_wI B i)), (fun d x0 x1 B i => bk_66_0 d x0 x1 (am_wI B i)), (fun d x0 x1 x2 x3 B i => bk_68_0 d x0 x1 x2 x3 (am_wI B i)), (fun d x0 x1 B i => bk_104_38 d x0 x1 (am_wI B i)), m_thr0, t1, t2, e, e6, e5, hM, m_worstOf hM hw hc hp hn hv h4, g0, g1, g2, y_ckd, y_ck2d, y_ond, y_onn, y_oI, y_oIx, y_oJ, y_oV, y_oVx, y_oR, y_oRn, y_oRx, y_b0, y_b1, y_bi, y_bid, y_wIK, y_wIL, y_wII, y_wIJ, y_wIR, y_wIN, y_wIw, y_sI, ↓reduceIte, Nat.reduceEqDiff, eq_self, true_or, or_true, false_or, or_false, and_true, true_and, false_and, and_false, not_true, not_false_eq_true, tf_T, tf_F, y_up1, y_up2, y_xx, y_nx, y_sJ, y_sR, Int32.reduceLT, y_nxK, y_nxL, y_nxR, y_sJK, y_sJL, y_sJR, y_sJN, y_sRK, y_sRL, y_sRN, Nat.add_zero, z_nat, z_lit, z_lit0, z_lit1, z_in0, z_in1, z_addl0, z_lt, z_ltl, z_llt, z_inj, z_injl, z_add, z_addl, z_ladd, z_mul, z_mull, z_lmul, z_neg, z_negl, z_in, z_inl, z_ltT, z_ltF, z_eqF, z_10, z_01, z_litne, z_ne0, z_0ne, z_ne1, z_1ne, z_lt64, z_02, z_03, z_04, z_05, z_12, z_13, z_14, z_15, z_20, z_21, z_23, z_24, z_25, z_30, z_31, z_32, z_34, z_35, z_40, z_41, z_42, z_43, z_45, z_50, z_51, z_52, z_53, z_54]
theorem f_shut {p : Nat} (h : CR B i σ) (hc : isc σ.1 2621 8) (hp : p < cn σ.1 2621) (hn : isc σ.1 (2622 + 49 * p + 8) 8) (hv : ∀ n, n < cn σ.1 (2622 + 49 * p + 8) → n < 8 → σ.1 (2622 + 49 * p + 9 + 5 * n + 4) = -1 ∨ ¬ σ.1 (2622 + 49 * p + 9 + 5 * n + 4) < 0 ∧ σ.1 (2622 + 49 * p + 9 + 5 * n + 4) < σ.1 460) (h4 : isc σ.1 460 120) (g0 : ¬ σ.1 (2622 + 49 * p + 6) = 0) (g1 : σ.1 (2622 + 49 * p) = 3) (g2 : ¬ 80 < wrst σ.1 p) : FRs B i ((wu σ.1 (2622 + 49 * p + 6) 0), σ.2) (am_fx am_P (d + 150) 321 0 [some (.ref 64), some (.int (Int32.ofNat p)), none] [] (am_wI B i)) (.inl (some (.int 1))) := by
  have hF : Fc B := h.1.1
  have hY : Yd B 94 := h.1.2.1
  have h8 := hc.2
  have t1 : (Int32.ofNat p < 0) = False := z_neg (by omega)
  have t2 := eq_true (ck_nat hc (by omega) hp).2
  obtain ⟨a1, a2, a3, a4, a5, a6, a7, a8, a9, a10⟩ := h.2.1.2.2.2.1.2 p hp (by omega)
  refine FRs_w (i' := (am_up2 i (94 + 212 + 6 * p) 6 0)) h ?_ ?_ (by intros; simp (disch := omega) only [y_up2])
  · rw [bk_321_0]
    simp (disch := omega) only [c_shN hF hY h.2.1.2.2.2.1.1 hc hp, a1, a7, c_worst hY h.2.1.2.2.2.1 hc hp hn h.2.1.2.2.1 h4 hv, g0, g1, g2, hF, hY, y_ckd, y_ck2d, y_ond, y_onn, y_oI, y_oIx, y_oJ, y_oV, y_oVx, y_oR, y_oRn, y_oRx, y_b0, y_b1, y_bi, y_bid, y_wIK, y_wIL, y_wII, y_wIJ, y_wIR, y_wIN, y_wIw, y_sI, ↓reduceIte, Nat.reduceEqDiff, eq_self, true_or, or_true, false_or, or_false, and_true, true_and, false_and, and_false, not_true, not_false_eq_true, tf_T, tf_F, y_up1, y_up2, y_xx, y_nx, y_sJ, y_sR, Int32.reduceLT, y_nxK, y_nxL, y_nxR, y_sJK, y_sJL, y_sJR, y_sJN, y_sRK, y_sRL, y_sRN, Nat.add_zero, z_nat, z_lit, z_lit0, z_lit1, z_in0, z_in1, z_addl0, z_lt, z_ltl, z_llt, z_inj, z_injl, z_add, z_addl, z_ladd, z_mul, z_mull, z_lmul, z_neg, z_negl, z_in, z_inl, z_ltT, z_ltF, z_eqF, z_10, z_01, z_litne, z_ne0, z_0ne, z_ne1, z_1ne, z_lt64, z_02, z_03, z_04, z_05, z_12, z_13, z_14, z_15, z_20, z_21, z_23, z_24, z_25, z_30, z_31, z_32, z_34, z_35, z_40, z_41, z_42, z_43, z_45, z_50, z_51, z_52, z_53, z_54]
  · refine Rep_sh h.2.1 (by omega) (by omega) (by intros; simp (disch := omega) only [y_up2]) (by intros; simp (disch := omega) only [wu_ne]) (ShR_8 (h.2.1.2.2.2.1.2 p hp (by omega)) (by intros; simp (disch := omega) only [y_up2]) (by intros; simp (disch := omega) only [wu_ne]) ?_ ?_ ?_ ?_ ?_ ?_ ?_ ?_ ?_)
    all_goals (simp (disch := omega) only [y_up1, y_up2, wu_at, wu_ne]; try assumption)
theorem m_shut {p : Nat} (h : MR B i σ) (hc : isc σ.1 2621 8) (hp : p < cn σ.1 2621) (hn : isc σ.1 (2622 + 49 * p + 8) 8) (hv : ∀ n, n < cn σ.1 (2622 + 49 * p + 8) → n < 8 → σ.1 (2622 + 49 * p + 9 + 5 * n + 4) = -1 ∨ ¬ σ.1 (2622 + 49 * p + 9 + 5 * n + 4) < 0 ∧ σ.1 (2622 + 49 * p + 9 + 5 * n + 4) < σ.1 460) (h4 : isc σ.1 460 120) (g0 : ¬ σ.1 (2622 + 49 * p + 6) = 0) (g1 : σ.1 (2622 + 49 * p) = 3) (g2 : ¬ 80 < wrst σ.1 p) : MRs B i ((wu σ.1 (2622 + 49 * p + 6) 0), σ.2) (am_fx am_P (d + 150) 104 0 [some (.ref 874), some (.int (Int32.ofNat p))] [] (am_wI B i)) (some (.int 1)) 0 := by
  have hM : Md B := h.1.1
  have h8 := hc.2
  have t1 : (Int32.ofNat p < 0) = False := z_neg (by omega)
  have t2 := eq_true (ck_nat hc (by omega) hp).2
  have e5 := h.2.1 2621 (by omega)
  have e := h.2.1 (2622 + 49 * p) (by omega)
  have e6 := h.2.1 (2622 + 49 * p + 6) (by omega)
  have hw := up_o (q := 874) (k := 0) (v := 0) (by omega) h.2.1
  refine MRs_w (i' := (am_up2 (am_up2 i 874 0 0) 875 (2622 + 49 * p + 6) 0)) h ?_ (by rw [y_up2 (by omega), y_up1 rfl rfl]) (up_wu (up_o (by omega) h.2.1)) (by intros; simp (disch := omega) only [y_up2])
  rw [bk_104_0]
  simp (disch := omega) only [(fun d x0 x1 B i => bk_69_0 d x0 x1 (am_wI B i)), m_in, z_pred hc.1, Classical.not_not, (fun d x0 x1 x2 B i => bk_67_0 d x0 x1 x2 (am_wI B i)), (fun d x0 x1 B i => bk_66_0 d x0 x1 (am_wI B i)), (fun d x0 x1 x2 x3 B i => bk_68_0 d x0 x1 x2 x3 (am_wI B i)), (fun d x0 x1 B i => bk_104_38 d x0 x1 (am_wI B i)), m_thr0, t1, t2, e, e6, e5, hM, m_worstOf hM hw hc hp hn hv h4, g0, g1, g2, y_ckd, y_ck2d, y_ond, y_onn, y_oI, y_oIx, y_oJ, y_oV, y_oVx, y_oR, y_oRn, y_oRx, y_b0, y_b1, y_bi, y_bid, y_wIK, y_wIL, y_wII, y_wIJ, y_wIR, y_wIN, y_wIw, y_sI, ↓reduceIte, Nat.reduceEqDiff, eq_self, true_or, or_true, false_or, or_false, and_true, true_and, false_and, and_false, not_true, not_false_eq_true, tf_T, tf_F, y_up1, y_up2, y_xx, y_nx, y_sJ, y_sR, Int32.reduceLT, y_nxK, y_nxL, y_nxR, y_sJK, y_sJL, y_sJR, y_sJN, y_sRK, y_sRL, y_sRN, Nat.add_zero, z_nat, z_lit, z_lit0, z_lit1, z_in0, z_in1, z_addl0, z_lt, z_ltl, z_llt, z_inj, z_injl, z_add, z_addl, z_ladd, z_mul, z_mull, z_lmul, z_neg, z_negl, z_in, z_inl, z_ltT, z_ltF, z_eqF, z_10, z_01, z_litne, z_ne0, z_0ne, z_ne1, z_1ne, z_lt64, z_02, z_03, z_04, z_05, z_12, z_13, z_14, z_15, z_20, z_21, z_23, z_24, z_25, z_30, z_31, z_32, z_34, z_35, z_40, z_41, z_42, z_43, z_45, z_50, z_51, z_52, z_53, z_54]
theorem k_shut (h : Sim B i σ) (hs : Sc B i L j) (hO : am_K B 892 = 22 ∧ am_L B 892 = 1) : Stq B i d 2326 j := by
  have hc := h.2.2.1.1.2.2.2.1
  have h8 := hc.2
  by_cases g : ¬ i 0 (j + 1) < 0 ∧ i 0 (j + 1) < σ.1 2621
  rotate_left
  · exact kx_29_1 h hs hO (f_shut_x0 (d := d + 48) h.1 g) fun B0 i0 h0 => m_shut_x0 (d := d + 49) h0 hc g
  obtain ⟨p, e, hp⟩ := nat_ck hc (by omega) g
  obtain ⟨b0, b1, b3, b4, b5, b6, b7, b8, b9⟩ := h.2.2.1.2.2.2.2.1.1 p hp (by omega)
  have h4 := h.2.2.1.1.2.2.1
  have hv := fun n h1 h2 => (b9 n h1 h2).2
  by_cases g0 : ¬ σ.1 (2622 + 49 * p + 6) = 0 ∧ σ.1 (2622 + 49 * p) = 3 ∧ ¬ 80 < wrst σ.1 p
  · exact kk_29 (σ' := ((wu σ.1 (2622 + 49 * p + 6) 0), σ.2)) h hs hO (SW_now h.2.2 (Wd_sh8 h.2.2.1 hp (by omega) (by intros; simp (disch := omega) only [wu_ne]) (by rw [wu_ne (by omega)]; exact b0) (by rw [wu_ne (by omega)]; exact b1) (by rw [wu_ne (by omega)]; exact b3) (fun q => by rw [wu_ne (by omega)] at q ⊢; exact b4 q) (fun q => by rw [wu_ne (by omega)] at q ⊢; exact b5 q) (Or.inl (wu_at rfl)) (by rw [wu_ne (by omega)]; exact b7))) (by rw [e]; exact f_shut (d := d + 48) h.1 hc hp b8 hv h4 g0.1 g0.2.1 g0.2.2) fun B0 i0 h0 => by rw [e]; exact m_shut (d := d + 49) h0 hc hp b8 hv h4 g0.1 g0.2.1 g0.2.2
  · exact kk_29 h hs hO h.2.2 (by rw [e]; exact f_shut0 (d := d + 48) h.1 hc hp b8 hv h4 g0) fun B0 i0 h0 => by rw [e]; exact m_shut0 (d := d + 49) h0 hc hp b8 hv h4 g0
theorem f_works_x0 (h : CR B i σ) (g : ¬ (¬ x < 0 ∧ x < σ.1 3019)) : FRs B i σ (am_fx am_P (d + 150) 327 0 [some (.ref 64), some (.int x), some (.int y), none] [] (am_wI B i)) (.inr 1) := by
  refine FRs_x h ?_
  have hF : Fc B := h.1.1
  have hY : Yd B 94 := h.1.2.1
  have e5 := h.2.1.2.2.2.2.1.1
  rw [bk_327_0]
  simp (disch := omega) only [c_ckI0 g, e5, hF, hY, y_ckd, y_ck2d, y_ond, y_onn, y_oI, y_oIx, y_oJ, y_oV, y_oVx, y_oR, y_oRn, y_oRx, y_b0, y_b1, y_bi, y_bid, y_wIK, y_wIL, y_wII, y_wIJ, y_wIR, y_wIN, y_wIw, y_sI, ↓reduceIte, Nat.reduceEqDiff, eq_self, true_or, or_true, false_or, or_false, and_true, true_and, false_and, and_false, not_true, not_false_eq_true, tf_T, tf_F, y_up1, y_up2, y_xx, y_nx, y_sJ, y_sR, Int32.reduceLT, y_nxK, y_nxL, y_nxR, y_sJK, y_sJL, y_sJR, y_sJN, y_sRK, y_sRL, y_sRN, Nat.add_zero, z_nat, z_lit, z_lit0, z_lit1, z_in0, z_in1, z_addl0, z_lt, z_ltl, z_llt, z_inj, z_injl, z_add, z_addl, z_ladd, z_mul, z_mull, z_lmul, z_neg, z_negl, z_in, z_inl, z_ltT, z_ltF, z_eqF, z_10, z_01, z_litne, z_ne0, z_0ne, z_ne1, z_1ne, z_lt64, z_02, z_03, z_04, z_05, z_12, z_13, z_14, z_15, z_20, z_21, z_23, z_24, z_25, z_30, z_31, z_32, z_34, z_35, z_40, z_41, z_42, z_43, z_45, z_50, z_51, z_52, z_53, z_54]
theorem m_works_x0 (h : MR B i σ) (hg : isc σ.1 3019 8) (g : ¬ (¬ x < 0 ∧ x < σ.1 3019)) : MRs B i σ (am_fx am_P (d + 150) 112 0 [some (.ref 874), some (.int x), some (.int y), none] [] (am_wI B i)) (some (.int 0)) 1 := by
  refine MRs_x h ?_
  have hM : Md B := h.1.1
  have e5 := h.2.1 3019 (by omega)
  rw [bk_112_0]
  simp (disch := omega) only [(fun d x0 x1 B i => bk_110_0 d x0 x1 (am_wI B i)), (fun d x0 x1 x2 s0 s1 B i => bk_112_32 d x0 x1 x2 s0 s1 (am_wI B i)), m_in, z_pred hg.1, Classical.not_not, g, m_thr1 hM, e5, hM, y_ckd, y_ck2d, y_ond, y_onn, y_oI, y_oIx, y_oJ, y_oV, y_oVx, y_oR, y_oRn, y_oRx, y_b0, y_b1, y_bi, y_bid, y_wIK, y_wIL, y_wII, y_wIJ, y_wIR, y_wIN, y_wIw, y_sI, ↓reduceIte, Nat.reduceEqDiff, eq_self, true_or, or_true, false_or, or_false, and_true, true_and, false_and, and_false, not_true, not_false_eq_true, tf_T, tf_F, y_up1, y_up2, y_xx, y_nx, y_sJ, y_sR, Int32.reduceLT, y_nxK, y_nxL, y_nxR, y_sJK, y_sJL, y_sJR, y_sJN, y_sRK, y_sRL, y_sRN, Nat.add_zero, z_nat, z_lit, z_lit0, z_lit1, z_in0, z_in1, z_addl0, z_lt, z_ltl, z_llt, z_inj, z_injl, z_add, z_addl, z_ladd, z_mul, z_mull, z_lmul, z_neg, z_negl, z_in, z_inl, z_ltT, z_ltF, z_eqF, z_10, z_01, z_litne, z_ne0, z_0ne, z_ne1, z_1ne, z_lt64, z_02, z_03, z_04, z_05, z_12, z_13, z_14, z_15, z_20, z_21, z_23, z_24, z_25, z_30, z_31, z_32, z_34, z_35, z_40, z_41, z_42, z_43, z_45, z_50, z_51, z_52, z_53, z_54]
theorem f_works_x1 {p : Nat} (h : CR B i σ) (hg : isc σ.1 3019 8) (hp : p < cn σ.1 3019) (g0 : ¬ y = -1) (g : ¬ (¬ y < 0 ∧ y < σ.1 2621)) : FRs B i σ (am_fx am_P (d + 150) 327 0 [some (.ref 64), some (.int (Int32.ofNat p)), some (.int y), none] [] (am_wI B i)) (.inr 1) := by
  refine FRs_x h ?_
  have hF : Fc B := h.1.1
  have hY : Yd B 94 := h.1.2.1
  have e5 := h.2.1.2.2.2.2.1.1
  have e8 := h.2.1.2.2.2.1.1
  rw [bk_327_0]
  simp (disch := omega) only [c_ckI1 (ck_nat hg (by omega) hp), c_ckI0 g, g0, e5, e8, hF, hY, y_ckd, y_ck2d, y_ond, y_onn, y_oI, y_oIx, y_oJ, y_oV, y_oVx, y_oR, y_oRn, y_oRx, y_b0, y_b1, y_bi, y_bid, y_wIK, y_wIL, y_wII, y_wIJ, y_wIR, y_wIN, y_wIw, y_sI, ↓reduceIte, Nat.reduceEqDiff, eq_self, true_or, or_true, false_or, or_false, and_true, true_and, false_and, and_false, not_true, not_false_eq_true, tf_T, tf_F, y_up1, y_up2, y_xx, y_nx, y_sJ, y_sR, Int32.reduceLT, y_nxK, y_nxL, y_nxR, y_sJK, y_sJL, y_sJR, y_sJN, y_sRK, y_sRL, y_sRN, Nat.add_zero, z_nat, z_lit, z_lit0, z_lit1, z_in0, z_in1, z_addl0, z_lt, z_ltl, z_llt, z_inj, z_injl, z_add, z_addl, z_ladd, z_mul, z_mull, z_lmul, z_neg, z_negl, z_in, z_inl, z_ltT, z_ltF, z_eqF, z_10, z_01, z_litne, z_ne0, z_0ne, z_ne1, z_1ne, z_lt64, z_02, z_03, z_04, z_05, z_12, z_13, z_14, z_15, z_20, z_21, z_23, z_24, z_25, z_30, z_31, z_32, z_34, z_35, z_40, z_41, z_42, z_43, z_45, z_50, z_51, z_52, z_53, z_54]
theorem m_works_x1 {p : Nat} (h : MR B i σ) (hg : isc σ.1 3019 8) (hc : isc σ.1 2621 8) (hp : p < cn σ.1 3019) (g0 : ¬ y = -1) (g : ¬ (¬ y < 0 ∧ y < σ.1 2621)) : MRs B i σ (am_fx am_P (d + 150) 112 0 [some (.ref 874), some (.int (Int32.ofNat p)), some (.int y), none] [] (am_wI B i)) (some (.int 0)) 1 := by
  refine MRs_x h ?_
  have hM : Md B := h.1.1
  have e5 := h.2.1 3019 (by omega)
  have e8 := h.2.1 2621 (by omega)
  have g8 := hg.2
  have t1 : (Int32.ofNat p < 0) = False := z_neg (by omega)
  have t2 := eq_true (ck_nat hg (by omega) hp).2
  rw [bk_112_0]
  simp (disch := omega) only [(fun d x0 x1 B i => bk_110_0 d x0 x1 (am_wI B i)), (fun d x0 x1 B i => bk_69_0 d x0 x1 (am_wI B i)), (fun d x0 x1 x2 s0 s1 B i => bk_112_32 d x0 x1 x2 s0 s1 (am_wI B i)), m_in, z_pred hg.1, z_pred hc.1, Classical.not_not, t1, t2, g0, g, m_thr1 hM, e5, e8, hM, y_ckd, y_ck2d, y_ond, y_onn, y_oI, y_oIx, y_oJ, y_oV, y_oVx, y_oR, y_oRn, y_oRx, y_b0, y_b1, y_bi, y_bid, y_wIK, y_wIL, y_wII, y_wIJ, y_wIR, y_wIN, y_wIw, y_sI, ↓reduceIte, Nat.reduceEqDiff, eq_self, true_or, or_true, false_or, or_false, and_true, true_and, false_and, and_false, not_true, not_false_eq_true, tf_T, tf_F, y_up1, y_up2, y_xx, y_nx, y_sJ, y_sR, Int32.reduceLT, y_nxK, y_nxL, y_nxR, y_sJK, y_sJL, y_sJR, y_sJN, y_sRK, y_sRL, y_sRN, Nat.add_zero, z_nat, z_lit, z_lit0, z_lit1, z_in0, z_in1, z_addl0, z_lt, z_ltl, z_llt, z_inj, z_injl, z_add, z_addl, z_ladd, z_mul, z_mull, z_lmul, z_neg, z_negl, z_in, z_inl, z_ltT, z_ltF, z_eqF, z_10, z_01, z_litne, z_ne0, z_0ne, z_ne1, z_1ne, z_lt64, z_02, z_03, z_04, z_05, z_12, z_13, z_14, z_15, z_20, z_21, z_23, z_24, z_25, z_30, z_31, z_32, z_34, z_35, z_40, z_41, z_42, z_43, z_45, z_50, z_51, z_52, z_53, z_54]
theorem f_works0n {p : Nat} (h : CR B i σ) (hg : isc σ.1 3019 8) (hp : p < cn σ.1 3019) (gy : σ.1 (3020 + 2 * p + 1) = y) (hy : y = -1) : FRs B i ((wu σ.1 (3020 + 2 * p + 1) y), σ.2) (am_fx am_P (d + 150) 327 0 [some (.ref 64), some (.int (Int32.ofNat p)), some (.int y), none] [] (am_wI B i)) (.inl (some (.int 0))) := by
  have hF : Fc B := h.1.1
  have hY : Yd B 94 := h.1.2.1
  subst hy
  have e5 := h.2.1.2.2.2.2.1.1
  have e8 := h.2.1.2.2.2.1.1
  have g8 := hg.2
  have e1 := (h.2.1.2.2.2.2.1.2 p hp (by omega)).2
  refine FRs_w (i' := am_up2 i (94 + 6) p (-1)) h ?_ ?_ (by intros; simp (disch := omega) only [y_up2])
  · rw [bk_327_0]
    simp (disch := omega) only [c_ckI1 (ck_nat hg (by omega) hp), (fun d x0 x1 x2 B i => bk_327_27 d x0 x1 x2 (am_wI B i)), (fun d x0 x1 x2 s0 B i => bk_327_45 d x0 x1 x2 s0 (am_wI B i)), gy, e1, e5, e8, hF, hY, y_ckd, y_ck2d, y_ond, y_onn, y_oI, y_oIx, y_oJ, y_oV, y_oVx, y_oR, y_oRn, y_oRx, y_b0, y_b1, y_bi, y_bid, y_wIK, y_wIL, y_wII, y_wIJ, y_wIR, y_wIN, y_wIw, y_sI, ↓reduceIte, Nat.reduceEqDiff, eq_self, true_or, or_true, false_or, or_false, and_true, true_and, false_and, and_false, not_true, not_false_eq_true, tf_T, tf_F, y_up1, y_up2, y_xx, y_nx, y_sJ, y_sR, Int32.reduceLT, y_nxK, y_nxL, y_nxR, y_sJK, y_sJL, y_sJR, y_sJN, y_sRK, y_sRL, y_sRN, Nat.add_zero, z_nat, z_lit, z_lit0, z_lit1, z_in0, z_in1, z_addl0, z_lt, z_ltl, z_llt, z_inj, z_injl, z_add, z_addl, z_ladd, z_mul, z_mull, z_lmul, z_neg, z_negl, z_in, z_inl, z_ltT, z_ltF, z_eqF, z_10, z_01, z_litne, z_ne0, z_0ne, z_ne1, z_1ne, z_lt64, z_02, z_03, z_04, z_05, z_12, z_13, z_14, z_15, z_20, z_21, z_23, z_24, z_25, z_30, z_31, z_32, z_34, z_35, z_40, z_41, z_42, z_43, z_45, z_50, z_51, z_52, z_53, z_54]
  · refine Rep_gang h.2.1 (Le.rf B) (by omega) rfl ?_ (by intros; simp (disch := omega) only [y_up2]) (by intros; simp (disch := omega) only [y_upr]) (by intros; simp (disch := omega) only [wu_ne])
    obtain ⟨r1, r2⟩ := h.2.1.2.2.2.2.1
    refine ⟨by rw [y_up2 (by omega), wu_ne (by omega)]; exact r1, fun q hq q8 => ?_⟩
    have eq : cn (wu σ.1 (3020 + 2 * p + 1) (-1)) 3019 = cn σ.1 3019 := by unfold cn; rw [wu_ne (by omega)]
    rw [eq] at hq
    refine ⟨by rw [y_up2 (by omega), wu_ne (by omega)]; exact (r2 q hq q8).1, ?_⟩
    by_cases ek : q = p
    · rw [y_up1 rfl ek, wu_at (by omega)]
    · rw [y_up2 (by omega), wu_ne (by omega)]
      exact (r2 q hq q8).2
theorem m_works0n {p : Nat} (h : MR B i σ) (hg : isc σ.1 3019 8) (hc : isc σ.1 2621 8) (hp : p < cn σ.1 3019) (gy : σ.1 (3020 + 2 * p + 1) = y) (hy : y = -1) : MRs B i ((wu σ.1 (3020 + 2 * p + 1) y), σ.2) (am_fx am_P (d + 150) 112 0 [some (.ref 874), some (.int (Int32.ofNat p)), some (.int y), none] [] (am_wI B i)) (some (.int 0)) 0 := by
  have hM : Md B := h.1.1
  subst hy
  have e5 := h.2.1 3019 (by omega)
  have e8 := h.2.1 2621 (by omega)
  have g8 := hg.2
  have e1 := h.2.1 (3020 + 2 * p + 1) (by omega)
  have t1 : (Int32.ofNat p < 0) = False := z_neg (by omega)
  have t2 := eq_true (ck_nat hg (by omega) hp).2
  refine MRs_w (i' := am_up2 (am_up2 i 874 0 0) 875 (3020 + 2 * p + 1) (-1)) h ?_ (by rw [y_up2 (by omega), y_up1 rfl rfl]) (up_wu (up_o (by omega) h.2.1)) (by intros; simp (disch := omega) only [y_up2])
  rw [bk_112_0]
  simp (disch := omega) only [(fun d x0 x1 B i => bk_110_0 d x0 x1 (am_wI B i)), (fun d x0 x1 B i => bk_69_0 d x0 x1 (am_wI B i)), (fun d x0 x1 x2 s0 s1 B i => bk_112_32 d x0 x1 x2 s0 s1 (am_wI B i)), (fun d x0 x1 x2 s0 B i => bk_112_64 d x0 x1 x2 s0 (am_wI B i)), m_in, z_pred hg.1, z_pred hc.1, Classical.not_not, t1, t2, gy, m_thr0, e1, e5, e8, hM, y_ckd, y_ck2d, y_ond, y_onn, y_oI, y_oIx, y_oJ, y_oV, y_oVx, y_oR, y_oRn, y_oRx, y_b0, y_b1, y_bi, y_bid, y_wIK, y_wIL, y_wII, y_wIJ, y_wIR, y_wIN, y_wIw, y_sI, ↓reduceIte, Nat.reduceEqDiff, eq_self, true_or, or_true, false_or, or_false, and_true, true_and, false_and, and_false, not_true, not_false_eq_true, tf_T, tf_F, y_up1, y_up2, y_xx, y_nx, y_sJ, y_sR, Int32.reduceLT, y_nxK, y_nxL, y_nxR, y_sJK, y_sJL, y_sJR, y_sJN, y_sRK, y_sRL, y_sRN, Nat.add_zero, z_nat, z_lit, z_lit0, z_lit1, z_in0, z_in1, z_addl0, z_lt, z_ltl, z_llt, z_inj, z_injl, z_add, z_addl, z_ladd, z_mul, z_mull, z_lmul, z_neg, z_negl, z_in, z_inl, z_ltT, z_ltF, z_eqF, z_10, z_01, z_litne, z_ne0, z_0ne, z_ne1, z_1ne, z_lt64, z_02, z_03, z_04, z_05, z_12, z_13, z_14, z_15, z_20, z_21, z_23, z_24, z_25, z_30, z_31, z_32, z_34, z_35, z_40, z_41, z_42, z_43, z_45, z_50, z_51, z_52, z_53, z_54]
theorem f_works0s {p : Nat} (h : CR B i σ) (hg : isc σ.1 3019 8) (hp : p < cn σ.1 3019) (gy : σ.1 (3020 + 2 * p + 1) = y) (gm : ¬ y = -1) (hy : ¬ y < 0 ∧ y < σ.1 2621) : FRs B i ((wu σ.1 (3020 + 2 * p + 1) y), σ.2) (am_fx am_P (d + 150) 327 0 [some (.ref 64), some (.int (Int32.ofNat p)), some (.int y), none] [] (am_wI B i)) (.inl (some (.int 0))) := by
  have hF : Fc B := h.1.1
  have hY : Yd B 94 := h.1.2.1
  have e5 := h.2.1.2.2.2.2.1.1
  have e8 := h.2.1.2.2.2.1.1
  have g8 := hg.2
  have e1 := (h.2.1.2.2.2.2.1.2 p hp (by omega)).2
  refine FRs_w (i' := am_up2 i (94 + 6) p y) h ?_ ?_ (by intros; simp (disch := omega) only [y_up2])
  · rw [bk_327_0]
    simp (disch := omega) only [c_ckI1 (ck_nat hg (by omega) hp), c_ckI1 hy, gm, (fun d x0 x1 x2 B i => bk_327_27 d x0 x1 x2 (am_wI B i)), (fun d x0 x1 x2 s0 B i => bk_327_45 d x0 x1 x2 s0 (am_wI B i)), gy, e1, e5, e8, hF, hY, y_ckd, y_ck2d, y_ond, y_onn, y_oI, y_oIx, y_oJ, y_oV, y_oVx, y_oR, y_oRn, y_oRx, y_b0, y_b1, y_bi, y_bid, y_wIK, y_wIL, y_wII, y_wIJ, y_wIR, y_wIN, y_wIw, y_sI, ↓reduceIte, Nat.reduceEqDiff, eq_self, true_or, or_true, false_or, or_false, and_true, true_and, false_and, and_false, not_true, not_false_eq_true, tf_T, tf_F, y_up1, y_up2, y_xx, y_nx, y_sJ, y_sR, Int32.reduceLT, y_nxK, y_nxL, y_nxR, y_sJK, y_sJL, y_sJR, y_sJN, y_sRK, y_sRL, y_sRN, Nat.add_zero, z_nat, z_lit, z_lit0, z_lit1, z_in0, z_in1, z_addl0, z_lt, z_ltl, z_llt, z_inj, z_injl, z_add, z_addl, z_ladd, z_mul, z_mull, z_lmul, z_neg, z_negl, z_in, z_inl, z_ltT, z_ltF, z_eqF, z_10, z_01, z_litne, z_ne0, z_0ne, z_ne1, z_1ne, z_lt64, z_02, z_03, z_04, z_05, z_12, z_13, z_14, z_15, z_20, z_21, z_23, z_24, z_25, z_30, z_31, z_32, z_34, z_35, z_40, z_41, z_42, z_43, z_45, z_50, z_51, z_52, z_53, z_54]
  · refine Rep_gang h.2.1 (Le.rf B) (by omega) rfl ?_ (by intros; simp (disch := omega) only [y_up2]) (by intros; simp (disch := omega) only [y_upr]) (by intros; simp (disch := omega) only [wu_ne])
    obtain ⟨r1, r2⟩ := h.2.1.2.2.2.2.1
    refine ⟨by rw [y_up2 (by omega), wu_ne (by omega)]; exact r1, fun q hq q8 => ?_⟩
    have eq : cn (wu σ.1 (3020 + 2 * p + 1) y) 3019 = cn σ.1 3019 := by unfold cn; rw [wu_ne (by omega)]
    rw [eq] at hq
    refine ⟨by rw [y_up2 (by omega), wu_ne (by omega)]; exact (r2 q hq q8).1, ?_⟩
    by_cases ek : q = p
    · rw [y_up1 rfl ek, wu_at (by omega)]
    · rw [y_up2 (by omega), wu_ne (by omega)]
      exact (r2 q hq q8).2
theorem m_works0s {p : Nat} (h : MR B i σ) (hg : isc σ.1 3019 8) (hc : isc σ.1 2621 8) (hp : p < cn σ.1 3019) (gy : σ.1 (3020 + 2 * p + 1) = y) (gm : ¬ y = -1) (hy : ¬ y < 0 ∧ y < σ.1 2621) : MRs B i ((wu σ.1 (3020 + 2 * p + 1) y), σ.2) (am_fx am_P (d + 150) 112 0 [some (.ref 874), some (.int (Int32.ofNat p)), some (.int y), none] [] (am_wI B i)) (some (.int 0)) 0 := by
  have hM : Md B := h.1.1
  have e5 := h.2.1 3019 (by omega)
  have e8 := h.2.1 2621 (by omega)
  have g8 := hg.2
  have e1 := h.2.1 (3020 + 2 * p + 1) (by omega)
  have t1 : (Int32.ofNat p < 0) = False := z_neg (by omega)
  have t2 := eq_true (ck_nat hg (by omega) hp).2
  refine MRs_w (i' := am_up2 (am_up2 i 874 0 0) 875 (3020 + 2 * p + 1) y) h ?_ (by rw [y_up2 (by omega), y_up1 rfl rfl]) (up_wu (up_o (by omega) h.2.1)) (by intros; simp (disch := omega) only [y_up2])
  rw [bk_112_0]
  simp (disch := omega) only [(fun d x0 x1 B i => bk_110_0 d x0 x1 (am_wI B i)), (fun d x0 x1 B i => bk_69_0 d x0 x1 (am_wI B i)), (fun d x0 x1 x2 s0 s1 B i => bk_112_32 d x0 x1 x2 s0 s1 (am_wI B i)), (fun d x0 x1 x2 s0 B i => bk_112_64 d x0 x1 x2 s0 (am_wI B i)), m_in, z_pred hg.1, z_pred hc.1, Classical.not_not, t1, t2, hy.1, hy.2, gm, gy, m_thr0, e1, e5, e8, hM, y_ckd, y_ck2d, y_ond, y_onn, y_oI, y_oIx, y_oJ, y_oV, y_oVx, y_oR, y_oRn, y_oRx, y_b0, y_b1, y_bi, y_bid, y_wIK, y_wIL, y_wII, y_wIJ, y_wIR, y_wIN, y_wIw, y_sI, ↓reduceIte, Nat.reduceEqDiff, eq_self, true_or, or_true, false_or, or_false, and_true, true_and, false_and, and_false, not_true, not_false_eq_true, tf_T, tf_F, y_up1, y_up2, y_xx, y_nx, y_sJ, y_sR, Int32.reduceLT, y_nxK, y_nxL, y_nxR, y_sJK, y_sJL, y_sJR, y_sJN, y_sRK, y_sRL, y_sRN, Nat.add_zero, z_nat, z_lit, z_lit0, z_lit1, z_in0, z_in1, z_addl0, z_lt, z_ltl, z_llt, z_inj, z_injl, z_add, z_addl, z_ladd, z_mul, z_mull, z_lmul, z_neg, z_negl, z_in, z_inl, z_ltT, z_ltF, z_eqF, z_10, z_01, z_litne, z_ne0, z_0ne, z_ne1, z_1ne, z_lt64, z_02, z_03, z_04, z_05, z_12, z_13, z_14, z_15, z_20, z_21, z_23, z_24, z_25, z_30, z_31, z_32, z_34, z_35, z_40, z_41, z_42, z_43, z_45, z_50, z_51, z_52, z_53, z_54]
theorem f_works1n {p : Nat} (h : CR B i σ) (hg : isc σ.1 3019 8) (hp : p < cn σ.1 3019) (gy : ¬ σ.1 (3020 + 2 * p + 1) = y) (hy : y = -1) : FRs B i ((wu σ.1 (3020 + 2 * p + 1) y), σ.2) (am_fx am_P (d + 150) 327 0 [some (.ref 64), some (.int (Int32.ofNat p)), some (.int y), none] [] (am_wI B i)) (.inl (some (.int 1))) := by
  have hF : Fc B := h.1.1
  have hY : Yd B 94 := h.1.2.1
  subst hy
  have e5 := h.2.1.2.2.2.2.1.1
  have e8 := h.2.1.2.2.2.1.1
  have g8 := hg.2
  have e1 := (h.2.1.2.2.2.2.1.2 p hp (by omega)).2
  refine FRs_w (i' := am_up2 i (94 + 6) p (-1)) h ?_ ?_ (by intros; simp (disch := omega) only [y_up2])
  · rw [bk_327_0]
    simp (disch := omega) only [c_ckI1 (ck_nat hg (by omega) hp), (fun d x0 x1 x2 B i => bk_327_27 d x0 x1 x2 (am_wI B i)), (fun d x0 x1 x2 s0 B i => bk_327_45 d x0 x1 x2 s0 (am_wI B i)), gy, e1, e5, e8, hF, hY, y_ckd, y_ck2d, y_ond, y_onn, y_oI, y_oIx, y_oJ, y_oV, y_oVx, y_oR, y_oRn, y_oRx, y_b0, y_b1, y_bi, y_bid, y_wIK, y_wIL, y_wII, y_wIJ, y_wIR, y_wIN, y_wIw, y_sI, ↓reduceIte, Nat.reduceEqDiff, eq_self, true_or, or_true, false_or, or_false, and_true, true_and, false_and, and_false, not_true, not_false_eq_true, tf_T, tf_F, y_up1, y_up2, y_xx, y_nx, y_sJ, y_sR, Int32.reduceLT, y_nxK, y_nxL, y_nxR, y_sJK, y_sJL, y_sJR, y_sJN, y_sRK, y_sRL, y_sRN, Nat.add_zero, z_nat, z_lit, z_lit0, z_lit1, z_in0, z_in1, z_addl0, z_lt, z_ltl, z_llt, z_inj, z_injl, z_add, z_addl, z_ladd, z_mul, z_mull, z_lmul, z_neg, z_negl, z_in, z_inl, z_ltT, z_ltF, z_eqF, z_10, z_01, z_litne, z_ne0, z_0ne, z_ne1, z_1ne, z_lt64, z_02, z_03, z_04, z_05, z_12, z_13, z_14, z_15, z_20, z_21, z_23, z_24, z_25, z_30, z_31, z_32, z_34, z_35, z_40, z_41, z_42, z_43, z_45, z_50, z_51, z_52, z_53, z_54]
  · refine Rep_gang h.2.1 (Le.rf B) (by omega) rfl ?_ (by intros; simp (disch := omega) only [y_up2]) (by intros; simp (disch := omega) only [y_upr]) (by intros; simp (disch := omega) only [wu_ne])
    obtain ⟨r1, r2⟩ := h.2.1.2.2.2.2.1
    refine ⟨by rw [y_up2 (by omega), wu_ne (by omega)]; exact r1, fun q hq q8 => ?_⟩
    have eq : cn (wu σ.1 (3020 + 2 * p + 1) (-1)) 3019 = cn σ.1 3019 := by unfold cn; rw [wu_ne (by omega)]
    rw [eq] at hq
    refine ⟨by rw [y_up2 (by omega), wu_ne (by omega)]; exact (r2 q hq q8).1, ?_⟩
    by_cases ek : q = p
    · rw [y_up1 rfl ek, wu_at (by omega)]
    · rw [y_up2 (by omega), wu_ne (by omega)]
      exact (r2 q hq q8).2
theorem m_works1n {p : Nat} (h : MR B i σ) (hg : isc σ.1 3019 8) (hc : isc σ.1 2621 8) (hp : p < cn σ.1 3019) (gy : ¬ σ.1 (3020 + 2 * p + 1) = y) (hy : y = -1) : MRs B i ((wu σ.1 (3020 + 2 * p + 1) y), σ.2) (am_fx am_P (d + 150) 112 0 [some (.ref 874), some (.int (Int32.ofNat p)), some (.int y), none] [] (am_wI B i)) (some (.int 1)) 0 := by
  have hM : Md B := h.1.1
  subst hy
  have e5 := h.2.1 3019 (by omega)
  have e8 := h.2.1 2621 (by omega)
  have g8 := hg.2
  have e1 := h.2.1 (3020 + 2 * p + 1) (by omega)
  have t1 : (Int32.ofNat p < 0) = False := z_neg (by omega)
  have t2 := eq_true (ck_nat hg (by omega) hp).2
  refine MRs_w (i' := am_up2 (am_up2 i 874 0 0) 875 (3020 + 2 * p + 1) (-1)) h ?_ (by rw [y_up2 (by omega), y_up1 rfl rfl]) (up_wu (up_o (by omega) h.2.1)) (by intros; simp (disch := omega) only [y_up2])
  rw [bk_112_0]
  simp (disch := omega) only [(fun d x0 x1 B i => bk_110_0 d x0 x1 (am_wI B i)), (fun d x0 x1 B i => bk_69_0 d x0 x1 (am_wI B i)), (fun d x0 x1 x2 s0 s1 B i => bk_112_32 d x0 x1 x2 s0 s1 (am_wI B i)), (fun d x0 x1 x2 s0 B i => bk_112_64 d x0 x1 x2 s0 (am_wI B i)), m_in, z_pred hg.1, z_pred hc.1, Classical.not_not, t1, t2, gy, m_thr0, e1, e5, e8, hM, y_ckd, y_ck2d, y_ond, y_onn, y_oI, y_oIx, y_oJ, y_oV, y_oVx, y_oR, y_oRn, y_oRx, y_b0, y_b1, y_bi, y_bid, y_wIK, y_wIL, y_wII, y_wIJ, y_wIR, y_wIN, y_wIw, y_sI, ↓reduceIte, Nat.reduceEqDiff, eq_self, true_or, or_true, false_or, or_false, and_true, true_and, false_and, and_false, not_true, not_false_eq_true, tf_T, tf_F, y_up1, y_up2, y_xx, y_nx, y_sJ, y_sR, Int32.reduceLT, y_nxK, y_nxL, y_nxR, y_sJK, y_sJL, y_sJR, y_sJN, y_sRK, y_sRL, y_sRN, Nat.add_zero, z_nat, z_lit, z_lit0, z_lit1, z_in0, z_in1, z_addl0, z_lt, z_ltl, z_llt, z_inj, z_injl, z_add, z_addl, z_ladd, z_mul, z_mull, z_lmul, z_neg, z_negl, z_in, z_inl, z_ltT, z_ltF, z_eqF, z_10, z_01, z_litne, z_ne0, z_0ne, z_ne1, z_1ne, z_lt64, z_02, z_03, z_04, z_05, z_12, z_13, z_14, z_15, z_20, z_21, z_23, z_24, z_25, z_30, z_31, z_32, z_34, z_35, z_40, z_41, z_42, z_43, z_45, z_50, z_51, z_52, z_53, z_54]
theorem f_works1s {p : Nat} (h : CR B i σ) (hg : isc σ.1 3019 8) (hp : p < cn σ.1 3019) (gy : ¬ σ.1 (3020 + 2 * p + 1) = y) (gm : ¬ y = -1) (hy : ¬ y < 0 ∧ y < σ.1 2621) : FRs B i ((wu σ.1 (3020 + 2 * p + 1) y), σ.2) (am_fx am_P (d + 150) 327 0 [some (.ref 64), some (.int (Int32.ofNat p)), some (.int y), none] [] (am_wI B i)) (.inl (some (.int 1))) := by
  have hF : Fc B := h.1.1
  have hY : Yd B 94 := h.1.2.1
  have e5 := h.2.1.2.2.2.2.1.1
  have e8 := h.2.1.2.2.2.1.1
  have g8 := hg.2
  have e1 := (h.2.1.2.2.2.2.1.2 p hp (by omega)).2
  refine FRs_w (i' := am_up2 i (94 + 6) p y) h ?_ ?_ (by intros; simp (disch := omega) only [y_up2])
  · rw [bk_327_0]
    simp (disch := omega) only [c_ckI1 (ck_nat hg (by omega) hp), c_ckI1 hy, gm, (fun d x0 x1 x2 B i => bk_327_27 d x0 x1 x2 (am_wI B i)), (fun d x0 x1 x2 s0 B i => bk_327_45 d x0 x1 x2 s0 (am_wI B i)), gy, e1, e5, e8, hF, hY, y_ckd, y_ck2d, y_ond, y_onn, y_oI, y_oIx, y_oJ, y_oV, y_oVx, y_oR, y_oRn, y_oRx, y_b0, y_b1, y_bi, y_bid, y_wIK, y_wIL, y_wII, y_wIJ, y_wIR, y_wIN, y_wIw, y_sI, ↓reduceIte, Nat.reduceEqDiff, eq_self, true_or, or_true, false_or, or_false, and_true, true_and, false_and, and_false, not_true, not_false_eq_true, tf_T, tf_F, y_up1, y_up2, y_xx, y_nx, y_sJ, y_sR, Int32.reduceLT, y_nxK, y_nxL, y_nxR, y_sJK, y_sJL, y_sJR, y_sJN, y_sRK, y_sRL, y_sRN, Nat.add_zero, z_nat, z_lit, z_lit0, z_lit1, z_in0, z_in1, z_addl0, z_lt, z_ltl, z_llt, z_inj, z_injl, z_add, z_addl, z_ladd, z_mul, z_mull, z_lmul, z_neg, z_negl, z_in, z_inl, z_ltT, z_ltF, z_eqF, z_10, z_01, z_litne, z_ne0, z_0ne, z_ne1, z_1ne, z_lt64, z_02, z_03, z_04, z_05, z_12, z_13, z_14, z_15, z_20, z_21, z_23, z_24, z_25, z_30, z_31, z_32, z_34, z_35, z_40, z_41, z_42, z_43, z_45, z_50, z_51, z_52, z_53, z_54]
  · refine Rep_gang h.2.1 (Le.rf B) (by omega) rfl ?_ (by intros; simp (disch := omega) only [y_up2]) (by intros; simp (disch := omega) only [y_upr]) (by intros; simp (disch := omega) only [wu_ne])
    obtain ⟨r1, r2⟩ := h.2.1.2.2.2.2.1
    refine ⟨by rw [y_up2 (by omega), wu_ne (by omega)]; exact r1, fun q hq q8 => ?_⟩
    have eq : cn (wu σ.1 (3020 + 2 * p + 1) y) 3019 = cn σ.1 3019 := by unfold cn; rw [wu_ne (by omega)]
    rw [eq] at hq
    refine ⟨by rw [y_up2 (by omega), wu_ne (by omega)]; exact (r2 q hq q8).1, ?_⟩
    by_cases ek : q = p
    · rw [y_up1 rfl ek, wu_at (by omega)]
    · rw [y_up2 (by omega), wu_ne (by omega)]
      exact (r2 q hq q8).2
theorem m_works1s {p : Nat} (h : MR B i σ) (hg : isc σ.1 3019 8) (hc : isc σ.1 2621 8) (hp : p < cn σ.1 3019) (gy : ¬ σ.1 (3020 + 2 * p + 1) = y) (gm : ¬ y = -1) (hy : ¬ y < 0 ∧ y < σ.1 2621) : MRs B i ((wu σ.1 (3020 + 2 * p + 1) y), σ.2) (am_fx am_P (d + 150) 112 0 [some (.ref 874), some (.int (Int32.ofNat p)), some (.int y), none] [] (am_wI B i)) (some (.int 1)) 0 := by
  have hM : Md B := h.1.1
  have e5 := h.2.1 3019 (by omega)
  have e8 := h.2.1 2621 (by omega)
  have g8 := hg.2
  have e1 := h.2.1 (3020 + 2 * p + 1) (by omega)
  have t1 : (Int32.ofNat p < 0) = False := z_neg (by omega)
  have t2 := eq_true (ck_nat hg (by omega) hp).2
  refine MRs_w (i' := am_up2 (am_up2 i 874 0 0) 875 (3020 + 2 * p + 1) y) h ?_ (by rw [y_up2 (by omega), y_up1 rfl rfl]) (up_wu (up_o (by omega) h.2.1)) (by intros; simp (disch := omega) only [y_up2])
  rw [bk_112_0]
  simp (disch := omega) only [(fun d x0 x1 B i => bk_110_0 d x0 x1 (am_wI B i)), (fun d x0 x1 B i => bk_69_0 d x0 x1 (am_wI B i)), (fun d x0 x1 x2 s0 s1 B i => bk_112_32 d x0 x1 x2 s0 s1 (am_wI B i)), (fun d x0 x1 x2 s0 B i => bk_112_64 d x0 x1 x2 s0 (am_wI B i)), m_in, z_pred hg.1, z_pred hc.1, Classical.not_not, t1, t2, hy.1, hy.2, gm, gy, m_thr0, e1, e5, e8, hM, y_ckd, y_ck2d, y_ond, y_onn, y_oI, y_oIx, y_oJ, y_oV, y_oVx, y_oR, y_oRn, y_oRx, y_b0, y_b1, y_bi, y_bid, y_wIK, y_wIL, y_wII, y_wIJ, y_wIR, y_wIN, y_wIw, y_sI, ↓reduceIte, Nat.reduceEqDiff, eq_self, true_or, or_true, false_or, or_false, and_true, true_and, false_and, and_false, not_true, not_false_eq_true, tf_T, tf_F, y_up1, y_up2, y_xx, y_nx, y_sJ, y_sR, Int32.reduceLT, y_nxK, y_nxL, y_nxR, y_sJK, y_sJL, y_sJR, y_sJN, y_sRK, y_sRL, y_sRN, Nat.add_zero, z_nat, z_lit, z_lit0, z_lit1, z_in0, z_in1, z_addl0, z_lt, z_ltl, z_llt, z_inj, z_injl, z_add, z_addl, z_ladd, z_mul, z_mull, z_lmul, z_neg, z_negl, z_in, z_inl, z_ltT, z_ltF, z_eqF, z_10, z_01, z_litne, z_ne0, z_0ne, z_ne1, z_1ne, z_lt64, z_02, z_03, z_04, z_05, z_12, z_13, z_14, z_15, z_20, z_21, z_23, z_24, z_25, z_30, z_31, z_32, z_34, z_35, z_40, z_41, z_42, z_43, z_45, z_50, z_51, z_52, z_53, z_54]
theorem Wd_works {p : Nat} {v : Int32} (h : Wd w) (hp : p < cn w 3019) (p8 : p < 8) (hv : v = -1 ∨ ¬ v < 0 ∧ v < w 2621) : Wd (wu w (3020 + 2 * p + 1) v) := by
  obtain ⟨h1, h2, h3, h4, h5, h6, h7, h8, h9, h10, h11⟩ := h
  have kk : ∀ s, s ≠ 3020 + 2 * p + 1 → wu w (3020 + 2 * p + 1) v s = w s := fun s hs => wu_ne hs
  refine ⟨WdC_fr h1 fun s hs => kk s (by omega), WdR_fr h2 fun s _ => kk s (by omega), WdT_fr h3 fun s _ => kk s (by omega), WdP_fr h4 h1.2.2.1.2 fun s _ => kk s (by omega), WdS_fr h5 fun s _ => kk s (by omega), fun q hq q8 => ?_, WdE_fr h7 fun s _ => kk s (by omega), WdM_fr h8 fun s _ => kk s (by omega), WdX_fr h9 fun s _ => kk s (by omega), WdZ_fr h10 fun s _ => kk s (by omega), WdI_fr h11 fun s _ => kk s (by omega)⟩
  have eq : cn (wu w (3020 + 2 * p + 1) v) 3019 = cn w 3019 := by unfold cn; rw [wu_ne (by omega)]
  rw [eq] at hq
  have := h6 q hq q8
  by_cases e : q = p
  · rw [wu_ne (by omega), wu_at (by omega), wu_ne (by omega)]
    exact ⟨this.1, hv⟩
  · rw [wu_ne (by omega), wu_ne (by omega), wu_ne (by omega)]
    exact this
theorem k_works (h : Sim B i σ) (hs : Sc B i L j) (hO : am_K B 892 = 22 ∧ am_L B 892 = 1) : Stq B i d 2729 j := by
  have hc := h.2.2.1.1.2.2.2.1
  have hg := h.2.2.1.1.2.2.2.2.2.1
  have h8 := hg.2
  by_cases g : ¬ i 0 (j + 1) < 0 ∧ i 0 (j + 1) < σ.1 3019
  rotate_left
  · exact kx_35_1 h hs hO (f_works_x0 (d := d + 48) h.1 g) fun B0 i0 h0 => m_works_x0 (d := d + 49) h0 hg g
  obtain ⟨p, e, hp⟩ := nat_ck hg (by omega) g
  by_cases gm : i 0 (j + 2) = -1
  · skip
    by_cases gy : σ.1 (3020 + 2 * p + 1) = i 0 (j + 2)
    · exact kk_35 (σ' := (wu σ.1 (3020 + 2 * p + 1) (i 0 (j + 2)), σ.2)) h hs hO (SW_now h.2.2 (Wd_works h.2.2.1 hp (by omega) (Or.inl gm))) (by rw [e]; exact f_works0n (d := d + 48) h.1 hg hp gy gm) fun B0 i0 h0 => by rw [e]; exact m_works0n (d := d + 49) h0 hg hc hp gy gm
    · exact kk_35 (σ' := (wu σ.1 (3020 + 2 * p + 1) (i 0 (j + 2)), σ.2)) h hs hO (SW_now h.2.2 (Wd_works h.2.2.1 hp (by omega) (Or.inl gm))) (by rw [e]; exact f_works1n (d := d + 48) h.1 hg hp gy gm) fun B0 i0 h0 => by rw [e]; exact m_works1n (d := d + 49) h0 hg hc hp gy gm
  by_cases gs : ¬ i 0 (j + 2) < 0 ∧ i 0 (j + 2) < σ.1 2621
  · skip
    by_cases gy : σ.1 (3020 + 2 * p + 1) = i 0 (j + 2)
    · exact kk_35 (σ' := (wu σ.1 (3020 + 2 * p + 1) (i 0 (j + 2)), σ.2)) h hs hO (SW_now h.2.2 (Wd_works h.2.2.1 hp (by omega) (Or.inr gs))) (by rw [e]; exact f_works0s (d := d + 48) h.1 hg hp gy gm gs) fun B0 i0 h0 => by rw [e]; exact m_works0s (d := d + 49) h0 hg hc hp gy gm gs
    · exact kk_35 (σ' := (wu σ.1 (3020 + 2 * p + 1) (i 0 (j + 2)), σ.2)) h hs hO (SW_now h.2.2 (Wd_works h.2.2.1 hp (by omega) (Or.inr gs))) (by rw [e]; exact f_works1s (d := d + 48) h.1 hg hp gy gm gs) fun B0 i0 h0 => by rw [e]; exact m_works1s (d := d + 49) h0 hg hc hp gy gm gs
  · exact kx_35_1 h hs hO (by rw [e]; exact f_works_x1 (d := d + 48) h.1 hg hp gm gs) fun B0 i0 h0 => by rw [e]; exact m_works_x1 (d := d + 49) h0 hg hc hp gm gs
end Small
