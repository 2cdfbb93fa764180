/-! SHED, OUT, BREAKS: made by wip/whole/math/64.py. -/
section Pcs
variable {B B1 : am_A} {i i1 : Nat → Nat → Int32} {σ σ' : Sg} {w : Nat → Int32} {L j d b : Nat} {x y : Int32}
theorem f_shed_x0 (h : CR B i σ) (g : ¬ (¬ x < 0 ∧ x < σ.1 460)) : FRs B i σ (am_fx am_P (d + 150) 298 0 [some (.ref 64), some (.int x), none] [] (am_wI B i)) (.inr 1) := by
  refine FRs_x h ?_
  have hF : Fc B := h.1.1
  have hY : Yd B 94 := h.1.2.1
  rw [bk_298_0]
  simp (disch := omega) only [c_pcN0 hF hY h.2.1.2.2.1.1 g, hF, hY, y_ckd, y_ck2d, y_ond, y_onn, y_oI, y_oIx, y_oJ, y_oV, y_oVx, y_oR, y_oRn, y_oRx, y_b0, y_b1, y_bi, y_bid, y_wIK, y_wIL, y_wII, y_wIJ, y_wIR, y_wIN, y_wIw, y_sI, ↓reduceIte, Nat.reduceEqDiff, eq_self, true_or, or_true, false_or, or_false, and_true, true_and, false_and, and_false, not_true, not_false_eq_true, tf_T, tf_F, y_up1, y_up2, y_xx, y_nx, y_sJ, y_sR, Int32.reduceLT, y_nxK, y_nxL, y_nxR, y_sJK, y_sJL, y_sJR, y_sJN, y_sRK, y_sRL, y_sRN, Nat.add_zero, z_nat, z_lit, z_lit0, z_lit1, z_in0, z_in1, z_addl0, z_lt, z_ltl, z_llt, z_inj, z_injl, z_add, z_addl, z_ladd, z_mul, z_mull, z_lmul, z_neg, z_negl, z_in, z_inl, z_ltT, z_ltF, z_eqF, z_10, z_01, z_litne, z_ne0, z_0ne, z_ne1, z_1ne, z_lt64, z_02, z_03, z_04, z_05, z_12, z_13, z_14, z_15, z_20, z_21, z_23, z_24, z_25, z_30, z_31, z_32, z_34, z_35, z_40, z_41, z_42, z_43, z_45, z_50, z_51, z_52, z_53, z_54]
theorem m_shed_x0 (h : MR B i σ) (hc : isc σ.1 460 120) (g : ¬ (¬ x < 0 ∧ x < σ.1 460)) : MRs B i σ (am_fx am_P (d + 150) 33 0 [some (.ref 874), some (.int x)] [] (am_wI B i)) (some (.int 0)) 1 := by
  refine MRs_x h ?_
  have hM : Md B := h.1.1
  have e5 := h.2.1 460 (by omega)
  rw [bk_33_0]
  simp (maxSteps := 2000000) (disch := omega) only [(fun d x0 x1 B i => bk_26_0 d x0 x1 (am_wI B i)), m_in, z_pred hc.1, Classical.not_not, (fun d B i => bk_33_42 d (am_wI B i)), g, m_thr1 hM, e5, hM, y_ckd, y_ck2d, y_ond, y_onn, y_oI, y_oIx, y_oJ, y_oV, y_oVx, y_oR, y_oRn, y_oRx, y_b0, y_b1, y_bi, y_bid, y_wIK, y_wIL, y_wII, y_wIJ, y_wIR, y_wIN, y_wIw, y_sI, ↓reduceIte, Nat.reduceEqDiff, eq_self, true_or, or_true, false_or, or_false, and_true, true_and, false_and, and_false, not_true, not_false_eq_true, tf_T, tf_F, y_up1, y_up2, y_xx, y_nx, y_sJ, y_sR, Int32.reduceLT, y_nxK, y_nxL, y_nxR, y_sJK, y_sJL, y_sJR, y_sJN, y_sRK, y_sRL, y_sRN, Nat.add_zero, z_nat, z_lit, z_lit0, z_lit1, z_in0, z_in1, z_addl0, z_lt, z_ltl, z_llt, z_inj, z_injl, z_add, z_addl, z_ladd, z_mul, z_mull, z_lmul, z_neg, z_negl, z_in, z_inl, z_ltT, z_ltF, z_eqF, z_10, z_01, z_litne, z_ne0, z_0ne, z_ne1, z_1ne, z_lt64, z_02, z_03, z_04, z_05, z_12, z_13, z_14, z_15, z_20, z_21, z_23, z_24, z_25, z_30, z_31, z_32, z_34, z_35, z_40, z_41, z_42, z_43, z_45, z_50, z_51, z_52, z_53, z_54]
theorem f_shed0 {p : Nat} (h : CR B i σ) (hc : isc σ.1 460 120) (hp : p < cn σ.1 460) (g : ¬ (σ.1 (461 + 18 * p + 1) = 1 ∧ npl σ.1 2 < σ.1 1)) : FRs B i σ (am_fx am_P (d + 150) 298 0 [some (.ref 64), some (.int (Int32.ofNat p)), none] [] (am_wI B i)) (.inl (some (.int 0))) := by
  refine FRs_0 h ?_
  have hF : Fc B := h.1.1
  have hY : Yd B 94 := h.1.2.1
  have h120 := hc.2
  have t1 : (Int32.ofNat p < 0) = False := z_neg (by omega)
  have t2 := eq_true (ck_nat hc (by omega) hp).2
  obtain ⟨b0, b1, b2, b3, b4, b5, b6, b7, b8, b9, b10, b11, b12, b13, b14, b15, b16, b17, b18⟩ := h.2.1.2.2.1.2 p hp (by omega)
  have e6 := h.2.1.1.2.1
  rw [bk_298_0]
  by_cases g0 : σ.1 (461 + 18 * p + 1) = 1
  · have g1 : ¬ npl σ.1 2 < σ.1 1 := fun q => g ⟨g0, q⟩
    simp (maxSteps := 1000000) (disch := omega) only [c_pcN hF hY h.2.1.2.2.1.1 hc hp, c_countIn hY h.2.1.2.2.1 hc, b1, e6, hF, hY, g0, g1, y_ckd, y_ck2d, y_ond, y_onn, y_oI, y_oIx, y_oJ, y_oV, y_oVx, y_oR, y_oRn, y_oRx, y_b0, y_b1, y_bi, y_bid, y_wIK, y_wIL, y_wII, y_wIJ, y_wIR, y_wIN, y_wIw, y_sI, ↓reduceIte, Nat.reduceEqDiff, eq_self, true_or, or_true, false_or, or_false, and_true, true_and, false_and, and_false, not_true, not_false_eq_true, tf_T, tf_F, y_up1, y_up2, y_xx, y_nx, y_sJ, y_sR, Int32.reduceLT, y_nxK, y_nxL, y_nxR, y_sJK, y_sJL, y_sJR, y_sJN, y_sRK, y_sRL, y_sRN, Nat.add_zero, z_nat, z_lit, z_lit0, z_lit1, z_in0, z_in1, z_addl0, z_lt, z_ltl, z_llt, z_inj, z_injl, z_add, z_addl, z_ladd, z_mul, z_mull, z_lmul, z_neg, z_negl, z_in, z_inl, z_ltT, z_ltF, z_eqF, z_10, z_01, z_litne, z_ne0, z_0ne, z_ne1, z_1ne, z_lt64, z_02, z_03, z_04, z_05, z_12, z_13, z_14, z_15, z_20, z_21, z_23, z_24, z_25, z_30, z_31, z_32, z_34, z_35, z_40, z_41, z_42, z_43, z_45, z_50, z_51, z_52, z_53, z_54]
  · simp (maxSteps := 1000000) (disch := omega) only [c_pcN hF hY h.2.1.2.2.1.1 hc hp, c_countIn hY h.2.1.2.2.1 hc, b1, e6, hF, hY, g0, y_ckd, y_ck2d, y_ond, y_onn, y_oI, y_oIx, y_oJ, y_oV, y_oVx, y_oR, y_oRn, y_oRx, y_b0, y_b1, y_bi, y_bid, y_wIK, y_wIL, y_wII, y_wIJ, y_wIR, y_wIN, y_wIw, y_sI, ↓reduceIte, Nat.reduceEqDiff, eq_self, true_or, or_true, false_or, or_false, and_true, true_and, false_and, and_false, not_true, not_false_eq_true, tf_T, tf_F, y_up1, y_up2, y_xx, y_nx, y_sJ, y_sR, Int32.reduceLT, y_nxK, y_nxL, y_nxR, y_sJK, y_sJL, y_sJR, y_sJN, y_sRK, y_sRL, y_sRN, Nat.add_zero, z_nat, z_lit, z_lit0, z_lit1, z_in0, z_in1, z_addl0, z_lt, z_ltl, z_llt, z_inj, z_injl, z_add, z_addl, z_ladd, z_mul, z_mull, z_lmul, z_neg, z_negl, z_in, z_inl, z_ltT, z_ltF, z_eqF, z_10, z_01, z_litne, z_ne0, z_0ne, z_ne1, z_1ne, z_lt64, z_02, z_03, z_04, z_05, z_12, z_13, z_14, z_15, z_20, z_21, z_23, z_24, z_25, z_30, z_31, z_32, z_34, z_35, z_40, z_41, z_42, z_43, z_45, z_50, z_51, z_52, z_53, z_54]
theorem m_shed0 {p : Nat} (h : MR B i σ) (hc : isc σ.1 460 120) (hp : p < cn σ.1 460) (g : ¬ (σ.1 (461 + 18 * p + 1) = 1 ∧ npl σ.1 2 < σ.1 1)) : MRs B i σ (am_fx am_P (d + 150) 33 0 [some (.ref 874), some (.int (Int32.ofNat p))] [] (am_wI B i)) (some (.int 0)) 0 := by
  refine MRs_0 h ?_
  have hM : Md B := h.1.1
  have h120 := hc.2
  have t1 : (Int32.ofNat p < 0) = False := z_neg (by omega)
  have t2 := eq_true (ck_nat hc (by omega) hp).2
  have e5 := h.2.1 460 (by omega)
  have e1 := h.2.1 1 (by omega)
  have q1 := h.2.1 (461 + 18 * p + 1) (by omega)
  have hw := up_o (q := 874) (k := 0) (v := 0) (by omega) h.2.1
  rw [bk_33_0]
  by_cases g0 : σ.1 (461 + 18 * p + 1) = 1
  · have g1 : ¬ npl σ.1 2 < σ.1 1 := fun q => g ⟨g0, q⟩
    simp (maxSteps := 1000000) (disch := omega) only [(fun d x0 x1 B i => bk_26_0 d x0 x1 (am_wI B i)), m_in, z_pred hc.1, Classical.not_not, (fun d x0 x1 x2 B i => bk_24_0 d x0 x1 x2 (am_wI B i)), (fun d x0 x1 x2 x3 B i => bk_25_0 d x0 x1 x2 x3 (am_wI B i)), (fun d x0 x1 B i => bk_23_0 d x0 x1 (am_wI B i)), (fun d x0 B i => bk_13_0 d x0 (am_wI B i)), (fun d B i => bk_33_42 d (am_wI B i)), (fun d B i => bk_33_66 d (am_wI B i)), m_inPlace hM hw hc, m_thr0, t1, t2, e5, e1, q1, hM, g0, g1, y_ckd, y_ck2d, y_ond, y_onn, y_oI, y_oIx, y_oJ, y_oV, y_oVx, y_oR, y_oRn, y_oRx, y_b0, y_b1, y_bi, y_bid, y_wIK, y_wIL, y_wII, y_wIJ, y_wIR, y_wIN, y_wIw, y_sI, ↓reduceIte, Nat.reduceEqDiff, eq_self, true_or, or_true, false_or, or_false, and_true, true_and, false_and, and_false, not_true, not_false_eq_true, tf_T, tf_F, y_up1, y_up2, y_xx, y_nx, y_sJ, y_sR, Int32.reduceLT, y_nxK, y_nxL, y_nxR, y_sJK, y_sJL, y_sJR, y_sJN, y_sRK, y_sRL, y_sRN, Nat.add_zero, z_nat, z_lit, z_lit0, z_lit1, z_in0, z_in1, z_addl0, z_lt, z_ltl, z_llt, z_inj, z_injl, z_add, z_addl, z_ladd, z_mul, z_mull, z_lmul, z_neg, z_negl, z_in, z_inl, z_ltT, z_ltF, z_eqF, z_10, z_01, z_litne, z_ne0, z_0ne, z_ne1, z_1ne, z_lt64, z_02, z_03, z_04, z_05, z_12, z_13, z_14, z_15, z_20, z_21, z_23, z_24, z_25, z_30, z_31, z_32, z_34, z_35, z_40, z_41, z_42, z_43, z_45, z_50, z_51, z_52, z_53, z_54]
  · simp (maxSteps := 1000000) (disch := omega) only [(fun d x0 x1 B i => bk_26_0 d x0 x1 (am_wI B i)), m_in, z_pred hc.1, Classical.not_not, (fun d x0 x1 x2 B i => bk_24_0 d x0 x1 x2 (am_wI B i)), (fun d x0 x1 x2 x3 B i => bk_25_0 d x0 x1 x2 x3 (am_wI B i)), (fun d x0 x1 B i => bk_23_0 d x0 x1 (am_wI B i)), (fun d x0 B i => bk_13_0 d x0 (am_wI B i)), (fun d B i => bk_33_42 d (am_wI B i)), (fun d B i => bk_33_66 d (am_wI B i)), m_inPlace hM hw hc, m_thr0, t1, t2, e5, e1, q1, hM, g0, y_ckd, y_ck2d, y_ond, y_onn, y_oI, y_oIx, y_oJ, y_oV, y_oVx, y_oR, y_oRn, y_oRx, y_b0, y_b1, y_bi, y_bid, y_wIK, y_wIL, y_wII, y_wIJ, y_wIR, y_wIN, y_wIw, y_sI, ↓reduceIte, Nat.reduceEqDiff, eq_self, true_or, or_true, false_or, or_false, and_true, true_and, false_and, and_false, not_true, not_false_eq_true, tf_T, tf_F, y_up1, y_up2, y_xx, y_nx, y_sJ, y_sR, Int32.reduceLT, y_nxK, y_nxL, y_nxR, y_sJK, y_sJL, y_sJR, y_sJN, y_sRK, y_sRL, y_sRN, Nat.add_zero, z_nat, z_lit, z_lit0, z_lit1, z_in0, z_in1, z_addl0, z_lt, z_ltl, z_llt, z_inj, z_injl, z_add, z_addl, z_ladd, z_mul, z_mull, z_lmul, z_neg, z_negl, z_in, z_inl, z_ltT, z_ltF, z_eqF, z_10, z_01, z_litne, z_ne0, z_0ne, z_ne1, z_1ne, z_lt64, z_02, z_03, z_04, z_05, z_12, z_13, z_14, z_15, z_20, z_21, z_23, z_24, z_25, z_30, z_31, z_32, z_34, z_35, z_40, z_41, z_42, z_43, z_45, z_50, z_51, z_52, z_53, z_54]
theorem f_shed {p : Nat} (h : CR B i σ) (hW : Wd σ.1) (hc : isc σ.1 460 120) (hp : p < cn σ.1 460) (g0 : σ.1 (461 + 18 * p + 1) = 1) (g1 : npl σ.1 2 < σ.1 1) : FRs B i ((wu (wu σ.1 (461 + 18 * p + 1) 2) (461 + 18 * p + 14) (σ.1 0)), σ.1, σ.2.2.1, true, σ.2.2.2.2) (am_fx am_P (d + 150) 298 0 [some (.ref 64), some (.int (Int32.ofNat p)), none] [] (am_wI B i)) (.inl (some (.int 1))) := by
  have hF : Fc B := h.1.1
  have hY : Yd B 94 := h.1.2.1
  have h120 := hc.2
  have t1 : (Int32.ofNat p < 0) = False := z_neg (by omega)
  have t2 := eq_true (ck_nat hc (by omega) hp).2
  obtain ⟨B1, i1, E, hC, hS, hf⟩ := c_remember (d := d + 143) h hW
  have hF1 : Fc B1 := hC.1.1
  have hY1 : Yd B1 94 := hC.1.2.1
  obtain ⟨b0, b1, b2, b3, b4, b5, b6, b7, b8, b9, b10, b11, b12, b13, b14, b15, b16, b17, b18⟩ := h.2.1.2.2.1.2 p hp (by omega)
  have e6 := h.2.1.1.2.1
  have k0 : i1 94 0 = σ.1 0 := hC.2.1.1.1
  refine FRs_tr hS hf (FRs_w (i' := am_up2 (am_up2 i1 (94 + 92 + p) 9 2) (94 + 92 + p) 15 (σ.1 0)) hC ?_ ?_ (by intros; simp (disch := omega) only [y_up2]))
  · rw [bk_298_0]
    simp (maxSteps := 1000000) (disch := omega) only [c_pcN hF hY h.2.1.2.2.1.1 hc hp, c_countIn hY h.2.1.2.2.1 hc, b1, e6, hF, hY, g0, g1, k0, E, (fun d x0 x1 B i => bk_157_0 d x0 x1 (am_wI B i)), (fun d B i => bk_157_10 d (am_wI B i)), hF1, hY1, y_ckd, y_ck2d, y_ond, y_onn, y_oI, y_oIx, y_oJ, y_oV, y_oVx, y_oR, y_oRn, y_oRx, y_b0, y_b1, y_bi, y_bid, y_wIK, y_wIL, y_wII, y_wIJ, y_wIR, y_wIN, y_wIw, y_sI, ↓reduceIte, Nat.reduceEqDiff, eq_self, true_or, or_true, false_or, or_false, and_true, true_and, false_and, and_false, not_true, not_false_eq_true, tf_T, tf_F, y_up1, y_up2, y_xx, y_nx, y_sJ, y_sR, Int32.reduceLT, y_nxK, y_nxL, y_nxR, y_sJK, y_sJL, y_sJR, y_sJN, y_sRK, y_sRL, y_sRN, Nat.add_zero, z_nat, z_lit, z_lit0, z_lit1, z_in0, z_in1, z_addl0, z_lt, z_ltl, z_llt, z_inj, z_injl, z_add, z_addl, z_ladd, z_mul, z_mull, z_lmul, z_neg, z_negl, z_in, z_inl, z_ltT, z_ltF, z_eqF, z_10, z_01, z_litne, z_ne0, z_0ne, z_ne1, z_1ne, z_lt64, z_02, z_03, z_04, z_05, z_12, z_13, z_14, z_15, z_20, z_21, z_23, z_24, z_25, z_30, z_31, z_32, z_34, z_35, z_40, z_41, z_42, z_43, z_45, z_50, z_51, z_52, z_53, z_54]
  · refine Rep_pc (p := p) hC.2.1 (by omega) (by omega) (by intros; simp (disch := omega) only [y_up2]) (by intros; simp (disch := omega) only [wu_ne]) ?_
    obtain ⟨b0, b1, b2, b3, b4, b5, b6, b7, b8, b9, b10, b11, b12, b13, b14, b15, b16, b17, b18⟩ := hC.2.1.2.2.1.2 p hp (by omega)
    refine ⟨?_, ?_, ?_, ?_, ?_, ?_, ?_, ?_, ?_, ?_, ?_, ?_, ?_, ?_, ?_, ?_, ?_, fun e => ?_, ?_⟩
    all_goals try (simp (disch := omega) only [y_up1, y_up2, wu_at, wu_ne]; try assumption)
    · simp (disch := omega) only [wu_at, wu_ne] at e
      exact absurd e (by decide)
    · rw [hrt_fr (w := σ.1) (fun t ht => by simp (disch := omega) only [wu_ne])]
      assumption
theorem m_shed {p : Nat} (h : MR B i σ) (hc : isc σ.1 460 120) (hp : p < cn σ.1 460) (g0 : σ.1 (461 + 18 * p + 1) = 1) (g1 : npl σ.1 2 < σ.1 1) : MRs B i ((wu (wu σ.1 (461 + 18 * p + 1) 2) (461 + 18 * p + 14) (σ.1 0)), σ.1, σ.2.2.1, true, σ.2.2.2.2) (am_fx am_P (d + 150) 33 0 [some (.ref 874), some (.int (Int32.ofNat p))] [] (am_wI B i)) (some (.int 1)) 0 := by
  have hM : Md B := h.1.1
  have h120 := hc.2
  have t1 : (Int32.ofNat p < 0) = False := z_neg (by omega)
  have t2 := eq_true (ck_nat hc (by omega) hp).2
  have e5 := h.2.1 460 (by omega)
  have e1 := h.2.1 1 (by omega)
  have q1 := h.2.1 (461 + 18 * p + 1) (by omega)
  have hw := up_o (q := 874) (k := 0) (v := 0) (by omega) h.2.1
  obtain ⟨i1, E, hD, hf⟩ := m_deed (d := d + 149) (MR_0 h)
  have z0 : i1 874 0 = 0 := (hf _ _ (by omega) (by omega)).trans (y_up1 rfl rfl)
  have r0 := hD.2.1 0 (by omega)
  refine MRs_d hf (MRs_w hD (i' := am_up2 (am_up2 i1 875 (461 + 18 * p + 1) 2) 875 (461 + 18 * p + 14) (σ.1 0)) ?_ (by rw [y_up2 (by omega), y_up2 (by omega), z0]) (up_wu (up_wu hD.2.1)) (by intros; simp (disch := omega) only [y_up2]))
  rw [bk_33_0]
  simp (maxSteps := 1000000) (disch := omega) only [(fun d x0 x1 B i => bk_26_0 d x0 x1 (am_wI B i)), m_in, z_pred hc.1, Classical.not_not, (fun d x0 x1 x2 B i => bk_24_0 d x0 x1 x2 (am_wI B i)), (fun d x0 x1 x2 x3 B i => bk_25_0 d x0 x1 x2 x3 (am_wI B i)), (fun d x0 x1 B i => bk_23_0 d x0 x1 (am_wI B i)), (fun d x0 B i => bk_13_0 d x0 (am_wI B i)), (fun d B i => bk_33_42 d (am_wI B i)), (fun d B i => bk_33_66 d (am_wI B i)), m_inPlace hM hw hc, m_thr0, t1, t2, e5, e1, q1, hM, g0, g1, r0, E, y_ckd, y_ck2d, y_ond, y_onn, y_oI, y_oIx, y_oJ, y_oV, y_oVx, y_oR, y_oRn, y_oRx, y_b0, y_b1, y_bi, y_bid, y_wIK, y_wIL, y_wII, y_wIJ, y_wIR, y_wIN, y_wIw, y_sI, ↓reduceIte, Nat.reduceEqDiff, eq_self, true_or, or_true, false_or, or_false, and_true, true_and, false_and, and_false, not_true, not_false_eq_true, tf_T, tf_F, y_up1, y_up2, y_xx, y_nx, y_sJ, y_sR, Int32.reduceLT, y_nxK, y_nxL, y_nxR, y_sJK, y_sJL, y_sJR, y_sJN, y_sRK, y_sRL, y_sRN, Nat.add_zero, z_nat, z_lit, z_lit0, z_lit1, z_in0, z_in1, z_addl0, z_lt, z_ltl, z_llt, z_inj, z_injl, z_add, z_addl, z_ladd, z_mul, z_mull, z_lmul, z_neg, z_negl, z_in, z_inl, z_ltT, z_ltF, z_eqF, z_10, z_01, z_litne, z_ne0, z_0ne, z_ne1, z_1ne, z_lt64, z_02, z_03, z_04, z_05, z_12, z_13, z_14, z_15, z_20, z_21, z_23, z_24, z_25, z_30, z_31, z_32, z_34, z_35, z_40, z_41, z_42, z_43, z_45, z_50, z_51, z_52, z_53, z_54]
theorem lnt_pl {w' : Nat → Int32} {p : Nat} (h0 : w' (461 + 18 * p) = w (461 + 18 * p)) (h2 : w' (461 + 18 * p + 2) = w (461 + 18 * p + 2)) (h1 : w (461 + 18 * p + 1) ≠ 5 ∨ w' (461 + 18 * p + 1) = 5) : lnt w' p ≤ lnt w p := by
  unfold lnt cn
  rw [h0, h2]
  rcases h1 with h1 | h1
  · by_cases k : w (461 + 18 * p) = 2
    · rw [if_pos (c := w (461 + 18 * p) = 2 ∧ w (461 + 18 * p + 1) ≠ 5) ⟨k, h1⟩]
      split
      · exact Nat.le_refl _
      · exact Nat.zero_le _
    · rw [if_neg (fun q => k q.1)]
      exact Nat.zero_le _
  · rw [if_neg (fun q => q.2 h1)]
    exact Nat.zero_le _
theorem Wd_shed {p : Nat} (h : Wd w) (hp : p < cn w 460) (h120 : p < 120) (g0 : w (461 + 18 * p + 1) = 1) : Wd (wu (wu w (461 + 18 * p + 1) 2) (461 + 18 * p + 14) (w 0)) := by
  obtain ⟨a1, a2, a3, a4, a5, a6, a7, a8, a9, a10, a11, a12, a13⟩ := h.2.2.2.1.1 p hp h120
  have k0 := h.1.1
  have k02 := k0.2
  refine Wd_pc h hp h120 (fun z hz => by simp (disch := omega) only [wu_ne]) ⟨?_, ?_, ?_, ?_, ?_, ?_, ?_, ?_, ?_, ?_, ?_, ?_, ?_⟩ (lnt_pl (by simp (disch := omega) only [wu_ne]) (by simp (disch := omega) only [wu_ne]) (Or.inl (by rw [g0]; decide))) (fun t m ht t8 hm m8 g e => WdI_no h.2.2.2.2.2.2.2.2.2.2 h120 (by rw [g0]; decide) t m ht t8 hm m8 g e)
  · unfold cn
    simp (disch := omega) only [wu_ne]
    exact a1
  all_goals try (simp (disch := omega) only [wu_ne]; assumption)
  · simp (disch := omega) only [wu_at, wu_ne]
    decide
  · simp (disch := omega) only [wu_at, wu_ne]
    exact fun q => absurd q (by decide)
  · simp (disch := omega) only [wu_at]
    refine Or.inr ⟨by rw [k0.1, z_neg (by omega)]; exact id, ?_⟩
    rw [k0.1, show (4001 : Int32) = Int32.ofNat 4001 from rfl, z_lt (by omega) (by omega)]
    omega
theorem k_shed (h : Sim B i σ) (hs : Sc B i L j) (hO : am_K B 892 = 22 ∧ am_L B 892 = 1) : Stq B i d 744 j := by
  have hc := h.2.2.1.1.2.2.1
  have h120 := hc.2
  by_cases g : ¬ i 0 (j + 1) < 0 ∧ i 0 (j + 1) < σ.1 460
  rotate_left
  · exact kx_7_1 h hs hO (f_shed_x0 (d := d + 48) h.1 g) fun B0 i0 h0 => m_shed_x0 (d := d + 49) h0 hc g
  obtain ⟨p, e, hp⟩ := nat_ck hc (by omega) g
  by_cases g0 : σ.1 (461 + 18 * p + 1) = 1 ∧ npl σ.1 2 < σ.1 1
  · exact kk_7 (σ' := ((wu (wu σ.1 (461 + 18 * p + 1) 2) (461 + 18 * p + 14) (σ.1 0)), σ.1, σ.2.2.1, true, σ.2.2.2.2)) h hs hO ⟨Wd_shed h.2.2.1 hp (by omega) g0.1, fun _ => h.2.2.1, h.2.2.2.2.1, h.2.2.2.2.2⟩ (by rw [e]; exact f_shed (d := d + 48) h.1 h.2.2.1 hc hp g0.1 g0.2) fun B0 i0 h0 => by rw [e]; exact m_shed (d := d + 49) h0 hc hp g0.1 g0.2
  · exact kk_7 h hs hO h.2.2 (by rw [e]; exact f_shed0 (d := d + 48) h.1 hc hp g0) fun B0 i0 h0 => by rw [e]; exact m_shed0 (d := d + 49) h0 hc hp g0
theorem z_nm1 {n : Nat} (h : n < 2147483648) : ¬ Int32.ofNat n = -1 := fun q => by
  have e := congrArg Int32.toInt q
  rw [z_toInt h] at e
  have e1 : (-1 : Int32).toInt = -1 := by decide
  omega
/-- a need gives its piece back to the pond -/
def frw (w : Nat → Int32) (s n p : Nat) : Nat → Int32 := wu (wu (wu (wu (wu w (2622 + 49 * s + 9 + 5 * n + 4) (-1)) (461 + 18 * p + 1) 1) (461 + 18 * p + 11) (-1)) (461 + 18 * p + 12) (-1)) (461 + 18 * p + 13) 0
abbrev fri (i : Nat → Nat → Int32) (b s n p : Nat) : Nat → Nat → Int32 := am_up2 (am_up2 (am_up2 (am_up2 (am_up2 i (b + 212 + 6 * s + 5) n (-1)) (b + 92 + p) 9 1) (b + 92 + p) 16 (-1)) (b + 92 + p) 17 (-1)) (b + 92 + p) 18 0
theorem frw_ne {s n p z : Nat} (h : z ≠ 2622 + 49 * s + 9 + 5 * n + 4) (h1 : z ≠ 461 + 18 * p + 1) (h2 : z < 461 + 18 * p + 11 ∨ 461 + 18 * p + 13 < z) : frw w s n p z = w z := by
  unfold frw
  simp (disch := omega) only [wu_ne]
theorem c_takeOut {s n p : Nat} (hY : Yd B b) (hS : RS i b w) (h5 : i b 5 = w 460) (hc : isc w 2621 8) (hs : s < cn w 2621) (hn : isc w (2622 + 49 * s + 8) 8) (h : n < cn w (2622 + 49 * s + 8)) (h4 : isc w 460 120) (g : w (2622 + 49 * s + 9 + 5 * n + 4) = Int32.ofNat p) (hp : p < cn w 460) : am_fx am_P (d + 3) 253 0 [some (.ref b), some (.ref (b + 212 + 6 * s)), some (.int (Int32.ofNat n)), none] [] (am_wI B i) = some (.inl none, am_wI B (fri i b s n p)) := by
  have h2 := hc.2
  have h3 := hn.2
  have h6 := h4.2
  have g1 := ck_nat hn (by omega) h
  have a9 := (hS.2 s hs (by omega)).2.2.2.2.2.2.2.2.1
  rw [bk_253_0]
  simp (maxSteps := 1000000) (disch := omega) only [c_pcI1 (d := d) hY hS h5 hc hs hn h h4 g hp, (fun d x0 x1 x2 B i => bk_227_0 d x0 x1 x2 (am_wI B i)), (fun d x0 B i => bk_159_0 d x0 (am_wI B i)), (fun d x0 B i => bk_159_10 d x0 (am_wI B i)), c_within1 (x := Int32.ofNat n) (a := 0) (c := w (2622 + 49 * s + 8) - 1) ⟨g1.1, by rw [z_pred hn.1 (by omega)]; exact fun q => q g1.2⟩, a9, hY, y_ckd, y_ck2d, y_ond, y_onn, y_oI, y_oIx, y_oJ, y_oV, y_oVx, y_oR, y_oRn, y_oRx, y_b0, y_b1, y_bi, y_bid, y_wIK, y_wIL, y_wII, y_wIJ, y_wIR, y_wIN, y_wIw, y_sI, ↓reduceIte, Nat.reduceEqDiff, eq_self, true_or, or_true, false_or, or_false, and_true, true_and, false_and, and_false, not_true, not_false_eq_true, tf_T, tf_F, y_up1, y_up2, y_xx, y_nx, y_sJ, y_sR, Int32.reduceLT, y_nxK, y_nxL, y_nxR, y_sJK, y_sJL, y_sJR, y_sJN, y_sRK, y_sRL, y_sRN, Nat.add_zero, z_nat, z_lit, z_lit0, z_lit1, z_in0, z_in1, z_addl0, z_lt, z_ltl, z_llt, z_inj, z_injl, z_add, z_addl, z_ladd, z_mul, z_mull, z_lmul, z_neg, z_negl, z_in, z_inl, z_ltT, z_ltF, z_eqF, z_10, z_01, z_litne, z_ne0, z_0ne, z_ne1, z_1ne, z_lt64, z_02, z_03, z_04, z_05, z_12, z_13, z_14, z_15, z_20, z_21, z_23, z_24, z_25, z_30, z_31, z_32, z_34, z_35, z_40, z_41, z_42, z_43, z_45, z_50, z_51, z_52, z_53, z_54]
theorem c_takeOut0 {s n : Nat} (hY : Yd B b) (hS : RS i b w) (h5 : i b 5 = w 460) (hc : isc w 2621 8) (hs : s < cn w 2621) (hn : isc w (2622 + 49 * s + 8) 8) (h : n < cn w (2622 + 49 * s + 8)) (h4 : isc w 460 120) (g : w (2622 + 49 * s + 9 + 5 * n + 4) = -1) : am_fx am_P (d + 3) 253 0 [some (.ref b), some (.ref (b + 212 + 6 * s)), some (.int (Int32.ofNat n)), none] [] (am_wI B i) = some (.inl none, am_wI B (am_up2 i (b + 212 + 6 * s + 5) n (-1))) := by
  have h2 := hc.2
  have h3 := hn.2
  have g1 := ck_nat hn (by omega) h
  have a9 := (hS.2 s hs (by omega)).2.2.2.2.2.2.2.2.1
  rw [bk_253_0]
  simp (maxSteps := 1000000) (disch := omega) only [c_pcI0 (d := d) hY hS h5 hc hs hn h h4 g, (fun d x0 x1 x2 B i => bk_227_0 d x0 x1 x2 (am_wI B i)), c_within1 (x := Int32.ofNat n) (a := 0) (c := w (2622 + 49 * s + 8) - 1) ⟨g1.1, by rw [z_pred hn.1 (by omega)]; exact fun q => q g1.2⟩, a9, hY, y_ckd, y_ck2d, y_ond, y_onn, y_oI, y_oIx, y_oJ, y_oV, y_oVx, y_oR, y_oRn, y_oRx, y_b0, y_b1, y_bi, y_bid, y_wIK, y_wIL, y_wII, y_wIJ, y_wIR, y_wIN, y_wIw, y_sI, ↓reduceIte, Nat.reduceEqDiff, eq_self, true_or, or_true, false_or, or_false, and_true, true_and, false_and, and_false, not_true, not_false_eq_true, tf_T, tf_F, y_up1, y_up2, y_xx, y_nx, y_sJ, y_sR, Int32.reduceLT, y_nxK, y_nxL, y_nxR, y_sJK, y_sJL, y_sJR, y_sJN, y_sRK, y_sRL, y_sRN, Nat.add_zero, z_nat, z_lit, z_lit0, z_lit1, z_in0, z_in1, z_addl0, z_lt, z_ltl, z_llt, z_inj, z_injl, z_add, z_addl, z_ladd, z_mul, z_mull, z_lmul, z_neg, z_negl, z_in, z_inl, z_ltT, z_ltF, z_eqF, z_10, z_01, z_litne, z_ne0, z_0ne, z_ne1, z_1ne, z_lt64, z_02, z_03, z_04, z_05, z_12, z_13, z_14, z_15, z_20, z_21, z_23, z_24, z_25, z_30, z_31, z_32, z_34, z_35, z_40, z_41, z_42, z_43, z_45, z_50, z_51, z_52, z_53, z_54]
theorem Rep_take {s n p : Nat} (h : Rep B i b w) (hb : b + 260 ≤ 874) (hs : s < cn w 2621) (h8 : s < 8) (n8 : n < 8) (hp : p < cn w 460) (h120 : p < 120) : Rep B (fri i b s n p) b (frw w s n p) := by
  have h1 : Rep B (am_up2 i (b + 212 + 6 * s + 5) n (-1)) b (wu w (2622 + 49 * s + 9 + 5 * n + 4) (-1)) := Rep_sh h hb h8 (by intros; simp (disch := omega) only [y_up2]) (by intros; simp (disch := omega) only [wu_ne]) (ShR_n (h.2.2.2.1.2 s hs h8) n8)
  have e460 : cn (wu w (2622 + 49 * s + 9 + 5 * n + 4) (-1)) 460 = cn w 460 := by unfold cn; rw [wu_ne (by omega)]
  refine Rep_pc h1 hb h120 (fun q k hq => by simp (disch := omega) only [y_up2]) (fun z hz => by unfold frw; simp (disch := omega) only [wu_ne]) ?_
  obtain ⟨b0, b1, b2, b3, b4, b5, b6, b7, b8, b9, b10, b11, b12, b13, b14, b15, b16, b17, b18⟩ := h1.2.2.1.2 p (by omega) h120
  unfold frw fri
  generalize am_up2 i (b + 212 + 6 * s + 5) n (-1) = i1 at *
  generalize wu w (2622 + 49 * s + 9 + 5 * n + 4) (-1) = w1 at *
  refine ⟨?_, ?_, ?_, ?_, ?_, ?_, ?_, ?_, ?_, ?_, ?_, ?_, ?_, ?_, ?_, ?_, ?_, fun e => ?_, ?_⟩
  all_goals try (simp (disch := omega) only [y_up1, y_up2, wu_at, wu_ne]; try assumption)
  · simp (disch := omega) only [wu_at, wu_ne] at e
    exact absurd e (by decide)
  · rw [hrt_fr (w := w1) (fun t ht => by simp (disch := omega) only [wu_ne])]
    assumption
theorem Wd_take {s n p : Nat} (h : Wd w) (hs : s < cn w 2621) (h8 : s < 8) (n8 : n < 8) (hp : p < cn w 460) (h120 : p < 120) (hn : n < cn w (2622 + 49 * s + 8)) (gn : w (2622 + 49 * s + 9 + 5 * n + 4) = Int32.ofNat p) : Wd (frw w s n p) := by
  have ge : cn w (2622 + 49 * s + 9 + 5 * n + 4) = p := cn_of gn (by omega)
  have gI := h.2.2.2.2.2.2.2.2.2.2 s hs h8 n hn n8 (by rw [gn]; exact z_nm1 (by omega)) (by omega)
  rw [ge] at gI
  have gp : w (461 + 18 * p + 1) ≠ 5 := by rw [gI.1]; decide
  have gU : ∀ t m, t < 8 → m < 8 → ¬ (t = s ∧ m = n) → t < cn w 2621 → m < cn w (2622 + 49 * t + 8) → ¬ w (2622 + 49 * t + 9 + 5 * m + 4) = -1 → cn w (2622 + 49 * t + 9 + 5 * m + 4) = p → False := fun t m t8 m8 ne ht hm g e => by
    have q := h.2.2.2.2.2.2.2.2.2.2 t ht t8 m hm m8 g (by omega)
    rw [e, gI.2.1, gI.2.2, z_inj (by omega) (by omega), z_inj (by omega) (by omega)] at q
    omega
  have h1 := Wd_shn (v := -1) h hs h8 n8 (Or.inl rfl) (WdI_clr h.2.2.2.2.2.2.2.2.2.2)
  have e460 : cn (wu w (2622 + 49 * s + 9 + 5 * n + 4) (-1)) 460 = cn w 460 := by unfold cn; rw [wu_ne (by omega)]
  have gp1 : wu w (2622 + 49 * s + 9 + 5 * n + 4) (-1) (461 + 18 * p + 1) ≠ 5 := by rw [wu_ne (by omega)]; exact gp
  have gV : ∀ t m, t < cn (wu w (2622 + 49 * s + 9 + 5 * n + 4) (-1)) 2621 → t < 8 → m < cn (wu w (2622 + 49 * s + 9 + 5 * n + 4) (-1)) (2622 + 49 * t + 8) → m < 8 → ¬ wu w (2622 + 49 * s + 9 + 5 * n + 4) (-1) (2622 + 49 * t + 9 + 5 * m + 4) = -1 → cn (wu w (2622 + 49 * s + 9 + 5 * n + 4) (-1)) (2622 + 49 * t + 9 + 5 * m + 4) = p → False := fun t m ht t8 hm m8 g e => by
    by_cases c : t = s ∧ m = n
    · obtain ⟨rfl, rfl⟩ := c
      exact g (wu_at rfl)
    · unfold cn at ht hm e
      rw [wu_ne (by omega)] at ht hm e g
      exact gU t m t8 m8 c ht hm g e
  unfold frw
  generalize wu w (2622 + 49 * s + 9 + 5 * n + 4) (-1) = w1 at *
  obtain ⟨a1, a2, a3, a4, a5, a6, a7, a8, a9, a10, a11, a12, a13⟩ := h1.2.2.2.1.1 p (by omega) h120
  refine Wd_pc h1 (by omega) h120 (fun z hz => by simp (disch := omega) only [wu_ne]) ⟨?_, ?_, ?_, ?_, ?_, ?_, ?_, ?_, ?_, ?_, ?_, ?_, ?_⟩ (lnt_pl (by simp (disch := omega) only [wu_ne]) (by simp (disch := omega) only [wu_ne]) (Or.inl gp1)) (fun t m ht t8 hm m8 g e => (gV t m ht t8 hm m8 g e).elim)
  · unfold cn
    simp (disch := omega) only [wu_ne]
    exact a1
  all_goals try (simp (disch := omega) only [wu_ne]; assumption)
  · simp (disch := omega) only [wu_at, wu_ne]
    decide
  · simp (disch := omega) only [wu_at, wu_ne]
    exact Or.inl trivial
  · simp (disch := omega) only [wu_at, wu_ne]
    exact fun q => absurd q (by decide)
  · simp (disch := omega) only [wu_at]
    exact Or.inl trivial
abbrev frm (i : Nat → Nat → Int32) (s n p : Nat) : Nat → Nat → Int32 := am_up2 (am_up2 (am_up2 (am_up2 (am_up2 i 875 (2622 + 49 * s + 9 + 5 * n + 4) (-1)) 875 (461 + 18 * p + 1) 1) 875 (461 + 18 * p + 11) (-1)) 875 (461 + 18 * p + 12) (-1)) 875 (461 + 18 * p + 13) 0
theorem m_frees {s n p : Nat} (hM : Md B) (hs : s < 8) (hn : n < 8) (hp : p < 120) (g : i 875 (2622 + 49 * s + 9 + 5 * n + 4) = Int32.ofNat p) : am_fx am_P (d + 3) 81 0 [some (.ref 874), some (.int (Int32.ofNat (2622 + 49 * s + 9 + 5 * n))), none] [] (am_wI B i) = some (.inl none, am_wI B (frm i s n p)) := by
  rw [bk_81_0]
  simp (maxSteps := 1000000) (disch := omega) only [(fun d x0 x1 x2 x3 B i => bk_25_0 d x0 x1 x2 x3 (am_wI B i)), (fun d x0 x1 B i => bk_23_0 d x0 x1 (am_wI B i)), (fun d B i => bk_81_49 d (am_wI B i)), g, hM, y_ckd, y_ck2d, y_ond, y_onn, y_oI, y_oIx, y_oJ, y_oV, y_oVx, y_oR, y_oRn, y_oRx, y_b0, y_b1, y_bi, y_bid, y_wIK, y_wIL, y_wII, y_wIJ, y_wIR, y_wIN, y_wIw, y_sI, ↓reduceIte, Nat.reduceEqDiff, eq_self, true_or, or_true, false_or, or_false, and_true, true_and, false_and, and_false, not_true, not_false_eq_true, tf_T, tf_F, y_up1, y_up2, y_xx, y_nx, y_sJ, y_sR, Int32.reduceLT, y_nxK, y_nxL, y_nxR, y_sJK, y_sJL, y_sJR, y_sJN, y_sRK, y_sRL, y_sRN, Nat.add_zero, z_nat, z_lit, z_lit0, z_lit1, z_in0, z_in1, z_addl0, z_lt, z_ltl, z_llt, z_inj, z_injl, z_add, z_addl, z_ladd, z_mul, z_mull, z_lmul, z_neg, z_negl, z_in, z_inl, z_ltT, z_ltF, z_eqF, z_10, z_01, z_litne, z_ne0, z_0ne, z_ne1, z_1ne, z_lt64, z_02, z_03, z_04, z_05, z_12, z_13, z_14, z_15, z_20, z_21, z_23, z_24, z_25, z_30, z_31, z_32, z_34, z_35, z_40, z_41, z_42, z_43, z_45, z_50, z_51, z_52, z_53, z_54]
theorem frm_w {s n p : Nat} (h : ∀ z, z < 12042 → i 875 z = w z) : ∀ z, z < 12042 → frm i s n p 875 z = frw w s n p z := up_wu (up_wu (up_wu (up_wu (up_wu h))))
end Pcs
