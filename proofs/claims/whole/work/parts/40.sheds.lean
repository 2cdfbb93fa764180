theorem k_sheds {B : am_A} {i : Nat → Nat → Int32} {σ : Sg} {L j d : Nat} (h : Sim B i σ) (hs : Sc B i L j) : ∃ (B' : am_A) (i' : Nat → Nat → Int32) (σ' : Sg), am_fx am_P (d + 20) 397 708 [some (.ref 0), some (.ref 64), some (.ref 874), some (.ref 892), some (.int (Int32.ofNat j)), none, none] [] (am_wI B i) = am_fx am_P (d + 20) 397 3646 [some (.ref 0), some (.ref 64), some (.ref 874), some (.ref 892), some (.int (Int32.ofNat j)), none, none] [] (am_wI B' i') ∧ Sim B' i' σ' ∧ Kp B i B' i' := by
  obtain ⟨hC, hM, hW⟩ := h
  obtain ⟨s1, s2, s3, s4⟩ := hs
  have hMd : Md B := hM.1.1
  have hFc : Fc B := hC.1.1
  have hY : Yd B 94 := hC.1.2.1
  generalize hv : i 0 (j + 1) = v
  by_cases g : ¬ v < 1 ∧ ¬ 120 < v
  · refine ⟨B, am_up2 (am_up2 (am_up2 i 94 6 v) 874 0 0) 875 1 v, (wu σ.1 1 v, σ.2), ?_, ?_, ?_⟩
    · rw [bk_397_708]
      simp (disch := omega) only [bk_358_0, bk_297_0, bk_31_0, bk_31_21, bk_9_0, c_within, c_ckN1, m_in, m_thr0, hv, g, hMd, hFc, hY, s1, s2, y_ckd, y_ck2d, y_ond, y_onn, y_oI, y_oIx, y_oJ, y_oV, y_oVx, y_oR, y_oRn, y_oRx, y_b0, y_b1, y_bi, y_bid, y_wIK, y_wIL, y_wII, y_wIJ, y_wIR, y_wIN, y_wIw, y_sI, ↓reduceIte, Nat.reduceEqDiff, eq_self, true_or, or_true, false_or, or_false, and_true, true_and, false_and, and_false, not_true, not_false_eq_true, tf_T, tf_F, y_up1, y_up2, y_xx, y_nx, y_sJ, y_sR, z_nat, z_lit, z_lit0, z_lit1, z_in0, z_in1, z_addl0, z_lt, z_ltl, z_llt, z_inj, z_injl, z_add, z_addl, z_ladd, z_mul, z_mull, z_lmul, z_neg, z_negl, z_in, z_inl, z_ltT, z_ltF, z_eqF]
    · sorry
    · sorry
  · refine ⟨am_nx (am_xx B 1 6), am_up2 (am_up2 i 874 0 0) 874 0 1, σ, ?_, ?_, ?_⟩
    · rw [bk_397_708]
      simp (disch := omega) only [bk_358_0, bk_297_0, bk_31_0, bk_31_21, bk_9_0, c_within, c_ckN0, m_in, m_thr1 hMd, hv, g, hMd, hFc, hY, s1, s2, y_ckd, y_ck2d, y_ond, y_onn, y_oI, y_oIx, y_oJ, y_oV, y_oVx, y_oR, y_oRn, y_oRx, y_b0, y_b1, y_bi, y_bid, y_wIK, y_wIL, y_wII, y_wIJ, y_wIR, y_wIN, y_wIw, y_sI, ↓reduceIte, Nat.reduceEqDiff, eq_self, true_or, or_true, false_or, or_false, and_true, true_and, false_and, and_false, not_true, not_false_eq_true, tf_T, tf_F, y_up1, y_up2, y_xx, y_nx, y_sJ, y_sR, z_nat, z_lit, z_lit0, z_lit1, z_in0, z_in1, z_addl0, z_lt, z_ltl, z_llt, z_inj, z_injl, z_add, z_addl, z_ladd, z_mul, z_mull, z_lmul, z_neg, z_negl, z_in, z_inl, z_ltT, z_ltF, z_eqF]
    · sorry
    · sorry
