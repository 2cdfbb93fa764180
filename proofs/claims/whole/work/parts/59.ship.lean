/-! SHIP, NEED, TREE: made by wip/whole/math/59.py. -/
section Makes
variable {B : am_A} {i : Nat → Nat → Int32} {σ : Sg} {w w' : Nat → Int32} {L j d : Nat} {x y z u v t : Int32}
theorem PcW_up {o : Nat} (h : PcW w o) (hw : ∀ s, o ≤ s ∧ s < o + 18 → w' s = w s) (h0 : ∀ x, ¬ w 0 < x → ¬ w' 0 < x) (h39 : ∀ x, x < w 39 → x < w' 39) (h26 : ∀ x, x < w 2621 → x < w' 2621) : PcW w' o := by
  obtain ⟨a1, a2, a3, a4, a5, a6, a7, a8, a9, a10, a11, a12, a13⟩ := h
  have e2 : cn w' (o + 2) = cn w (o + 2) := by unfold cn; rw [hw _ (by omega)]
  refine ⟨?_, ?_, ?_, ?_, ?_, ?_, ?_, ?_, ?_, ?_, ?_, ?_, ?_⟩
  · rw [e2, hw o (by omega), hw (o + 2) (by omega)]
    exact a1
  · rw [hw o (by omega)]
    exact a2
  · rw [hw _ (by omega)]
    exact a3
  · rw [hw _ (by omega)]
    exact a4
  · rw [hw _ (by omega)]
    exact a5
  · rw [hw _ (by omega)]
    exact ⟨a6.1, h0 _ a6.2⟩
  · rw [hw _ (by omega)]
    exact a7
  · rw [hw _ (by omega)]
    exact a8.imp id fun q => ⟨q.1, h39 _ q.2⟩
  · rw [hw _ (by omega)]
    exact a9.imp id fun q => ⟨q.1, h26 _ q.2⟩
  · rw [hw (o + 1) (by omega), hw (o + 11) (by omega)]
    exact a10
  · rw [hw _ (by omega)]
    exact a11
  · rw [hw _ (by omega)]
    exact a12
  · rw [hw _ (by omega)]
    exact a13
theorem z_n1 {c : Nat} : Int32.ofNat (c + 1) - 1 = Int32.ofNat c := z_sub (a := c + 1) (b := 1) (by omega)
theorem f_ship_x0 {x y z : Int32} (h : CR B i σ)  (a : ¬ (¬ x < 1 ∧ ¬ 40 < x)) : FRs B i σ (am_fx am_P (d + 150) 306 0 [some (.ref 64), some (.int x), some (.int y), some (.int z), none] [] (am_wI B i)) (.inr 2) := by
  refine FRs_x h ?_
  have hF : Fc B := h.1.1
  have hY : Yd B 94 := h.1.2.1
  rw [bk_306_0]
  simp (disch := first | omega | simp only [hF, hY]) only [(fun d x0 x1 x2 x3 B i => bk_306_0 d x0 x1 x2 x3 (am_wI B i)), (fun d x0 x1 x2 x3 s0 B i => bk_306_26 d x0 x1 x2 x3 s0 (am_wI B i)), (fun d x0 B i => bk_306_58 d x0 (am_wI B i)), c_within, c_ckN0, c_ckN1, a, hF, hY, y_ckw, y_ck2w, y_ck2x, y_ond, y_onn, y_oI, y_oIx, y_oJ, y_oV, y_oVx, y_oR, y_oRn, y_oRx, y_b0, y_b1, y_bi, y_bid, y_wIK, y_wIL, y_wII, y_wIJ, y_wIR, y_wIN, y_wIw, y_sI, ↓reduceIte, Nat.reduceEqDiff, eq_self, true_or, or_true, false_or, or_false, and_true, true_and, false_and, and_false, not_true, not_false_eq_true, tf_T, tf_F, y_up1, y_up2, y_xx, y_nx, y_sJ, y_sR, Int32.reduceLT, y_nxK, y_nxL, y_nxR, y_sJK, y_sJL, y_sJR, y_sJN, y_sRK, y_sRL, y_sRN, Nat.add_zero, z_nat, z_lit, z_lit0, z_lit1, z_in0, z_in1, z_addl0, z_lt, z_ltl, z_llt, z_inj, z_injl, z_add, z_addl, z_ladd, z_mul, z_mull, z_lmul, z_neg, z_negl, z_in, z_inl, z_ltT, z_ltF, z_eqF, z_10, z_01, z_litne, z_ne0, z_0ne, z_ne1, z_1ne, z_lt64, z_02, z_03, z_04, z_05, z_12, z_13, z_14, z_15, z_20, z_21, z_23, z_24, z_25, z_30, z_31, z_32, z_34, z_35, z_40, z_41, z_42, z_43, z_45, z_50, z_51, z_52, z_53, z_54]
theorem m_ship_x0 {x y z : Int32} (h : MR B i σ)  (a : ¬ (¬ x < 1 ∧ ¬ 40 < x)) : MRs B i σ (am_fx am_P (d + 150) 72 0 [some (.ref 874), some (.int x), some (.int y), some (.int z), none] [] (am_wI B i)) (some (.int 0)) 1 := by
  refine MRs_x h ?_
  have hM : Md B := h.1.1
  rw [bk_72_0]
  simp (disch := first | omega | simp only [hM]) only [(fun d x0 x1 x2 x3 B i => bk_72_0 d x0 x1 x2 x3 (am_wI B i)), (fun d x0 x1 x2 x3 s0 s1 B i => bk_72_32 d x0 x1 x2 x3 s0 s1 (am_wI B i)), (fun d x0 x1 x2 x3 s0 s1 B i => bk_72_58 d x0 x1 x2 x3 s0 s1 (am_wI B i)), (fun d x0 x4 s0 s1 s2 s3 B i => bk_72_118 d x0 x4 s0 s1 s2 s3 (am_wI B i)), m_in, m_thr1 hM, a, hM, y_ckw, y_ck2w, y_ck2x, y_ond, y_onn, y_oI, y_oIx, y_oJ, y_oV, y_oVx, y_oR, y_oRn, y_oRx, y_b0, y_b1, y_bi, y_bid, y_wIK, y_wIL, y_wII, y_wIJ, y_wIR, y_wIN, y_wIw, y_sI, ↓reduceIte, Nat.reduceEqDiff, eq_self, true_or, or_true, false_or, or_false, and_true, true_and, false_and, and_false, not_true, not_false_eq_true, tf_T, tf_F, y_up1, y_up2, y_xx, y_nx, y_sJ, y_sR, Int32.reduceLT, y_nxK, y_nxL, y_nxR, y_sJK, y_sJL, y_sJR, y_sJN, y_sRK, y_sRL, y_sRN, Nat.add_zero, z_nat, z_lit, z_lit0, z_lit1, z_in0, z_in1, z_addl0, z_lt, z_ltl, z_llt, z_inj, z_injl, z_add, z_addl, z_ladd, z_mul, z_mull, z_lmul, z_neg, z_negl, z_in, z_inl, z_ltT, z_ltF, z_eqF, z_10, z_01, z_litne, z_ne0, z_0ne, z_ne1, z_1ne, z_lt64, z_02, z_03, z_04, z_05, z_12, z_13, z_14, z_15, z_20, z_21, z_23, z_24, z_25, z_30, z_31, z_32, z_34, z_35, z_40, z_41, z_42, z_43, z_45, z_50, z_51, z_52, z_53, z_54]
theorem f_ship_x1 {x y z : Int32} (h : CR B i σ) (a : ¬ x < 1 ∧ ¬ 40 < x) (b : ¬ (¬ y < 0 ∧ ¬ 5000 < y)) : FRs B i σ (am_fx am_P (d + 150) 306 0 [some (.ref 64), some (.int x), some (.int y), some (.int z), none] [] (am_wI B i)) (.inr 2) := by
  refine FRs_x h ?_
  have hF : Fc B := h.1.1
  have hY : Yd B 94 := h.1.2.1
  rw [bk_306_0]
  simp (disch := first | omega | simp only [hF, hY]) only [(fun d x0 x1 x2 x3 B i => bk_306_0 d x0 x1 x2 x3 (am_wI B i)), (fun d x0 x1 x2 x3 s0 B i => bk_306_26 d x0 x1 x2 x3 s0 (am_wI B i)), (fun d x0 B i => bk_306_58 d x0 (am_wI B i)), c_within, c_ckN0, c_ckN1, a, b, hF, hY, y_ckw, y_ck2w, y_ck2x, y_ond, y_onn, y_oI, y_oIx, y_oJ, y_oV, y_oVx, y_oR, y_oRn, y_oRx, y_b0, y_b1, y_bi, y_bid, y_wIK, y_wIL, y_wII, y_wIJ, y_wIR, y_wIN, y_wIw, y_sI, ↓reduceIte, Nat.reduceEqDiff, eq_self, true_or, or_true, false_or, or_false, and_true, true_and, false_and, and_false, not_true, not_false_eq_true, tf_T, tf_F, y_up1, y_up2, y_xx, y_nx, y_sJ, y_sR, Int32.reduceLT, y_nxK, y_nxL, y_nxR, y_sJK, y_sJL, y_sJR, y_sJN, y_sRK, y_sRL, y_sRN, Nat.add_zero, z_nat, z_lit, z_lit0, z_lit1, z_in0, z_in1, z_addl0, z_lt, z_ltl, z_llt, z_inj, z_injl, z_add, z_addl, z_ladd, z_mul, z_mull, z_lmul, z_neg, z_negl, z_in, z_inl, z_ltT, z_ltF, z_eqF, z_10, z_01, z_litne, z_ne0, z_0ne, z_ne1, z_1ne, z_lt64, z_02, z_03, z_04, z_05, z_12, z_13, z_14, z_15, z_20, z_21, z_23, z_24, z_25, z_30, z_31, z_32, z_34, z_35, z_40, z_41, z_42, z_43, z_45, z_50, z_51, z_52, z_53, z_54]
theorem m_ship_x1 {x y z : Int32} (h : MR B i σ) (a : ¬ x < 1 ∧ ¬ 40 < x) (b : ¬ (¬ y < 0 ∧ ¬ 5000 < y)) : MRs B i σ (am_fx am_P (d + 150) 72 0 [some (.ref 874), some (.int x), some (.int y), some (.int z), none] [] (am_wI B i)) (some (.int 0)) 1 := by
  refine MRs_x h ?_
  have hM : Md B := h.1.1
  rw [bk_72_0]
  simp (disch := first | omega | simp only [hM]) only [(fun d x0 x1 x2 x3 B i => bk_72_0 d x0 x1 x2 x3 (am_wI B i)), (fun d x0 x1 x2 x3 s0 s1 B i => bk_72_32 d x0 x1 x2 x3 s0 s1 (am_wI B i)), (fun d x0 x1 x2 x3 s0 s1 B i => bk_72_58 d x0 x1 x2 x3 s0 s1 (am_wI B i)), (fun d x0 x4 s0 s1 s2 s3 B i => bk_72_118 d x0 x4 s0 s1 s2 s3 (am_wI B i)), m_in, m_thr1 hM, a, b, hM, y_ckw, y_ck2w, y_ck2x, y_ond, y_onn, y_oI, y_oIx, y_oJ, y_oV, y_oVx, y_oR, y_oRn, y_oRx, y_b0, y_b1, y_bi, y_bid, y_wIK, y_wIL, y_wII, y_wIJ, y_wIR, y_wIN, y_wIw, y_sI, ↓reduceIte, Nat.reduceEqDiff, eq_self, true_or, or_true, false_or, or_false, and_true, true_and, false_and, and_false, not_true, not_false_eq_true, tf_T, tf_F, y_up1, y_up2, y_xx, y_nx, y_sJ, y_sR, Int32.reduceLT, y_nxK, y_nxL, y_nxR, y_sJK, y_sJL, y_sJR, y_sJN, y_sRK, y_sRL, y_sRN, Nat.add_zero, z_nat, z_lit, z_lit0, z_lit1, z_in0, z_in1, z_addl0, z_lt, z_ltl, z_llt, z_inj, z_injl, z_add, z_addl, z_ladd, z_mul, z_mull, z_lmul, z_neg, z_negl, z_in, z_inl, z_ltT, z_ltF, z_eqF, z_10, z_01, z_litne, z_ne0, z_0ne, z_ne1, z_1ne, z_lt64, z_02, z_03, z_04, z_05, z_12, z_13, z_14, z_15, z_20, z_21, z_23, z_24, z_25, z_30, z_31, z_32, z_34, z_35, z_40, z_41, z_42, z_43, z_45, z_50, z_51, z_52, z_53, z_54]
theorem f_ship_full (h : CR B i σ) (a : ¬ x < 1 ∧ ¬ 40 < x) (b : ¬ y < 0 ∧ ¬ 5000 < y) (hc : σ.1 2621 = Int32.ofNat 8) : FRs B i σ (am_fx am_P (d + 150) 306 0 [some (.ref 64), some (.int x), some (.int y), some (.int z), none] [] (am_wI B i)) (.inr 3) := by
  refine FRs_x h ?_
  have hF : Fc B := h.1.1
  have hY : Yd B 94 := h.1.2.1
  have e : i 94 8 = Int32.ofNat 8 := h.2.1.2.2.2.1.1.trans hc
  rw [bk_306_0]
  simp (disch := omega) only [(fun d x0 x1 x2 x3 B i => bk_306_0 d x0 x1 x2 x3 (am_wI B i)), (fun d x0 x1 x2 x3 s0 B i => bk_306_26 d x0 x1 x2 x3 s0 (am_wI B i)), (fun d x0 B i => bk_306_58 d x0 (am_wI B i)), c_within, c_ckN0, c_ckN1, a.1, a.2, b.1, b.2, e, c_ckR0 (x := Int32.ofNat 8) (c := 8) (by decide), hF, hY, y_ckd, y_ck2d, y_ond, y_onn, y_oI, y_oIx, y_oJ, y_oV, y_oVx, y_oR, y_oRn, y_oRx, y_b0, y_b1, y_bi, y_bid, y_wIK, y_wIL, y_wII, y_wIJ, y_wIR, y_wIN, y_wIw, y_sI, ↓reduceIte, Nat.reduceEqDiff, eq_self, true_or, or_true, false_or, or_false, and_true, true_and, false_and, and_false, not_true, not_false_eq_true, tf_T, tf_F, y_up1, y_up2, y_xx, y_nx, y_sJ, y_sR, Int32.reduceLT, y_nxK, y_nxL, y_nxR, y_sJK, y_sJL, y_sJR, y_sJN, y_sRK, y_sRL, y_sRN, Nat.add_zero, z_nat, z_lit, z_lit0, z_lit1, z_in0, z_in1, z_addl0, z_lt, z_ltl, z_llt, z_inj, z_injl, z_add, z_addl, z_ladd, z_mul, z_mull, z_lmul, z_neg, z_negl, z_in, z_inl, z_ltT, z_ltF, z_eqF, z_10, z_01, z_litne, z_ne0, z_0ne, z_ne1, z_1ne, z_lt64, z_02, z_03, z_04, z_05, z_12, z_13, z_14, z_15, z_20, z_21, z_23, z_24, z_25, z_30, z_31, z_32, z_34, z_35, z_40, z_41, z_42, z_43, z_45, z_50, z_51, z_52, z_53, z_54]
theorem m_ship_full (h : MR B i σ) (a : ¬ x < 1 ∧ ¬ 40 < x) (b : ¬ y < 0 ∧ ¬ 5000 < y) (hc : σ.1 2621 = Int32.ofNat 8) : MRs B i σ (am_fx am_P (d + 150) 72 0 [some (.ref 874), some (.int x), some (.int y), some (.int z), none] [] (am_wI B i)) (some (.int 0)) 2 := by
  refine MRs_x h ?_
  have hM : Md B := h.1.1
  have e : i 875 2621 = Int32.ofNat 8 := (h.2.1 2621 (by omega)).trans hc
  rw [bk_72_0]
  simp (disch := omega) only [(fun d x0 x1 x2 x3 B i => bk_72_0 d x0 x1 x2 x3 (am_wI B i)), (fun d x0 x1 x2 x3 s0 s1 B i => bk_72_32 d x0 x1 x2 x3 s0 s1 (am_wI B i)), (fun d x0 x1 x2 x3 s0 s1 B i => bk_72_58 d x0 x1 x2 x3 s0 s1 (am_wI B i)), (fun d x0 x4 s0 s1 s2 s3 B i => bk_72_118 d x0 x4 s0 s1 s2 s3 (am_wI B i)), m_in, m_thr0, m_thr1 hM, a.1, a.2, b.1, b.2, e, hM, y_ckd, y_ck2d, y_ond, y_onn, y_oI, y_oIx, y_oJ, y_oV, y_oVx, y_oR, y_oRn, y_oRx, y_b0, y_b1, y_bi, y_bid, y_wIK, y_wIL, y_wII, y_wIJ, y_wIR, y_wIN, y_wIw, y_sI, ↓reduceIte, Nat.reduceEqDiff, eq_self, true_or, or_true, false_or, or_false, and_true, true_and, false_and, and_false, not_true, not_false_eq_true, tf_T, tf_F, y_up1, y_up2, y_xx, y_nx, y_sJ, y_sR, Int32.reduceLT, y_nxK, y_nxL, y_nxR, y_sJK, y_sJL, y_sJR, y_sJN, y_sRK, y_sRL, y_sRN, Nat.add_zero, z_nat, z_lit, z_lit0, z_lit1, z_in0, z_in1, z_addl0, z_lt, z_ltl, z_llt, z_inj, z_injl, z_add, z_addl, z_ladd, z_mul, z_mull, z_lmul, z_neg, z_negl, z_in, z_inl, z_ltT, z_ltF, z_eqF, z_10, z_01, z_litne, z_ne0, z_0ne, z_ne1, z_1ne, z_lt64, z_02, z_03, z_04, z_05, z_12, z_13, z_14, z_15, z_20, z_21, z_23, z_24, z_25, z_30, z_31, z_32, z_34, z_35, z_40, z_41, z_42, z_43, z_45, z_50, z_51, z_52, z_53, z_54]
theorem f_ship {c : Nat} (h : CR B i σ) (a : ¬ x < 1 ∧ ¬ 40 < x) (b : ¬ y < 0 ∧ ¬ 5000 < y) (hz : z = 0 ∨ z = 1) (hc : σ.1 2621 = Int32.ofNat c) (c8 : c < 8) (hn : σ.1 (2622 + 49 * c) = 0 ∧ σ.1 (2622 + 49 * c + 6) = 0 ∧ σ.1 (2622 + 49 * c + 7) = 0 ∧ σ.1 (2622 + 49 * c + 8) = 0) : FRs B i ((wu (wu (wu (wu (wu (wu σ.1 2621 (Int32.ofNat (c + 1))) (2622 + 49 * c + 1) y) (2622 + 49 * c + 2) x) (2622 + 49 * c + 3) z) (2622 + 49 * c + 4) (-1)) (2622 + 49 * c + 5) (-1)), σ.2) (am_fx am_P (d + 150) 306 0 [some (.ref 64), some (.int x), some (.int y), some (.int z), none] [] (am_wI B i)) (.inl (some (.int (Int32.ofNat c)))) := by
  have hF : Fc B := h.1.1
  have hY : Yd B 94 := h.1.2.1
  have e : i 94 8 = Int32.ofNat c := h.2.1.2.2.2.1.1.trans hc
  have c8' : Int32.ofNat c < 8 := by rw [show (8 : Int32) = Int32.ofNat 8 from rfl, z_lt (by omega) (by omega)]; omega
  refine FRs_w (i' := (am_up2 (am_up2 (am_up2 (am_up2 (am_up2 (am_up2 (am_up2 (am_up2 (am_up2 (am_up2 i 94 8 (Int32.ofNat (c + 1))) (94 + 212 + 6 * c) 0 x) (94 + 212 + 6 * c) 1 y) (94 + 212 + 6 * c) 2 z) (94 + 212 + 6 * c) 3 0) (94 + 212 + 6 * c) 4 (-1)) (94 + 212 + 6 * c) 5 (-1)) (94 + 212 + 6 * c) 6 0) (94 + 212 + 6 * c) 7 0) (94 + 212 + 6 * c) 8 0)) h ?_ ?_ (by intros; simp (disch := omega) only [y_up2])
  · rw [bk_306_0]
    simp (maxSteps := 1000000) (disch := omega) only [(fun d x0 x1 x2 x3 B i => bk_306_0 d x0 x1 x2 x3 (am_wI B i)), (fun d x0 x1 x2 x3 s0 B i => bk_306_26 d x0 x1 x2 x3 s0 (am_wI B i)), (fun d x0 B i => bk_306_58 d x0 (am_wI B i)), c_within, c_ckN0, c_ckN1, (fun d x0 B i => bk_239_0 d x0 (am_wI B i)), (fun d x0 x1 x2 x3 B i => bk_224_0 d x0 x1 x2 x3 (am_wI B i)), (fun d x0 x3 B i => bk_224_10 d x0 x3 (am_wI B i)), (fun d x0 B i => bk_224_20 d x0 (am_wI B i)), (fun d x0 B i => bk_224_30 d x0 (am_wI B i)), (fun d x0 B i => bk_224_40 d x0 (am_wI B i)), bk_0_0, a.1, a.2, b.1, b.2, e, c_ckR1 c8', y_bx hz, z_n1, hF, hY, y_ckd, y_ck2d, y_ond, y_onn, y_oI, y_oIx, y_oJ, y_oV, y_oVx, y_oR, y_oRn, y_oRx, y_b0, y_b1, y_bi, y_bid, y_wIK, y_wIL, y_wII, y_wIJ, y_wIR, y_wIN, y_wIw, y_sI, ↓reduceIte, Nat.reduceEqDiff, eq_self, true_or, or_true, false_or, or_false, and_true, true_and, false_and, and_false, not_true, not_false_eq_true, tf_T, tf_F, y_up1, y_up2, y_xx, y_nx, y_sJ, y_sR, Int32.reduceLT, y_nxK, y_nxL, y_nxR, y_sJK, y_sJL, y_sJR, y_sJN, y_sRK, y_sRL, y_sRN, Nat.add_zero, z_nat, z_lit, z_lit0, z_lit1, z_in0, z_in1, z_addl0, z_lt, z_ltl, z_llt, z_inj, z_injl, z_add, z_addl, z_ladd, z_mul, z_mull, z_lmul, z_neg, z_negl, z_in, z_inl, z_ltT, z_ltF, z_eqF, z_10, z_01, z_litne, z_ne0, z_0ne, z_ne1, z_1ne, z_lt64, z_02, z_03, z_04, z_05, z_12, z_13, z_14, z_15, z_20, z_21, z_23, z_24, z_25, z_30, z_31, z_32, z_34, z_35, z_40, z_41, z_42, z_43, z_45, z_50, z_51, z_52, z_53, z_54]
  · refine Rep_ship h.2.1 (Le.rf B) (by omega) rfl ?_ (by intros; simp (disch := omega) only [y_up2]) (by intros; simp (disch := omega) only [y_upr]) (by intros; simp (disch := omega) only [wu_ne])
    refine ⟨by simp (disch := omega) only [y_up1, y_up2, wu_at, wu_ne], fun s hs s8 => ?_⟩
    rw [cn_of (n := c + 1) (by simp (disch := omega) only [wu_at, wu_ne]) (by omega)] at hs
    by_cases es : s = c
    · subst es
      refine ⟨?_, ?_, ?_, ?_, ?_, ?_, ?_, ?_, ?_, fun n hn' n8 => ?_⟩
      all_goals try (simp (disch := omega) only [y_up1, y_up2, wu_at, wu_ne, hn])
      rw [cn_of (n := 0) (by simp (disch := omega) only [wu_ne]; exact hn.2.2.2) (by omega)] at hn'
      exact absurd hn' (Nat.not_lt_zero n)
    · exact ShR_fr (h.2.1.2.2.2.1.2 s (by rw [cn_of hc (by omega)]; omega) s8) (by intros; simp (disch := omega) only [y_up2]) (by intros; simp (disch := omega) only [wu_ne])
theorem m_ship {c : Nat} (h : MR B i σ) (a : ¬ x < 1 ∧ ¬ 40 < x) (b : ¬ y < 0 ∧ ¬ 5000 < y) (hz : z = 0 ∨ z = 1) (hc : σ.1 2621 = Int32.ofNat c) (c8 : c < 8) : MRs B i ((wu (wu (wu (wu (wu (wu σ.1 2621 (Int32.ofNat (c + 1))) (2622 + 49 * c + 1) y) (2622 + 49 * c + 2) x) (2622 + 49 * c + 3) z) (2622 + 49 * c + 4) (-1)) (2622 + 49 * c + 5) (-1)), σ.2) (am_fx am_P (d + 150) 72 0 [some (.ref 874), some (.int x), some (.int y), some (.int z), none] [] (am_wI B i)) (some (.int (Int32.ofNat c))) 0 := by
  have hM : Md B := h.1.1
  have e : i 875 2621 = Int32.ofNat c := (h.2.1 2621 (by omega)).trans hc
  have c8' : ¬ Int32.ofNat c = 8 := by rw [show (8 : Int32) = Int32.ofNat 8 from rfl, z_inj (by omega) (by omega)]; omega
  refine MRs_w (i' := (am_up2 (am_up2 (am_up2 (am_up2 (am_up2 (am_up2 (am_up2 i 874 0 0) 875 2621 (Int32.ofNat (c + 1))) 875 (2622 + 49 * c + 1) y) 875 (2622 + 49 * c + 2) x) 875 (2622 + 49 * c + 3) z) 875 (2622 + 49 * c + 4) (-1)) 875 (2622 + 49 * c + 5) (-1))) h ?_ (by rw [y_up2 (by omega), y_up2 (by omega), y_up2 (by omega), y_up2 (by omega), y_up2 (by omega), y_up2 (by omega), y_up1 rfl rfl]) (up_wu (up_wu (up_wu (up_wu (up_wu (up_wu (up_o (by omega) h.2.1))))))) (by intros; simp (disch := omega) only [y_up2])
  rw [bk_72_0]
  rcases hz with hz | hz <;> subst hz <;> simp (disch := omega) only [(fun d x0 x1 x2 x3 B i => bk_72_0 d x0 x1 x2 x3 (am_wI B i)), (fun d x0 x1 x2 x3 s0 s1 B i => bk_72_32 d x0 x1 x2 x3 s0 s1 (am_wI B i)), (fun d x0 x1 x2 x3 s0 s1 B i => bk_72_58 d x0 x1 x2 x3 s0 s1 (am_wI B i)), (fun d x0 x4 s0 s1 s2 s3 B i => bk_72_118 d x0 x4 s0 s1 s2 s3 (am_wI B i)), m_in, (fun d x0 x1 x2 x3 B i => bk_68_0 d x0 x1 x2 x3 (am_wI B i)), (fun d x0 x1 B i => bk_66_0 d x0 x1 (am_wI B i)), m_thr0, a.1, a.2, b.1, b.2, e, c8', hM, y_ckd, y_ck2d, y_ond, y_onn, y_oI, y_oIx, y_oJ, y_oV, y_oVx, y_oR, y_oRn, y_oRx, y_b0, y_b1, y_bi, y_bid, y_wIK, y_wIL, y_wII, y_wIJ, y_wIR, y_wIN, y_wIw, y_sI, ↓reduceIte, Nat.reduceEqDiff, eq_self, true_or, or_true, false_or, or_false, and_true, true_and, false_and, and_false, not_true, not_false_eq_true, tf_T, tf_F, y_up1, y_up2, y_xx, y_nx, y_sJ, y_sR, Int32.reduceLT, y_nxK, y_nxL, y_nxR, y_sJK, y_sJL, y_sJR, y_sJN, y_sRK, y_sRL, y_sRN, Nat.add_zero, z_nat, z_lit, z_lit0, z_lit1, z_in0, z_in1, z_addl0, z_lt, z_ltl, z_llt, z_inj, z_injl, z_add, z_addl, z_ladd, z_mul, z_mull, z_lmul, z_neg, z_negl, z_in, z_inl, z_ltT, z_ltF, z_eqF, z_10, z_01, z_litne, z_ne0, z_0ne, z_ne1, z_1ne, z_lt64, z_02, z_03, z_04, z_05, z_12, z_13, z_14, z_15, z_20, z_21, z_23, z_24, z_25, z_30, z_31, z_32, z_34, z_35, z_40, z_41, z_42, z_43, z_45, z_50, z_51, z_52, z_53, z_54]
theorem Wd_newship {c : Nat} (h : Wd w) (hy : ¬ y < 0 ∧ ¬ 5000 < y) (hz : z = 0 ∨ z = 1) (hc : w 2621 = Int32.ofNat c) (c8 : c < 8) : Wd (wu (wu (wu (wu (wu (wu w 2621 (Int32.ofNat (c + 1))) (2622 + 49 * c + 1) y) (2622 + 49 * c + 2) x) (2622 + 49 * c + 3) z) (2622 + 49 * c + 4) (-1)) (2622 + 49 * c + 5) (-1)) := by
  obtain ⟨h1, h2, h3, h4, h5, h6, h7, h8, h9, h10, h11⟩ := h
  have k : ∀ s, s ≠ 2621 → (s < 2622 + 49 * c + 1 ∨ 2622 + 49 * c + 6 ≤ s) → (wu (wu (wu (wu (wu (wu w 2621 (Int32.ofNat (c + 1))) (2622 + 49 * c + 1) y) (2622 + 49 * c + 2) x) (2622 + 49 * c + 3) z) (2622 + 49 * c + 4) (-1)) (2622 + 49 * c + 5) (-1)) s = w s := fun s a b => by simp (disch := omega) only [wu_ne]
  have k21 : (wu (wu (wu (wu (wu (wu w 2621 (Int32.ofNat (c + 1))) (2622 + 49 * c + 1) y) (2622 + 49 * c + 2) x) (2622 + 49 * c + 3) z) (2622 + 49 * c + 4) (-1)) (2622 + 49 * c + 5) (-1)) 2621 = Int32.ofNat (c + 1) := by simp (disch := omega) only [wu_at, wu_ne]
  have k1 : (wu (wu (wu (wu (wu (wu w 2621 (Int32.ofNat (c + 1))) (2622 + 49 * c + 1) y) (2622 + 49 * c + 2) x) (2622 + 49 * c + 3) z) (2622 + 49 * c + 4) (-1)) (2622 + 49 * c + 5) (-1)) (2622 + 49 * c + 1) = y := by simp (disch := omega) only [wu_at, wu_ne]
  have k3 : (wu (wu (wu (wu (wu (wu w 2621 (Int32.ofNat (c + 1))) (2622 + 49 * c + 1) y) (2622 + 49 * c + 2) x) (2622 + 49 * c + 3) z) (2622 + 49 * c + 4) (-1)) (2622 + 49 * c + 5) (-1)) (2622 + 49 * c + 3) = z := by simp (disch := omega) only [wu_at, wu_ne]
  have k4 : (wu (wu (wu (wu (wu (wu w 2621 (Int32.ofNat (c + 1))) (2622 + 49 * c + 1) y) (2622 + 49 * c + 2) x) (2622 + 49 * c + 3) z) (2622 + 49 * c + 4) (-1)) (2622 + 49 * c + 5) (-1)) (2622 + 49 * c + 4) = -1 := by simp (disch := omega) only [wu_at, wu_ne]
  generalize (wu (wu (wu (wu (wu (wu w 2621 (Int32.ofNat (c + 1))) (2622 + 49 * c + 1) y) (2622 + 49 * c + 2) x) (2622 + 49 * c + 3) z) (2622 + 49 * c + 4) (-1)) (2622 + 49 * c + 5) (-1)) = w' at k k21 k1 k3 k4 ⊢
  obtain ⟨b1, b2, b3, b4, b5, b6, b7, b8, b9, b10⟩ := h1
  have kk : ∀ s, s < 2621 ∨ 3014 ≤ s → w' s = w s := fun s hs => k s (by omega) (by omega)
  have l26 : ∀ x, x < w 2621 → x < w' 2621 := fun x hx => by rw [hc] at hx; rw [k21]; exact z_lt1 (by omega) hx
  have hcn : cn w 2621 = c := cn_of hc (by omega)
  refine ⟨⟨isc_fr b1 (kk _ (by omega)), isc_fr b2 (kk _ (by omega)), isc_fr b3 (kk _ (by omega)), isc_of k21 (by omega) (by omega), isc_fr b5 (kk _ (by omega)), isc_fr b6 (kk _ (by omega)), isc_fr b7 (kk _ (by omega)), isc_fr b8 (kk _ (by omega)), isc_fr b9 (kk _ (by omega)), isc_fr b10 (kk _ (by omega))⟩, WdR_fr h2 fun s _ => kk s (by omega), WdT_fr h3 fun s _ => kk s (by omega), ⟨fun p hp p6 => ?_, ?_⟩, ⟨fun s hs s8 => ?_, fun s hs s8 => ?_⟩, fun g hg g8 => ?_, WdE_fr h7 fun s _ => kk s (by omega), WdM_fr h8 fun s _ => kk s (by omega), WdX_fr h9 fun s _ => kk s (by omega), ?_, ?_⟩
  · have e : cn w' 460 = cn w 460 := by unfold cn; rw [kk _ (by omega)]
    exact PcW_up (h4.1 p (by omega) p6) (fun s hs => kk s (by omega)) (fun x hx => by rw [kk 0 (by omega)]; exact hx) (fun x hx => by rw [kk 39 (by omega)]; exact hx) l26
  · have e : cn w' 460 = cn w 460 := by unfold cn; rw [kk _ (by omega)]
    rw [lng_fr (fun s hs => kk s (by omega)) b3.2, e]
    exact h4.2
  · rw [cn_of k21 (by omega)] at hs
    by_cases es : s = c
    · subst es
      obtain ⟨n0, n6, n7, n8⟩ := h5.2 s (by omega) s8
      refine ⟨by rw [k _ (by omega) (by omega), n0]; decide, by rw [k1]; exact z_rg hy.1 hy.2 (by decide), by rw [k3]; exact hz, fun q => absurd q (by rw [k _ (by omega) (by omega), n0]; decide), fun _ => k4, by rw [k _ (by omega) (by omega)]; exact Or.inl n6, by rw [k _ (by omega) (by omega), n7]; decide, isc_of (n := 0) (by rw [k _ (by omega) (by omega), n8]; rfl) (by omega) (by omega), fun n hn => ?_⟩
      rw [cn_of (n := 0) (by rw [k _ (by omega) (by omega), n8]; rfl) (by omega)] at hn
      exact absurd hn (Nat.not_lt_zero n)
    · exact ShW_fr (h5.1 s (by omega) s8) fun z hz => k z (by omega) (by omega)
  · rw [cn_of k21 (by omega)] at hs
    rw [k _ (by omega) (by omega), k _ (by omega) (by omega), k _ (by omega) (by omega), k _ (by omega) (by omega)]
    exact h5.2 s (by omega) s8
  · have e : cn w' 3019 = cn w 3019 := by unfold cn; rw [kk _ (by omega)]
    rw [kk (3020 + 2 * g) (by omega), kk (3020 + 2 * g + 1) (by omega)]
    obtain ⟨q1, q2⟩ := h6 g (by omega) g8
    exact ⟨q1, q2.imp id fun q => ⟨q.1, l26 _ q.2⟩⟩
  · obtain ⟨z1, z2, z3, z4⟩ := h10
    have e39 : cn w' 39 = cn w 39 := by unfold cn; rw [kk _ (by omega)]
    have e34 : cn w' 3478 = cn w 3478 := by unfold cn; rw [kk _ (by omega)]
    refine ⟨fun t ht t6 => ?_, fun s hs s8 n hn n8 => ?_, fun q hq q8 => ?_, fun r hr y hy => ?_⟩
    · rw [kk (40 + 7 * t + 2) (by omega), kk (40 + 7 * t + 3) (by omega), kk (40 + 7 * t + 4) (by omega)]
      exact z1 t (by omega) t6
    · rw [cn_of k21 (by omega)] at hs
      have e8 : cn w' (2622 + 49 * s + 8) = cn w (2622 + 49 * s + 8) := by unfold cn; rw [k _ (by omega) (by omega)]
      by_cases es : s = c
      · subst es
        rw [e8, cn_of (n := 0) (h5.2 s (by omega) s8).2.2.2 (by omega)] at hn
        exact absurd hn (Nat.not_lt_zero n)
      · rw [k (2622 + 49 * s + 9 + 5 * n + 1) (by omega) (by omega), k (2622 + 49 * s + 9 + 5 * n + 2) (by omega) (by omega)]
        exact z2 s (by omega) s8 n (by omega) n8
    · rw [kk (3479 + 4 * q) (by omega), kk (3479 + 4 * q + 1) (by omega), kk (3479 + 4 * q + 2) (by omega), kk (3479 + 4 * q + 3) (by omega)]
      exact z3 q (by omega) q8
    · rw [kk (3511 + 10 * r + y) (by omega)]
      exact z4 r hr y hy
  · intro s hs s8 n hn n8 g hp
    rw [cn_of k21 (by omega)] at hs
    have e8 : cn w' (2622 + 49 * s + 8) = cn w (2622 + 49 * s + 8) := by unfold cn; rw [k _ (by omega) (by omega)]
    by_cases es : s = c
    · subst es
      rw [e8, cn_of (n := 0) (h5.2 s (by omega) s8).2.2.2 (by omega)] at hn
      exact absurd hn (Nat.not_lt_zero n)
    · have c4 : cn w' (2622 + 49 * s + 9 + 5 * n + 4) = cn w (2622 + 49 * s + 9 + 5 * n + 4) := by unfold cn; rw [k _ (by omega) (by omega)]
      rw [c4] at hp ⊢
      rw [k _ (by omega) (by omega)] at g
      rw [kk _ (by omega), kk _ (by omega), kk _ (by omega)]
      exact h11 s (by omega) s8 n (by omega) n8 g hp
theorem bt_01 {x : Int32} : bt x = 0 ∨ bt x = 1 := by
  by_cases h : x = 0
  · exact Or.inl (bt0 h)
  · exact Or.inr (bt1 h)
theorem k_ship (h : Sim B i σ) (hs : Sc B i L j) (hO : am_K B 892 = 22 ∧ am_L B 892 = 1) : Stq B i d 1167 j := by
  by_cases a : ¬ (i 0 (j + 1)) < 1 ∧ ¬ 40 < (i 0 (j + 1))
  rotate_left
  · exact kx_14_2 h hs hO (f_ship_x0 (d := d + 48) h.1  a) fun B0 i0 h0 => m_ship_x0 (d := d + 49) h0  a
  by_cases b : ¬ (i 0 (j + 2)) < 0 ∧ ¬ 5000 < (i 0 (j + 2))
  rotate_left
  · exact kx_14_2 h hs hO (f_ship_x1 (d := d + 48) h.1 a b) fun B0 i0 h0 => m_ship_x1 (d := d + 49) h0 a b
  have hc := h.2.2.1.1.2.2.2.1
  rcases z_cmp4 hc.2 with c4 | c4
  · have hn := h.2.2.1.2.2.2.2.1.2 (cn σ.1 2621) (Nat.le_refl _) c4
    exact kk_14 (σ' := ((wu (wu (wu (wu (wu (wu σ.1 2621 (Int32.ofNat (cn σ.1 2621 + 1))) (2622 + 49 * cn σ.1 2621 + 1) (i 0 (j + 2))) (2622 + 49 * cn σ.1 2621 + 2) (i 0 (j + 1))) (2622 + 49 * cn σ.1 2621 + 3) (bt (i 0 (j + 3)))) (2622 + 49 * cn σ.1 2621 + 4) (-1)) (2622 + 49 * cn σ.1 2621 + 5) (-1)), σ.2)) h hs hO (SW_now h.2.2 (Wd_newship h.2.2.1 b bt_01 hc.1 c4)) (f_ship (d := d + 48) h.1 a b bt_01 hc.1 c4 hn) fun B0 i0 h0 => m_ship (d := d + 49) h0 a b bt_01 hc.1 c4
  · have e : σ.1 2621 = Int32.ofNat 8 := by rw [hc.1, c4]
    exact kx_14_3 h hs hO (f_ship_full (d := d + 48) h.1 a b e) fun B0 i0 h0 => m_ship_full (d := d + 49) h0 a b e
end Makes
