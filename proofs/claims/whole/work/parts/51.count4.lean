/-! COUNT, THE CALL: made by wip/whole/math/51.py. -/
section Count4
variable {B : am_A} {i : Nat → Nat → Int32} {σ : Sg} {L j d : Nat} {x : Int32}
theorem u_out (n0 : ¬ x = 0) (n1 : ¬ x = 1) (n2 : ¬ x = 2) (n3 : ¬ x = 3) (n4 : ¬ x = 4) (n5 : ¬ x = 5) (n6 : ¬ x = 6) (n7 : ¬ x = 7) (n8 : ¬ x = 8) (n9 : ¬ x = 9) (n10 : ¬ x = 10) (n11 : ¬ x = 11) (n12 : ¬ x = 12) (n13 : ¬ x = 13) (n14 : ¬ x = 14) (n15 : ¬ x = 15) (n16 : ¬ x = 16) (n17 : ¬ x = 17) (n18 : ¬ x = 18) : ¬ (¬ x < 4 ∧ ¬ 10 < x) := fun g => by
  obtain ⟨h4, h10⟩ := g
  have a4 : (4 : Int32).toInt = 4 := by decide
  have a10 : (10 : Int32).toInt = 10 := by decide
  rw [Int32.lt_iff_toInt_lt] at h4 h10
  have q : ∀ k : Int32, ¬ x = k → x.toInt ≠ k.toInt := fun k n e => n (Int32.toInt_inj.mp e)
  have q4 := q 4 n4
  rw [show (4 : Int32).toInt = 4 from by decide] at q4
  have q5 := q 5 n5
  rw [show (5 : Int32).toInt = 5 from by decide] at q5
  have q6 := q 6 n6
  rw [show (6 : Int32).toInt = 6 from by decide] at q6
  have q7 := q 7 n7
  rw [show (7 : Int32).toInt = 7 from by decide] at q7
  have q8 := q 8 n8
  rw [show (8 : Int32).toInt = 8 from by decide] at q8
  have q9 := q 9 n9
  rw [show (9 : Int32).toInt = 9 from by decide] at q9
  have q10 := q 10 n10
  rw [show (10 : Int32).toInt = 10 from by decide] at q10
  omega
theorem f_cnt_n (n0 : ¬ x = 0) (n1 : ¬ x = 1) (n2 : ¬ x = 2) (n3 : ¬ x = 3) (n4 : ¬ x = 4) (n5 : ¬ x = 5) (n6 : ¬ x = 6) (n7 : ¬ x = 7) (n8 : ¬ x = 8) (n9 : ¬ x = 9) (n10 : ¬ x = 10) (n11 : ¬ x = 11) (n12 : ¬ x = 12) (n13 : ¬ x = 13) (n14 : ¬ x = 14) (n15 : ¬ x = 15) (n16 : ¬ x = 16) (n17 : ¬ x = 17) (n18 : ¬ x = 18) (h : CR B i σ) : FRs B i σ (am_fx am_P (d + 150) 344 0 [some (.ref 64), some (.int x)] [] (am_wI B i)) (.inl (some (.int (-1)))) := by
  refine FRs_0 h ?_
  have hF : Fc B := h.1.1
  have hY : Yd B 94 := h.1.2.1
  rw [bk_344_0]
  simp (disch := omega) only [(fun d x0 x1 B i => bk_267_0 d x0 x1 (am_wI B i)), (fun d x0 B i => bk_267_108 d x0 (am_wI B i)), (fun d x0 B i => bk_267_113 d x0 (am_wI B i)), (fun d x0 B i => bk_267_118 d x0 (am_wI B i)), (fun d x0 B i => bk_267_123 d x0 (am_wI B i)), (fun d x0 B i => bk_267_174 d x0 (am_wI B i)), (fun d x0 B i => bk_267_128 d x0 (am_wI B i)), (fun d x0 B i => bk_267_133 d x0 (am_wI B i)), (fun d x0 B i => bk_267_138 d x0 (am_wI B i)), (fun d x0 B i => bk_267_146 d x0 (am_wI B i)), (fun d x0 B i => bk_267_151 d x0 (am_wI B i)), (fun d x0 B i => bk_267_156 d x0 (am_wI B i)), (fun d x0 B i => bk_267_164 d x0 (am_wI B i)), (fun d x0 B i => bk_267_169 d x0 (am_wI B i)), c_within0 (u_out n0 n1 n2 n3 n4 n5 n6 n7 n8 n9 n10 n11 n12 n13 n14 n15 n16 n17 n18), n0, n1, n2, n3, n4, n5, n6, n7, n8, n9, n10, n11, n12, n13, n14, n15, n16, n17, n18, hF, hY, eq_self, ↓reduceIte, y_ckd, y_ck2d, y_ond, y_onn, y_oI, y_oIx, y_oJ, y_oV, y_oVx, y_oR, y_oRn, y_oRx, y_b0, y_b1, y_bi, y_bid, y_wIK, y_wIL, y_wII, y_wIJ, y_wIR, y_wIN, y_wIw, y_sI, ↓reduceIte, Nat.reduceEqDiff, eq_self, true_or, or_true, false_or, or_false, and_true, true_and, false_and, and_false, not_true, not_false_eq_true, tf_T, tf_F, y_up1, y_up2, y_xx, y_nx, y_sJ, y_sR, Int32.reduceLT, y_nxK, y_nxL, y_nxR, y_sJK, y_sJL, y_sJR, y_sJN, y_sRK, y_sRL, y_sRN, z_nat, z_lit, z_lit0, z_lit1, z_in0, z_in1, z_addl0, z_lt, z_ltl, z_llt, z_inj, z_injl, z_add, z_addl, z_ladd, z_mul, z_mull, z_lmul, z_neg, z_negl, z_in, z_inl, z_ltT, z_ltF, z_eqF, z_10, z_01, z_litne, z_ne0, z_0ne, z_ne1, z_1ne, z_lt64, z_02, z_03, z_04, z_05, z_12, z_13, z_14, z_15, z_20, z_21, z_23, z_24, z_25, z_30, z_31, z_32, z_34, z_35, z_40, z_41, z_42, z_43, z_45, z_50, z_51, z_52, z_53, z_54]
theorem m_cnt_n (n0 : ¬ x = 0) (n1 : ¬ x = 1) (n2 : ¬ x = 2) (n3 : ¬ x = 3) (n4 : ¬ x = 4) (n5 : ¬ x = 5) (n6 : ¬ x = 6) (n7 : ¬ x = 7) (n8 : ¬ x = 8) (n9 : ¬ x = 9) (n10 : ¬ x = 10) (n11 : ¬ x = 11) (n12 : ¬ x = 12) (n13 : ¬ x = 13) (n14 : ¬ x = 14) (n15 : ¬ x = 15) (n16 : ¬ x = 16) (n17 : ¬ x = 17) (n18 : ¬ x = 18) (h : MR B i σ) : MRs B i σ (am_fx am_P (d + 150) 142 0 [some (.ref 874), some (.int x), none, none] [] (am_wI B i)) (some (.int (-1))) 0 := by
  refine MRs_0 h ?_
  have hM : Md B := h.1.1
  rw [bk_142_0]
  simp (disch := omega) only [(fun d x0 x1 B i => bk_142_0 d x0 x1 (am_wI B i)), (fun d x0 x1 x2 B i => bk_142_100 d x0 x1 x2 (am_wI B i)), (fun d x0 x1 x2 B i => bk_142_105 d x0 x1 x2 (am_wI B i)), (fun d x0 x1 x2 B i => bk_142_113 d x0 x1 x2 (am_wI B i)), (fun d x0 x1 x2 B i => bk_142_146 d x0 x1 x2 (am_wI B i)), (fun d x0 x1 x2 B i => bk_142_155 d x0 x1 x2 (am_wI B i)), (fun d x0 x1 x2 B i => bk_142_163 d x0 x1 x2 (am_wI B i)), (fun d x0 x1 x2 B i => bk_142_172 d x0 x1 x2 (am_wI B i)), (fun d x0 x1 x2 B i => bk_142_178 d x0 x1 x2 (am_wI B i)), (fun d x0 x1 x2 B i => bk_142_187 d x0 x1 x2 (am_wI B i)), (fun d x0 x1 x2 B i => bk_142_196 d x0 x1 x2 (am_wI B i)), (fun d x0 x1 x2 B i => bk_142_203 d x0 x1 x2 (am_wI B i)), (fun d x0 x1 x2 B i => bk_142_212 d x0 x1 x2 (am_wI B i)), (fun d x0 x1 x2 B i => bk_142_225 d x0 x1 x2 (am_wI B i)), (fun d x0 x1 x2 B i => bk_142_232 d x0 x1 x2 (am_wI B i)), n0, n1, n2, n3, n4, n5, n6, n7, n8, n9, n10, n11, n12, n13, n14, n15, n16, n17, n18, hM, eq_self, ↓reduceIte, y_ckd, y_ck2d, y_ond, y_onn, y_oI, y_oIx, y_oJ, y_oV, y_oVx, y_oR, y_oRn, y_oRx, y_b0, y_b1, y_bi, y_bid, y_wIK, y_wIL, y_wII, y_wIJ, y_wIR, y_wIN, y_wIw, y_sI, ↓reduceIte, Nat.reduceEqDiff, eq_self, true_or, or_true, false_or, or_false, and_true, true_and, false_and, and_false, not_true, not_false_eq_true, tf_T, tf_F, y_up1, y_up2, y_xx, y_nx, y_sJ, y_sR, Int32.reduceLT, y_nxK, y_nxL, y_nxR, y_sJK, y_sJL, y_sJR, y_sJN, y_sRK, y_sRL, y_sRN, z_nat, z_lit, z_lit0, z_lit1, z_in0, z_in1, z_addl0, z_lt, z_ltl, z_llt, z_inj, z_injl, z_add, z_addl, z_ladd, z_mul, z_mull, z_lmul, z_neg, z_negl, z_in, z_inl, z_ltT, z_ltF, z_eqF, z_10, z_01, z_litne, z_ne0, z_0ne, z_ne1, z_1ne, z_lt64, z_02, z_03, z_04, z_05, z_12, z_13, z_14, z_15, z_20, z_21, z_23, z_24, z_25, z_30, z_31, z_32, z_34, z_35, z_40, z_41, z_42, z_43, z_45, z_50, z_51, z_52, z_53, z_54]
theorem k_count (h : Sim B i σ) (hs : Sc B i L j) (hO : am_K B 892 = 22 ∧ am_L B 892 = 1) : Stq B i d 3621 j := by
  by_cases n0 : i 0 (j + 1) = 0
  · exact kk_53 h hs hO h.2.2 (by rw [n0]; exact f_cnt_0 (d := d + 49) h.1 h.2.2.1) fun B0 i0 h0 => by rw [n0]; exact m_cnt_0 (d := d + 49) h0 h.2.2.1
  by_cases n1 : i 0 (j + 1) = 1
  · exact kk_53 h hs hO h.2.2 (by rw [n1]; exact f_cnt_1 (d := d + 49) h.1 h.2.2.1) fun B0 i0 h0 => by rw [n1]; exact m_cnt_1 (d := d + 49) h0 h.2.2.1
  by_cases n2 : i 0 (j + 1) = 2
  · exact kk_53 h hs hO h.2.2 (by rw [n2]; exact f_cnt_2 (d := d + 49) h.1 h.2.2.1) fun B0 i0 h0 => by rw [n2]; exact m_cnt_2 (d := d + 49) h0 h.2.2.1
  by_cases n3 : i 0 (j + 1) = 3
  · exact kk_53 h hs hO h.2.2 (by rw [n3]; exact f_cnt_3 (d := d + 49) h.1 h.2.2.1) fun B0 i0 h0 => by rw [n3]; exact m_cnt_3 (d := d + 49) h0 h.2.2.1
  by_cases n4 : i 0 (j + 1) = 4
  · exact kk_53 h hs hO h.2.2 (by rw [n4]; exact f_cnt_4 (d := d + 49) h.1 h.2.2.1) fun B0 i0 h0 => by rw [n4]; exact m_cnt_4 (d := d + 49) h0 h.2.2.1
  by_cases n5 : i 0 (j + 1) = 5
  · exact kk_53 h hs hO h.2.2 (by rw [n5]; exact f_cnt_5 (d := d + 49) h.1 h.2.2.1) fun B0 i0 h0 => by rw [n5]; exact m_cnt_5 (d := d + 49) h0 h.2.2.1
  by_cases n6 : i 0 (j + 1) = 6
  · exact kk_53 h hs hO h.2.2 (by rw [n6]; exact f_cnt_6 (d := d + 49) h.1 h.2.2.1) fun B0 i0 h0 => by rw [n6]; exact m_cnt_6 (d := d + 49) h0 h.2.2.1
  by_cases n7 : i 0 (j + 1) = 7
  · exact kk_53 h hs hO h.2.2 (by rw [n7]; exact f_cnt_7 (d := d + 49) h.1 h.2.2.1) fun B0 i0 h0 => by rw [n7]; exact m_cnt_7 (d := d + 49) h0 h.2.2.1
  by_cases n8 : i 0 (j + 1) = 8
  · exact kk_53 h hs hO h.2.2 (by rw [n8]; exact f_cnt_8 (d := d + 49) h.1 h.2.2.1) fun B0 i0 h0 => by rw [n8]; exact m_cnt_8 (d := d + 49) h0 h.2.2.1
  by_cases n9 : i 0 (j + 1) = 9
  · exact kk_53 h hs hO h.2.2 (by rw [n9]; exact f_cnt_9 (d := d + 49) h.1 h.2.2.1) fun B0 i0 h0 => by rw [n9]; exact m_cnt_9 (d := d + 49) h0 h.2.2.1
  by_cases n10 : i 0 (j + 1) = 10
  · exact kk_53 h hs hO h.2.2 (by rw [n10]; exact f_cnt_10 (d := d + 49) h.1 h.2.2.1) fun B0 i0 h0 => by rw [n10]; exact m_cnt_10 (d := d + 49) h0 h.2.2.1
  by_cases n11 : i 0 (j + 1) = 11
  · exact kk_53 h hs hO h.2.2 (by rw [n11]; exact f_cnt_11 (d := d + 49) h.1 h.2.2.1) fun B0 i0 h0 => by rw [n11]; exact m_cnt_11 (d := d + 49) h0 h.2.2.1
  by_cases n12 : i 0 (j + 1) = 12
  · exact kk_53 h hs hO h.2.2 (by rw [n12]; exact f_cnt_12 (d := d + 49) h.1 h.2.2.1) fun B0 i0 h0 => by rw [n12]; exact m_cnt_12 (d := d + 49) h0 h.2.2.1
  by_cases n13 : i 0 (j + 1) = 13
  · exact kk_53 h hs hO h.2.2 (by rw [n13]; exact f_cnt_13 (d := d + 49) h.1 h.2.2.1) fun B0 i0 h0 => by rw [n13]; exact m_cnt_13 (d := d + 49) h0 h.2.2.1
  by_cases n14 : i 0 (j + 1) = 14
  · exact kk_53 h hs hO h.2.2 (by rw [n14]; exact f_cnt_14 (d := d + 49) h.1 h.2.2.1) fun B0 i0 h0 => by rw [n14]; exact m_cnt_14 (d := d + 49) h0 h.2.2.1
  by_cases n15 : i 0 (j + 1) = 15
  · exact kk_53 h hs hO h.2.2 (by rw [n15]; exact f_cnt_15 (d := d + 49) h.1 h.2.2.1) fun B0 i0 h0 => by rw [n15]; exact m_cnt_15 (d := d + 49) h0 h.2.2.1
  by_cases n16 : i 0 (j + 1) = 16
  · exact kk_53 h hs hO h.2.2 (by rw [n16]; exact f_cnt_16 (d := d + 49) h.1 h.2.2.1) fun B0 i0 h0 => by rw [n16]; exact m_cnt_16 (d := d + 49) h0 h.2.2.1
  by_cases n17 : i 0 (j + 1) = 17
  · exact kk_53 h hs hO h.2.2 (by rw [n17]; exact f_cnt_17 (d := d + 49) h.1 h.2.2.1) fun B0 i0 h0 => by rw [n17]; exact m_cnt_17 (d := d + 49) h0 h.2.2.1
  by_cases n18 : i 0 (j + 1) = 18
  · exact kk_53 h hs hO h.2.2 (by rw [n18]; exact f_cnt_18 (d := d + 49) h.1 h.2.2.1) fun B0 i0 h0 => by rw [n18]; exact m_cnt_18 (d := d + 49) h0 h.2.2.1
  exact kk_53 h hs hO h.2.2 (f_cnt_n (d := d + 49) n0 n1 n2 n3 n4 n5 n6 n7 n8 n9 n10 n11 n12 n13 n14 n15 n16 n17 n18 h.1) fun B0 i0 h0 => m_cnt_n (d := d + 49) n0 n1 n2 n3 n4 n5 n6 n7 n8 n9 n10 n11 n12 n13 n14 n15 n16 n17 n18 h0
end Count4
