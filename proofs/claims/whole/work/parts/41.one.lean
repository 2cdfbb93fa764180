/-! CALLS THAT SET NUMBERS: made by wip/whole/math/41.py. -/
section One
variable {B : am_A} {i : Nat → Nat → Int32} {σ : Sg} {L j d : Nat}
theorem c_ckI1 {x c : Int32} {d : Nat} {A : am_A} (h : ¬ x < 0 ∧ x < c) : am_fx am_P d 349 0 [some (.int x), some (.int c)] [] A = some (.inl none, A) := by
  rw [bk_349_0, if_neg h.1, if_pos h.2]
theorem c_ckI0 {x c : Int32} {d : Nat} {A : am_A} (h : ¬ (¬ x < 0 ∧ x < c)) : am_fx am_P d 349 0 [some (.int x), some (.int c)] [] A = some (.inr 1, am_xx A 1 6) := by
  rw [bk_349_0]
  by_cases h0 : x < 0
  · rw [if_pos h0]
  · rw [if_neg h0, if_neg fun q => h ⟨h0, q⟩]
theorem c_ckR1 {x c : Int32} {d : Nat} {A : am_A} (h : x < c) : am_fx am_P d 351 0 [some (.int x), some (.int c)] [] A = some (.inl none, A) := by
  rw [bk_351_0, if_pos h]
theorem c_ckR0 {x c : Int32} {d : Nat} {A : am_A} (h : ¬ x < c) : am_fx am_P d 351 0 [some (.int x), some (.int c)] [] A = some (.inr 3, am_xx A 1 6) := by
  rw [bk_351_0, if_neg h]
theorem z_5 {x : Int32} : ((5 : Int32) < x) = ¬ x < 6 := z_pred (c := 6) (n := 6) rfl (by omega)
theorem z_n27 {n : Nat} (hn : n < 2147483648) (h : ¬ (27 : Int32) < Int32.ofNat n) : n < 28 := by
  rw [show (27 : Int32) = Int32.ofNat 27 from rfl, z_lt (by omega) hn] at h
  omega
theorem z_le {x : Int32} (k : Nat) (hk : k < 2147483648) (h0 : ¬ x < 0) (h : ¬ Int32.ofNat k < x) : ∃ n, x = Int32.ofNat n ∧ n ≤ k := by
  obtain ⟨n, hn, rfl⟩ := z_of h0
  rw [z_lt hk hn] at h
  exact ⟨n, rfl, by omega⟩
theorem z_lk {x : Int32} (k : Nat) (hk : k < 2147483648) (h0 : ¬ x < 0) (h : x < Int32.ofNat k) : ∃ n, x = Int32.ofNat n ∧ n < k := by
  obtain ⟨n, hn, rfl⟩ := z_of h0
  rw [z_lt hn hk] at h
  exact ⟨n, rfl, h⟩
theorem wd_b {w : Nat → Int32} {s : Nat} {v : Int32} (h : Wd w) (hs : (s ≠ 0 ∧ s < 5) ∨ (10 < s ∧ s < 39) ∨ (3014 < s ∧ s < 3019)) : Wd (wu w s v) := by
  refine Wd_base h (fun k hk => ?_) (by intros; simp (disch := omega) only [wu_ne])
  rw [wu_ne (by omega)]
  exact h.2.1 k hk
theorem f_slips_x0 {x : Int32} (h : CR B i σ)  (g : ¬ (¬ x < 1 ∧ ¬ 8 < x)) : FRs B i σ (am_fx am_P (d + 150) 308 0 [some (.ref 64), some (.int x)] [] (am_wI B i)) (.inr 2) := by
  refine FRs_x h ?_
  rw [bk_308_0]
  simp (disch := omega) only [c_within, c_ckN0, g, y_ckd, y_ck2d, y_ond, y_onn, y_oI, y_oIx, y_oJ, y_oV, y_oVx, y_oR, y_oRn, y_oRx, y_b0, y_b1, y_bi, y_bid, y_wIK, y_wIL, y_wII, y_wIJ, y_wIR, y_wIN, y_wIw, y_sI, ↓reduceIte, Nat.reduceEqDiff, eq_self, true_or, or_true, false_or, or_false, and_true, true_and, false_and, and_false, not_true, not_false_eq_true, tf_T, tf_F, y_up1, y_up2, y_xx, y_nx, y_sJ, y_sR, Int32.reduceLT, y_nxK, y_nxL, y_nxR, y_sJK, y_sJL, y_sJR, y_sJN, y_sRK, y_sRL, y_sRN, z_nat, z_lit, z_lit0, z_lit1, z_in0, z_in1, z_addl0, z_lt, z_ltl, z_llt, z_inj, z_injl, z_add, z_addl, z_ladd, z_mul, z_mull, z_lmul, z_neg, z_negl, z_in, z_inl, z_ltT, z_ltF, z_eqF, z_10, z_01, z_litne, z_ne0, z_0ne, z_ne1, z_1ne, z_lt64, z_02, z_03, z_04, z_05, z_12, z_13, z_14, z_15, z_20, z_21, z_23, z_24, z_25, z_30, z_31, z_32, z_34, z_35, z_40, z_41, z_42, z_43, z_45, z_50, z_51, z_52, z_53, z_54]
theorem m_slips_x0 {x : Int32} (h : MR B i σ)  (g : ¬ (¬ x < 1 ∧ ¬ 8 < x)) : MRs B i σ (am_fx am_P (d + 150) 74 0 [some (.ref 874), some (.int x)] [] (am_wI B i)) none 1 := by
  refine MRs_x h ?_
  have hM := h.1.1
  rw [bk_74_0]
  simp (disch := omega) only [(fun d x0 x1 s0 s1 B i => bk_74_21 d x0 x1 s0 s1 (am_wI B i)), m_in, m_thr1 hM, g, hM, y_ckd, y_ck2d, y_ond, y_onn, y_oI, y_oIx, y_oJ, y_oV, y_oVx, y_oR, y_oRn, y_oRx, y_b0, y_b1, y_bi, y_bid, y_wIK, y_wIL, y_wII, y_wIJ, y_wIR, y_wIN, y_wIw, y_sI, ↓reduceIte, Nat.reduceEqDiff, eq_self, true_or, or_true, false_or, or_false, and_true, true_and, false_and, and_false, not_true, not_false_eq_true, tf_T, tf_F, y_up1, y_up2, y_xx, y_nx, y_sJ, y_sR, Int32.reduceLT, y_nxK, y_nxL, y_nxR, y_sJK, y_sJL, y_sJR, y_sJN, y_sRK, y_sRL, y_sRN, z_nat, z_lit, z_lit0, z_lit1, z_in0, z_in1, z_addl0, z_lt, z_ltl, z_llt, z_inj, z_injl, z_add, z_addl, z_ladd, z_mul, z_mull, z_lmul, z_neg, z_negl, z_in, z_inl, z_ltT, z_ltF, z_eqF, z_10, z_01, z_litne, z_ne0, z_0ne, z_ne1, z_1ne, z_lt64, z_02, z_03, z_04, z_05, z_12, z_13, z_14, z_15, z_20, z_21, z_23, z_24, z_25, z_30, z_31, z_32, z_34, z_35, z_40, z_41, z_42, z_43, z_45, z_50, z_51, z_52, z_53, z_54]
theorem f_slips {x : Int32} (h : CR B i σ) (g : ¬ x < 1 ∧ ¬ 8 < x) : FRs B i (wu σ.1 2 x, σ.2) (am_fx am_P (d + 150) 308 0 [some (.ref 64), some (.int x)] [] (am_wI B i)) (.inl none) := by
  have hb := h.2.1.1
  refine FRs_w (i' := am_up2 i 94 9 x) h ?_ ?_ (by intros; simp (disch := omega) only [y_up2])
  · rw [bk_308_0]
    simp (disch := omega) only [c_within, c_ckN1, g.1, g.2, h.1.1.1, h.1.2.1.1, y_ckd, y_ck2d, y_ond, y_onn, y_oI, y_oIx, y_oJ, y_oV, y_oVx, y_oR, y_oRn, y_oRx, y_b0, y_b1, y_bi, y_bid, y_wIK, y_wIL, y_wII, y_wIJ, y_wIR, y_wIN, y_wIw, y_sI, ↓reduceIte, Nat.reduceEqDiff, eq_self, true_or, or_true, false_or, or_false, and_true, true_and, false_and, and_false, not_true, not_false_eq_true, tf_T, tf_F, y_up1, y_up2, y_xx, y_nx, y_sJ, y_sR, Int32.reduceLT, y_nxK, y_nxL, y_nxR, y_sJK, y_sJL, y_sJR, y_sJN, y_sRK, y_sRL, y_sRN]
  · refine Rep_base h.2.1 (Le.rf B) (by omega) rfl ?_ (by intros; simp (disch := omega) only [y_up2]) (by intros; simp (disch := omega) only [y_upr]) (by intros; simp (disch := omega) only [wu_ne])
    simp (disch := omega) only [RB, y_up1, y_up2, wu_at, wu_ne, hb, implies_true, and_self, true_and]
    exact ⟨hb.2.2.2.2.2.1, hb.2.2.2.2.2.2.1, hb.2.2.2.2.2.2.2.2⟩
theorem m_slips {x : Int32} (h : MR B i σ) (g : ¬ x < 1 ∧ ¬ 8 < x) : MRs B i (wu σ.1 2 x, σ.2) (am_fx am_P (d + 150) 74 0 [some (.ref 874), some (.int x)] [] (am_wI B i)) none 0 := by
  refine MRs_1 h ?_
  have hM := h.1.1
  rw [bk_74_0]
  simp (disch := omega) only [(fun d x0 x1 s0 s1 B i => bk_74_21 d x0 x1 s0 s1 (am_wI B i)), m_in, m_thr0, g.1, g.2, hM, y_ckd, y_ck2d, y_ond, y_onn, y_oI, y_oIx, y_oJ, y_oV, y_oVx, y_oR, y_oRn, y_oRx, y_b0, y_b1, y_bi, y_bid, y_wIK, y_wIL, y_wII, y_wIJ, y_wIR, y_wIN, y_wIw, y_sI, ↓reduceIte, Nat.reduceEqDiff, eq_self, true_or, or_true, false_or, or_false, and_true, true_and, false_and, and_false, not_true, not_false_eq_true, tf_T, tf_F, y_up1, y_up2, y_xx, y_nx, y_sJ, y_sR, Int32.reduceLT, y_nxK, y_nxL, y_nxR, y_sJK, y_sJL, y_sJR, y_sJN, y_sRK, y_sRL, y_sRN, z_nat, z_lit, z_lit0, z_lit1, z_in0, z_in1, z_addl0, z_lt, z_ltl, z_llt, z_inj, z_injl, z_add, z_addl, z_ladd, z_mul, z_mull, z_lmul, z_neg, z_negl, z_in, z_inl, z_ltT, z_ltF, z_eqF, z_10, z_01, z_litne, z_ne0, z_0ne, z_ne1, z_1ne, z_lt64, z_02, z_03, z_04, z_05, z_12, z_13, z_14, z_15, z_20, z_21, z_23, z_24, z_25, z_30, z_31, z_32, z_34, z_35, z_40, z_41, z_42, z_43, z_45, z_50, z_51, z_52, z_53, z_54]
theorem k_slips (h : Sim B i σ) (hs : Sc B i L j) (hO : am_K B 892 = 22 ∧ am_L B 892 = 1) : Stq B i d 1367 j := by
  by_cases g : ¬ (i 0 (j + 1)) < 1 ∧ ¬ 8 < (i 0 (j + 1))
  rotate_left
  · exact kx_16_2 h hs hO (f_slips_x0 (d := d + 48) h.1  g) fun B0 i0 h0 => m_slips_x0 (d := d + 49) h0  g
  exact kk_16 h hs hO (SW_now h.2.2 (wd_b h.2.2.1 (by omega))) (f_slips (d := d + 48) h.1 g) fun B0 i0 h0 => m_slips (d := d + 49) h0 g
theorem f_road_x0 {x y : Int32} (h : CR B i σ)  (g : ¬ (¬ x < 0 ∧ x < 6)) : FRs B i σ (am_fx am_P (d + 150) 293 0 [some (.ref 64), some (.int x), some (.int y)] [] (am_wI B i)) (.inr 1) := by
  refine FRs_x h ?_
  rw [bk_293_0]
  simp (disch := omega) only [c_ckI0 g, g, y_ckd, y_ck2d, y_ond, y_onn, y_oI, y_oIx, y_oJ, y_oV, y_oVx, y_oR, y_oRn, y_oRx, y_b0, y_b1, y_bi, y_bid, y_wIK, y_wIL, y_wII, y_wIJ, y_wIR, y_wIN, y_wIw, y_sI, ↓reduceIte, Nat.reduceEqDiff, eq_self, true_or, or_true, false_or, or_false, and_true, true_and, false_and, and_false, not_true, not_false_eq_true, tf_T, tf_F, y_up1, y_up2, y_xx, y_nx, y_sJ, y_sR, Int32.reduceLT, y_nxK, y_nxL, y_nxR, y_sJK, y_sJL, y_sJR, y_sJN, y_sRK, y_sRL, y_sRN, z_nat, z_lit, z_lit0, z_lit1, z_in0, z_in1, z_addl0, z_lt, z_ltl, z_llt, z_inj, z_injl, z_add, z_addl, z_ladd, z_mul, z_mull, z_lmul, z_neg, z_negl, z_in, z_inl, z_ltT, z_ltF, z_eqF, z_10, z_01, z_litne, z_ne0, z_0ne, z_ne1, z_1ne, z_lt64, z_02, z_03, z_04, z_05, z_12, z_13, z_14, z_15, z_20, z_21, z_23, z_24, z_25, z_30, z_31, z_32, z_34, z_35, z_40, z_41, z_42, z_43, z_45, z_50, z_51, z_52, z_53, z_54]
theorem m_road_x0 {x y : Int32} (h : MR B i σ)  (g : ¬ (¬ x < 0 ∧ x < 6)) : MRs B i σ (am_fx am_P (d + 150) 19 0 [some (.ref 874), some (.int x), some (.int y)] [] (am_wI B i)) none 1 := by
  refine MRs_x h ?_
  have hM := h.1.1
  rw [bk_19_0]
  simp (disch := omega) only [(fun d x0 x1 x2 s0 s1 B i => bk_19_33 d x0 x1 x2 s0 s1 (am_wI B i)), (fun d x0 B i => bk_18_0 d x0 (am_wI B i)), z_5, Classical.not_not, m_in, m_thr0, m_thr1 hM, g, hM, y_ckd, y_ck2d, y_ond, y_onn, y_oI, y_oIx, y_oJ, y_oV, y_oVx, y_oR, y_oRn, y_oRx, y_b0, y_b1, y_bi, y_bid, y_wIK, y_wIL, y_wII, y_wIJ, y_wIR, y_wIN, y_wIw, y_sI, ↓reduceIte, Nat.reduceEqDiff, eq_self, true_or, or_true, false_or, or_false, and_true, true_and, false_and, and_false, not_true, not_false_eq_true, tf_T, tf_F, y_up1, y_up2, y_xx, y_nx, y_sJ, y_sR, Int32.reduceLT, y_nxK, y_nxL, y_nxR, y_sJK, y_sJL, y_sJR, y_sJN, y_sRK, y_sRL, y_sRN, z_nat, z_lit, z_lit0, z_lit1, z_in0, z_in1, z_addl0, z_lt, z_ltl, z_llt, z_inj, z_injl, z_add, z_addl, z_ladd, z_mul, z_mull, z_lmul, z_neg, z_negl, z_in, z_inl, z_ltT, z_ltF, z_eqF, z_10, z_01, z_litne, z_ne0, z_0ne, z_ne1, z_1ne, z_lt64, z_02, z_03, z_04, z_05, z_12, z_13, z_14, z_15, z_20, z_21, z_23, z_24, z_25, z_30, z_31, z_32, z_34, z_35, z_40, z_41, z_42, z_43, z_45, z_50, z_51, z_52, z_53, z_54]
theorem f_road_x1 {x y : Int32} (h : CR B i σ) (g : ¬ x < 0 ∧ x < 6) (b : ¬ (¬ y < 0 ∧ ¬ 60 < y)) : FRs B i σ (am_fx am_P (d + 150) 293 0 [some (.ref 64), some (.int x), some (.int y)] [] (am_wI B i)) (.inr 2) := by
  refine FRs_x h ?_
  rw [bk_293_0]
  simp (disch := omega) only [c_ckI1 g, c_within, c_ckN0, g, b, y_ckd, y_ck2d, y_ond, y_onn, y_oI, y_oIx, y_oJ, y_oV, y_oVx, y_oR, y_oRn, y_oRx, y_b0, y_b1, y_bi, y_bid, y_wIK, y_wIL, y_wII, y_wIJ, y_wIR, y_wIN, y_wIw, y_sI, ↓reduceIte, Nat.reduceEqDiff, eq_self, true_or, or_true, false_or, or_false, and_true, true_and, false_and, and_false, not_true, not_false_eq_true, tf_T, tf_F, y_up1, y_up2, y_xx, y_nx, y_sJ, y_sR, Int32.reduceLT, y_nxK, y_nxL, y_nxR, y_sJK, y_sJL, y_sJR, y_sJN, y_sRK, y_sRL, y_sRN, z_nat, z_lit, z_lit0, z_lit1, z_in0, z_in1, z_addl0, z_lt, z_ltl, z_llt, z_inj, z_injl, z_add, z_addl, z_ladd, z_mul, z_mull, z_lmul, z_neg, z_negl, z_in, z_inl, z_ltT, z_ltF, z_eqF, z_10, z_01, z_litne, z_ne0, z_0ne, z_ne1, z_1ne, z_lt64, z_02, z_03, z_04, z_05, z_12, z_13, z_14, z_15, z_20, z_21, z_23, z_24, z_25, z_30, z_31, z_32, z_34, z_35, z_40, z_41, z_42, z_43, z_45, z_50, z_51, z_52, z_53, z_54]
theorem m_road_x1 {x y : Int32} (h : MR B i σ) (g : ¬ x < 0 ∧ x < 6) (b : ¬ (¬ y < 0 ∧ ¬ 60 < y)) : MRs B i σ (am_fx am_P (d + 150) 19 0 [some (.ref 874), some (.int x), some (.int y)] [] (am_wI B i)) none 2 := by
  refine MRs_x h ?_
  have hM := h.1.1
  rw [bk_19_0]
  simp (disch := omega) only [(fun d x0 x1 x2 s0 s1 B i => bk_19_33 d x0 x1 x2 s0 s1 (am_wI B i)), (fun d x0 B i => bk_18_0 d x0 (am_wI B i)), z_5, Classical.not_not, m_in, m_thr0, m_thr1 hM, g, b, hM, y_ckd, y_ck2d, y_ond, y_onn, y_oI, y_oIx, y_oJ, y_oV, y_oVx, y_oR, y_oRn, y_oRx, y_b0, y_b1, y_bi, y_bid, y_wIK, y_wIL, y_wII, y_wIJ, y_wIR, y_wIN, y_wIw, y_sI, ↓reduceIte, Nat.reduceEqDiff, eq_self, true_or, or_true, false_or, or_false, and_true, true_and, false_and, and_false, not_true, not_false_eq_true, tf_T, tf_F, y_up1, y_up2, y_xx, y_nx, y_sJ, y_sR, Int32.reduceLT, y_nxK, y_nxL, y_nxR, y_sJK, y_sJL, y_sJR, y_sJN, y_sRK, y_sRL, y_sRN, z_nat, z_lit, z_lit0, z_lit1, z_in0, z_in1, z_addl0, z_lt, z_ltl, z_llt, z_inj, z_injl, z_add, z_addl, z_ladd, z_mul, z_mull, z_lmul, z_neg, z_negl, z_in, z_inl, z_ltT, z_ltF, z_eqF, z_10, z_01, z_litne, z_ne0, z_0ne, z_ne1, z_1ne, z_lt64, z_02, z_03, z_04, z_05, z_12, z_13, z_14, z_15, z_20, z_21, z_23, z_24, z_25, z_30, z_31, z_32, z_34, z_35, z_40, z_41, z_42, z_43, z_45, z_50, z_51, z_52, z_53, z_54]
theorem f_road {n : Nat} {y : Int32} (h : CR B i σ) (g : n < 6) (b : ¬ y < 0 ∧ ¬ 60 < y) : FRs B i (wu σ.1 (5 + n) y, σ.2) (am_fx am_P (d + 150) 293 0 [some (.ref 64), some (.int (Int32.ofNat n)), some (.int y)] [] (am_wI B i)) (.inl none) := by
  have hb := h.2.1.1
  refine FRs_w (i' := am_up2 i (94 + 1) n y) h ?_ ?_ (by intros; simp (disch := omega) only [y_up2])
  · rw [bk_293_0]
    simp (disch := omega) only [c_ckI1 (x := Int32.ofNat n) (c := 6) ⟨by rw [z_neg (by omega)]; exact id, by rw [show (6 : Int32) = Int32.ofNat 6 from rfl, z_lt (by omega) (by omega)]; exact g⟩, c_within, c_ckN1, b.1, b.2, h.1.1.1, h.1.2.1, y_ckd, y_ck2d, y_ond, y_onn, y_oI, y_oIx, y_oJ, y_oV, y_oVx, y_oR, y_oRn, y_oRx, y_b0, y_b1, y_bi, y_bid, y_wIK, y_wIL, y_wII, y_wIJ, y_wIR, y_wIN, y_wIw, y_sI, ↓reduceIte, Nat.reduceEqDiff, eq_self, true_or, or_true, false_or, or_false, and_true, true_and, false_and, and_false, not_true, not_false_eq_true, tf_T, tf_F, y_up1, y_up2, y_xx, y_nx, y_sJ, y_sR, Int32.reduceLT, y_nxK, y_nxL, y_nxR, y_sJK, y_sJL, y_sJR, y_sJN, y_sRK, y_sRL, y_sRN, z_nat, z_lit, z_lit0, z_lit1, z_in0, z_in1, z_addl0, z_lt, z_ltl, z_llt, z_inj, z_injl, z_add, z_addl, z_ladd, z_mul, z_mull, z_lmul, z_neg, z_negl, z_in, z_inl, z_ltT, z_ltF, z_eqF, z_10, z_01, z_litne, z_ne0, z_0ne, z_ne1, z_1ne, z_lt64, z_02, z_03, z_04, z_05, z_12, z_13, z_14, z_15, z_20, z_21, z_23, z_24, z_25, z_30, z_31, z_32, z_34, z_35, z_40, z_41, z_42, z_43, z_45, z_50, z_51, z_52, z_53, z_54]
  · refine Rep_base h.2.1 (Le.rf B) (by omega) rfl ?_ (by intros; simp (disch := omega) only [y_up2]) (by intros; simp (disch := omega) only [y_upr]) (by intros; simp (disch := omega) only [wu_ne])
    obtain ⟨a1, a2, a3, a4, a5, a6, a7, a8, a9⟩ := hb
    refine ⟨?_, ?_, ?_, ?_, ?_, fun k hk => ?_, fun k hk => ?_, ?_, fun k hk => ?_⟩
    all_goals try (rw [y_up2 (by omega), wu_ne (by omega)]; first | assumption | exact a7 k hk | exact a9 k hk)
    by_cases e : k = n
    · rw [y_up1 rfl e, wu_at (by omega)]
    · rw [y_up2 (by omega), wu_ne (by omega)]
      exact a6 k hk
theorem m_road {n : Nat} {y : Int32} (h : MR B i σ) (g : n < 6) (b : ¬ y < 0 ∧ ¬ 60 < y) : MRs B i (wu σ.1 (5 + n) y, σ.2) (am_fx am_P (d + 150) 19 0 [some (.ref 874), some (.int (Int32.ofNat n)), some (.int y)] [] (am_wI B i)) none 0 := by
  refine MRs_1 h ?_
  have hM := h.1.1
  have g5 : ¬ (5 : Int32) < Int32.ofNat n := by rw [show (5 : Int32) = Int32.ofNat 5 from rfl, z_lt (by omega) (by omega)]; omega
  rw [bk_19_0]
  simp (disch := omega) only [(fun d x0 x1 x2 s0 s1 B i => bk_19_33 d x0 x1 x2 s0 s1 (am_wI B i)), (fun d x0 B i => bk_18_0 d x0 (am_wI B i)), m_in, m_thr0, b.1, b.2, g5, hM, y_ckd, y_ck2d, y_ond, y_onn, y_oI, y_oIx, y_oJ, y_oV, y_oVx, y_oR, y_oRn, y_oRx, y_b0, y_b1, y_bi, y_bid, y_wIK, y_wIL, y_wII, y_wIJ, y_wIR, y_wIN, y_wIw, y_sI, ↓reduceIte, Nat.reduceEqDiff, eq_self, true_or, or_true, false_or, or_false, and_true, true_and, false_and, and_false, not_true, not_false_eq_true, tf_T, tf_F, y_up1, y_up2, y_xx, y_nx, y_sJ, y_sR, Int32.reduceLT, y_nxK, y_nxL, y_nxR, y_sJK, y_sJL, y_sJR, y_sJN, y_sRK, y_sRL, y_sRN, z_nat, z_lit, z_lit0, z_lit1, z_in0, z_in1, z_addl0, z_lt, z_ltl, z_llt, z_inj, z_injl, z_add, z_addl, z_ladd, z_mul, z_mull, z_lmul, z_neg, z_negl, z_in, z_inl, z_ltT, z_ltF, z_eqF, z_10, z_01, z_litne, z_ne0, z_0ne, z_ne1, z_1ne, z_lt64, z_02, z_03, z_04, z_05, z_12, z_13, z_14, z_15, z_20, z_21, z_23, z_24, z_25, z_30, z_31, z_32, z_34, z_35, z_40, z_41, z_42, z_43, z_45, z_50, z_51, z_52, z_53, z_54]
theorem k_road (h : Sim B i σ) (hs : Sc B i L j) (hO : am_K B 892 = 22 ∧ am_L B 892 = 1) : Stq B i d 370 j := by
  by_cases g : ¬ (i 0 (j + 1)) < 0 ∧ (i 0 (j + 1)) < 6
  rotate_left
  · exact kx_2_1 h hs hO (f_road_x0 (d := d + 48) h.1  g) fun B0 i0 h0 => m_road_x0 (d := d + 49) h0  g
  by_cases b : ¬ (i 0 (j + 2)) < 0 ∧ ¬ 60 < (i 0 (j + 2))
  rotate_left
  · exact kx_2_2 h hs hO (f_road_x1 (d := d + 48) h.1 g b) fun B0 i0 h0 => m_road_x1 (d := d + 49) h0 g b
  obtain ⟨n, e, hn⟩ := z_lk 6 (by omega) g.1 g.2
  refine kk_2 (σ' := (wu σ.1 (5 + n) (i 0 (j + 2)), σ.2)) h hs hO (SW_now h.2.2 (Wd_base h.2.2.1 (fun k hk => ?_) (by intros; simp (disch := omega) only [wu_ne]))) (by rw [e]; exact f_road (d := d + 48) h.1 hn b) (fun B0 i0 h0 => by rw [e]; exact m_road (d := d + 49) h0 hn b)
  by_cases ek : k = n
  · rw [wu_at (by omega)]
    exact ⟨b.1, by have := b.2; rw [Int32.lt_iff_toInt_lt] at this ⊢; have e1 : (60 : Int32).toInt = 60 := by decide
                   have e2 : (61 : Int32).toInt = 61 := by decide
                   omega⟩
  · rw [wu_ne (by omega)]
    exact h.2.2.1.2.1 k hk
end One
