/-! CALLS THAT SET NUMBERS, FURTHER: made by wip/whole/math/42.py. -/
section Two
variable {B : am_A} {i : Nat → Nat → Int32} {σ : Sg} {w : Nat → Int32} {L j d : Nat}
theorem y_ckw {a t : Nat} {r : am_X} (h : am_K B a = t) : am_ck (am_wI B i) a t r = r := if_pos h
theorem y_ck2w {a t u : Nat} {r : am_X} (h : am_K B a = t) : am_ck2 (am_wI B i) a t u r = r := if_pos (Or.inl h)
theorem y_ck2x {a t u : Nat} {r : am_X} (h : am_K B a = u) : am_ck2 (am_wI B i) a t u r = r := if_pos (Or.inr h)
theorem cn_of {s n : Nat} (h : w s = Int32.ofNat n) (hn : n < 2147483648) : cn w s = n := by
  unfold cn
  rw [h, z_nat hn]
theorem isc_of {s n M : Nat} (h : w s = Int32.ofNat n) (hn : n ≤ M) (hM : M < 2147483648) : isc w s M := by
  have e := cn_of h (by omega)
  exact ⟨by rw [e]; exact h, by rw [e]; exact hn⟩
theorem up_wu {k : Nat} {v : Int32} (h : ∀ s, s < 12042 → i 875 s = w s) : ∀ s, s < 12042 → am_up2 i 875 k v 875 s = wu w k v s := by
  intro s hs
  by_cases e : s = k
  · rw [y_up1 rfl e, wu_at e]
  · rw [y_up2 (by omega), wu_ne e]
    exact h s hs
theorem up_o {q k : Nat} {v : Int32} (hq : q ≠ 875) (h : ∀ s, s < 12042 → i 875 s = w s) : ∀ s, s < 12042 → am_up2 i q k v 875 s = w s := by
  intro s hs
  rw [y_up2 (by omega)]
  exact h s hs
theorem z_rg {x : Int32} {a b c : Int32} (h1 : ¬ x < a) (h2 : ¬ b < x) (h3 : b.toInt < c.toInt) : ¬ x < a ∧ x < c := by
  refine ⟨h1, ?_⟩
  rw [Int32.lt_iff_toInt_lt] at h2 ⊢
  omega
theorem f_tide_x0 {x y : Int32} (h : CR B i σ)  (g : ¬ (¬ x < 0 ∧ ¬ 27 < x)) : FRs B i σ (am_fx am_P (d + 150) 318 0 [some (.ref 64), some (.int x), some (.int y)] [] (am_wI B i)) (.inr 2) := by
  refine FRs_x h ?_
  rw [bk_318_0]
  simp (disch := omega) only [(fun d x0 x1 x2 s0 B i => bk_318_25 d x0 x1 x2 s0 (am_wI B i)), c_within, c_ckN0, g, y_ckd, y_ck2d, y_ond, y_onn, y_oI, y_oIx, y_oJ, y_oV, y_oVx, y_oR, y_oRn, y_oRx, y_b0, y_b1, y_bi, y_bid, y_wIK, y_wIL, y_wII, y_wIJ, y_wIR, y_wIN, y_wIw, y_sI, ↓reduceIte, Nat.reduceEqDiff, eq_self, true_or, or_true, false_or, or_false, and_true, true_and, false_and, and_false, not_true, not_false_eq_true, tf_T, tf_F, y_up1, y_up2, y_xx, y_nx, y_sJ, y_sR, Int32.reduceLT, y_nxK, y_nxL, y_nxR, y_sJK, y_sJL, y_sJR, y_sJN, y_sRK, y_sRL, y_sRN, Nat.add_zero, z_nat, z_lit, z_lit0, z_lit1, z_in0, z_in1, z_addl0, z_lt, z_ltl, z_llt, z_inj, z_injl, z_add, z_addl, z_ladd, z_mul, z_mull, z_lmul, z_neg, z_negl, z_in, z_inl, z_ltT, z_ltF, z_eqF, z_10, z_01, z_litne, z_ne0, z_0ne, z_ne1, z_1ne, z_lt64, z_02, z_03, z_04, z_05, z_12, z_13, z_14, z_15, z_20, z_21, z_23, z_24, z_25, z_30, z_31, z_32, z_34, z_35, z_40, z_41, z_42, z_43, z_45, z_50, z_51, z_52, z_53, z_54]
theorem m_tide_x0 {x y : Int32} (h : MR B i σ)  (g : ¬ (¬ x < 0 ∧ ¬ 27 < x)) : MRs B i σ (am_fx am_P (d + 150) 98 0 [some (.ref 874), some (.int x), some (.int y)] [] (am_wI B i)) none 1 := by
  refine MRs_x h ?_
  have hM := h.1.1
  rw [bk_98_0]
  simp (disch := omega) only [(fun d x0 x1 x2 s0 s1 B i => bk_98_31 d x0 x1 x2 s0 s1 (am_wI B i)), m_in, m_thr1 hM, g, hM, y_ckd, y_ck2d, y_ond, y_onn, y_oI, y_oIx, y_oJ, y_oV, y_oVx, y_oR, y_oRn, y_oRx, y_b0, y_b1, y_bi, y_bid, y_wIK, y_wIL, y_wII, y_wIJ, y_wIR, y_wIN, y_wIw, y_sI, ↓reduceIte, Nat.reduceEqDiff, eq_self, true_or, or_true, false_or, or_false, and_true, true_and, false_and, and_false, not_true, not_false_eq_true, tf_T, tf_F, y_up1, y_up2, y_xx, y_nx, y_sJ, y_sR, Int32.reduceLT, y_nxK, y_nxL, y_nxR, y_sJK, y_sJL, y_sJR, y_sJN, y_sRK, y_sRL, y_sRN, Nat.add_zero, z_nat, z_lit, z_lit0, z_lit1, z_in0, z_in1, z_addl0, z_lt, z_ltl, z_llt, z_inj, z_injl, z_add, z_addl, z_ladd, z_mul, z_mull, z_lmul, z_neg, z_negl, z_in, z_inl, z_ltT, z_ltF, z_eqF, z_10, z_01, z_litne, z_ne0, z_0ne, z_ne1, z_1ne, z_lt64, z_02, z_03, z_04, z_05, z_12, z_13, z_14, z_15, z_20, z_21, z_23, z_24, z_25, z_30, z_31, z_32, z_34, z_35, z_40, z_41, z_42, z_43, z_45, z_50, z_51, z_52, z_53, z_54]
theorem f_tide_x1 {x y : Int32} (h : CR B i σ) (g : ¬ x < 0 ∧ ¬ 27 < x) (b : ¬ (¬ y < 0 ∧ ¬ 40 < y)) : FRs B i σ (am_fx am_P (d + 150) 318 0 [some (.ref 64), some (.int x), some (.int y)] [] (am_wI B i)) (.inr 2) := by
  refine FRs_x h ?_
  rw [bk_318_0]
  simp (disch := omega) only [(fun d x0 x1 x2 s0 B i => bk_318_25 d x0 x1 x2 s0 (am_wI B i)), c_within, c_ckN0, g, b, y_ckd, y_ck2d, y_ond, y_onn, y_oI, y_oIx, y_oJ, y_oV, y_oVx, y_oR, y_oRn, y_oRx, y_b0, y_b1, y_bi, y_bid, y_wIK, y_wIL, y_wII, y_wIJ, y_wIR, y_wIN, y_wIw, y_sI, ↓reduceIte, Nat.reduceEqDiff, eq_self, true_or, or_true, false_or, or_false, and_true, true_and, false_and, and_false, not_true, not_false_eq_true, tf_T, tf_F, y_up1, y_up2, y_xx, y_nx, y_sJ, y_sR, Int32.reduceLT, y_nxK, y_nxL, y_nxR, y_sJK, y_sJL, y_sJR, y_sJN, y_sRK, y_sRL, y_sRN, Nat.add_zero, z_nat, z_lit, z_lit0, z_lit1, z_in0, z_in1, z_addl0, z_lt, z_ltl, z_llt, z_inj, z_injl, z_add, z_addl, z_ladd, z_mul, z_mull, z_lmul, z_neg, z_negl, z_in, z_inl, z_ltT, z_ltF, z_eqF, z_10, z_01, z_litne, z_ne0, z_0ne, z_ne1, z_1ne, z_lt64, z_02, z_03, z_04, z_05, z_12, z_13, z_14, z_15, z_20, z_21, z_23, z_24, z_25, z_30, z_31, z_32, z_34, z_35, z_40, z_41, z_42, z_43, z_45, z_50, z_51, z_52, z_53, z_54]
theorem m_tide_x1 {x y : Int32} (h : MR B i σ) (g : ¬ x < 0 ∧ ¬ 27 < x) (b : ¬ (¬ y < 0 ∧ ¬ 40 < y)) : MRs B i σ (am_fx am_P (d + 150) 98 0 [some (.ref 874), some (.int x), some (.int y)] [] (am_wI B i)) none 1 := by
  refine MRs_x h ?_
  have hM := h.1.1
  rw [bk_98_0]
  simp (disch := omega) only [(fun d x0 x1 x2 s0 s1 B i => bk_98_31 d x0 x1 x2 s0 s1 (am_wI B i)), m_in, m_thr1 hM, g, b, hM, y_ckd, y_ck2d, y_ond, y_onn, y_oI, y_oIx, y_oJ, y_oV, y_oVx, y_oR, y_oRn, y_oRx, y_b0, y_b1, y_bi, y_bid, y_wIK, y_wIL, y_wII, y_wIJ, y_wIR, y_wIN, y_wIw, y_sI, ↓reduceIte, Nat.reduceEqDiff, eq_self, true_or, or_true, false_or, or_false, and_true, true_and, false_and, and_false, not_true, not_false_eq_true, tf_T, tf_F, y_up1, y_up2, y_xx, y_nx, y_sJ, y_sR, Int32.reduceLT, y_nxK, y_nxL, y_nxR, y_sJK, y_sJL, y_sJR, y_sJN, y_sRK, y_sRL, y_sRN, Nat.add_zero, z_nat, z_lit, z_lit0, z_lit1, z_in0, z_in1, z_addl0, z_lt, z_ltl, z_llt, z_inj, z_injl, z_add, z_addl, z_ladd, z_mul, z_mull, z_lmul, z_neg, z_negl, z_in, z_inl, z_ltT, z_ltF, z_eqF, z_10, z_01, z_litne, z_ne0, z_0ne, z_ne1, z_1ne, z_lt64, z_02, z_03, z_04, z_05, z_12, z_13, z_14, z_15, z_20, z_21, z_23, z_24, z_25, z_30, z_31, z_32, z_34, z_35, z_40, z_41, z_42, z_43, z_45, z_50, z_51, z_52, z_53, z_54]
theorem f_tide {n : Nat} {y : Int32} (h : CR B i σ) (g : n < 28) (b : ¬ y < 0 ∧ ¬ 40 < y) : FRs B i (wu σ.1 (11 + n) y, σ.2) (am_fx am_P (d + 150) 318 0 [some (.ref 64), some (.int (Int32.ofNat n)), some (.int y)] [] (am_wI B i)) (.inl none) := by
  have hb := h.2.1.1
  have g1 : ¬ Int32.ofNat n < 0 := by rw [z_neg (by omega)]; exact id
  have g2 : ¬ (27 : Int32) < Int32.ofNat n := by rw [show (27 : Int32) = Int32.ofNat 27 from rfl, z_lt (by omega) (by omega)]; omega
  refine FRs_w (i' := am_up2 i (94 + 13) n y) h ?_ ?_ (by intros; simp (disch := omega) only [y_up2])
  · rw [bk_318_0]
    simp (disch := omega) only [(fun d x0 x1 x2 s0 B i => bk_318_25 d x0 x1 x2 s0 (am_wI B i)), c_within, c_ckN1, g2, b.1, b.2, h.1.1.1, h.1.2.1, y_ckd, y_ck2d, y_ond, y_onn, y_oI, y_oIx, y_oJ, y_oV, y_oVx, y_oR, y_oRn, y_oRx, y_b0, y_b1, y_bi, y_bid, y_wIK, y_wIL, y_wII, y_wIJ, y_wIR, y_wIN, y_wIw, y_sI, ↓reduceIte, Nat.reduceEqDiff, eq_self, true_or, or_true, false_or, or_false, and_true, true_and, false_and, and_false, not_true, not_false_eq_true, tf_T, tf_F, y_up1, y_up2, y_xx, y_nx, y_sJ, y_sR, Int32.reduceLT, y_nxK, y_nxL, y_nxR, y_sJK, y_sJL, y_sJR, y_sJN, y_sRK, y_sRL, y_sRN, Nat.add_zero, z_nat, z_lit, z_lit0, z_lit1, z_in0, z_in1, z_addl0, z_lt, z_ltl, z_llt, z_inj, z_injl, z_add, z_addl, z_ladd, z_mul, z_mull, z_lmul, z_neg, z_negl, z_in, z_inl, z_ltT, z_ltF, z_eqF, z_10, z_01, z_litne, z_ne0, z_0ne, z_ne1, z_1ne, z_lt64, z_02, z_03, z_04, z_05, z_12, z_13, z_14, z_15, z_20, z_21, z_23, z_24, z_25, z_30, z_31, z_32, z_34, z_35, z_40, z_41, z_42, z_43, z_45, z_50, z_51, z_52, z_53, z_54]
  · refine Rep_base h.2.1 (Le.rf B) (by omega) rfl ?_ (by intros; simp (disch := omega) only [y_up2]) (by intros; simp (disch := omega) only [y_upr]) (by intros; simp (disch := omega) only [wu_ne])
    obtain ⟨a1, a2, a3, a4, a5, a6, a7, a8, a9⟩ := hb
    refine ⟨?_, ?_, ?_, ?_, ?_, fun k hk => ?_, fun k hk => ?_, ?_, fun k hk => ?_⟩
    all_goals try (rw [y_up2 (by omega), wu_ne (by omega)]; first | assumption | exact a6 k hk | exact a9 k hk)
    by_cases e : k = n
    · rw [y_up1 rfl e, wu_at (by omega)]
    · rw [y_up2 (by omega), wu_ne (by omega)]
      exact a7 k hk
theorem m_tide {n : Nat} {y : Int32} (h : MR B i σ) (g : n < 28) (b : ¬ y < 0 ∧ ¬ 40 < y) : MRs B i (wu σ.1 (11 + n) y, σ.2) (am_fx am_P (d + 150) 98 0 [some (.ref 874), some (.int (Int32.ofNat n)), some (.int y)] [] (am_wI B i)) none 0 := by
  refine MRs_1 h ?_
  have hM := h.1.1
  have g2 : ¬ (27 : Int32) < Int32.ofNat n := by rw [show (27 : Int32) = Int32.ofNat 27 from rfl, z_lt (by omega) (by omega)]; omega
  rw [bk_98_0]
  simp (disch := omega) only [(fun d x0 x1 x2 s0 s1 B i => bk_98_31 d x0 x1 x2 s0 s1 (am_wI B i)), m_in, m_thr0, b.1, b.2, g2, hM, y_ckd, y_ck2d, y_ond, y_onn, y_oI, y_oIx, y_oJ, y_oV, y_oVx, y_oR, y_oRn, y_oRx, y_b0, y_b1, y_bi, y_bid, y_wIK, y_wIL, y_wII, y_wIJ, y_wIR, y_wIN, y_wIw, y_sI, ↓reduceIte, Nat.reduceEqDiff, eq_self, true_or, or_true, false_or, or_false, and_true, true_and, false_and, and_false, not_true, not_false_eq_true, tf_T, tf_F, y_up1, y_up2, y_xx, y_nx, y_sJ, y_sR, Int32.reduceLT, y_nxK, y_nxL, y_nxR, y_sJK, y_sJL, y_sJR, y_sJN, y_sRK, y_sRL, y_sRN, Nat.add_zero, z_nat, z_lit, z_lit0, z_lit1, z_in0, z_in1, z_addl0, z_lt, z_ltl, z_llt, z_inj, z_injl, z_add, z_addl, z_ladd, z_mul, z_mull, z_lmul, z_neg, z_negl, z_in, z_inl, z_ltT, z_ltF, z_eqF, z_10, z_01, z_litne, z_ne0, z_0ne, z_ne1, z_1ne, z_lt64, z_02, z_03, z_04, z_05, z_12, z_13, z_14, z_15, z_20, z_21, z_23, z_24, z_25, z_30, z_31, z_32, z_34, z_35, z_40, z_41, z_42, z_43, z_45, z_50, z_51, z_52, z_53, z_54]
theorem k_tide (h : Sim B i σ) (hs : Sc B i L j) (hO : am_K B 892 = 22 ∧ am_L B 892 = 1) : Stq B i d 2084 j := by
  by_cases g : ¬ (i 0 (j + 1)) < 0 ∧ ¬ 27 < (i 0 (j + 1))
  rotate_left
  · exact kx_26_2 h hs hO (f_tide_x0 (d := d + 48) h.1  g) fun B0 i0 h0 => m_tide_x0 (d := d + 49) h0  g
  by_cases b : ¬ (i 0 (j + 2)) < 0 ∧ ¬ 40 < (i 0 (j + 2))
  rotate_left
  · exact kx_26_2 h hs hO (f_tide_x1 (d := d + 48) h.1 g b) fun B0 i0 h0 => m_tide_x1 (d := d + 49) h0 g b
  obtain ⟨n, e, hn⟩ := z_le 27 (by omega) g.1 g.2
  exact kk_26 (σ' := (wu σ.1 (11 + n) (i 0 (j + 2)), σ.2)) h hs hO (SW_now h.2.2 (wd_b h.2.2.1 (by omega))) (by rw [e]; exact f_tide (d := d + 48) h.1 (by omega) b) (fun B0 i0 h0 => by rw [e]; exact m_tide (d := d + 49) h0 (by omega) b)
theorem f_coin_x0 {x y z : Int32} (h : CR B i σ)  (g : ¬ (¬ x < 0 ∧ ¬ 2 < x)) : FRs B i σ (am_fx am_P (d + 150) 338 0 [some (.ref 64), some (.int x), some (.int y), some (.int z)] [] (am_wI B i)) (.inr 2) := by
  refine FRs_x h ?_
  rw [bk_338_0]
  simp (disch := omega) only [(fun d x0 x1 x2 x3 s0 B i => bk_338_35 d x0 x1 x2 x3 s0 (am_wI B i)), c_within, c_ckN0, g, y_ckd, y_ck2d, y_ond, y_onn, y_oI, y_oIx, y_oJ, y_oV, y_oVx, y_oR, y_oRn, y_oRx, y_b0, y_b1, y_bi, y_bid, y_wIK, y_wIL, y_wII, y_wIJ, y_wIR, y_wIN, y_wIw, y_sI, ↓reduceIte, Nat.reduceEqDiff, eq_self, true_or, or_true, false_or, or_false, and_true, true_and, false_and, and_false, not_true, not_false_eq_true, tf_T, tf_F, y_up1, y_up2, y_xx, y_nx, y_sJ, y_sR, Int32.reduceLT, y_nxK, y_nxL, y_nxR, y_sJK, y_sJL, y_sJR, y_sJN, y_sRK, y_sRL, y_sRN, Nat.add_zero, z_nat, z_lit, z_lit0, z_lit1, z_in0, z_in1, z_addl0, z_lt, z_ltl, z_llt, z_inj, z_injl, z_add, z_addl, z_ladd, z_mul, z_mull, z_lmul, z_neg, z_negl, z_in, z_inl, z_ltT, z_ltF, z_eqF, z_10, z_01, z_litne, z_ne0, z_0ne, z_ne1, z_1ne, z_lt64, z_02, z_03, z_04, z_05, z_12, z_13, z_14, z_15, z_20, z_21, z_23, z_24, z_25, z_30, z_31, z_32, z_34, z_35, z_40, z_41, z_42, z_43, z_45, z_50, z_51, z_52, z_53, z_54]
theorem m_coin_x0 {x y z : Int32} (h : MR B i σ)  (g : ¬ (¬ x < 0 ∧ ¬ 2 < x)) : MRs B i σ (am_fx am_P (d + 150) 136 0 [some (.ref 874), some (.int x), some (.int y), some (.int z)] [] (am_wI B i)) none 1 := by
  refine MRs_x h ?_
  have hM := h.1.1
  rw [bk_136_0]
  simp (disch := omega) only [(fun d x0 x1 x2 x3 s0 s1 B i => bk_136_41 d x0 x1 x2 x3 s0 s1 (am_wI B i)), m_in, m_thr1 hM, g, hM, y_ckd, y_ck2d, y_ond, y_onn, y_oI, y_oIx, y_oJ, y_oV, y_oVx, y_oR, y_oRn, y_oRx, y_b0, y_b1, y_bi, y_bid, y_wIK, y_wIL, y_wII, y_wIJ, y_wIR, y_wIN, y_wIw, y_sI, ↓reduceIte, Nat.reduceEqDiff, eq_self, true_or, or_true, false_or, or_false, and_true, true_and, false_and, and_false, not_true, not_false_eq_true, tf_T, tf_F, y_up1, y_up2, y_xx, y_nx, y_sJ, y_sR, Int32.reduceLT, y_nxK, y_nxL, y_nxR, y_sJK, y_sJL, y_sJR, y_sJN, y_sRK, y_sRL, y_sRN, Nat.add_zero, z_nat, z_lit, z_lit0, z_lit1, z_in0, z_in1, z_addl0, z_lt, z_ltl, z_llt, z_inj, z_injl, z_add, z_addl, z_ladd, z_mul, z_mull, z_lmul, z_neg, z_negl, z_in, z_inl, z_ltT, z_ltF, z_eqF, z_10, z_01, z_litne, z_ne0, z_0ne, z_ne1, z_1ne, z_lt64, z_02, z_03, z_04, z_05, z_12, z_13, z_14, z_15, z_20, z_21, z_23, z_24, z_25, z_30, z_31, z_32, z_34, z_35, z_40, z_41, z_42, z_43, z_45, z_50, z_51, z_52, z_53, z_54]
theorem f_coin_x1 {x y z : Int32} (h : CR B i σ) (g : ¬ x < 0 ∧ ¬ 2 < x) (b : ¬ (¬ y < 0 ∧ ¬ 9 < y)) : FRs B i σ (am_fx am_P (d + 150) 338 0 [some (.ref 64), some (.int x), some (.int y), some (.int z)] [] (am_wI B i)) (.inr 2) := by
  refine FRs_x h ?_
  rw [bk_338_0]
  simp (disch := omega) only [(fun d x0 x1 x2 x3 s0 B i => bk_338_35 d x0 x1 x2 x3 s0 (am_wI B i)), c_within, c_ckN0, g, b, y_ckd, y_ck2d, y_ond, y_onn, y_oI, y_oIx, y_oJ, y_oV, y_oVx, y_oR, y_oRn, y_oRx, y_b0, y_b1, y_bi, y_bid, y_wIK, y_wIL, y_wII, y_wIJ, y_wIR, y_wIN, y_wIw, y_sI, ↓reduceIte, Nat.reduceEqDiff, eq_self, true_or, or_true, false_or, or_false, and_true, true_and, false_and, and_false, not_true, not_false_eq_true, tf_T, tf_F, y_up1, y_up2, y_xx, y_nx, y_sJ, y_sR, Int32.reduceLT, y_nxK, y_nxL, y_nxR, y_sJK, y_sJL, y_sJR, y_sJN, y_sRK, y_sRL, y_sRN, Nat.add_zero, z_nat, z_lit, z_lit0, z_lit1, z_in0, z_in1, z_addl0, z_lt, z_ltl, z_llt, z_inj, z_injl, z_add, z_addl, z_ladd, z_mul, z_mull, z_lmul, z_neg, z_negl, z_in, z_inl, z_ltT, z_ltF, z_eqF, z_10, z_01, z_litne, z_ne0, z_0ne, z_ne1, z_1ne, z_lt64, z_02, z_03, z_04, z_05, z_12, z_13, z_14, z_15, z_20, z_21, z_23, z_24, z_25, z_30, z_31, z_32, z_34, z_35, z_40, z_41, z_42, z_43, z_45, z_50, z_51, z_52, z_53, z_54]
theorem m_coin_x1 {x y z : Int32} (h : MR B i σ) (g : ¬ x < 0 ∧ ¬ 2 < x) (b : ¬ (¬ y < 0 ∧ ¬ 9 < y)) : MRs B i σ (am_fx am_P (d + 150) 136 0 [some (.ref 874), some (.int x), some (.int y), some (.int z)] [] (am_wI B i)) none 1 := by
  refine MRs_x h ?_
  have hM := h.1.1
  rw [bk_136_0]
  simp (disch := omega) only [(fun d x0 x1 x2 x3 s0 s1 B i => bk_136_41 d x0 x1 x2 x3 s0 s1 (am_wI B i)), m_in, m_thr1 hM, g, b, hM, y_ckd, y_ck2d, y_ond, y_onn, y_oI, y_oIx, y_oJ, y_oV, y_oVx, y_oR, y_oRn, y_oRx, y_b0, y_b1, y_bi, y_bid, y_wIK, y_wIL, y_wII, y_wIJ, y_wIR, y_wIN, y_wIw, y_sI, ↓reduceIte, Nat.reduceEqDiff, eq_self, true_or, or_true, false_or, or_false, and_true, true_and, false_and, and_false, not_true, not_false_eq_true, tf_T, tf_F, y_up1, y_up2, y_xx, y_nx, y_sJ, y_sR, Int32.reduceLT, y_nxK, y_nxL, y_nxR, y_sJK, y_sJL, y_sJR, y_sJN, y_sRK, y_sRL, y_sRN, Nat.add_zero, z_nat, z_lit, z_lit0, z_lit1, z_in0, z_in1, z_addl0, z_lt, z_ltl, z_llt, z_inj, z_injl, z_add, z_addl, z_ladd, z_mul, z_mull, z_lmul, z_neg, z_negl, z_in, z_inl, z_ltT, z_ltF, z_eqF, z_10, z_01, z_litne, z_ne0, z_0ne, z_ne1, z_1ne, z_lt64, z_02, z_03, z_04, z_05, z_12, z_13, z_14, z_15, z_20, z_21, z_23, z_24, z_25, z_30, z_31, z_32, z_34, z_35, z_40, z_41, z_42, z_43, z_45, z_50, z_51, z_52, z_53, z_54]
theorem f_coin_x2 {x y z : Int32} (h : CR B i σ) (g : ¬ x < 0 ∧ ¬ 2 < x) (b : ¬ y < 0 ∧ ¬ 9 < y) (c : ¬ (¬ z < 0 ∧ ¬ 100000 < z)) : FRs B i σ (am_fx am_P (d + 150) 338 0 [some (.ref 64), some (.int x), some (.int y), some (.int z)] [] (am_wI B i)) (.inr 2) := by
  refine FRs_x h ?_
  rw [bk_338_0]
  simp (disch := omega) only [(fun d x0 x1 x2 x3 s0 B i => bk_338_35 d x0 x1 x2 x3 s0 (am_wI B i)), c_within, c_ckN0, g, b, c, y_ckd, y_ck2d, y_ond, y_onn, y_oI, y_oIx, y_oJ, y_oV, y_oVx, y_oR, y_oRn, y_oRx, y_b0, y_b1, y_bi, y_bid, y_wIK, y_wIL, y_wII, y_wIJ, y_wIR, y_wIN, y_wIw, y_sI, ↓reduceIte, Nat.reduceEqDiff, eq_self, true_or, or_true, false_or, or_false, and_true, true_and, false_and, and_false, not_true, not_false_eq_true, tf_T, tf_F, y_up1, y_up2, y_xx, y_nx, y_sJ, y_sR, Int32.reduceLT, y_nxK, y_nxL, y_nxR, y_sJK, y_sJL, y_sJR, y_sJN, y_sRK, y_sRL, y_sRN, Nat.add_zero, z_nat, z_lit, z_lit0, z_lit1, z_in0, z_in1, z_addl0, z_lt, z_ltl, z_llt, z_inj, z_injl, z_add, z_addl, z_ladd, z_mul, z_mull, z_lmul, z_neg, z_negl, z_in, z_inl, z_ltT, z_ltF, z_eqF, z_10, z_01, z_litne, z_ne0, z_0ne, z_ne1, z_1ne, z_lt64, z_02, z_03, z_04, z_05, z_12, z_13, z_14, z_15, z_20, z_21, z_23, z_24, z_25, z_30, z_31, z_32, z_34, z_35, z_40, z_41, z_42, z_43, z_45, z_50, z_51, z_52, z_53, z_54]
theorem m_coin_x2 {x y z : Int32} (h : MR B i σ) (g : ¬ x < 0 ∧ ¬ 2 < x) (b : ¬ y < 0 ∧ ¬ 9 < y) (c : ¬ (¬ z < 0 ∧ ¬ 100000 < z)) : MRs B i σ (am_fx am_P (d + 150) 136 0 [some (.ref 874), some (.int x), some (.int y), some (.int z)] [] (am_wI B i)) none 1 := by
  refine MRs_x h ?_
  have hM := h.1.1
  rw [bk_136_0]
  simp (disch := omega) only [(fun d x0 x1 x2 x3 s0 s1 B i => bk_136_41 d x0 x1 x2 x3 s0 s1 (am_wI B i)), m_in, m_thr1 hM, g, b, c, hM, y_ckd, y_ck2d, y_ond, y_onn, y_oI, y_oIx, y_oJ, y_oV, y_oVx, y_oR, y_oRn, y_oRx, y_b0, y_b1, y_bi, y_bid, y_wIK, y_wIL, y_wII, y_wIJ, y_wIR, y_wIN, y_wIw, y_sI, ↓reduceIte, Nat.reduceEqDiff, eq_self, true_or, or_true, false_or, or_false, and_true, true_and, false_and, and_false, not_true, not_false_eq_true, tf_T, tf_F, y_up1, y_up2, y_xx, y_nx, y_sJ, y_sR, Int32.reduceLT, y_nxK, y_nxL, y_nxR, y_sJK, y_sJL, y_sJR, y_sJN, y_sRK, y_sRL, y_sRN, Nat.add_zero, z_nat, z_lit, z_lit0, z_lit1, z_in0, z_in1, z_addl0, z_lt, z_ltl, z_llt, z_inj, z_injl, z_add, z_addl, z_ladd, z_mul, z_mull, z_lmul, z_neg, z_negl, z_in, z_inl, z_ltT, z_ltF, z_eqF, z_10, z_01, z_litne, z_ne0, z_0ne, z_ne1, z_1ne, z_lt64, z_02, z_03, z_04, z_05, z_12, z_13, z_14, z_15, z_20, z_21, z_23, z_24, z_25, z_30, z_31, z_32, z_34, z_35, z_40, z_41, z_42, z_43, z_45, z_50, z_51, z_52, z_53, z_54]
theorem f_coin {n k : Nat} {z : Int32} (h : CR B i σ) (g : n < 3) (b : k < 10) (c : ¬ z < 0 ∧ ¬ 100000 < z) : FRs B i (wu σ.1 (3511 + 10 * n + k) z, σ.2) (am_fx am_P (d + 150) 338 0 [some (.ref 64), some (.int (Int32.ofNat n)), some (.int (Int32.ofNat k)), some (.int z)] [] (am_wI B i)) (.inl none) := by
  have g2 : ¬ (2 : Int32) < Int32.ofNat n := by rw [show (2 : Int32) = Int32.ofNat 2 from rfl, z_lt (by omega) (by omega)]; omega
  have b2 : ¬ (9 : Int32) < Int32.ofNat k := by rw [show (9 : Int32) = Int32.ofNat 9 from rfl, z_lt (by omega) (by omega)]; omega
  refine FRs_w (i' := am_up2 i (94 + 28 + n) k z) h ?_ ?_ (by intros; simp (disch := omega) only [y_up2])
  · rw [bk_338_0]
    simp (disch := omega) only [(fun d x0 x1 x2 x3 s0 B i => bk_338_35 d x0 x1 x2 x3 s0 (am_wI B i)), c_within, c_ckN1, g2, b2, c.1, c.2, h.1.1.1, h.1.2.1, y_ckd, y_ck2d, y_ond, y_onn, y_oI, y_oIx, y_oJ, y_oV, y_oVx, y_oR, y_oRn, y_oRx, y_b0, y_b1, y_bi, y_bid, y_wIK, y_wIL, y_wII, y_wIJ, y_wIR, y_wIN, y_wIw, y_sI, ↓reduceIte, Nat.reduceEqDiff, eq_self, true_or, or_true, false_or, or_false, and_true, true_and, false_and, and_false, not_true, not_false_eq_true, tf_T, tf_F, y_up1, y_up2, y_xx, y_nx, y_sJ, y_sR, Int32.reduceLT, y_nxK, y_nxL, y_nxR, y_sJK, y_sJL, y_sJR, y_sJN, y_sRK, y_sRL, y_sRN, Nat.add_zero, z_nat, z_lit, z_lit0, z_lit1, z_in0, z_in1, z_addl0, z_lt, z_ltl, z_llt, z_inj, z_injl, z_add, z_addl, z_ladd, z_mul, z_mull, z_lmul, z_neg, z_negl, z_in, z_inl, z_ltT, z_ltF, z_eqF, z_10, z_01, z_litne, z_ne0, z_0ne, z_ne1, z_1ne, z_lt64, z_02, z_03, z_04, z_05, z_12, z_13, z_14, z_15, z_20, z_21, z_23, z_24, z_25, z_30, z_31, z_32, z_34, z_35, z_40, z_41, z_42, z_43, z_45, z_50, z_51, z_52, z_53, z_54]
  · refine Rep_plan h.2.1 (Le.rf B) (by omega) rfl ?_ (by intros; simp (disch := omega) only [y_up2]) (by intros; simp (disch := omega) only [y_upr]) (by intros; simp (disch := omega) only [wu_ne])
    obtain ⟨a1, a2, a3⟩ := h.2.1.2.2.2.2.2.2.2.1
    refine ⟨?_, fun q hq hq8 => ?_, fun r hr y hy => ?_⟩
    · rw [y_up2 (by omega), wu_ne (by omega)]
      exact a1
    · have e : cn (wu σ.1 (3511 + 10 * n + k) z) 3478 = cn σ.1 3478 := by unfold cn; rw [wu_ne (by omega)]
      rw [e] at hq
      rw [y_up2 (by omega), y_up2 (by omega), y_up2 (by omega), y_up2 (by omega), wu_ne (by omega), wu_ne (by omega), wu_ne (by omega), wu_ne (by omega)]
      exact a2 q hq hq8
    · by_cases e : r = n ∧ y = k
      · rw [y_up1 (by omega) e.2, wu_at (by omega)]
      · rw [y_up2 (by omega), wu_ne (by omega)]
        exact a3 r hr y hy
theorem m_coin {n k : Nat} {z : Int32} (h : MR B i σ) (g : n < 3) (b : k < 10) (c : ¬ z < 0 ∧ ¬ 100000 < z) : MRs B i (wu σ.1 (3511 + 10 * n + k) z, σ.2) (am_fx am_P (d + 150) 136 0 [some (.ref 874), some (.int (Int32.ofNat n)), some (.int (Int32.ofNat k)), some (.int z)] [] (am_wI B i)) none 0 := by
  refine MRs_1 h ?_
  have hM := h.1.1
  have g2 : ¬ (2 : Int32) < Int32.ofNat n := by rw [show (2 : Int32) = Int32.ofNat 2 from rfl, z_lt (by omega) (by omega)]; omega
  have b2 : ¬ (9 : Int32) < Int32.ofNat k := by rw [show (9 : Int32) = Int32.ofNat 9 from rfl, z_lt (by omega) (by omega)]; omega
  rw [bk_136_0]
  simp (disch := omega) only [(fun d x0 x1 x2 x3 s0 s1 B i => bk_136_41 d x0 x1 x2 x3 s0 s1 (am_wI B i)), m_in, m_thr0, c.1, c.2, g2, b2, hM, y_ckd, y_ck2d, y_ond, y_onn, y_oI, y_oIx, y_oJ, y_oV, y_oVx, y_oR, y_oRn, y_oRx, y_b0, y_b1, y_bi, y_bid, y_wIK, y_wIL, y_wII, y_wIJ, y_wIR, y_wIN, y_wIw, y_sI, ↓reduceIte, Nat.reduceEqDiff, eq_self, true_or, or_true, false_or, or_false, and_true, true_and, false_and, and_false, not_true, not_false_eq_true, tf_T, tf_F, y_up1, y_up2, y_xx, y_nx, y_sJ, y_sR, Int32.reduceLT, y_nxK, y_nxL, y_nxR, y_sJK, y_sJL, y_sJR, y_sJN, y_sRK, y_sRL, y_sRN, Nat.add_zero, z_nat, z_lit, z_lit0, z_lit1, z_in0, z_in1, z_addl0, z_lt, z_ltl, z_llt, z_inj, z_injl, z_add, z_addl, z_ladd, z_mul, z_mull, z_lmul, z_neg, z_negl, z_in, z_inl, z_ltT, z_ltF, z_eqF, z_10, z_01, z_litne, z_ne0, z_0ne, z_ne1, z_1ne, z_lt64, z_02, z_03, z_04, z_05, z_12, z_13, z_14, z_15, z_20, z_21, z_23, z_24, z_25, z_30, z_31, z_32, z_34, z_35, z_40, z_41, z_42, z_43, z_45, z_50, z_51, z_52, z_53, z_54]
theorem wd_c {s : Nat} {v : Int32} (h : Wd w) (hs : 3511 ≤ s ∧ s < 3541) (hv : ¬ v < 0 ∧ ¬ 100000 < v) : Wd (wu w s v) := by
  obtain ⟨h1, h2, h3, h4, h5, h6, h7, h8, h9, h10, h11⟩ := h
  have k : ∀ z, z ≠ s → wu w s v z = w z := fun z hz => wu_ne hz
  refine ⟨WdC_fr h1 fun z hz => k z (by omega), WdR_fr h2 fun z hz => k z (by omega), WdT_fr h3 fun z hz => k z (by omega), WdP_fr h4 h1.2.2.1.2 fun z hz => k z (by omega), WdS_fr h5 fun z hz => k z (by omega), WdG_fr h6 fun z hz => k z (by omega), WdE_fr h7 fun z hz => k z (by omega), WdM_fr h8 fun z hz => k z (by omega), WdX_fr h9 fun z hz => k z (by omega), ?_, WdI_fr h11 fun z hz => k z (by omega)⟩
  obtain ⟨c1, c2, c3, c4⟩ := h10
  have e1 : cn (wu w s v) 39 = cn w 39 := by unfold cn; rw [k 39 (by omega)]
  have e2 : cn (wu w s v) 2621 = cn w 2621 := by unfold cn; rw [k 2621 (by omega)]
  have e3 : cn (wu w s v) 3478 = cn w 3478 := by unfold cn; rw [k 3478 (by omega)]
  refine ⟨fun t ht h6 => ?_, fun a ha h8 n hn hn8 => ?_, fun c hc h8 => ?_, fun r hr y hy => ?_⟩
  · rw [k (40 + 7 * t + 2) (by omega), k (40 + 7 * t + 3) (by omega), k (40 + 7 * t + 4) (by omega)]
    exact c1 t (by omega) h6
  · have e8 : cn (wu w s v) (2622 + 49 * a + 8) = cn w (2622 + 49 * a + 8) := by unfold cn; rw [k _ (by omega)]
    rw [k (2622 + 49 * a + 9 + 5 * n + 1) (by omega), k (2622 + 49 * a + 9 + 5 * n + 2) (by omega)]
    exact c2 a (by omega) h8 n (by omega) hn8
  · rw [k (3479 + 4 * c) (by omega), k (3479 + 4 * c + 1) (by omega), k (3479 + 4 * c + 2) (by omega), k (3479 + 4 * c + 3) (by omega)]
    exact c3 c (by omega) h8
  · by_cases e : 3511 + 10 * r + y = s
    · rw [e, wu_at rfl]
      exact z_rg hv.1 hv.2 (by decide)
    · rw [k _ e]
      exact c4 r hr y hy
theorem k_coin (h : Sim B i σ) (hs : Sc B i L j) (hO : am_K B 892 = 22 ∧ am_L B 892 = 1) : Stq B i d 3390 j := by
  by_cases g : ¬ (i 0 (j + 1)) < 0 ∧ ¬ 2 < (i 0 (j + 1))
  rotate_left
  · exact kx_46_2 h hs hO (f_coin_x0 (d := d + 48) h.1  g) fun B0 i0 h0 => m_coin_x0 (d := d + 49) h0  g
  by_cases b : ¬ (i 0 (j + 2)) < 0 ∧ ¬ 9 < (i 0 (j + 2))
  rotate_left
  · exact kx_46_2 h hs hO (f_coin_x1 (d := d + 48) h.1 g b) fun B0 i0 h0 => m_coin_x1 (d := d + 49) h0 g b
  by_cases c : ¬ (i 0 (j + 3)) < 0 ∧ ¬ 100000 < (i 0 (j + 3))
  rotate_left
  · exact kx_46_2 h hs hO (f_coin_x2 (d := d + 48) h.1 g b c) fun B0 i0 h0 => m_coin_x2 (d := d + 49) h0 g b c
  obtain ⟨n, e, hn⟩ := z_le 2 (by omega) g.1 g.2
  obtain ⟨k, e2, hk⟩ := z_le 9 (by omega) b.1 b.2
  exact kk_46 (σ' := (wu σ.1 (3511 + 10 * n + k) (i 0 (j + 3)), σ.2)) h hs hO (SW_now h.2.2 (wd_c h.2.2.1 (by omega) c)) (by rw [e, e2]; exact f_coin (d := d + 48) h.1 (by omega) (by omega) c) (fun B0 i0 h0 => by rw [e, e2]; exact m_coin (d := d + 49) h0 (by omega) (by omega) c)
theorem f_dock_x0 {x : Int32} (h : CR B i σ)  (g : ¬ (¬ x < (-20) ∧ ¬ 40 < x)) : FRs B i σ (am_fx am_P (d + 150) 317 0 [some (.ref 64), some (.int x)] [] (am_wI B i)) (.inr 2) := by
  refine FRs_x h ?_
  rw [bk_317_0]
  simp (disch := omega) only [c_within, c_ckN0, g, y_ckd, y_ck2d, y_ond, y_onn, y_oI, y_oIx, y_oJ, y_oV, y_oVx, y_oR, y_oRn, y_oRx, y_b0, y_b1, y_bi, y_bid, y_wIK, y_wIL, y_wII, y_wIJ, y_wIR, y_wIN, y_wIw, y_sI, ↓reduceIte, Nat.reduceEqDiff, eq_self, true_or, or_true, false_or, or_false, and_true, true_and, false_and, and_false, not_true, not_false_eq_true, tf_T, tf_F, y_up1, y_up2, y_xx, y_nx, y_sJ, y_sR, Int32.reduceLT, y_nxK, y_nxL, y_nxR, y_sJK, y_sJL, y_sJR, y_sJN, y_sRK, y_sRL, y_sRN, Nat.add_zero, z_nat, z_lit, z_lit0, z_lit1, z_in0, z_in1, z_addl0, z_lt, z_ltl, z_llt, z_inj, z_injl, z_add, z_addl, z_ladd, z_mul, z_mull, z_lmul, z_neg, z_negl, z_in, z_inl, z_ltT, z_ltF, z_eqF, z_10, z_01, z_litne, z_ne0, z_0ne, z_ne1, z_1ne, z_lt64, z_02, z_03, z_04, z_05, z_12, z_13, z_14, z_15, z_20, z_21, z_23, z_24, z_25, z_30, z_31, z_32, z_34, z_35, z_40, z_41, z_42, z_43, z_45, z_50, z_51, z_52, z_53, z_54]
theorem m_dock_x0 {x : Int32} (h : MR B i σ)  (g : ¬ (¬ x < (-20) ∧ ¬ 40 < x)) : MRs B i σ (am_fx am_P (d + 150) 97 0 [some (.ref 874), some (.int x)] [] (am_wI B i)) (some (.int 0)) 1 := by
  refine MRs_x h ?_
  have hM := h.1.1
  rw [bk_97_0]
  simp (disch := omega) only [(fun d x0 x1 s0 s1 B i => bk_97_22 d x0 x1 s0 s1 (am_wI B i)), m_in, m_thr1 hM, g, hM, y_ckd, y_ck2d, y_ond, y_onn, y_oI, y_oIx, y_oJ, y_oV, y_oVx, y_oR, y_oRn, y_oRx, y_b0, y_b1, y_bi, y_bid, y_wIK, y_wIL, y_wII, y_wIJ, y_wIR, y_wIN, y_wIw, y_sI, ↓reduceIte, Nat.reduceEqDiff, eq_self, true_or, or_true, false_or, or_false, and_true, true_and, false_and, and_false, not_true, not_false_eq_true, tf_T, tf_F, y_up1, y_up2, y_xx, y_nx, y_sJ, y_sR, Int32.reduceLT, y_nxK, y_nxL, y_nxR, y_sJK, y_sJL, y_sJR, y_sJN, y_sRK, y_sRL, y_sRN, Nat.add_zero, z_nat, z_lit, z_lit0, z_lit1, z_in0, z_in1, z_addl0, z_lt, z_ltl, z_llt, z_inj, z_injl, z_add, z_addl, z_ladd, z_mul, z_mull, z_lmul, z_neg, z_negl, z_in, z_inl, z_ltT, z_ltF, z_eqF, z_10, z_01, z_litne, z_ne0, z_0ne, z_ne1, z_1ne, z_lt64, z_02, z_03, z_04, z_05, z_12, z_13, z_14, z_15, z_20, z_21, z_23, z_24, z_25, z_30, z_31, z_32, z_34, z_35, z_40, z_41, z_42, z_43, z_45, z_50, z_51, z_52, z_53, z_54]
theorem f_dock_full {x : Int32} (h : CR B i σ) (g : ¬ x < (-20) ∧ ¬ 40 < x) (hc : σ.1 3014 = Int32.ofNat 4) : FRs B i σ (am_fx am_P (d + 150) 317 0 [some (.ref 64), some (.int x)] [] (am_wI B i)) (.inr 3) := by
  refine FRs_x h ?_
  have e : i (94 + 11) 1 = Int32.ofNat 4 := h.2.1.1.2.2.2.2.2.2.2.1.trans hc
  rw [bk_317_0]
  simp (disch := omega) only [c_within, c_ckN1, g.1, g.2, h.1.1.1, h.1.2.1, e, c_ckR0 (x := Int32.ofNat 4) (c := 4) (by decide), y_ckd, y_ck2d, y_ond, y_onn, y_oI, y_oIx, y_oJ, y_oV, y_oVx, y_oR, y_oRn, y_oRx, y_b0, y_b1, y_bi, y_bid, y_wIK, y_wIL, y_wII, y_wIJ, y_wIR, y_wIN, y_wIw, y_sI, ↓reduceIte, Nat.reduceEqDiff, eq_self, true_or, or_true, false_or, or_false, and_true, true_and, false_and, and_false, not_true, not_false_eq_true, tf_T, tf_F, y_up1, y_up2, y_xx, y_nx, y_sJ, y_sR, Int32.reduceLT, y_nxK, y_nxL, y_nxR, y_sJK, y_sJL, y_sJR, y_sJN, y_sRK, y_sRL, y_sRN]
theorem m_dock_full {x : Int32} (h : MR B i σ) (g : ¬ x < (-20) ∧ ¬ 40 < x) (hc : σ.1 3014 = Int32.ofNat 4) : MRs B i σ (am_fx am_P (d + 150) 97 0 [some (.ref 874), some (.int x)] [] (am_wI B i)) (some (.int 0)) 2 := by
  refine MRs_x h ?_
  have hM := h.1.1
  have e : i 875 3014 = Int32.ofNat 4 := (h.2.1 3014 (by omega)).trans hc
  rw [bk_97_0]
  simp (disch := omega) only [(fun d x0 x1 s0 s1 B i => bk_97_22 d x0 x1 s0 s1 (am_wI B i)), (fun d x0 x1 s0 s1 B i => bk_97_47 d x0 x1 s0 s1 (am_wI B i)), m_in, m_thr0, m_thr1 hM, g.1, g.2, hM, e, y_ckd, y_ck2d, y_ond, y_onn, y_oI, y_oIx, y_oJ, y_oV, y_oVx, y_oR, y_oRn, y_oRx, y_b0, y_b1, y_bi, y_bid, y_wIK, y_wIL, y_wII, y_wIJ, y_wIR, y_wIN, y_wIw, y_sI, ↓reduceIte, Nat.reduceEqDiff, eq_self, true_or, or_true, false_or, or_false, and_true, true_and, false_and, and_false, not_true, not_false_eq_true, tf_T, tf_F, y_up1, y_up2, y_xx, y_nx, y_sJ, y_sR, Int32.reduceLT, y_nxK, y_nxL, y_nxR, y_sJK, y_sJL, y_sJR, y_sJN, y_sRK, y_sRL, y_sRN, Nat.add_zero, z_nat, z_lit, z_lit0, z_lit1, z_in0, z_in1, z_addl0, z_lt, z_ltl, z_llt, z_inj, z_injl, z_add, z_addl, z_ladd, z_mul, z_mull, z_lmul, z_neg, z_negl, z_in, z_inl, z_ltT, z_ltF, z_eqF, z_10, z_01, z_litne, z_ne0, z_0ne, z_ne1, z_1ne, z_lt64, z_02, z_03, z_04, z_05, z_12, z_13, z_14, z_15, z_20, z_21, z_23, z_24, z_25, z_30, z_31, z_32, z_34, z_35, z_40, z_41, z_42, z_43, z_45, z_50, z_51, z_52, z_53, z_54]
theorem f_dock {x : Int32} {c : Nat} (h : CR B i σ) (g : ¬ x < (-20) ∧ ¬ 40 < x) (hc : σ.1 3014 = Int32.ofNat c) (c4 : c < 4) : FRs B i (wu (wu σ.1 (3015 + c) x) 3014 (Int32.ofNat (c + 1)), σ.2) (am_fx am_P (d + 150) 317 0 [some (.ref 64), some (.int x)] [] (am_wI B i)) (.inl (some (.int (Int32.ofNat c)))) := by
  have e : i (94 + 11) 1 = Int32.ofNat c := h.2.1.1.2.2.2.2.2.2.2.1.trans hc
  have c4' : Int32.ofNat c < 4 := by rw [show (4 : Int32) = Int32.ofNat 4 from rfl, z_lt (by omega) (by omega)]; omega
  refine FRs_w (i' := am_up2 (am_up2 i (94 + 12) c x) (94 + 11) 1 (Int32.ofNat (c + 1))) h ?_ ?_ (by intros; simp (disch := omega) only [y_up2])
  · rw [bk_317_0]
    simp (disch := omega) only [(fun d x0 x1 B i => bk_217_0 d x0 x1 (am_wI B i)), c_within, c_ckN1, g.1, g.2, h.1.1.1, h.1.2.1, e, c4', c_ckR1 c4', y_ckd, y_ck2d, y_ond, y_onn, y_oI, y_oIx, y_oJ, y_oV, y_oVx, y_oR, y_oRn, y_oRx, y_b0, y_b1, y_bi, y_bid, y_wIK, y_wIL, y_wII, y_wIJ, y_wIR, y_wIN, y_wIw, y_sI, ↓reduceIte, Nat.reduceEqDiff, eq_self, true_or, or_true, false_or, or_false, and_true, true_and, false_and, and_false, not_true, not_false_eq_true, tf_T, tf_F, y_up1, y_up2, y_xx, y_nx, y_sJ, y_sR, Int32.reduceLT, y_nxK, y_nxL, y_nxR, y_sJK, y_sJL, y_sJR, y_sJN, y_sRK, y_sRL, y_sRN, Nat.add_zero, z_nat, z_lit, z_lit0, z_lit1, z_in0, z_in1, z_addl0, z_lt, z_ltl, z_llt, z_inj, z_injl, z_add, z_addl, z_ladd, z_mul, z_mull, z_lmul, z_neg, z_negl, z_in, z_inl, z_ltT, z_ltF, z_eqF, z_10, z_01, z_litne, z_ne0, z_0ne, z_ne1, z_1ne, z_lt64, z_02, z_03, z_04, z_05, z_12, z_13, z_14, z_15, z_20, z_21, z_23, z_24, z_25, z_30, z_31, z_32, z_34, z_35, z_40, z_41, z_42, z_43, z_45, z_50, z_51, z_52, z_53, z_54]
  · refine Rep_base h.2.1 (Le.rf B) (by omega) rfl ?_ (by intros; simp (disch := omega) only [y_up2]) (by intros; simp (disch := omega) only [y_upr]) (by intros; simp (disch := omega) only [wu_ne])
    obtain ⟨a1, a2, a3, a4, a5, a6, a7, a8, a9⟩ := h.2.1.1
    refine ⟨?_, ?_, ?_, ?_, ?_, fun k hk => ?_, fun k hk => ?_, ?_, fun k hk => ?_⟩
    all_goals try (rw [y_up2 (by omega), y_up2 (by omega), wu_ne (by omega), wu_ne (by omega)]; first | assumption | exact a6 k hk | exact a7 k hk)
    · rw [y_up1 rfl rfl, wu_at rfl]
    · rw [y_up2 (by omega), wu_ne (by omega)]
      by_cases ek : k = c
      · rw [y_up1 rfl ek, wu_at (by omega)]
      · rw [y_up2 (by omega), wu_ne (by omega)]
        exact a9 k hk
theorem m_dock {x : Int32} {c : Nat} (h : MR B i σ) (g : ¬ x < (-20) ∧ ¬ 40 < x) (hc : σ.1 3014 = Int32.ofNat c) (c4 : c < 4) : MRs B i (wu (wu σ.1 (3015 + c) x) 3014 (Int32.ofNat (c + 1)), σ.2) (am_fx am_P (d + 150) 97 0 [some (.ref 874), some (.int x)] [] (am_wI B i)) (some (.int (Int32.ofNat c))) 0 := by
  have hM := h.1.1
  have e : i 875 3014 = Int32.ofNat c := (h.2.1 3014 (by omega)).trans hc
  have c4' : ¬ Int32.ofNat c = 4 := by rw [show (4 : Int32) = Int32.ofNat 4 from rfl, z_inj (by omega) (by omega)]; omega
  have e2 : Int32.ofNat (c + 1) - 1 = Int32.ofNat c := z_sub (a := c + 1) (b := 1) (by omega)
  refine MRs_w (i' := am_up2 (am_up2 (am_up2 i 874 0 0) 875 (3015 + c) x) 875 3014 (Int32.ofNat (c + 1))) h ?_ (by rw [y_up2 (by omega), y_up2 (by omega), y_up1 rfl rfl]) (up_wu (up_wu (up_o (by omega) h.2.1))) (by intros; simp (disch := omega) only [y_up2])
  rw [bk_97_0]
  simp (disch := omega) only [(fun d x0 x1 s0 s1 B i => bk_97_22 d x0 x1 s0 s1 (am_wI B i)), (fun d x0 x1 s0 s1 B i => bk_97_47 d x0 x1 s0 s1 (am_wI B i)), (fun d x0 B i => bk_97_86 d x0 (am_wI B i)), m_in, m_thr0, g.1, g.2, hM, e, c4', e2, y_ckd, y_ck2d, y_ond, y_onn, y_oI, y_oIx, y_oJ, y_oV, y_oVx, y_oR, y_oRn, y_oRx, y_b0, y_b1, y_bi, y_bid, y_wIK, y_wIL, y_wII, y_wIJ, y_wIR, y_wIN, y_wIw, y_sI, ↓reduceIte, Nat.reduceEqDiff, eq_self, true_or, or_true, false_or, or_false, and_true, true_and, false_and, and_false, not_true, not_false_eq_true, tf_T, tf_F, y_up1, y_up2, y_xx, y_nx, y_sJ, y_sR, Int32.reduceLT, y_nxK, y_nxL, y_nxR, y_sJK, y_sJL, y_sJR, y_sJN, y_sRK, y_sRL, y_sRN, Nat.add_zero, z_nat, z_lit, z_lit0, z_lit1, z_in0, z_in1, z_addl0, z_lt, z_ltl, z_llt, z_inj, z_injl, z_add, z_addl, z_ladd, z_mul, z_mull, z_lmul, z_neg, z_negl, z_in, z_inl, z_ltT, z_ltF, z_eqF, z_10, z_01, z_litne, z_ne0, z_0ne, z_ne1, z_1ne, z_lt64, z_02, z_03, z_04, z_05, z_12, z_13, z_14, z_15, z_20, z_21, z_23, z_24, z_25, z_30, z_31, z_32, z_34, z_35, z_40, z_41, z_42, z_43, z_45, z_50, z_51, z_52, z_53, z_54]
end Two
