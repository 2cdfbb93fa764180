/-! LOOK: made by wip/whole/math/79.py. -/
section Look
variable {B B1 : am_A} {i i1 : Nat → Nat → Int32} {σ σ' : Sg} {w : Nat → Int32} {L j d b : Nat} {x y : Int32}
/-- the limit that the text in force sets to a look -/
abbrev mn (a c : Int32) : Int32 := if c < a then c else a
abbrev fli (w : Nat → Int32) (o n : Nat) (a : Int32) : Int32 := if w (o + 2 + 4 * n) = 3 then w (o + 2 + 4 * n + 1) else a
def lim (w : Nat → Int32) (o : Nat) : Int32 := itr (fli w o) (cn w (o + 1)) 100
def liO (w : Nat → Int32) : Option Nat → Int32
  | none => 100
  | some k => lim w (3542 + 850 * k)
theorem c_min {A : am_A} : am_fx am_P d 0 0 [some (.int x), some (.int y)] [] A = some (.inl (some (.int (mn x y))), A) := by
  rw [bk_0_0]
  by_cases g : y < x
  · rw [if_pos g, show mn x y = _ from if_pos g]
  · rw [if_neg g, show mn x y = _ from if_neg g]
theorem c_limit {q o : Nat} (hT : TxR B i q w o) (hc : isc w (o + 1) 12) : am_fx am_P d 179 0 [some (.ref q), none, none] [] (am_wI B i) = some (.inl (some (.int (lim w o))), am_wI B i) := by
  obtain ⟨q0, qN, ⟨k9, r1, r2, r3, r4⟩, i0, l1, l2, l3, l4, hl, -⟩ := hT
  have n12 := hc.2
  have i0 := i0.trans hc.1
  rw [bk_179_0]
  refine (lp_itr (fun n a => am_fx am_P d 179 5 [some (.ref q), some (.int a), some (.int (Int32.ofNat n))] [] (am_wI B i)) (fli w o) (cn w (o + 1)) (fun n a hn => ?_) 100).trans ?_
  · obtain ⟨x1, x2, -, -⟩ := hl n hn (by omega)
    rw [bk_179_5]
    by_cases g : w (o + 2 + 4 * n) = 3
    · rw [show fli w o n a = _ from if_pos g]
      simp (maxSteps := 1000000) (disch := omega) only [i0, x1, x2, g, k9, r1, r2, l1, l2, y_ckd, y_ck2d, y_ond, y_onn, y_oI, y_oIx, y_oJ, y_oV, y_oVx, y_oR, y_oRn, y_oRx, y_b0, y_b1, y_bi, y_bid, y_wIK, y_wIL, y_wII, y_wIJ, y_wIR, y_wIN, y_wIw, y_sI, ↓reduceIte, Nat.reduceEqDiff, eq_self, true_or, or_true, false_or, or_false, and_true, true_and, false_and, and_false, not_true, not_false_eq_true, tf_T, tf_F, y_up1, y_up2, y_xx, y_nx, y_sJ, y_sR, Int32.reduceLT, y_nxK, y_nxL, y_nxR, y_sJK, y_sJL, y_sJR, y_sJN, y_sRK, y_sRL, y_sRN, Nat.add_zero, z_nat, z_lit, z_lit0, z_lit1, z_in0, z_in1, z_addl0, z_lt, z_ltl, z_llt, z_inj, z_injl, z_add, z_addl, z_ladd, z_mul, z_mull, z_lmul, z_neg, z_negl, z_in, z_inl, z_ltT, z_ltF, z_eqF, z_10, z_01, z_litne, z_ne0, z_0ne, z_ne1, z_1ne, z_lt64, z_02, z_03, z_04, z_05, z_12, z_13, z_14, z_15, z_20, z_21, z_23, z_24, z_25, z_30, z_31, z_32, z_34, z_35, z_40, z_41, z_42, z_43, z_45, z_50, z_51, z_52, z_53, z_54]
    · rw [show fli w o n a = a from if_neg g]
      simp (maxSteps := 1000000) (disch := omega) only [i0, x1, x2, g, k9, r1, r2, l1, l2, y_ckd, y_ck2d, y_ond, y_onn, y_oI, y_oIx, y_oJ, y_oV, y_oVx, y_oR, y_oRn, y_oRx, y_b0, y_b1, y_bi, y_bid, y_wIK, y_wIL, y_wII, y_wIJ, y_wIR, y_wIN, y_wIw, y_sI, ↓reduceIte, Nat.reduceEqDiff, eq_self, true_or, or_true, false_or, or_false, and_true, true_and, false_and, and_false, not_true, not_false_eq_true, tf_T, tf_F, y_up1, y_up2, y_xx, y_nx, y_sJ, y_sR, Int32.reduceLT, y_nxK, y_nxL, y_nxR, y_sJK, y_sJL, y_sJR, y_sJN, y_sRK, y_sRL, y_sRN, Nat.add_zero, z_nat, z_lit, z_lit0, z_lit1, z_in0, z_in1, z_addl0, z_lt, z_ltl, z_llt, z_inj, z_injl, z_add, z_addl, z_ladd, z_mul, z_mull, z_lmul, z_neg, z_negl, z_in, z_inl, z_ltT, z_ltF, z_eqF, z_10, z_01, z_litne, z_ne0, z_0ne, z_ne1, z_1ne, z_lt64, z_02, z_03, z_04, z_05, z_12, z_13, z_14, z_15, z_20, z_21, z_23, z_24, z_25, z_30, z_31, z_32, z_34, z_35, z_40, z_41, z_42, z_43, z_45, z_50, z_51, z_52, z_53, z_54]
  · rw [bk_179_5]
    simp (maxSteps := 1000000) (disch := omega) only [i0, k9, y_ckd, y_ck2d, y_ond, y_onn, y_oI, y_oIx, y_oJ, y_oV, y_oVx, y_oR, y_oRn, y_oRx, y_b0, y_b1, y_bi, y_bid, y_wIK, y_wIL, y_wII, y_wIJ, y_wIR, y_wIN, y_wIw, y_sI, ↓reduceIte, Nat.reduceEqDiff, eq_self, true_or, or_true, false_or, or_false, and_true, true_and, false_and, and_false, not_true, not_false_eq_true, tf_T, tf_F, y_up1, y_up2, y_xx, y_nx, y_sJ, y_sR, Int32.reduceLT, y_nxK, y_nxL, y_nxR, y_sJK, y_sJL, y_sJR, y_sJN, y_sRK, y_sRL, y_sRN, Nat.add_zero, z_nat, z_lit, z_lit0, z_lit1, z_in0, z_in1, z_addl0, z_lt, z_ltl, z_llt, z_inj, z_injl, z_add, z_addl, z_ladd, z_mul, z_mull, z_lmul, z_neg, z_negl, z_in, z_inl, z_ltT, z_ltF, z_eqF, z_10, z_01, z_litne, z_ne0, z_0ne, z_ne1, z_1ne, z_lt64, z_02, z_03, z_04, z_05, z_12, z_13, z_14, z_15, z_20, z_21, z_23, z_24, z_25, z_30, z_31, z_32, z_34, z_35, z_40, z_41, z_42, z_43, z_45, z_50, z_51, z_52, z_53, z_54]
    rfl
theorem m_limit {p k : Nat} (hM : Md B) (hw : ∀ s, s < 12042 → i 875 s = w s) (h10 : k < 10) (hc : isc w (3542 + 850 * k + 1) 12) : am_fx am_P (d + 3) 35 51 [some (.ref 874), some (.int (Int32.ofNat p)), some (.int 100), some (.int (Int32.ofNat k)), some (.int (Int32.ofNat 0))] [] (am_wI B i) = am_fx am_P (d + 3) 35 51 [some (.ref 874), some (.int (Int32.ofNat p)), some (.int (lim w (3542 + 850 * k))), some (.int (Int32.ofNat k)), some (.int (Int32.ofNat (cn w (3542 + 850 * k + 1))))] [] (am_wI B i) := by
  have n12 := hc.2
  have e5 : i 875 (3542 + 850 * k + 1) = Int32.ofNat (cn w (3542 + 850 * k + 1)) := (hw _ (by omega)).trans hc.1
  refine lp_itr (fun n a => am_fx am_P (d + 3) 35 51 [some (.ref 874), some (.int (Int32.ofNat p)), some (.int a), some (.int (Int32.ofNat k)), some (.int (Int32.ofNat n))] [] (am_wI B i)) (fli w (3542 + 850 * k)) (cn w (3542 + 850 * k + 1)) (fun n a hn => ?_) 100
  have e1 := hw (3542 + 850 * k + 2 + 4 * n) (by omega)
  have e2 := hw (3542 + 850 * k + 2 + 4 * n + 1) (by omega)
  have nk : ¬ Int32.ofNat k < 0 := by rw [z_neg (by omega)]; exact id
  rw [bk_35_51]
  by_cases g : w (3542 + 850 * k + 2 + 4 * n) = 3
  · rw [show fli w (3542 + 850 * k) n a = _ from if_pos g]
    simp (maxSteps := 1000000) (disch := omega) only [(fun d x0 x1 B i => bk_58_0 d x0 x1 (am_wI B i)), (fun d x0 x1 B i => bk_48_0 d x0 x1 (am_wI B i)), (fun d x0 B i => bk_47_0 d x0 (am_wI B i)), e5, e1, e2, nk, g, hM, y_ckd, y_ck2d, y_ond, y_onn, y_oI, y_oIx, y_oJ, y_oV, y_oVx, y_oR, y_oRn, y_oRx, y_b0, y_b1, y_bi, y_bid, y_wIK, y_wIL, y_wII, y_wIJ, y_wIR, y_wIN, y_wIw, y_sI, ↓reduceIte, Nat.reduceEqDiff, eq_self, true_or, or_true, false_or, or_false, and_true, true_and, false_and, and_false, not_true, not_false_eq_true, tf_T, tf_F, y_up1, y_up2, y_xx, y_nx, y_sJ, y_sR, Int32.reduceLT, y_nxK, y_nxL, y_nxR, y_sJK, y_sJL, y_sJR, y_sJN, y_sRK, y_sRL, y_sRN, Nat.add_zero, z_nat, z_lit, z_lit0, z_lit1, z_in0, z_in1, z_addl0, z_lt, z_ltl, z_llt, z_inj, z_injl, z_add, z_addl, z_ladd, z_mul, z_mull, z_lmul, z_neg, z_negl, z_in, z_inl, z_ltT, z_ltF, z_eqF, z_10, z_01, z_litne, z_ne0, z_0ne, z_ne1, z_1ne, z_lt64, z_02, z_03, z_04, z_05, z_12, z_13, z_14, z_15, z_20, z_21, z_23, z_24, z_25, z_30, z_31, z_32, z_34, z_35, z_40, z_41, z_42, z_43, z_45, z_50, z_51, z_52, z_53, z_54]
  · rw [show fli w (3542 + 850 * k) n a = a from if_neg g]
    simp (maxSteps := 1000000) (disch := omega) only [(fun d x0 x1 B i => bk_58_0 d x0 x1 (am_wI B i)), (fun d x0 x1 B i => bk_48_0 d x0 x1 (am_wI B i)), (fun d x0 B i => bk_47_0 d x0 (am_wI B i)), e5, e1, e2, nk, g, hM, y_ckd, y_ck2d, y_ond, y_onn, y_oI, y_oIx, y_oJ, y_oV, y_oVx, y_oR, y_oRn, y_oRx, y_b0, y_b1, y_bi, y_bid, y_wIK, y_wIL, y_wII, y_wIJ, y_wIR, y_wIN, y_wIw, y_sI, ↓reduceIte, Nat.reduceEqDiff, eq_self, true_or, or_true, false_or, or_false, and_true, true_and, false_and, and_false, not_true, not_false_eq_true, tf_T, tf_F, y_up1, y_up2, y_xx, y_nx, y_sJ, y_sR, Int32.reduceLT, y_nxK, y_nxL, y_nxR, y_sJK, y_sJL, y_sJR, y_sJN, y_sRK, y_sRL, y_sRN, Nat.add_zero, z_nat, z_lit, z_lit0, z_lit1, z_in0, z_in1, z_addl0, z_lt, z_ltl, z_llt, z_inj, z_injl, z_add, z_addl, z_ladd, z_mul, z_mull, z_lmul, z_neg, z_negl, z_in, z_inl, z_ltT, z_ltF, z_eqF, z_10, z_01, z_litne, z_ne0, z_0ne, z_ne1, z_1ne, z_lt64, z_02, z_03, z_04, z_05, z_12, z_13, z_14, z_15, z_20, z_21, z_23, z_24, z_25, z_30, z_31, z_32, z_34, z_35, z_40, z_41, z_42, z_43, z_45, z_50, z_51, z_52, z_53, z_54]
theorem m_lookE {p : Nat} {u t n : Int32} (hM : Md B) (hp : p < 120) (hn : am_fx am_P (d + 2) 58 0 [some (.ref 874), some (.int t)] [] (am_wI B i) = some (.inl (some (.int n)), am_wI B i)) : am_fx am_P (d + 3) 35 51 [some (.ref 874), some (.int (Int32.ofNat p)), some (.int u), some (.int t), some (.int n)] [] (am_wI B i) = some (.inl (some (.int (mn u (mx 0 (i 875 (461 + 18 * p + 7) - i 875 (461 + 18 * p + 15)))))), am_wI B (am_up2 (am_up2 i 875 (461 + 18 * p + 16) 1) 875 (461 + 18 * p + 8) (mn u (mx 0 (i 875 (461 + 18 * p + 7) - i 875 (461 + 18 * p + 15)))))) := by
  rw [bk_35_51]
  simp (maxSteps := 1000000) (disch := omega) only [hn, Int32.lt_irrefl, (fun d x0 x1 B i => bk_35_134 d x0 x1 (am_wI B i)), (fun d x0 x1 x2 B i => bk_24_0 d x0 x1 x2 (am_wI B i)), (fun d x0 x1 B i => bk_23_0 d x0 x1 (am_wI B i)), (fun d x0 x1 x2 x3 B i => bk_25_0 d x0 x1 x2 x3 (am_wI B i)), c_max, c_min, hM, y_ckd, y_ck2d, y_ond, y_onn, y_oI, y_oIx, y_oJ, y_oV, y_oVx, y_oR, y_oRn, y_oRx, y_b0, y_b1, y_bi, y_bid, y_wIK, y_wIL, y_wII, y_wIJ, y_wIR, y_wIN, y_wIw, y_sI, ↓reduceIte, Nat.reduceEqDiff, eq_self, true_or, or_true, false_or, or_false, and_true, true_and, false_and, and_false, not_true, not_false_eq_true, tf_T, tf_F, y_up1, y_up2, y_xx, y_nx, y_sJ, y_sR, Int32.reduceLT, y_nxK, y_nxL, y_nxR, y_sJK, y_sJL, y_sJR, y_sJN, y_sRK, y_sRL, y_sRN, Nat.add_zero, z_nat, z_lit, z_lit0, z_lit1, z_in0, z_in1, z_addl0, z_lt, z_ltl, z_llt, z_inj, z_injl, z_add, z_addl, z_ladd, z_mul, z_mull, z_lmul, z_neg, z_negl, z_in, z_inl, z_ltT, z_ltF, z_eqF, z_10, z_01, z_litne, z_ne0, z_0ne, z_ne1, z_1ne, z_lt64, z_02, z_03, z_04, z_05, z_12, z_13, z_14, z_15, z_20, z_21, z_23, z_24, z_25, z_30, z_31, z_32, z_34, z_35, z_40, z_41, z_42, z_43, z_45, z_50, z_51, z_52, z_53, z_54]
theorem f_look_x0 (h : CR B i σ) (g : ¬ (¬ x < 0 ∧ x < σ.1 460)) : FRs B i σ (am_fx am_P (d + 150) 300 0 [some (.ref 64), some (.int x), none, none] [] (am_wI B i)) (.inr 1) := by
  refine FRs_x h ?_
  have hF : Fc B := h.1.1
  have hY : Yd B 94 := h.1.2.1
  rw [bk_300_0]
  simp (maxSteps := 1000000) (disch := omega) only [c_pcN0 hF hY h.2.1.2.2.1.1 g, hF, hY, y_ckd, y_ck2d, y_ond, y_onn, y_oI, y_oIx, y_oJ, y_oV, y_oVx, y_oR, y_oRn, y_oRx, y_b0, y_b1, y_bi, y_bid, y_wIK, y_wIL, y_wII, y_wIJ, y_wIR, y_wIN, y_wIw, y_sI, ↓reduceIte, Nat.reduceEqDiff, eq_self, true_or, or_true, false_or, or_false, and_true, true_and, false_and, and_false, not_true, not_false_eq_true, tf_T, tf_F, y_up1, y_up2, y_xx, y_nx, y_sJ, y_sR, Int32.reduceLT, y_nxK, y_nxL, y_nxR, y_sJK, y_sJL, y_sJR, y_sJN, y_sRK, y_sRL, y_sRN, Nat.add_zero, z_nat, z_lit, z_lit0, z_lit1, z_in0, z_in1, z_addl0, z_lt, z_ltl, z_llt, z_inj, z_injl, z_add, z_addl, z_ladd, z_mul, z_mull, z_lmul, z_neg, z_negl, z_in, z_inl, z_ltT, z_ltF, z_eqF, z_10, z_01, z_litne, z_ne0, z_0ne, z_ne1, z_1ne, z_lt64, z_02, z_03, z_04, z_05, z_12, z_13, z_14, z_15, z_20, z_21, z_23, z_24, z_25, z_30, z_31, z_32, z_34, z_35, z_40, z_41, z_42, z_43, z_45, z_50, z_51, z_52, z_53, z_54]
theorem m_look_x0 (h : MR B i σ) (hc : isc σ.1 460 120) (g : ¬ (¬ x < 0 ∧ x < σ.1 460)) : MRs B i σ (am_fx am_P (d + 150) 35 0 [some (.ref 874), some (.int x), none, none, none] [] (am_wI B i)) (some (.int 0)) 1 := by
  refine MRs_x h ?_
  have hM : Md B := h.1.1
  have e5 := h.2.1 460 (by omega)
  rw [bk_35_0]
  simp (maxSteps := 1000000) (disch := omega) only [(fun d x0 x1 B i => bk_26_0 d x0 x1 (am_wI B i)), m_in, z_pred hc.1, Classical.not_not, g, m_thr1 hM, e5, hM, y_ckd, y_ck2d, y_ond, y_onn, y_oI, y_oIx, y_oJ, y_oV, y_oVx, y_oR, y_oRn, y_oRx, y_b0, y_b1, y_bi, y_bid, y_wIK, y_wIL, y_wII, y_wIJ, y_wIR, y_wIN, y_wIw, y_sI, ↓reduceIte, Nat.reduceEqDiff, eq_self, true_or, or_true, false_or, or_false, and_true, true_and, false_and, and_false, not_true, not_false_eq_true, tf_T, tf_F, y_up1, y_up2, y_xx, y_nx, y_sJ, y_sR, Int32.reduceLT, y_nxK, y_nxL, y_nxR, y_sJK, y_sJL, y_sJR, y_sJN, y_sRK, y_sRL, y_sRN, Nat.add_zero, z_nat, z_lit, z_lit0, z_lit1, z_in0, z_in1, z_addl0, z_lt, z_ltl, z_llt, z_inj, z_injl, z_add, z_addl, z_ladd, z_mul, z_mull, z_lmul, z_neg, z_negl, z_in, z_inl, z_ltT, z_ltF, z_eqF, z_10, z_01, z_litne, z_ne0, z_0ne, z_ne1, z_1ne, z_lt64, z_02, z_03, z_04, z_05, z_12, z_13, z_14, z_15, z_20, z_21, z_23, z_24, z_25, z_30, z_31, z_32, z_34, z_35, z_40, z_41, z_42, z_43, z_45, z_50, z_51, z_52, z_53, z_54]
theorem f_look0 {p : Nat} (h : CR B i σ) (hc : isc σ.1 460 120) (hp : p < cn σ.1 460) (g : ¬ (¬ σ.1 (461 + 18 * p + 1) < 1 ∧ ¬ 3 < σ.1 (461 + 18 * p + 1))) : FRs B i σ (am_fx am_P (d + 150) 300 0 [some (.ref 64), some (.int (Int32.ofNat p)), none, none] [] (am_wI B i)) (.inl (some (.int (-1)))) := by
  refine FRs_0 h ?_
  have hF : Fc B := h.1.1
  have hY : Yd B 94 := h.1.2.1
  have h120 := hc.2
  have t1 : (Int32.ofNat p < 0) = False := z_neg (by omega)
  have t2 := eq_true (ck_nat hc (by omega) hp).2
  obtain ⟨b0, b1, b2, b3, b4, b5, b6, b7, b8, b9, b10, b11, b12, b13, b14, b15, b16, b17, b18⟩ := h.2.1.2.2.1.2 p hp (by omega)
  rw [← b1] at g
  rw [bk_300_0]
  simp (maxSteps := 1000000) (disch := omega) only [c_pcN hF hY h.2.1.2.2.1.1 hc hp, c_within0 g, hF, hY, y_ckd, y_ck2d, y_ond, y_onn, y_oI, y_oIx, y_oJ, y_oV, y_oVx, y_oR, y_oRn, y_oRx, y_b0, y_b1, y_bi, y_bid, y_wIK, y_wIL, y_wII, y_wIJ, y_wIR, y_wIN, y_wIw, y_sI, ↓reduceIte, Nat.reduceEqDiff, eq_self, true_or, or_true, false_or, or_false, and_true, true_and, false_and, and_false, not_true, not_false_eq_true, tf_T, tf_F, y_up1, y_up2, y_xx, y_nx, y_sJ, y_sR, Int32.reduceLT, y_nxK, y_nxL, y_nxR, y_sJK, y_sJL, y_sJR, y_sJN, y_sRK, y_sRL, y_sRN, Nat.add_zero, z_nat, z_lit, z_lit0, z_lit1, z_in0, z_in1, z_addl0, z_lt, z_ltl, z_llt, z_inj, z_injl, z_add, z_addl, z_ladd, z_mul, z_mull, z_lmul, z_neg, z_negl, z_in, z_inl, z_ltT, z_ltF, z_eqF, z_10, z_01, z_litne, z_ne0, z_0ne, z_ne1, z_1ne, z_lt64, z_02, z_03, z_04, z_05, z_12, z_13, z_14, z_15, z_20, z_21, z_23, z_24, z_25, z_30, z_31, z_32, z_34, z_35, z_40, z_41, z_42, z_43, z_45, z_50, z_51, z_52, z_53, z_54]
theorem m_look0 {p : Nat} (h : MR B i σ) (hc : isc σ.1 460 120) (hp : p < cn σ.1 460) (g : ¬ (¬ σ.1 (461 + 18 * p + 1) < 1 ∧ ¬ 3 < σ.1 (461 + 18 * p + 1))) : MRs B i σ (am_fx am_P (d + 150) 35 0 [some (.ref 874), some (.int (Int32.ofNat p)), none, none, none] [] (am_wI B i)) (some (.int (-1))) 0 := by
  refine MRs_0 h ?_
  have hM : Md B := h.1.1
  have h120 := hc.2
  have t1 : (Int32.ofNat p < 0) = False := z_neg (by omega)
  have t2 := eq_true (ck_nat hc (by omega) hp).2
  have e5 := h.2.1 460 (by omega)
  have e1 := h.2.1 (461 + 18 * p + 1) (by omega)
  rw [bk_35_0]
  simp (maxSteps := 1000000) (disch := omega) only [(fun d x0 x1 B i => bk_26_0 d x0 x1 (am_wI B i)), m_in, z_pred hc.1, Classical.not_not, (fun d x0 x1 x2 B i => bk_24_0 d x0 x1 x2 (am_wI B i)), (fun d x0 x1 B i => bk_23_0 d x0 x1 (am_wI B i)), (fun d x0 x1 x2 x3 B i => bk_25_0 d x0 x1 x2 x3 (am_wI B i)), t1, t2, m_thr0, e5, e1, g, hM, y_ckd, y_ck2d, y_ond, y_onn, y_oI, y_oIx, y_oJ, y_oV, y_oVx, y_oR, y_oRn, y_oRx, y_b0, y_b1, y_bi, y_bid, y_wIK, y_wIL, y_wII, y_wIJ, y_wIR, y_wIN, y_wIw, y_sI, ↓reduceIte, Nat.reduceEqDiff, eq_self, true_or, or_true, false_or, or_false, and_true, true_and, false_and, and_false, not_true, not_false_eq_true, tf_T, tf_F, y_up1, y_up2, y_xx, y_nx, y_sJ, y_sR, Int32.reduceLT, y_nxK, y_nxL, y_nxR, y_sJK, y_sJL, y_sJR, y_sJN, y_sRK, y_sRL, y_sRN, Nat.add_zero, z_nat, z_lit, z_lit0, z_lit1, z_in0, z_in1, z_addl0, z_lt, z_ltl, z_llt, z_inj, z_injl, z_add, z_addl, z_ladd, z_mul, z_mull, z_lmul, z_neg, z_negl, z_in, z_inl, z_ltT, z_ltF, z_eqF, z_10, z_01, z_litne, z_ne0, z_0ne, z_ne1, z_1ne, z_lt64, z_02, z_03, z_04, z_05, z_12, z_13, z_14, z_15, z_20, z_21, z_23, z_24, z_25, z_30, z_31, z_32, z_34, z_35, z_40, z_41, z_42, z_43, z_45, z_50, z_51, z_52, z_53, z_54]
theorem f_look {p : Nat} (h : CR B i σ) (hW : Wd σ.1) (hc : isc σ.1 460 120) (hp : p < cn σ.1 460) (g : ¬ σ.1 (461 + 18 * p + 1) < 1 ∧ ¬ 3 < σ.1 (461 + 18 * p + 1)) : FRs B i ((wu (wu σ.1 (461 + 18 * p + 16) 1) (461 + 18 * p + 8) (mn (liO σ.1 (txi σ.1 (σ.1 0) (cn σ.1 3541))) (mx 0 (σ.1 (461 + 18 * p + 7) - σ.1 (461 + 18 * p + 15))))), σ.2) (am_fx am_P (d + 150) 300 0 [some (.ref 64), some (.int (Int32.ofNat p)), none, none] [] (am_wI B i)) (.inl (some (.int (mn (liO σ.1 (txi σ.1 (σ.1 0) (cn σ.1 3541))) (mx 0 (σ.1 (461 + 18 * p + 7) - σ.1 (461 + 18 * p + 15))))))) := by
  have hF : Fc B := h.1.1
  have hY : Yd B 94 := h.1.2.1
  have h120 := hc.2
  have t1 : (Int32.ofNat p < 0) = False := z_neg (by omega)
  have t2 := eq_true (ck_nat hc (by omega) hp).2
  have hx := hW.1.2.2.2.2.2.2.2.2.2
  have hRp := h.2.1.2.2.1.2 p hp (by omega)
  obtain ⟨b0, b1, b2, b3, b4, b5, b6, b7, b8, b9, b10, b11, b12, b13, b14, b15, b16, b17, b18⟩ := hRp
  have k0 := h.2.1.1.1
  have g' : ¬ i (94 + 92 + p) 9 < 1 ∧ ¬ 3 < i (94 + 92 + p) 9 := by rw [b1]; exact g
  have e := c_inForce (d := d + 149) (x := σ.1 0) hY h.2.1.2.2.2.2.2.2.2.2 hx hW.2.2.2.2.2.2.2.2.1
  refine FRs_w (i' := am_up2 (am_up2 i (94 + 92 + p) 13 1) (94 + 92 + p) 14 (mn (liO σ.1 (txi σ.1 (σ.1 0) (cn σ.1 3541))) (mx 0 (σ.1 (461 + 18 * p + 7) - σ.1 (461 + 18 * p + 15))))) h ?_ ?_ (by intros; simp (disch := omega) only [y_up2])
  · cases et : txi σ.1 (σ.1 0) (cn σ.1 3541) with
    | none =>
      rw [et] at e
      simp only [txq] at e
      rw [bk_300_0]
      simp (maxSteps := 1000000) (disch := omega) only [c_pcN hF hY h.2.1.2.2.1.1 hc hp, c_within1 g', k0, e, liO, (fun d x2 s0 s1 B i => bk_300_52 d x2 s0 s1 (am_wI B i)), (fun d x0 x1 B i => bk_160_0 d x0 x1 (am_wI B i)), c_max, c_min, b7, b15, hF, hY, y_ckd, y_ck2d, y_ond, y_onn, y_oI, y_oIx, y_oJ, y_oV, y_oVx, y_oR, y_oRn, y_oRx, y_b0, y_b1, y_bi, y_bid, y_wIK, y_wIL, y_wII, y_wIJ, y_wIR, y_wIN, y_wIw, y_sI, ↓reduceIte, Nat.reduceEqDiff, eq_self, true_or, or_true, false_or, or_false, and_true, true_and, false_and, and_false, not_true, not_false_eq_true, tf_T, tf_F, y_up1, y_up2, y_xx, y_nx, y_sJ, y_sR, Int32.reduceLT, y_nxK, y_nxL, y_nxR, y_sJK, y_sJL, y_sJR, y_sJN, y_sRK, y_sRL, y_sRN, Nat.add_zero, z_nat, z_lit, z_lit0, z_lit1, z_in0, z_in1, z_addl0, z_lt, z_ltl, z_llt, z_inj, z_injl, z_add, z_addl, z_ladd, z_mul, z_mull, z_lmul, z_neg, z_negl, z_in, z_inl, z_ltT, z_ltF, z_eqF, z_10, z_01, z_litne, z_ne0, z_0ne, z_ne1, z_1ne, z_lt64, z_02, z_03, z_04, z_05, z_12, z_13, z_14, z_15, z_20, z_21, z_23, z_24, z_25, z_30, z_31, z_32, z_34, z_35, z_40, z_41, z_42, z_43, z_45, z_50, z_51, z_52, z_53, z_54]
    | some k =>
      have hk := txi_lt _ et
      obtain ⟨-, q, eq, -, -, hT⟩ := h.2.1.2.2.2.2.2.2.2.2.2 k hk (by have := hx.2; omega)
      rw [et] at e
      simp only [txq, eq] at e
      have eL := c_limit (d := d + 149) hT (hW.2.2.2.2.2.2.2.2.1 k hk (by have := hx.2; omega)).2.1
      have kq := hT.2.2.1.1
      rw [bk_300_0]
      simp (maxSteps := 1000000) (disch := omega) only [c_pcN hF hY h.2.1.2.2.1.1 hc hp, c_within1 g', k0, e, kq, eL, liO, (fun d x2 s0 s1 B i => bk_300_52 d x2 s0 s1 (am_wI B i)), (fun d x0 x1 B i => bk_160_0 d x0 x1 (am_wI B i)), c_max, c_min, b7, b15, hF, hY, y_ckd, y_ck2d, y_ond, y_onn, y_oI, y_oIx, y_oJ, y_oV, y_oVx, y_oR, y_oRn, y_oRx, y_b0, y_b1, y_bi, y_bid, y_wIK, y_wIL, y_wII, y_wIJ, y_wIR, y_wIN, y_wIw, y_sI, ↓reduceIte, Nat.reduceEqDiff, eq_self, true_or, or_true, false_or, or_false, and_true, true_and, false_and, and_false, not_true, not_false_eq_true, tf_T, tf_F, y_up1, y_up2, y_xx, y_nx, y_sJ, y_sR, Int32.reduceLT, y_nxK, y_nxL, y_nxR, y_sJK, y_sJL, y_sJR, y_sJN, y_sRK, y_sRL, y_sRN, Nat.add_zero, z_nat, z_lit, z_lit0, z_lit1, z_in0, z_in1, z_addl0, z_lt, z_ltl, z_llt, z_inj, z_injl, z_add, z_addl, z_ladd, z_mul, z_mull, z_lmul, z_neg, z_negl, z_in, z_inl, z_ltT, z_ltF, z_eqF, z_10, z_01, z_litne, z_ne0, z_0ne, z_ne1, z_1ne, z_lt64, z_02, z_03, z_04, z_05, z_12, z_13, z_14, z_15, z_20, z_21, z_23, z_24, z_25, z_30, z_31, z_32, z_34, z_35, z_40, z_41, z_42, z_43, z_45, z_50, z_51, z_52, z_53, z_54]
  · refine Rep_pc (p := p) h.2.1 (by omega) (by omega) (by intros; simp (disch := omega) only [y_up2]) (by intros; simp (disch := omega) only [wu_ne]) ?_
    refine ⟨?_, ?_, ?_, ?_, ?_, ?_, ?_, ?_, ?_, ?_, ?_, ?_, ?_, ?_, ?_, ?_, ?_, fun e => ?_, ?_⟩
    all_goals try (simp (disch := omega) only [y_up1, y_up2, wu_at, wu_ne]; try assumption)
    · simp (disch := omega) only [wu_at, wu_ne] at e
      exact b17 e
    · rw [hrt_fr (w := σ.1) (fun t ht => by simp (disch := omega) only [wu_ne])]
      assumption
theorem m_look {p : Nat} (h : MR B i σ) (hW : Wd σ.1) (hc : isc σ.1 460 120) (hp : p < cn σ.1 460) (g : ¬ σ.1 (461 + 18 * p + 1) < 1 ∧ ¬ 3 < σ.1 (461 + 18 * p + 1)) : MRs B i ((wu (wu σ.1 (461 + 18 * p + 16) 1) (461 + 18 * p + 8) (mn (liO σ.1 (txi σ.1 (σ.1 0) (cn σ.1 3541))) (mx 0 (σ.1 (461 + 18 * p + 7) - σ.1 (461 + 18 * p + 15))))), σ.2) (am_fx am_P (d + 150) 35 0 [some (.ref 874), some (.int (Int32.ofNat p)), none, none, none] [] (am_wI B i)) (some (.int (mn (liO σ.1 (txi σ.1 (σ.1 0) (cn σ.1 3541))) (mx 0 (σ.1 (461 + 18 * p + 7) - σ.1 (461 + 18 * p + 15)))))) 0 := by
  have hM : Md B := h.1.1
  have h120 := hc.2
  have t1 : (Int32.ofNat p < 0) = False := z_neg (by omega)
  have t2 := eq_true (ck_nat hc (by omega) hp).2
  have hx := hW.1.2.2.2.2.2.2.2.2.2
  have e5 := h.2.1 460 (by omega)
  have e1 := h.2.1 (461 + 18 * p + 1) (by omega)
  have e0 := h.2.1 0 (by omega)
  have hw := up_o (q := 874) (k := 0) (v := 0) (by omega) h.2.1
  have e7 := hw (461 + 18 * p + 7) (by omega)
  have e15 := hw (461 + 18 * p + 15) (by omega)
  have et := m_textOf (x := σ.1 0) (d := d + 147) hM hw hx
  have key : am_fx am_P (d + 150) 35 51 [some (.ref 874), some (.int (Int32.ofNat p)), some (.int 100), some (.int (txn (txi σ.1 (σ.1 0) (cn σ.1 3541)))), some (.int (Int32.ofNat 0))] [] (am_wI B (am_up2 i 874 0 0)) = some (.inl (some (.int (mn (liO σ.1 (txi σ.1 (σ.1 0) (cn σ.1 3541))) (mx 0 (σ.1 (461 + 18 * p + 7) - σ.1 (461 + 18 * p + 15)))))), am_wI B (am_up2 (am_up2 (am_up2 i 874 0 0) 875 (461 + 18 * p + 16) 1) 875 (461 + 18 * p + 8) (mn (liO σ.1 (txi σ.1 (σ.1 0) (cn σ.1 3541))) (mx 0 (σ.1 (461 + 18 * p + 7) - σ.1 (461 + 18 * p + 15)))))) := by
    cases ek : txi σ.1 (σ.1 0) (cn σ.1 3541) with
    | none =>
      have := m_lookE (B := B) (i := am_up2 i 874 0 0) (d := d + 147) (p := p) (u := 100) (t := -1) (n := 0) hM (by omega) (by rw [bk_58_0]; rfl)
      rw [e7, e15] at this
      exact this
    | some k =>
      have hk := txi_lt _ ek
      have h10 := hx.2
      have h12 := (hW.2.2.2.2.2.2.2.2.1 k hk (by omega)).2.1
      have n12 := h12.2
      have e58 := (h.2.1 (3542 + 850 * k + 1) (by omega)).trans h12.1
      have nk : ¬ Int32.ofNat k < 0 := by rw [z_neg (by omega)]; exact id
      have := m_lookE (B := B) (i := am_up2 i 874 0 0) (d := d + 147) (p := p) (u := lim σ.1 (3542 + 850 * k)) (t := Int32.ofNat k) (n := Int32.ofNat (cn σ.1 (3542 + 850 * k + 1))) hM (by omega) (by
        rw [bk_58_0]
        simp (maxSteps := 1000000) (disch := omega) only [(fun d x0 B i => bk_47_0 d x0 (am_wI B i)), nk, e58, hM, y_ckd, y_ck2d, y_ond, y_onn, y_oI, y_oIx, y_oJ, y_oV, y_oVx, y_oR, y_oRn, y_oRx, y_b0, y_b1, y_bi, y_bid, y_wIK, y_wIL, y_wII, y_wIJ, y_wIR, y_wIN, y_wIw, y_sI, ↓reduceIte, Nat.reduceEqDiff, eq_self, true_or, or_true, false_or, or_false, and_true, true_and, false_and, and_false, not_true, not_false_eq_true, tf_T, tf_F, y_up1, y_up2, y_xx, y_nx, y_sJ, y_sR, Int32.reduceLT, y_nxK, y_nxL, y_nxR, y_sJK, y_sJL, y_sJR, y_sJN, y_sRK, y_sRL, y_sRN, Nat.add_zero, z_nat, z_lit, z_lit0, z_lit1, z_in0, z_in1, z_addl0, z_lt, z_ltl, z_llt, z_inj, z_injl, z_add, z_addl, z_ladd, z_mul, z_mull, z_lmul, z_neg, z_negl, z_in, z_inl, z_ltT, z_ltF, z_eqF, z_10, z_01, z_litne, z_ne0, z_0ne, z_ne1, z_1ne, z_lt64, z_02, z_03, z_04, z_05, z_12, z_13, z_14, z_15, z_20, z_21, z_23, z_24, z_25, z_30, z_31, z_32, z_34, z_35, z_40, z_41, z_42, z_43, z_45, z_50, z_51, z_52, z_53, z_54])
      rw [e7, e15] at this
      exact (m_limit (d := d + 147) hM hw (by omega) h12).trans this
  refine MRs_w h (i' := am_up2 (am_up2 (am_up2 i 874 0 0) 875 (461 + 18 * p + 16) 1) 875 (461 + 18 * p + 8) (mn (liO σ.1 (txi σ.1 (σ.1 0) (cn σ.1 3541))) (mx 0 (σ.1 (461 + 18 * p + 7) - σ.1 (461 + 18 * p + 15))))) ?_ (by rw [y_up2 (by omega), y_up2 (by omega)]; exact y_up1 rfl rfl) (up_wu (up_wu hw)) (fun q k h1 h2 => by rw [y_up2 (by omega), y_up2 (by omega), y_up2 (by omega)])
  rw [bk_35_0]
  simp (maxSteps := 1000000) (disch := omega) only [(fun d x0 x1 B i => bk_26_0 d x0 x1 (am_wI B i)), m_in, z_pred hc.1, Classical.not_not, (fun d x0 x1 x2 B i => bk_24_0 d x0 x1 x2 (am_wI B i)), (fun d x0 x1 B i => bk_23_0 d x0 x1 (am_wI B i)), (fun d x0 x1 x2 x3 B i => bk_25_0 d x0 x1 x2 x3 (am_wI B i)), (fun d x0 B i => bk_13_0 d x0 (am_wI B i)), t1, t2, m_thr0, e5, e1, e0, et, g, hM, y_ckd, y_ck2d, y_ond, y_onn, y_oI, y_oIx, y_oJ, y_oV, y_oVx, y_oR, y_oRn, y_oRx, y_b0, y_b1, y_bi, y_bid, y_wIK, y_wIL, y_wII, y_wIJ, y_wIR, y_wIN, y_wIw, y_sI, ↓reduceIte, Nat.reduceEqDiff, eq_self, true_or, or_true, false_or, or_false, and_true, true_and, false_and, and_false, not_true, not_false_eq_true, tf_T, tf_F, y_up1, y_up2, y_xx, y_nx, y_sJ, y_sR, Int32.reduceLT, y_nxK, y_nxL, y_nxR, y_sJK, y_sJL, y_sJR, y_sJN, y_sRK, y_sRL, y_sRN, Nat.add_zero, z_nat, z_lit, z_lit0, z_lit1, z_in0, z_in1, z_addl0, z_lt, z_ltl, z_llt, z_inj, z_injl, z_add, z_addl, z_ladd, z_mul, z_mull, z_lmul, z_neg, z_negl, z_in, z_inl, z_ltT, z_ltF, z_eqF, z_10, z_01, z_litne, z_ne0, z_0ne, z_ne1, z_1ne, z_lt64, z_02, z_03, z_04, z_05, z_12, z_13, z_14, z_15, z_20, z_21, z_23, z_24, z_25, z_30, z_31, z_32, z_34, z_35, z_40, z_41, z_42, z_43, z_45, z_50, z_51, z_52, z_53, z_54]
  exact key
theorem Wd_look {p : Nat} {v : Int32} (h : Wd w) (hp : p < cn w 460) (h120 : p < 120) : Wd (wu (wu w (461 + 18 * p + 16) 1) (461 + 18 * p + 8) v) := by
  obtain ⟨a1, a2, a3, a4, a5, a6, a7, a8, a9, a10, a11, a12, a13⟩ := h.2.2.2.1.1 p hp h120
  refine Wd_pc h hp h120 (fun z hz => by simp (disch := omega) only [wu_ne]) ⟨?_, ?_, ?_, ?_, ?_, ?_, ?_, ?_, ?_, ?_, ?_, ?_, ?_⟩ (by unfold lnt cn; simp (disch := omega) only [wu_ne]; exact Nat.le_refl _) (fun s n hs s8 hn n8 g e => ?_)
  · unfold cn
    simp (disch := omega) only [wu_ne]
    exact a1
  all_goals try (simp (disch := omega) only [wu_ne]; assumption)
  · simp (disch := omega) only [wu_at, wu_ne]
    exact Or.inr trivial
  · have q := h.2.2.2.2.2.2.2.2.2.2 s hs s8 n hn n8 g (by omega)
    rw [e] at q
    simp (disch := omega) only [wu_ne]
    exact q
theorem k_look (h : Sim B i σ) (hs : Sc B i L j) (hO : am_K B 892 = 22 ∧ am_L B 892 = 1) : Stq B i d 875 j := by
  have hc := h.2.2.1.1.2.2.1
  have h120 := hc.2
  by_cases g : ¬ i 0 (j + 1) < 0 ∧ i 0 (j + 1) < σ.1 460
  rotate_left
  · exact kx_9_1 h hs hO (f_look_x0 (d := d + 48) h.1 g) fun B0 i0 h0 => m_look_x0 (d := d + 49) h0 hc g
  obtain ⟨p, e, hp⟩ := nat_ck hc (by omega) g
  by_cases g1 : ¬ σ.1 (461 + 18 * p + 1) < 1 ∧ ¬ 3 < σ.1 (461 + 18 * p + 1)
  · exact kk_9 (σ' := ((wu (wu σ.1 (461 + 18 * p + 16) 1) (461 + 18 * p + 8) (mn (liO σ.1 (txi σ.1 (σ.1 0) (cn σ.1 3541))) (mx 0 (σ.1 (461 + 18 * p + 7) - σ.1 (461 + 18 * p + 15))))), σ.2)) h hs hO ⟨Wd_look h.2.2.1 hp (by omega), h.2.2.2⟩ (by rw [e]; exact f_look (d := d + 48) h.1 h.2.2.1 hc hp g1) fun B0 i0 h0 => by rw [e]; exact m_look (d := d + 49) h0 h.2.2.1 hc hp g1
  · exact kk_9 h hs hO h.2.2 (by rw [e]; exact f_look0 (d := d + 48) h.1 hc hp g1) fun B0 i0 h0 => by rw [e]; exact m_look0 (d := d + 49) h0 hc hp g1
end Look
