/-! BEST: made by wip/whole/math/83.py. -/
section Best
variable {B B1 : am_A} {i i1 : Nat → Nat → Int32} {σ σ' : Sg} {w : Nat → Int32} {L j d b : Nat} {x y z D : Int32}
theorem z_gpos {a c : Nat} (h1 : a < 2147483648) (h2 : c < 2147483648) : (0 < Int32.ofNat a - Int32.ofNat c) = (c < a) := by
  rw [Int32.lt_iff_toInt_lt, z_tsub h1 h2, show (0 : Int32).toInt = 0 by decide]
  exact propext ⟨fun h => by omega, fun h => by omega⟩
theorem z_geq {a c : Nat} (h1 : a < 2147483648) (h2 : c < 2147483648) : (Int32.ofNat a - Int32.ofNat c = 0) = (a = c) := by
  refine propext ⟨fun h => ?_, fun h => ?_⟩
  · have := congrArg Int32.toInt h
    rw [z_tsub h1 h2, show (0 : Int32).toInt = 0 by decide] at this
    omega
  · apply Int32.toInt_inj.mp
    rw [z_tsub h1 h2, show (0 : Int32).toInt = 0 by decide]
    omega
theorem z_pow {n : Nat} (h : n ≤ 8) : (1 : Int32) <<< (Int32.ofNat n &&& 31) = Int32.ofNat (2 ^ n) := by
  have h : n = 0 ∨ n = 1 ∨ n = 2 ∨ n = 3 ∨ n = 4 ∨ n = 5 ∨ n = 6 ∨ n = 7 ∨ n = 8 := by omega
  rcases h with rfl | rfl | rfl | rfl | rfl | rfl | rfl | rfl | rfl <;> decide
/-- what a set makes ready by a day -/
abbrev frd (w : Nat → Int32) (x D : Int32) (k a : Nat) : Nat := if btk x k then (if D < w (3479 + 4 * k + 1) + w (3479 + 4 * k + 3) then a else a + cn w (3479 + 4 * k + 2)) else a
def rdy (w : Nat → Int32) (x D : Int32) (n : Nat) : Nat := itr (frd w x D) n 0
theorem rdy_s {n : Nat} : rdy w x D (n + 1) = frd w x D n (rdy w x D n) := rfl
abbrev Rdv (w : Nat → Int32) : Prop := ∀ k, k < cn w 3478 → k < 8 → w (3479 + 4 * k + 2) = Int32.ofNat (cn w (3479 + 4 * k + 2)) ∧ cn w (3479 + 4 * k + 2) < 10
theorem rdv_of (h : Wd w) : Rdv w := fun k hk k8 => by
  obtain ⟨-, -, ⟨a1, a2⟩, -⟩ := h.2.2.2.2.2.2.2.2.2.1.2.2.1 k hk k8
  obtain ⟨m, e, hm⟩ := z_lk 10 (by omega) a1 a2
  rw [cn_of e (by omega)]
  exact ⟨e, hm⟩
theorem rdy_le (h : Rdv w) : ∀ n, n ≤ cn w 3478 → n ≤ 8 → rdy w x D n ≤ 10 * n
  | 0, _, _ => Nat.le_refl _
  | n + 1, hn, n8 => by
    have ih := rdy_le h n (by omega) (by omega)
    have := (h n (by omega) (by omega)).2
    rw [rdy_s]
    by_cases g : btk x n
    · rw [show frd w x D n (rdy w x D n) = _ from if_pos g]
      split <;> omega
    · rw [show frd w x D n (rdy w x D n) = _ from if_neg g]
      omega
theorem c_rdy (hY : Yd B b) (hR : RC i b w) (hc : isc w 3478 8) (hV : Rdv w) : am_fx am_P d 172 0 [some (.ref (b + 22)), some (.int x), some (.int D), none, none] [] (am_wI B i) = some (.inl (some (.int (Int32.ofNat (rdy w x D (cn w 3478))))), am_wI B i) := by
  have h2 := hc.2
  have e5 : i (b + 22) 4 = Int32.ofNat (cn w 3478) := hR.1.trans hc.1
  rw [bk_172_0]
  refine (lp_itr (fun k (_ : Unit) => am_fx am_P d 172 5 [some (.ref (b + 22)), some (.int x), some (.int D), some (.int (Int32.ofNat (rdy w x D k))), some (.int (Int32.ofNat k))] [] (am_wI B i)) (fun _ u => u) (cn w 3478) (fun k u hk => ?_) ()).trans ?_
  · obtain ⟨e1, e2, e3, e4⟩ := hR.2.1 k hk (by omega)
    obtain ⟨v3, l3⟩ := hV k hk (by omega)
    rw [v3] at e3
    have hb := bt_u x k (by omega)
    rw [bk_172_5, rdy_s]
    by_cases g : btk x k
    · rw [show frd w x D k (rdy w x D k) = _ from if_pos g]
      by_cases g2 : D < w (3479 + 4 * k + 1) + w (3479 + 4 * k + 3)
      · rw [if_pos g2]
        simp (maxSteps := 1000000) (disch := omega) only [e5, e2, e4, hb.trans (eq_true g), g2, hY, y_ckd, y_ck2d, y_ond, y_onn, y_oI, y_oIx, y_oJ, y_oV, y_oVx, y_oR, y_oRn, y_oRx, y_b0, y_b1, y_bi, y_bid, y_wIK, y_wIL, y_wII, y_wIJ, y_wIR, y_wIN, y_wIw, y_sI, ↓reduceIte, Nat.reduceEqDiff, eq_self, true_or, or_true, false_or, or_false, and_true, true_and, false_and, and_false, not_true, not_false_eq_true, tf_T, tf_F, y_up1, y_up2, y_xx, y_nx, y_sJ, y_sR, Int32.reduceLT, y_nxK, y_nxL, y_nxR, y_sJK, y_sJL, y_sJR, y_sJN, y_sRK, y_sRL, y_sRN, Nat.add_zero, z_nat, z_lit, z_lit0, z_lit1, z_in0, z_in1, z_addl0, z_lt, z_ltl, z_llt, z_inj, z_injl, z_add, z_addl, z_ladd, z_mul, z_mull, z_lmul, z_neg, z_negl, z_in, z_inl, z_ltT, z_ltF, z_eqF, z_10, z_01, z_litne, z_ne0, z_0ne, z_ne1, z_1ne, z_lt64, z_02, z_03, z_04, z_05, z_12, z_13, z_14, z_15, z_20, z_21, z_23, z_24, z_25, z_30, z_31, z_32, z_34, z_35, z_40, z_41, z_42, z_43, z_45, z_50, z_51, z_52, z_53, z_54]
      · rw [if_neg g2]
        simp (maxSteps := 1000000) (disch := omega) only [e5, e2, e3, e4, hb.trans (eq_true g), g2, hY, y_ckd, y_ck2d, y_ond, y_onn, y_oI, y_oIx, y_oJ, y_oV, y_oVx, y_oR, y_oRn, y_oRx, y_b0, y_b1, y_bi, y_bid, y_wIK, y_wIL, y_wII, y_wIJ, y_wIR, y_wIN, y_wIw, y_sI, ↓reduceIte, Nat.reduceEqDiff, eq_self, true_or, or_true, false_or, or_false, and_true, true_and, false_and, and_false, not_true, not_false_eq_true, tf_T, tf_F, y_up1, y_up2, y_xx, y_nx, y_sJ, y_sR, Int32.reduceLT, y_nxK, y_nxL, y_nxR, y_sJK, y_sJL, y_sJR, y_sJN, y_sRK, y_sRL, y_sRN, Nat.add_zero, z_nat, z_lit, z_lit0, z_lit1, z_in0, z_in1, z_addl0, z_lt, z_ltl, z_llt, z_inj, z_injl, z_add, z_addl, z_ladd, z_mul, z_mull, z_lmul, z_neg, z_negl, z_in, z_inl, z_ltT, z_ltF, z_eqF, z_10, z_01, z_litne, z_ne0, z_0ne, z_ne1, z_1ne, z_lt64, z_02, z_03, z_04, z_05, z_12, z_13, z_14, z_15, z_20, z_21, z_23, z_24, z_25, z_30, z_31, z_32, z_34, z_35, z_40, z_41, z_42, z_43, z_45, z_50, z_51, z_52, z_53, z_54]
    · rw [show frd w x D k (rdy w x D k) = _ from if_neg g]
      simp (maxSteps := 1000000) (disch := omega) only [e5, hb.trans (eq_false g), hY, y_ckd, y_ck2d, y_ond, y_onn, y_oI, y_oIx, y_oJ, y_oV, y_oVx, y_oR, y_oRn, y_oRx, y_b0, y_b1, y_bi, y_bid, y_wIK, y_wIL, y_wII, y_wIJ, y_wIR, y_wIN, y_wIw, y_sI, ↓reduceIte, Nat.reduceEqDiff, eq_self, true_or, or_true, false_or, or_false, and_true, true_and, false_and, and_false, not_true, not_false_eq_true, tf_T, tf_F, y_up1, y_up2, y_xx, y_nx, y_sJ, y_sR, Int32.reduceLT, y_nxK, y_nxL, y_nxR, y_sJK, y_sJL, y_sJR, y_sJN, y_sRK, y_sRL, y_sRN, Nat.add_zero, z_nat, z_lit, z_lit0, z_lit1, z_in0, z_in1, z_addl0, z_lt, z_ltl, z_llt, z_inj, z_injl, z_add, z_addl, z_ladd, z_mul, z_mull, z_lmul, z_neg, z_negl, z_in, z_inl, z_ltT, z_ltF, z_eqF, z_10, z_01, z_litne, z_ne0, z_0ne, z_ne1, z_1ne, z_lt64, z_02, z_03, z_04, z_05, z_12, z_13, z_14, z_15, z_20, z_21, z_23, z_24, z_25, z_30, z_31, z_32, z_34, z_35, z_40, z_41, z_42, z_43, z_45, z_50, z_51, z_52, z_53, z_54]
  · rw [bk_172_5]
    simp (maxSteps := 1000000) (disch := omega) only [e5, hY, y_ckd, y_ck2d, y_ond, y_onn, y_oI, y_oIx, y_oJ, y_oV, y_oVx, y_oR, y_oRn, y_oRx, y_b0, y_b1, y_bi, y_bid, y_wIK, y_wIL, y_wII, y_wIJ, y_wIR, y_wIN, y_wIw, y_sI, ↓reduceIte, Nat.reduceEqDiff, eq_self, true_or, or_true, false_or, or_false, and_true, true_and, false_and, and_false, not_true, not_false_eq_true, tf_T, tf_F, y_up1, y_up2, y_xx, y_nx, y_sJ, y_sR, Int32.reduceLT, y_nxK, y_nxL, y_nxR, y_sJK, y_sJL, y_sJR, y_sJN, y_sRK, y_sRL, y_sRN, Nat.add_zero, z_nat, z_lit, z_lit0, z_lit1, z_in0, z_in1, z_addl0, z_lt, z_ltl, z_llt, z_inj, z_injl, z_add, z_addl, z_ladd, z_mul, z_mull, z_lmul, z_neg, z_negl, z_in, z_inl, z_ltT, z_ltF, z_eqF, z_10, z_01, z_litne, z_ne0, z_0ne, z_ne1, z_1ne, z_lt64, z_02, z_03, z_04, z_05, z_12, z_13, z_14, z_15, z_20, z_21, z_23, z_24, z_25, z_30, z_31, z_32, z_34, z_35, z_40, z_41, z_42, z_43, z_45, z_50, z_51, z_52, z_53, z_54]
theorem m_rdy (hM : Md B) (hw : ∀ s, s < 12042 → i 875 s = w s) (hc : isc w 3478 8) (hV : Rdv w) : am_fx am_P d 140 0 [some (.ref 874), some (.int x), some (.int D), none, none] [] (am_wI B i) = some (.inl (some (.int (Int32.ofNat (rdy w x D (cn w 3478))))), am_wI B i) := by
  have h2 := hc.2
  have e5 : i 875 3478 = Int32.ofNat (cn w 3478) := (hw _ (by omega)).trans hc.1
  rw [bk_140_0]
  refine (lp_itr (fun k (_ : Unit) => am_fx am_P d 140 5 [some (.ref 874), some (.int x), some (.int D), some (.int (Int32.ofNat (rdy w x D k))), some (.int (Int32.ofNat k))] [] (am_wI B i)) (fun _ u => u) (cn w 3478) (fun k u hk => ?_) ()).trans ?_
  · obtain ⟨v3, l3⟩ := hV k hk (by omega)
    have e2 := hw (3479 + 4 * k + 1) (by omega)
    have e3 := (hw (3479 + 4 * k + 2) (by omega)).trans v3
    have e4 := hw (3479 + 4 * k + 3) (by omega)
    rw [bk_140_5, rdy_s]
    by_cases g : btk x k
    · rw [show frd w x D k (rdy w x D k) = _ from if_pos g]
      by_cases g2 : D < w (3479 + 4 * k + 1) + w (3479 + 4 * k + 3)
      · rw [if_pos g2]
        simp (maxSteps := 1000000) (disch := omega) only [(fun d x0 x1 x2 x4 s0 s1 B i => bk_140_83 d x0 x1 x2 x4 s0 s1 (am_wI B i)), e5, e2, e4, eq_true g, g2, Int32.add_zero, hM, y_ckd, y_ck2d, y_ond, y_onn, y_oI, y_oIx, y_oJ, y_oV, y_oVx, y_oR, y_oRn, y_oRx, y_b0, y_b1, y_bi, y_bid, y_wIK, y_wIL, y_wII, y_wIJ, y_wIR, y_wIN, y_wIw, y_sI, ↓reduceIte, Nat.reduceEqDiff, eq_self, true_or, or_true, false_or, or_false, and_true, true_and, false_and, and_false, not_true, not_false_eq_true, tf_T, tf_F, y_up1, y_up2, y_xx, y_nx, y_sJ, y_sR, Int32.reduceLT, y_nxK, y_nxL, y_nxR, y_sJK, y_sJL, y_sJR, y_sJN, y_sRK, y_sRL, y_sRN, Nat.add_zero, z_nat, z_lit, z_lit0, z_lit1, z_in0, z_in1, z_addl0, z_lt, z_ltl, z_llt, z_inj, z_injl, z_add, z_addl, z_ladd, z_mul, z_mull, z_lmul, z_neg, z_negl, z_in, z_inl, z_ltT, z_ltF, z_eqF, z_10, z_01, z_litne, z_ne0, z_0ne, z_ne1, z_1ne, z_lt64, z_02, z_03, z_04, z_05, z_12, z_13, z_14, z_15, z_20, z_21, z_23, z_24, z_25, z_30, z_31, z_32, z_34, z_35, z_40, z_41, z_42, z_43, z_45, z_50, z_51, z_52, z_53, z_54]
      · rw [if_neg g2]
        simp (maxSteps := 1000000) (disch := omega) only [(fun d x0 x1 x2 x4 s0 s1 B i => bk_140_83 d x0 x1 x2 x4 s0 s1 (am_wI B i)), e5, e2, e3, e4, eq_true g, g2, hM, y_ckd, y_ck2d, y_ond, y_onn, y_oI, y_oIx, y_oJ, y_oV, y_oVx, y_oR, y_oRn, y_oRx, y_b0, y_b1, y_bi, y_bid, y_wIK, y_wIL, y_wII, y_wIJ, y_wIR, y_wIN, y_wIw, y_sI, ↓reduceIte, Nat.reduceEqDiff, eq_self, true_or, or_true, false_or, or_false, and_true, true_and, false_and, and_false, not_true, not_false_eq_true, tf_T, tf_F, y_up1, y_up2, y_xx, y_nx, y_sJ, y_sR, Int32.reduceLT, y_nxK, y_nxL, y_nxR, y_sJK, y_sJL, y_sJR, y_sJN, y_sRK, y_sRL, y_sRN, Nat.add_zero, z_nat, z_lit, z_lit0, z_lit1, z_in0, z_in1, z_addl0, z_lt, z_ltl, z_llt, z_inj, z_injl, z_add, z_addl, z_ladd, z_mul, z_mull, z_lmul, z_neg, z_negl, z_in, z_inl, z_ltT, z_ltF, z_eqF, z_10, z_01, z_litne, z_ne0, z_0ne, z_ne1, z_1ne, z_lt64, z_02, z_03, z_04, z_05, z_12, z_13, z_14, z_15, z_20, z_21, z_23, z_24, z_25, z_30, z_31, z_32, z_34, z_35, z_40, z_41, z_42, z_43, z_45, z_50, z_51, z_52, z_53, z_54]
    · rw [show frd w x D k (rdy w x D k) = _ from if_neg g]
      simp (maxSteps := 1000000) (disch := omega) only [(fun d x0 x1 x2 x4 s0 s1 B i => bk_140_83 d x0 x1 x2 x4 s0 s1 (am_wI B i)), e5, eq_false g, Int32.add_zero, hM, y_ckd, y_ck2d, y_ond, y_onn, y_oI, y_oIx, y_oJ, y_oV, y_oVx, y_oR, y_oRn, y_oRx, y_b0, y_b1, y_bi, y_bid, y_wIK, y_wIL, y_wII, y_wIJ, y_wIR, y_wIN, y_wIw, y_sI, ↓reduceIte, Nat.reduceEqDiff, eq_self, true_or, or_true, false_or, or_false, and_true, true_and, false_and, and_false, not_true, not_false_eq_true, tf_T, tf_F, y_up1, y_up2, y_xx, y_nx, y_sJ, y_sR, Int32.reduceLT, y_nxK, y_nxL, y_nxR, y_sJK, y_sJL, y_sJR, y_sJN, y_sRK, y_sRL, y_sRN, Nat.add_zero, z_nat, z_lit, z_lit0, z_lit1, z_in0, z_in1, z_addl0, z_lt, z_ltl, z_llt, z_inj, z_injl, z_add, z_addl, z_ladd, z_mul, z_mull, z_lmul, z_neg, z_negl, z_in, z_inl, z_ltT, z_ltF, z_eqF, z_10, z_01, z_litne, z_ne0, z_0ne, z_ne1, z_1ne, z_lt64, z_02, z_03, z_04, z_05, z_12, z_13, z_14, z_15, z_20, z_21, z_23, z_24, z_25, z_30, z_31, z_32, z_34, z_35, z_40, z_41, z_42, z_43, z_45, z_50, z_51, z_52, z_53, z_54]
  · rw [bk_140_5]
    simp (maxSteps := 1000000) (disch := omega) only [e5, hM, y_ckd, y_ck2d, y_ond, y_onn, y_oI, y_oIx, y_oJ, y_oV, y_oVx, y_oR, y_oRn, y_oRx, y_b0, y_b1, y_bi, y_bid, y_wIK, y_wIL, y_wII, y_wIJ, y_wIR, y_wIN, y_wIw, y_sI, ↓reduceIte, Nat.reduceEqDiff, eq_self, true_or, or_true, false_or, or_false, and_true, true_and, false_and, and_false, not_true, not_false_eq_true, tf_T, tf_F, y_up1, y_up2, y_xx, y_nx, y_sJ, y_sR, Int32.reduceLT, y_nxK, y_nxL, y_nxR, y_sJK, y_sJL, y_sJR, y_sJN, y_sRK, y_sRL, y_sRN, Nat.add_zero, z_nat, z_lit, z_lit0, z_lit1, z_in0, z_in1, z_addl0, z_lt, z_ltl, z_llt, z_inj, z_injl, z_add, z_addl, z_ladd, z_mul, z_mull, z_lmul, z_neg, z_negl, z_in, z_inl, z_ltT, z_ltF, z_eqF, z_10, z_01, z_litne, z_ne0, z_0ne, z_ne1, z_1ne, z_lt64, z_02, z_03, z_04, z_05, z_12, z_13, z_14, z_15, z_20, z_21, z_23, z_24, z_25, z_30, z_31, z_32, z_34, z_35, z_40, z_41, z_42, z_43, z_45, z_50, z_51, z_52, z_53, z_54]
theorem c_costOf (hY : Yd B b) (hR : RC i b w) (hc : isc w 3478 8) (hC : Chs w) : am_fx am_P d 171 0 [some (.ref (b + 22)), some (.int x), none, none] [] (am_wI B i) = some (.inl (some (.int (Int32.ofNat (cnO w x 9 (cn w 3478))))), am_wI B i) := by
  have h2 := hc.2
  have e5 : i (b + 22) 4 = Int32.ofNat (cn w 3478) := hR.1.trans hc.1
  rw [bk_171_0]
  refine (lp_itr (fun k (_ : Unit) => am_fx am_P d 171 4 [some (.ref (b + 22)), some (.int x), some (.int (Int32.ofNat (cnO w x 9 k))), some (.int (Int32.ofNat k))] [] (am_wI B i)) (fun _ u => u) (cn w 3478) (fun k u hk => ?_) ()).trans ?_
  · obtain ⟨e1, e2, e3, e4⟩ := hR.2.1 k hk (by omega)
    obtain ⟨⟨v1, l1⟩, v2, l2⟩ := hC k hk (by omega)
    rw [v1] at e1
    have hb := bt_u x k (by omega)
    rw [bk_171_4, cnO_s]
    by_cases g : btk x k
    · rw [show fno w x 9 k (cnO w x 9 k) = _ from if_pos g, if_neg (show ¬ 9 < cn w (3479 + 4 * k + 1) by omega)]
      simp (maxSteps := 1000000) (disch := omega) only [e5, e1, hb.trans (eq_true g), hY, y_ckd, y_ck2d, y_ond, y_onn, y_oI, y_oIx, y_oJ, y_oV, y_oVx, y_oR, y_oRn, y_oRx, y_b0, y_b1, y_bi, y_bid, y_wIK, y_wIL, y_wII, y_wIJ, y_wIR, y_wIN, y_wIw, y_sI, ↓reduceIte, Nat.reduceEqDiff, eq_self, true_or, or_true, false_or, or_false, and_true, true_and, false_and, and_false, not_true, not_false_eq_true, tf_T, tf_F, y_up1, y_up2, y_xx, y_nx, y_sJ, y_sR, Int32.reduceLT, y_nxK, y_nxL, y_nxR, y_sJK, y_sJL, y_sJR, y_sJN, y_sRK, y_sRL, y_sRN, Nat.add_zero, z_nat, z_lit, z_lit0, z_lit1, z_in0, z_in1, z_addl0, z_lt, z_ltl, z_llt, z_inj, z_injl, z_add, z_addl, z_ladd, z_mul, z_mull, z_lmul, z_neg, z_negl, z_in, z_inl, z_ltT, z_ltF, z_eqF, z_10, z_01, z_litne, z_ne0, z_0ne, z_ne1, z_1ne, z_lt64, z_02, z_03, z_04, z_05, z_12, z_13, z_14, z_15, z_20, z_21, z_23, z_24, z_25, z_30, z_31, z_32, z_34, z_35, z_40, z_41, z_42, z_43, z_45, z_50, z_51, z_52, z_53, z_54]
    · rw [show fno w x 9 k (cnO w x 9 k) = _ from if_neg g]
      simp (maxSteps := 1000000) (disch := omega) only [e5, hb.trans (eq_false g), hY, y_ckd, y_ck2d, y_ond, y_onn, y_oI, y_oIx, y_oJ, y_oV, y_oVx, y_oR, y_oRn, y_oRx, y_b0, y_b1, y_bi, y_bid, y_wIK, y_wIL, y_wII, y_wIJ, y_wIR, y_wIN, y_wIw, y_sI, ↓reduceIte, Nat.reduceEqDiff, eq_self, true_or, or_true, false_or, or_false, and_true, true_and, false_and, and_false, not_true, not_false_eq_true, tf_T, tf_F, y_up1, y_up2, y_xx, y_nx, y_sJ, y_sR, Int32.reduceLT, y_nxK, y_nxL, y_nxR, y_sJK, y_sJL, y_sJR, y_sJN, y_sRK, y_sRL, y_sRN, Nat.add_zero, z_nat, z_lit, z_lit0, z_lit1, z_in0, z_in1, z_addl0, z_lt, z_ltl, z_llt, z_inj, z_injl, z_add, z_addl, z_ladd, z_mul, z_mull, z_lmul, z_neg, z_negl, z_in, z_inl, z_ltT, z_ltF, z_eqF, z_10, z_01, z_litne, z_ne0, z_0ne, z_ne1, z_1ne, z_lt64, z_02, z_03, z_04, z_05, z_12, z_13, z_14, z_15, z_20, z_21, z_23, z_24, z_25, z_30, z_31, z_32, z_34, z_35, z_40, z_41, z_42, z_43, z_45, z_50, z_51, z_52, z_53, z_54]
  · rw [bk_171_4]
    simp (maxSteps := 1000000) (disch := omega) only [e5, hY, y_ckd, y_ck2d, y_ond, y_onn, y_oI, y_oIx, y_oJ, y_oV, y_oVx, y_oR, y_oRn, y_oRx, y_b0, y_b1, y_bi, y_bid, y_wIK, y_wIL, y_wII, y_wIJ, y_wIR, y_wIN, y_wIw, y_sI, ↓reduceIte, Nat.reduceEqDiff, eq_self, true_or, or_true, false_or, or_false, and_true, true_and, false_and, and_false, not_true, not_false_eq_true, tf_T, tf_F, y_up1, y_up2, y_xx, y_nx, y_sJ, y_sR, Int32.reduceLT, y_nxK, y_nxL, y_nxR, y_sJK, y_sJL, y_sJR, y_sJN, y_sRK, y_sRL, y_sRN, Nat.add_zero, z_nat, z_lit, z_lit0, z_lit1, z_in0, z_in1, z_addl0, z_lt, z_ltl, z_llt, z_inj, z_injl, z_add, z_addl, z_ladd, z_mul, z_mull, z_lmul, z_neg, z_negl, z_in, z_inl, z_ltT, z_ltF, z_eqF, z_10, z_01, z_litne, z_ne0, z_0ne, z_ne1, z_1ne, z_lt64, z_02, z_03, z_04, z_05, z_12, z_13, z_14, z_15, z_20, z_21, z_23, z_24, z_25, z_30, z_31, z_32, z_34, z_35, z_40, z_41, z_42, z_43, z_45, z_50, z_51, z_52, z_53, z_54]
/-- set k is better than set o -/
abbrev bwin (w : Nat → Int32) (D : Int32) (k o : Nat) : Prop := rdy w (Int32.ofNat o) D (cn w 3478) < rdy w (Int32.ofNat k) D (cn w 3478) ∨ (rdy w (Int32.ofNat k) D (cn w 3478) = rdy w (Int32.ofNat o) D (cn w 3478) ∧ cnO w (Int32.ofNat k) 9 (cn w 3478) < cnO w (Int32.ofNat o) 9 (cn w 3478))
abbrev fbs (w : Nat → Int32) (D : Int32) (k o : Nat) : Nat := if bwin w D (k + 1) o ∧ pdv w (Int32.ofNat (k + 1)) = 1 then k + 1 else o
def bst (w : Nat → Int32) (D : Int32) (n : Nat) : Nat := itr (fbs w D) n 0
theorem bst_s {n : Nat} : bst w D (n + 1) = fbs w D n (bst w D n) := rfl
theorem p2_le {n : Nat} (h : n ≤ 8) : 1 ≤ 2 ^ n ∧ 2 ^ n ≤ 256 := by
  have h : n = 0 ∨ n = 1 ∨ n = 2 ∨ n = 3 ∨ n = 4 ∨ n = 5 ∨ n = 6 ∨ n = 7 ∨ n = 8 := by omega
  rcases h with rfl | rfl | rfl | rfl | rfl | rfl | rfl | rfl | rfl <;> decide
theorem c_best (hY : Yd B b) (hR : RC i b w) (hW : Wd w) : am_fx am_P (d + 2) 173 0 [some (.ref (b + 22)), some (.int D), none, none, none, none] [] (am_wI B i) = some (.inl (some (.int (Int32.ofNat (bst w D (2 ^ cn w 3478 - 1))))), am_wI B i) := by
  have hc := hW.1.2.2.2.2.2.2.2.2.1
  have h2 := hc.2
  have hC := chs_of hW
  have hV := rdv_of hW
  obtain ⟨p1, p2⟩ := p2_le h2
  have e5 : i (b + 22) 4 = Int32.ofNat (cn w 3478) := hR.1.trans hc.1
  have eP := z_pow h2
  rw [bk_173_0]
  refine (lp_itr (fun k (_ : Unit) => am_fx am_P (d + 2) 173 4 [some (.ref (b + 22)), some (.int D), some (.int (Int32.ofNat (bst w D k))), some (.int (Int32.ofNat (k + 1))), none, none] [] (am_wI B i)) (fun _ u => u) (2 ^ cn w 3478 - 1) (fun k u hk => ?_) ()).trans ?_
  · rw [bk_173_4, bst_s]
    generalize bst w D k = o
    have eR := fun x => c_rdy (x := x) (D := D) (d := d + 1) hY hR hc hV
    have eC := fun x => c_costOf (x := x) (d := d + 1) hY hR hc hC
    have eD := c_paid (x := Int32.ofNat (k + 1)) (d := d) hY hR hW
    have l1 := rdy_le (x := Int32.ofNat (k + 1)) (D := D) hV _ (Nat.le_refl _) h2
    have l2 := rdy_le (x := Int32.ofNat o) (D := D) hV _ (Nat.le_refl _) h2
    have l3 := cnO_le (x := Int32.ofNat (k + 1)) (c := 9) hC _ (Nat.le_refl _) h2
    have l4 := cnO_le (x := Int32.ofNat o) (c := 9) hC _ (Nat.le_refl _) h2
    have z1 := z_gpos (a := rdy w (Int32.ofNat (k + 1)) D (cn w 3478)) (c := rdy w (Int32.ofNat o) D (cn w 3478)) (by omega) (by omega)
    have z2 := z_geq (a := rdy w (Int32.ofNat (k + 1)) D (cn w 3478)) (c := rdy w (Int32.ofNat o) D (cn w 3478)) (by omega) (by omega)
    have z3 := z_lt (a := cnO w (Int32.ofNat (k + 1)) 9 (cn w 3478)) (b := cnO w (Int32.ofNat o) 9 (cn w 3478)) (by omega) (by omega)
    have yes : bwin w D (k + 1) o → am_fx am_P (d + 2) 173 52 [some (.ref (b + 22)), some (.int D), some (.int (Int32.ofNat o)), some (.int (Int32.ofNat (k + 1))), none, none] [] (am_wI B i) = am_fx am_P (d + 2) 173 4 [some (.ref (b + 22)), some (.int D), some (.int (Int32.ofNat (fbs w D k o))), some (.int (Int32.ofNat (k + 1 + 1))), none, none] [] (am_wI B i) := fun g => by
      rw [bk_173_52, bk_173_57]
      rcases pdv_ok (w := w) (x := Int32.ofNat (k + 1)) with ⟨q, -⟩ | ⟨q, -⟩
      · rw [show fbs w D k o = k + 1 from if_pos ⟨g, q⟩]
        rw [q] at eD
        simp (maxSteps := 1000000) (disch := omega) only [eD, hY, y_ckd, y_ck2d, y_ond, y_onn, y_oI, y_oIx, y_oJ, y_oV, y_oVx, y_oR, y_oRn, y_oRx, y_b0, y_b1, y_bi, y_bid, y_wIK, y_wIL, y_wII, y_wIJ, y_wIR, y_wIN, y_wIw, y_sI, ↓reduceIte, Nat.reduceEqDiff, eq_self, true_or, or_true, false_or, or_false, and_true, true_and, false_and, and_false, not_true, not_false_eq_true, tf_T, tf_F, y_up1, y_up2, y_xx, y_nx, y_sJ, y_sR, Int32.reduceLT, y_nxK, y_nxL, y_nxR, y_sJK, y_sJL, y_sJR, y_sJN, y_sRK, y_sRL, y_sRN, Nat.add_zero, z_nat, z_lit, z_lit0, z_lit1, z_in0, z_in1, z_addl0, z_lt, z_ltl, z_llt, z_inj, z_injl, z_add, z_addl, z_ladd, z_mul, z_mull, z_lmul, z_neg, z_negl, z_in, z_inl, z_ltT, z_ltF, z_eqF, z_10, z_01, z_litne, z_ne0, z_0ne, z_ne1, z_1ne, z_lt64, z_02, z_03, z_04, z_05, z_12, z_13, z_14, z_15, z_20, z_21, z_23, z_24, z_25, z_30, z_31, z_32, z_34, z_35, z_40, z_41, z_42, z_43, z_45, z_50, z_51, z_52, z_53, z_54]
      · rw [show fbs w D k o = o from if_neg (fun r => absurd (q.symm.trans r.2) (by decide))]
        rw [q] at eD
        simp (maxSteps := 1000000) (disch := omega) only [eD, hY, y_ckd, y_ck2d, y_ond, y_onn, y_oI, y_oIx, y_oJ, y_oV, y_oVx, y_oR, y_oRn, y_oRx, y_b0, y_b1, y_bi, y_bid, y_wIK, y_wIL, y_wII, y_wIJ, y_wIR, y_wIN, y_wIw, y_sI, ↓reduceIte, Nat.reduceEqDiff, eq_self, true_or, or_true, false_or, or_false, and_true, true_and, false_and, and_false, not_true, not_false_eq_true, tf_T, tf_F, y_up1, y_up2, y_xx, y_nx, y_sJ, y_sR, Int32.reduceLT, y_nxK, y_nxL, y_nxR, y_sJK, y_sJL, y_sJR, y_sJN, y_sRK, y_sRL, y_sRN, Nat.add_zero, z_nat, z_lit, z_lit0, z_lit1, z_in0, z_in1, z_addl0, z_lt, z_ltl, z_llt, z_inj, z_injl, z_add, z_addl, z_ladd, z_mul, z_mull, z_lmul, z_neg, z_negl, z_in, z_inl, z_ltT, z_ltF, z_eqF, z_10, z_01, z_litne, z_ne0, z_0ne, z_ne1, z_1ne, z_lt64, z_02, z_03, z_04, z_05, z_12, z_13, z_14, z_15, z_20, z_21, z_23, z_24, z_25, z_30, z_31, z_32, z_34, z_35, z_40, z_41, z_42, z_43, z_45, z_50, z_51, z_52, z_53, z_54]
    have hk2 : Int32.ofNat (k + 1) < Int32.ofNat (2 ^ cn w 3478) := by rw [z_lt (by omega) (by omega)]; omega
    by_cases g1 : rdy w (Int32.ofNat o) D (cn w 3478) < rdy w (Int32.ofNat (k + 1)) D (cn w 3478)
    · refine Eq.trans ?_ (yes (Or.inl g1))
      simp (maxSteps := 1000000) (disch := omega) only [e5, eP, hk2, eR, z1, g1, hY, y_ckd, y_ck2d, y_ond, y_onn, y_oI, y_oIx, y_oJ, y_oV, y_oVx, y_oR, y_oRn, y_oRx, y_b0, y_b1, y_bi, y_bid, y_wIK, y_wIL, y_wII, y_wIJ, y_wIR, y_wIN, y_wIw, y_sI, ↓reduceIte, Nat.reduceEqDiff, eq_self, true_or, or_true, false_or, or_false, and_true, true_and, false_and, and_false, not_true, not_false_eq_true, tf_T, tf_F, y_up1, y_up2, y_xx, y_nx, y_sJ, y_sR, Int32.reduceLT, y_nxK, y_nxL, y_nxR, y_sJK, y_sJL, y_sJR, y_sJN, y_sRK, y_sRL, y_sRN, Nat.add_zero, z_nat, z_lit, z_lit0, z_lit1, z_in0, z_in1, z_addl0, z_lt, z_ltl, z_llt, z_inj, z_injl, z_add, z_addl, z_ladd, z_mul, z_mull, z_lmul, z_neg, z_negl, z_in, z_inl, z_ltT, z_ltF, z_eqF, z_10, z_01, z_litne, z_ne0, z_0ne, z_ne1, z_1ne, z_lt64, z_02, z_03, z_04, z_05, z_12, z_13, z_14, z_15, z_20, z_21, z_23, z_24, z_25, z_30, z_31, z_32, z_34, z_35, z_40, z_41, z_42, z_43, z_45, z_50, z_51, z_52, z_53, z_54]
    · by_cases g2 : rdy w (Int32.ofNat (k + 1)) D (cn w 3478) = rdy w (Int32.ofNat o) D (cn w 3478)
      · by_cases g3 : cnO w (Int32.ofNat (k + 1)) 9 (cn w 3478) < cnO w (Int32.ofNat o) 9 (cn w 3478)
        · refine Eq.trans ?_ (yes (Or.inr ⟨g2, g3⟩))
          simp (maxSteps := 1000000) (disch := omega) only [e5, eP, hk2, eR, eC, z1.trans (eq_false g1), z2.trans (eq_true g2), z3.trans (eq_true g3), hY, y_ckd, y_ck2d, y_ond, y_onn, y_oI, y_oIx, y_oJ, y_oV, y_oVx, y_oR, y_oRn, y_oRx, y_b0, y_b1, y_bi, y_bid, y_wIK, y_wIL, y_wII, y_wIJ, y_wIR, y_wIN, y_wIw, y_sI, ↓reduceIte, Nat.reduceEqDiff, eq_self, true_or, or_true, false_or, or_false, and_true, true_and, false_and, and_false, not_true, not_false_eq_true, tf_T, tf_F, y_up1, y_up2, y_xx, y_nx, y_sJ, y_sR, Int32.reduceLT, y_nxK, y_nxL, y_nxR, y_sJK, y_sJL, y_sJR, y_sJN, y_sRK, y_sRL, y_sRN, Nat.add_zero, z_nat, z_lit, z_lit0, z_lit1, z_in0, z_in1, z_addl0, z_lt, z_ltl, z_llt, z_inj, z_injl, z_add, z_addl, z_ladd, z_mul, z_mull, z_lmul, z_neg, z_negl, z_in, z_inl, z_ltT, z_ltF, z_eqF, z_10, z_01, z_litne, z_ne0, z_0ne, z_ne1, z_1ne, z_lt64, z_02, z_03, z_04, z_05, z_12, z_13, z_14, z_15, z_20, z_21, z_23, z_24, z_25, z_30, z_31, z_32, z_34, z_35, z_40, z_41, z_42, z_43, z_45, z_50, z_51, z_52, z_53, z_54]
        · rw [show fbs w D k o = o from if_neg (fun r => r.1.elim g1 fun s => g3 s.2)]
          simp (maxSteps := 1000000) (disch := omega) only [(fun d x0 x1 x2 x3 s0 B i => bk_173_57 d x0 x1 x2 x3 s0 (am_wI B i)), e5, eP, hk2, eR, eC, z1.trans (eq_false g1), z2.trans (eq_true g2), z3.trans (eq_false g3), hY, y_ckd, y_ck2d, y_ond, y_onn, y_oI, y_oIx, y_oJ, y_oV, y_oVx, y_oR, y_oRn, y_oRx, y_b0, y_b1, y_bi, y_bid, y_wIK, y_wIL, y_wII, y_wIJ, y_wIR, y_wIN, y_wIw, y_sI, ↓reduceIte, Nat.reduceEqDiff, eq_self, true_or, or_true, false_or, or_false, and_true, true_and, false_and, and_false, not_true, not_false_eq_true, tf_T, tf_F, y_up1, y_up2, y_xx, y_nx, y_sJ, y_sR, Int32.reduceLT, y_nxK, y_nxL, y_nxR, y_sJK, y_sJL, y_sJR, y_sJN, y_sRK, y_sRL, y_sRN, Nat.add_zero, z_nat, z_lit, z_lit0, z_lit1, z_in0, z_in1, z_addl0, z_lt, z_ltl, z_llt, z_inj, z_injl, z_add, z_addl, z_ladd, z_mul, z_mull, z_lmul, z_neg, z_negl, z_in, z_inl, z_ltT, z_ltF, z_eqF, z_10, z_01, z_litne, z_ne0, z_0ne, z_ne1, z_1ne, z_lt64, z_02, z_03, z_04, z_05, z_12, z_13, z_14, z_15, z_20, z_21, z_23, z_24, z_25, z_30, z_31, z_32, z_34, z_35, z_40, z_41, z_42, z_43, z_45, z_50, z_51, z_52, z_53, z_54]
      · rw [show fbs w D k o = o from if_neg (fun r => r.1.elim g1 fun s => g2 s.1)]
        simp (maxSteps := 1000000) (disch := omega) only [(fun d x0 x1 x2 x3 s0 B i => bk_173_57 d x0 x1 x2 x3 s0 (am_wI B i)), e5, eP, hk2, eR, z1, z2, g1, g2, hY, y_ckd, y_ck2d, y_ond, y_onn, y_oI, y_oIx, y_oJ, y_oV, y_oVx, y_oR, y_oRn, y_oRx, y_b0, y_b1, y_bi, y_bid, y_wIK, y_wIL, y_wII, y_wIJ, y_wIR, y_wIN, y_wIw, y_sI, ↓reduceIte, Nat.reduceEqDiff, eq_self, true_or, or_true, false_or, or_false, and_true, true_and, false_and, and_false, not_true, not_false_eq_true, tf_T, tf_F, y_up1, y_up2, y_xx, y_nx, y_sJ, y_sR, Int32.reduceLT, y_nxK, y_nxL, y_nxR, y_sJK, y_sJL, y_sJR, y_sJN, y_sRK, y_sRL, y_sRN, Nat.add_zero, z_nat, z_lit, z_lit0, z_lit1, z_in0, z_in1, z_addl0, z_lt, z_ltl, z_llt, z_inj, z_injl, z_add, z_addl, z_ladd, z_mul, z_mull, z_lmul, z_neg, z_negl, z_in, z_inl, z_ltT, z_ltF, z_eqF, z_10, z_01, z_litne, z_ne0, z_0ne, z_ne1, z_1ne, z_lt64, z_02, z_03, z_04, z_05, z_12, z_13, z_14, z_15, z_20, z_21, z_23, z_24, z_25, z_30, z_31, z_32, z_34, z_35, z_40, z_41, z_42, z_43, z_45, z_50, z_51, z_52, z_53, z_54]
  · rw [bk_173_4]
    have hk2 : ¬ Int32.ofNat (2 ^ cn w 3478 - 1 + 1) < Int32.ofNat (2 ^ cn w 3478) := by rw [z_lt (by omega) (by omega)]; omega
    simp (maxSteps := 1000000) (disch := omega) only [e5, eP, hk2, hY, y_ckd, y_ck2d, y_ond, y_onn, y_oI, y_oIx, y_oJ, y_oV, y_oVx, y_oR, y_oRn, y_oRx, y_b0, y_b1, y_bi, y_bid, y_wIK, y_wIL, y_wII, y_wIJ, y_wIR, y_wIN, y_wIw, y_sI, ↓reduceIte, Nat.reduceEqDiff, eq_self, true_or, or_true, false_or, or_false, and_true, true_and, false_and, and_false, not_true, not_false_eq_true, tf_T, tf_F, y_up1, y_up2, y_xx, y_nx, y_sJ, y_sR, Int32.reduceLT, y_nxK, y_nxL, y_nxR, y_sJK, y_sJL, y_sJR, y_sJN, y_sRK, y_sRL, y_sRN, Nat.add_zero, z_nat, z_lit, z_lit0, z_lit1, z_in0, z_in1, z_addl0, z_lt, z_ltl, z_llt, z_inj, z_injl, z_add, z_addl, z_ladd, z_mul, z_mull, z_lmul, z_neg, z_negl, z_in, z_inl, z_ltT, z_ltF, z_eqF, z_10, z_01, z_litne, z_ne0, z_0ne, z_ne1, z_1ne, z_lt64, z_02, z_03, z_04, z_05, z_12, z_13, z_14, z_15, z_20, z_21, z_23, z_24, z_25, z_30, z_31, z_32, z_34, z_35, z_40, z_41, z_42, z_43, z_45, z_50, z_51, z_52, z_53, z_54]
theorem m_bestL (hM : Md B) (hw : ∀ s, s < 12042 → i 875 s = w s) (hW : Wd w) : am_fx am_P (d + 2) 141 9 [some (.ref 874), some (.int D), some (.int (Int32.ofNat 0)), some (.int (Int32.ofNat (0 + 1))), none, none] [] (am_wI B i) = some (.inl (some (.int (Int32.ofNat (bst w D (2 ^ cn w 3478 - 1))))), am_wI B i) := by
  have hc := hW.1.2.2.2.2.2.2.2.2.1
  have h2 := hc.2
  have hC := chs_of hW
  have hV := rdv_of hW
  obtain ⟨p1, p2⟩ := p2_le h2
  have e5 : i 875 3478 = Int32.ofNat (cn w 3478) := (hw _ (by omega)).trans hc.1
  have eP := z_pow h2
  refine (lp_itr (fun k (_ : Unit) => am_fx am_P (d + 2) 141 9 [some (.ref 874), some (.int D), some (.int (Int32.ofNat (bst w D k))), some (.int (Int32.ofNat (k + 1))), none, none] [] (am_wI B i)) (fun _ u => u) (2 ^ cn w 3478 - 1) (fun k u hk => ?_) ()).trans ?_
  · rw [bk_141_9, bst_s]
    generalize bst w D k = o
    have eR := fun x => m_rdy (x := x) (D := D) (d := d + 1) hM hw hc hV
    have eC : ∀ x, am_fx am_P (d + 1) 137 0 [some (.ref 874), some (.int x), some (.int 9), none, none] [] (am_wI B i) = some (.inl (some (.int (Int32.ofNat (cnO w x 9 (cn w 3478))))), am_wI B i) := fun x => m_costOf (x := x) (c := 9) (d := d + 1) hM hw hc hC (by omega)
    have eD := m_paid (x := Int32.ofNat (k + 1)) (d := d) hM hw hW
    have l1 := rdy_le (x := Int32.ofNat (k + 1)) (D := D) hV _ (Nat.le_refl _) h2
    have l2 := rdy_le (x := Int32.ofNat o) (D := D) hV _ (Nat.le_refl _) h2
    have l3 := cnO_le (x := Int32.ofNat (k + 1)) (c := 9) hC _ (Nat.le_refl _) h2
    have l4 := cnO_le (x := Int32.ofNat o) (c := 9) hC _ (Nat.le_refl _) h2
    have z1 := z_lt (a := rdy w (Int32.ofNat o) D (cn w 3478)) (b := rdy w (Int32.ofNat (k + 1)) D (cn w 3478)) (by omega) (by omega)
    have z2 := z_inj (a := rdy w (Int32.ofNat (k + 1)) D (cn w 3478)) (b := rdy w (Int32.ofNat o) D (cn w 3478)) (by omega) (by omega)
    have z3 := z_lt (a := cnO w (Int32.ofNat (k + 1)) 9 (cn w 3478)) (b := cnO w (Int32.ofNat o) 9 (cn w 3478)) (by omega) (by omega)
    have hk2 : Int32.ofNat (k + 1) < Int32.ofNat (2 ^ cn w 3478) := by rw [z_lt (by omega) (by omega)]; omega
    rcases pdv_ok (w := w) (x := Int32.ofNat (k + 1)) with ⟨q, -⟩ | ⟨q, -⟩
    rotate_left
    · rw [show fbs w D k o = o from if_neg (fun r => absurd (q.symm.trans r.2) (by decide))]
      rw [q] at eD
      simp (maxSteps := 1000000) (disch := omega) only [e5, eP, hk2, eD, hM, y_ckd, y_ck2d, y_ond, y_onn, y_oI, y_oIx, y_oJ, y_oV, y_oVx, y_oR, y_oRn, y_oRx, y_b0, y_b1, y_bi, y_bid, y_wIK, y_wIL, y_wII, y_wIJ, y_wIR, y_wIN, y_wIw, y_sI, ↓reduceIte, Nat.reduceEqDiff, eq_self, true_or, or_true, false_or, or_false, and_true, true_and, false_and, and_false, not_true, not_false_eq_true, tf_T, tf_F, y_up1, y_up2, y_xx, y_nx, y_sJ, y_sR, Int32.reduceLT, y_nxK, y_nxL, y_nxR, y_sJK, y_sJL, y_sJR, y_sJN, y_sRK, y_sRL, y_sRN, Nat.add_zero, z_nat, z_lit, z_lit0, z_lit1, z_in0, z_in1, z_addl0, z_lt, z_ltl, z_llt, z_inj, z_injl, z_add, z_addl, z_ladd, z_mul, z_mull, z_lmul, z_neg, z_negl, z_in, z_inl, z_ltT, z_ltF, z_eqF, z_10, z_01, z_litne, z_ne0, z_0ne, z_ne1, z_1ne, z_lt64, z_02, z_03, z_04, z_05, z_12, z_13, z_14, z_15, z_20, z_21, z_23, z_24, z_25, z_30, z_31, z_32, z_34, z_35, z_40, z_41, z_42, z_43, z_45, z_50, z_51, z_52, z_53, z_54]
    rw [q] at eD
    by_cases g1 : rdy w (Int32.ofNat o) D (cn w 3478) < rdy w (Int32.ofNat (k + 1)) D (cn w 3478)
    · rw [show fbs w D k o = k + 1 from if_pos ⟨Or.inl g1, q⟩]
      simp (maxSteps := 1000000) (disch := omega) only [(fun d x0 x1 x3 B i => bk_141_81 d x0 x1 x3 (am_wI B i)), e5, eP, hk2, eD, eR, z1, g1, hM, y_ckd, y_ck2d, y_ond, y_onn, y_oI, y_oIx, y_oJ, y_oV, y_oVx, y_oR, y_oRn, y_oRx, y_b0, y_b1, y_bi, y_bid, y_wIK, y_wIL, y_wII, y_wIJ, y_wIR, y_wIN, y_wIw, y_sI, ↓reduceIte, Nat.reduceEqDiff, eq_self, true_or, or_true, false_or, or_false, and_true, true_and, false_and, and_false, not_true, not_false_eq_true, tf_T, tf_F, y_up1, y_up2, y_xx, y_nx, y_sJ, y_sR, Int32.reduceLT, y_nxK, y_nxL, y_nxR, y_sJK, y_sJL, y_sJR, y_sJN, y_sRK, y_sRL, y_sRN, Nat.add_zero, z_nat, z_lit, z_lit0, z_lit1, z_in0, z_in1, z_addl0, z_lt, z_ltl, z_llt, z_inj, z_injl, z_add, z_addl, z_ladd, z_mul, z_mull, z_lmul, z_neg, z_negl, z_in, z_inl, z_ltT, z_ltF, z_eqF, z_10, z_01, z_litne, z_ne0, z_0ne, z_ne1, z_1ne, z_lt64, z_02, z_03, z_04, z_05, z_12, z_13, z_14, z_15, z_20, z_21, z_23, z_24, z_25, z_30, z_31, z_32, z_34, z_35, z_40, z_41, z_42, z_43, z_45, z_50, z_51, z_52, z_53, z_54]
    · by_cases g2 : rdy w (Int32.ofNat (k + 1)) D (cn w 3478) = rdy w (Int32.ofNat o) D (cn w 3478)
      · by_cases g3 : cnO w (Int32.ofNat (k + 1)) 9 (cn w 3478) < cnO w (Int32.ofNat o) 9 (cn w 3478)
        · rw [show fbs w D k o = k + 1 from if_pos ⟨Or.inr ⟨g2, g3⟩, q⟩]
          simp (maxSteps := 1000000) (disch := omega) only [(fun d x0 x1 x3 B i => bk_141_81 d x0 x1 x3 (am_wI B i)), e5, eP, hk2, eD, eR, eC, z1, z2, z3, g1, g2, g3, hM, y_ckd, y_ck2d, y_ond, y_onn, y_oI, y_oIx, y_oJ, y_oV, y_oVx, y_oR, y_oRn, y_oRx, y_b0, y_b1, y_bi, y_bid, y_wIK, y_wIL, y_wII, y_wIJ, y_wIR, y_wIN, y_wIw, y_sI, ↓reduceIte, Nat.reduceEqDiff, eq_self, true_or, or_true, false_or, or_false, and_true, true_and, false_and, and_false, not_true, not_false_eq_true, tf_T, tf_F, y_up1, y_up2, y_xx, y_nx, y_sJ, y_sR, Int32.reduceLT, y_nxK, y_nxL, y_nxR, y_sJK, y_sJL, y_sJR, y_sJN, y_sRK, y_sRL, y_sRN, Nat.add_zero, z_nat, z_lit, z_lit0, z_lit1, z_in0, z_in1, z_addl0, z_lt, z_ltl, z_llt, z_inj, z_injl, z_add, z_addl, z_ladd, z_mul, z_mull, z_lmul, z_neg, z_negl, z_in, z_inl, z_ltT, z_ltF, z_eqF, z_10, z_01, z_litne, z_ne0, z_0ne, z_ne1, z_1ne, z_lt64, z_02, z_03, z_04, z_05, z_12, z_13, z_14, z_15, z_20, z_21, z_23, z_24, z_25, z_30, z_31, z_32, z_34, z_35, z_40, z_41, z_42, z_43, z_45, z_50, z_51, z_52, z_53, z_54]
        · rw [show fbs w D k o = o from if_neg (fun r => r.1.elim g1 fun s => g3 s.2)]
          simp (maxSteps := 1000000) (disch := omega) only [e5, eP, hk2, eD, eR, eC, z1, z2, z3, g1, g2, g3, hM, y_ckd, y_ck2d, y_ond, y_onn, y_oI, y_oIx, y_oJ, y_oV, y_oVx, y_oR, y_oRn, y_oRx, y_b0, y_b1, y_bi, y_bid, y_wIK, y_wIL, y_wII, y_wIJ, y_wIR, y_wIN, y_wIw, y_sI, ↓reduceIte, Nat.reduceEqDiff, eq_self, true_or, or_true, false_or, or_false, and_true, true_and, false_and, and_false, not_true, not_false_eq_true, tf_T, tf_F, y_up1, y_up2, y_xx, y_nx, y_sJ, y_sR, Int32.reduceLT, y_nxK, y_nxL, y_nxR, y_sJK, y_sJL, y_sJR, y_sJN, y_sRK, y_sRL, y_sRN, Nat.add_zero, z_nat, z_lit, z_lit0, z_lit1, z_in0, z_in1, z_addl0, z_lt, z_ltl, z_llt, z_inj, z_injl, z_add, z_addl, z_ladd, z_mul, z_mull, z_lmul, z_neg, z_negl, z_in, z_inl, z_ltT, z_ltF, z_eqF, z_10, z_01, z_litne, z_ne0, z_0ne, z_ne1, z_1ne, z_lt64, z_02, z_03, z_04, z_05, z_12, z_13, z_14, z_15, z_20, z_21, z_23, z_24, z_25, z_30, z_31, z_32, z_34, z_35, z_40, z_41, z_42, z_43, z_45, z_50, z_51, z_52, z_53, z_54]
      · rw [show fbs w D k o = o from if_neg (fun r => r.1.elim g1 fun s => g2 s.1)]
        simp (maxSteps := 1000000) (disch := omega) only [e5, eP, hk2, eD, eR, z1, z2, g1, g2, hM, y_ckd, y_ck2d, y_ond, y_onn, y_oI, y_oIx, y_oJ, y_oV, y_oVx, y_oR, y_oRn, y_oRx, y_b0, y_b1, y_bi, y_bid, y_wIK, y_wIL, y_wII, y_wIJ, y_wIR, y_wIN, y_wIw, y_sI, ↓reduceIte, Nat.reduceEqDiff, eq_self, true_or, or_true, false_or, or_false, and_true, true_and, false_and, and_false, not_true, not_false_eq_true, tf_T, tf_F, y_up1, y_up2, y_xx, y_nx, y_sJ, y_sR, Int32.reduceLT, y_nxK, y_nxL, y_nxR, y_sJK, y_sJL, y_sJR, y_sJN, y_sRK, y_sRL, y_sRN, Nat.add_zero, z_nat, z_lit, z_lit0, z_lit1, z_in0, z_in1, z_addl0, z_lt, z_ltl, z_llt, z_inj, z_injl, z_add, z_addl, z_ladd, z_mul, z_mull, z_lmul, z_neg, z_negl, z_in, z_inl, z_ltT, z_ltF, z_eqF, z_10, z_01, z_litne, z_ne0, z_0ne, z_ne1, z_1ne, z_lt64, z_02, z_03, z_04, z_05, z_12, z_13, z_14, z_15, z_20, z_21, z_23, z_24, z_25, z_30, z_31, z_32, z_34, z_35, z_40, z_41, z_42, z_43, z_45, z_50, z_51, z_52, z_53, z_54]
  · rw [bk_141_9]
    have hk2 : ¬ Int32.ofNat (2 ^ cn w 3478 - 1 + 1) < Int32.ofNat (2 ^ cn w 3478) := by rw [z_lt (by omega) (by omega)]; omega
    simp (maxSteps := 1000000) (disch := omega) only [e5, eP, hk2, hM, y_ckd, y_ck2d, y_ond, y_onn, y_oI, y_oIx, y_oJ, y_oV, y_oVx, y_oR, y_oRn, y_oRx, y_b0, y_b1, y_bi, y_bid, y_wIK, y_wIL, y_wII, y_wIJ, y_wIR, y_wIN, y_wIw, y_sI, ↓reduceIte, Nat.reduceEqDiff, eq_self, true_or, or_true, false_or, or_false, and_true, true_and, false_and, and_false, not_true, not_false_eq_true, tf_T, tf_F, y_up1, y_up2, y_xx, y_nx, y_sJ, y_sR, Int32.reduceLT, y_nxK, y_nxL, y_nxR, y_sJK, y_sJL, y_sJR, y_sJN, y_sRK, y_sRL, y_sRN, Nat.add_zero, z_nat, z_lit, z_lit0, z_lit1, z_in0, z_in1, z_addl0, z_lt, z_ltl, z_llt, z_inj, z_injl, z_add, z_addl, z_ladd, z_mul, z_mull, z_lmul, z_neg, z_negl, z_in, z_inl, z_ltT, z_ltF, z_eqF, z_10, z_01, z_litne, z_ne0, z_0ne, z_ne1, z_1ne, z_lt64, z_02, z_03, z_04, z_05, z_12, z_13, z_14, z_15, z_20, z_21, z_23, z_24, z_25, z_30, z_31, z_32, z_34, z_35, z_40, z_41, z_42, z_43, z_45, z_50, z_51, z_52, z_53, z_54]
theorem f_best (h : CR B i σ) (hW : Wd σ.1) : FRs B i σ (am_fx am_P (d + 151) 340 0 [some (.ref 64), some (.int x)] [] (am_wI B i)) (.inl (some (.int (Int32.ofNat (bst σ.1 x (2 ^ cn σ.1 3478 - 1)))))) := by
  refine FRs_0 h ?_
  have hF : Fc B := h.1.1
  have hY : Yd B 94 := h.1.2.1
  have e := c_best (D := x) (d := d + 148) hY h.2.1.2.2.2.2.2.2.2.1 hW
  rw [bk_340_0]
  simp (maxSteps := 1000000) (disch := omega) only [e, hF, hY, y_ckd, y_ck2d, y_ond, y_onn, y_oI, y_oIx, y_oJ, y_oV, y_oVx, y_oR, y_oRn, y_oRx, y_b0, y_b1, y_bi, y_bid, y_wIK, y_wIL, y_wII, y_wIJ, y_wIR, y_wIN, y_wIw, y_sI, ↓reduceIte, Nat.reduceEqDiff, eq_self, true_or, or_true, false_or, or_false, and_true, true_and, false_and, and_false, not_true, not_false_eq_true, tf_T, tf_F, y_up1, y_up2, y_xx, y_nx, y_sJ, y_sR, Int32.reduceLT, y_nxK, y_nxL, y_nxR, y_sJK, y_sJL, y_sJR, y_sJN, y_sRK, y_sRL, y_sRN, Nat.add_zero, z_nat, z_lit, z_lit0, z_lit1, z_in0, z_in1, z_addl0, z_lt, z_ltl, z_llt, z_inj, z_injl, z_add, z_addl, z_ladd, z_mul, z_mull, z_lmul, z_neg, z_negl, z_in, z_inl, z_ltT, z_ltF, z_eqF, z_10, z_01, z_litne, z_ne0, z_0ne, z_ne1, z_1ne, z_lt64, z_02, z_03, z_04, z_05, z_12, z_13, z_14, z_15, z_20, z_21, z_23, z_24, z_25, z_30, z_31, z_32, z_34, z_35, z_40, z_41, z_42, z_43, z_45, z_50, z_51, z_52, z_53, z_54]
theorem m_best (h : MR B i σ) (hW : Wd σ.1) : MRs B i σ (am_fx am_P (d + 151) 141 0 [some (.ref 874), some (.int x), none, none, none, none] [] (am_wI B i)) (some (.int (Int32.ofNat (bst σ.1 x (2 ^ cn σ.1 3478 - 1))))) 0 := by
  refine MRs_0 h ?_
  have hM : Md B := h.1.1
  have hw := up_o (q := 874) (k := 0) (v := 0) (by omega) h.2.1
  have e := m_bestL (D := x) (d := d + 149) hM hw hW
  rw [bk_141_0]
  simp (maxSteps := 1000000) (disch := omega) only [hM, y_ckd, y_ck2d, y_ond, y_onn, y_oI, y_oIx, y_oJ, y_oV, y_oVx, y_oR, y_oRn, y_oRx, y_b0, y_b1, y_bi, y_bid, y_wIK, y_wIL, y_wII, y_wIJ, y_wIR, y_wIN, y_wIw, y_sI, ↓reduceIte, Nat.reduceEqDiff, eq_self, true_or, or_true, false_or, or_false, and_true, true_and, false_and, and_false, not_true, not_false_eq_true, tf_T, tf_F, y_up1, y_up2, y_xx, y_nx, y_sJ, y_sR, Int32.reduceLT, y_nxK, y_nxL, y_nxR, y_sJK, y_sJL, y_sJR, y_sJN, y_sRK, y_sRL, y_sRN, Nat.add_zero, z_nat, z_lit, z_lit0, z_lit1, z_in0, z_in1, z_addl0, z_lt, z_ltl, z_llt, z_inj, z_injl, z_add, z_addl, z_ladd, z_mul, z_mull, z_lmul, z_neg, z_negl, z_in, z_inl, z_ltT, z_ltF, z_eqF, z_10, z_01, z_litne, z_ne0, z_0ne, z_ne1, z_1ne, z_lt64, z_02, z_03, z_04, z_05, z_12, z_13, z_14, z_15, z_20, z_21, z_23, z_24, z_25, z_30, z_31, z_32, z_34, z_35, z_40, z_41, z_42, z_43, z_45, z_50, z_51, z_52, z_53, z_54]
  exact e
theorem k_best (h : Sim B i σ) (hs : Sc B i L j) (hO : am_K B 892 = 22 ∧ am_L B 892 = 1) : Stq B i d 3475 j := by
  exact kk_48 h hs hO h.2.2 (f_best (d := d + 48) h.1 h.2.2.1) fun B0 i0 h0 => m_best (d := d + 48) h0 h.2.2.1
end Best
