/-! THE DRIEST LEAST; FACTS OF A SHIP TOLD: made by wip/whole/math/905.py. -/
def fld (w : Nat → Int32) (s n : Nat) (a : Int32) : Int32 := if w (2622 + 49 * s + 9 + 5 * n + 4) = -1 then a else if a = -1 then w (461 + 18 * cn w (2622 + 49 * s + 9 + 5 * n + 4) + 6) else if w (461 + 18 * cn w (2622 + 49 * s + 9 + 5 * n + 4) + 6) < a then w (461 + 18 * cn w (2622 + 49 * s + 9 + 5 * n + 4) + 6) else a
/-- how dry the least dry piece of a ship is -/
def ldr (w : Nat → Int32) (s : Nat) : Int32 := if 0 < itr (fld w s) (cn w (2622 + 49 * s + 8)) (-1) then itr (fld w s) (cn w (2622 + 49 * s + 8)) (-1) else 0
section Ldr
variable {B : am_A} {i j : Nat → Nat → Int32} {w wt : Nat → Int32} {d b : Nat} {fc : Fct} {x y z : Int32}
theorem c_ldry {s : Nat} (hY : Yd B b) (hS : RS i b w) (hc : isc w 2621 8) (hs : s < cn w 2621) (hn : isc w (2622 + 49 * s + 8) 8) (hP : RP i b w) (h4 : isc w 460 120) (hv : ∀ n, n < cn w (2622 + 49 * s + 8) → n < 8 → w (2622 + 49 * s + 9 + 5 * n + 4) = -1 ∨ ¬ w (2622 + 49 * s + 9 + 5 * n + 4) < 0 ∧ w (2622 + 49 * s + 9 + 5 * n + 4) < w 460) : am_fx am_P (d + 3) 256 0 [some (.ref b), some (.ref (b + 212 + 6 * s)), none, none, none] [] (am_wI B i) = some (.inl (some (.int (ldr w s))), am_wI B i) := by
  have h2 := hc.2
  have h3 := hn.2
  obtain ⟨-, -, -, -, -, -, -, -, a9, a10⟩ := hS.2 s hs (by omega)
  have e8 : i (b + 212 + 6 * s) 8 = Int32.ofNat (cn w (2622 + 49 * s + 8)) := a9.trans hn.1
  have h6 := h4.2
  rw [bk_256_0]
  refine (lp_itr (fun k a => am_fx am_P (d + 3) 256 4 [some (.ref b), some (.ref (b + 212 + 6 * s)), some (.int a), some (.int (Int32.ofNat k)), none] [] (am_wI B i)) (fld w s) (cn w (2622 + 49 * s + 8)) (fun k a hk => ?_) (-1)).trans ?_
  · rw [bk_256_4]
    unfold fld
    by_cases g : w (2622 + 49 * s + 9 + 5 * k + 4) = -1
    · simp (disch := omega) only [e8, c_pcI0 (d := d) hY hS hP.1 hc hs hn hk h4 g, g, hY, y_ckd, y_ck2d, y_ond, y_onn, y_oI, y_oIx, y_oJ, y_oV, y_oVx, y_oR, y_oRn, y_oRx, y_b0, y_b1, y_bi, y_bid, y_wIK, y_wIL, y_wII, y_wIJ, y_wIR, y_wIN, y_wIw, y_sI, ↓reduceIte, Nat.reduceEqDiff, eq_self, true_or, or_true, false_or, or_false, and_true, true_and, false_and, and_false, not_true, not_false_eq_true, tf_T, tf_F, y_up1, y_up2, y_xx, y_nx, y_sJ, y_sR, Int32.reduceLT, y_nxK, y_nxL, y_nxR, y_sJK, y_sJL, y_sJR, y_sJN, y_sRK, y_sRL, y_sRN, Nat.add_zero, z_nat, z_lit, z_lit0, z_lit1, z_in0, z_in1, z_addl0, z_lt, z_ltl, z_llt, z_inj, z_injl, z_add, z_addl, z_ladd, z_mul, z_mull, z_lmul, z_neg, z_negl, z_in, z_inl, z_ltT, z_ltF, z_eqF, z_10, z_01, z_litne, z_ne0, z_0ne, z_ne1, z_1ne, z_lt64, z_02, z_03, z_04, z_05, z_12, z_13, z_14, z_15, z_20, z_21, z_23, z_24, z_25, z_30, z_31, z_32, z_34, z_35, z_40, z_41, z_42, z_43, z_45, z_50, z_51, z_52, z_53, z_54]
    · obtain ⟨gp, hp⟩ := nn_of (hv k hk (by omega)) h4.1 (by omega) g
      have ep := (hP.2 _ hp (by omega)).2.2.2.2.2.2.1
      simp (disch := omega) only [e8, c_pcI1 (d := d) hY hS hP.1 hc hs hn hk h4 gp hp, g, ep, bk_0_0, hY, y_ckd, y_ck2d, y_ond, y_onn, y_oI, y_oIx, y_oJ, y_oV, y_oVx, y_oR, y_oRn, y_oRx, y_b0, y_b1, y_bi, y_bid, y_wIK, y_wIL, y_wII, y_wIJ, y_wIR, y_wIN, y_wIw, y_sI, ↓reduceIte, Nat.reduceEqDiff, eq_self, true_or, or_true, false_or, or_false, and_true, true_and, false_and, and_false, not_true, not_false_eq_true, tf_T, tf_F, y_up1, y_up2, y_xx, y_nx, y_sJ, y_sR, Int32.reduceLT, y_nxK, y_nxL, y_nxR, y_sJK, y_sJL, y_sJR, y_sJN, y_sRK, y_sRL, y_sRN, Nat.add_zero, z_nat, z_lit, z_lit0, z_lit1, z_in0, z_in1, z_addl0, z_lt, z_ltl, z_llt, z_inj, z_injl, z_add, z_addl, z_ladd, z_mul, z_mull, z_lmul, z_neg, z_negl, z_in, z_inl, z_ltT, z_ltF, z_eqF, z_10, z_01, z_litne, z_ne0, z_0ne, z_ne1, z_1ne, z_lt64, z_02, z_03, z_04, z_05, z_12, z_13, z_14, z_15, z_20, z_21, z_23, z_24, z_25, z_30, z_31, z_32, z_34, z_35, z_40, z_41, z_42, z_43, z_45, z_50, z_51, z_52, z_53, z_54]
      by_cases g1 : a = -1
      · simp (disch := omega) only [g1, ↓reduceIte, Nat.add_zero, z_nat, z_lit, z_lit0, z_lit1, z_in0, z_in1, z_addl0, z_lt, z_ltl, z_llt, z_inj, z_injl, z_add, z_addl, z_ladd, z_mul, z_mull, z_lmul, z_neg, z_negl, z_in, z_inl, z_ltT, z_ltF, z_eqF, z_10, z_01, z_litne, z_ne0, z_0ne, z_ne1, z_1ne, z_lt64, z_02, z_03, z_04, z_05, z_12, z_13, z_14, z_15, z_20, z_21, z_23, z_24, z_25, z_30, z_31, z_32, z_34, z_35, z_40, z_41, z_42, z_43, z_45, z_50, z_51, z_52, z_53, z_54]
      · by_cases g2 : w (461 + 18 * cn w (2622 + 49 * s + 9 + 5 * k + 4) + 6) < a
        · simp (disch := omega) only [g1, g2, ↓reduceIte, y_oI, Nat.add_zero, z_nat, z_lit, z_lit0, z_lit1, z_in0, z_in1, z_addl0, z_lt, z_ltl, z_llt, z_inj, z_injl, z_add, z_addl, z_ladd, z_mul, z_mull, z_lmul, z_neg, z_negl, z_in, z_inl, z_ltT, z_ltF, z_eqF, z_10, z_01, z_litne, z_ne0, z_0ne, z_ne1, z_1ne, z_lt64, z_02, z_03, z_04, z_05, z_12, z_13, z_14, z_15, z_20, z_21, z_23, z_24, z_25, z_30, z_31, z_32, z_34, z_35, z_40, z_41, z_42, z_43, z_45, z_50, z_51, z_52, z_53, z_54]
        · simp (disch := omega) only [g1, g2, ↓reduceIte, y_oI, Nat.add_zero, z_nat, z_lit, z_lit0, z_lit1, z_in0, z_in1, z_addl0, z_lt, z_ltl, z_llt, z_inj, z_injl, z_add, z_addl, z_ladd, z_mul, z_mull, z_lmul, z_neg, z_negl, z_in, z_inl, z_ltT, z_ltF, z_eqF, z_10, z_01, z_litne, z_ne0, z_0ne, z_ne1, z_1ne, z_lt64, z_02, z_03, z_04, z_05, z_12, z_13, z_14, z_15, z_20, z_21, z_23, z_24, z_25, z_30, z_31, z_32, z_34, z_35, z_40, z_41, z_42, z_43, z_45, z_50, z_51, z_52, z_53, z_54]
  · rw [bk_256_4]
    simp (disch := omega) only [e8, bk_1_0, hY, y_ckd, y_ck2d, y_ond, y_onn, y_oI, y_oIx, y_oJ, y_oV, y_oVx, y_oR, y_oRn, y_oRx, y_b0, y_b1, y_bi, y_bid, y_wIK, y_wIL, y_wII, y_wIJ, y_wIR, y_wIN, y_wIw, y_sI, ↓reduceIte, Nat.reduceEqDiff, eq_self, true_or, or_true, false_or, or_false, and_true, true_and, false_and, and_false, not_true, not_false_eq_true, tf_T, tf_F, y_up1, y_up2, y_xx, y_nx, y_sJ, y_sR, Int32.reduceLT, y_nxK, y_nxL, y_nxR, y_sJK, y_sJL, y_sJR, y_sJN, y_sRK, y_sRL, y_sRN, Nat.add_zero, z_nat, z_lit, z_lit0, z_lit1, z_in0, z_in1, z_addl0, z_lt, z_ltl, z_llt, z_inj, z_injl, z_add, z_addl, z_ladd, z_mul, z_mull, z_lmul, z_neg, z_negl, z_in, z_inl, z_ltT, z_ltF, z_eqF, z_10, z_01, z_litne, z_ne0, z_0ne, z_ne1, z_1ne, z_lt64, z_02, z_03, z_04, z_05, z_12, z_13, z_14, z_15, z_20, z_21, z_23, z_24, z_25, z_30, z_31, z_32, z_34, z_35, z_40, z_41, z_42, z_43, z_45, z_50, z_51, z_52, z_53, z_54]
    unfold ldr
    by_cases g : 0 < itr (fld w s) (cn w (2622 + 49 * s + 8)) (-1)
    · simp only [g, ↓reduceIte, y_oI]
    · simp only [g, ↓reduceIte, y_oI]
theorem m_ldry {s : Nat} (hM : Md B) (hw : ∀ s, s < 12042 → i 875 s = w s) (hc : isc w 2621 8) (hs : s < cn w 2621) (hn : isc w (2622 + 49 * s + 8) 8) (hv : ∀ n, n < cn w (2622 + 49 * s + 8) → n < 8 → w (2622 + 49 * s + 9 + 5 * n + 4) = -1 ∨ ¬ w (2622 + 49 * s + 9 + 5 * n + 4) < 0 ∧ w (2622 + 49 * s + 9 + 5 * n + 4) < w 460) (h4 : isc w 460 120) (hd : ∀ p, p < cn w 460 → p < 120 → ¬ w (461 + 18 * p + 6) < 0) : am_fx am_P (d + 3) 117 0 [some (.ref 874), some (.int (Int32.ofNat s)), none, none, none] [] (am_wI B i) = some (.inl (some (.int (ldr w s))), am_wI B i) := by
  have h2 := hc.2
  have h3 := hn.2
  have e8 : i 875 (2622 + 49 * s + 8) = Int32.ofNat (cn w (2622 + 49 * s + 8)) := (hw _ (by omega)).trans hn.1
  have h6 := h4.2
  rw [bk_117_0]
  obtain ⟨a, E, ha, -⟩ := lp_inv (fun k (a : Int32) => am_fx am_P (d + 3) 117 4 [some (.ref 874), some (.int (Int32.ofNat s)), some (.int a), some (.int (Int32.ofNat k)), none] [] (am_wI B i)) (fun k a => a = itr (fld w s) k (-1) ∧ (a = -1 ∨ ¬ a < 0)) (cn w (2622 + 49 * s + 8)) (fun k a hk hI => by
    obtain ⟨ha, hp⟩ := hI
    have hst : itr (fld w s) (k + 1) (-1) = fld w s k a := by rw [ha]; rfl
    have e := hw (2622 + 49 * s + 9 + 5 * k + 4) (by omega)
    refine ⟨fld w s k a, ?_, hst.symm, ?_⟩
    · rw [bk_117_4]
      unfold fld
      by_cases g : w (2622 + 49 * s + 9 + 5 * k + 4) = -1
      · simp (disch := omega) only [bk_67_0, bk_66_0, bk_70_0, e8, e, g, z_39, z_390, z_lm1, hM, y_ckd, y_ck2d, y_ond, y_onn, y_oI, y_oIx, y_oJ, y_oV, y_oVx, y_oR, y_oRn, y_oRx, y_b0, y_b1, y_bi, y_bid, y_wIK, y_wIL, y_wII, y_wIJ, y_wIR, y_wIN, y_wIw, y_sI, ↓reduceIte, Nat.reduceEqDiff, eq_self, true_or, or_true, false_or, or_false, and_true, true_and, false_and, and_false, not_true, not_false_eq_true, tf_T, tf_F, y_up1, y_up2, y_xx, y_nx, y_sJ, y_sR, Int32.reduceLT, y_nxK, y_nxL, y_nxR, y_sJK, y_sJL, y_sJR, y_sJN, y_sRK, y_sRL, y_sRN, Nat.add_zero, z_nat, z_lit, z_lit0, z_lit1, z_in0, z_in1, z_addl0, z_lt, z_ltl, z_llt, z_inj, z_injl, z_add, z_addl, z_ladd, z_mul, z_mull, z_lmul, z_neg, z_negl, z_in, z_inl, z_ltT, z_ltF, z_eqF, z_10, z_01, z_litne, z_ne0, z_0ne, z_ne1, z_1ne, z_lt64, z_02, z_03, z_04, z_05, z_12, z_13, z_14, z_15, z_20, z_21, z_23, z_24, z_25, z_30, z_31, z_32, z_34, z_35, z_40, z_41, z_42, z_43, z_45, z_50, z_51, z_52, z_53, z_54]
      · obtain ⟨gp, hp2⟩ := nn_of (hv k hk (by omega)) h4.1 (by omega) g
        have gn : ¬ w (2622 + 49 * s + 9 + 5 * k + 4) < 0 := by rw [gp, z_neg (by omega)]; exact id
        have e2 := hw (461 + 18 * cn w (2622 + 49 * s + 9 + 5 * k + 4) + 6) (by omega)
        have e3 : i 875 (2622 + 49 * s + 9 + 5 * k + 4) = Int32.ofNat (cn w (2622 + 49 * s + 9 + 5 * k + 4)) := e.trans gp
        have gm : ¬ Int32.ofNat (cn w (2622 + 49 * s + 9 + 5 * k + 4)) < 0 := by rw [z_neg (by omega)]; exact id
        by_cases g1 : a = -1
        · simp (disch := omega) only [bk_67_0, bk_66_0, bk_70_0, bk_24_0, bk_23_0, e8, e3, e2, g, gm, g1, z_39, z_390, z_lm1, hM, y_ckd, y_ck2d, y_ond, y_onn, y_oI, y_oIx, y_oJ, y_oV, y_oVx, y_oR, y_oRn, y_oRx, y_b0, y_b1, y_bi, y_bid, y_wIK, y_wIL, y_wII, y_wIJ, y_wIR, y_wIN, y_wIw, y_sI, ↓reduceIte, Nat.reduceEqDiff, eq_self, true_or, or_true, false_or, or_false, and_true, true_and, false_and, and_false, not_true, not_false_eq_true, tf_T, tf_F, y_up1, y_up2, y_xx, y_nx, y_sJ, y_sR, Int32.reduceLT, y_nxK, y_nxL, y_nxR, y_sJK, y_sJL, y_sJR, y_sJN, y_sRK, y_sRL, y_sRN, Nat.add_zero, z_nat, z_lit, z_lit0, z_lit1, z_in0, z_in1, z_addl0, z_lt, z_ltl, z_llt, z_inj, z_injl, z_add, z_addl, z_ladd, z_mul, z_mull, z_lmul, z_neg, z_negl, z_in, z_inl, z_ltT, z_ltF, z_eqF, z_10, z_01, z_litne, z_ne0, z_0ne, z_ne1, z_1ne, z_lt64, z_02, z_03, z_04, z_05, z_12, z_13, z_14, z_15, z_20, z_21, z_23, z_24, z_25, z_30, z_31, z_32, z_34, z_35, z_40, z_41, z_42, z_43, z_45, z_50, z_51, z_52, z_53, z_54]
        · have g3 : ¬ a < 0 := hp.resolve_left g1
          by_cases g2 : w (461 + 18 * cn w (2622 + 49 * s + 9 + 5 * k + 4) + 6) < a
          · simp (disch := omega) only [bk_67_0, bk_66_0, bk_70_0, bk_24_0, bk_23_0, bk_0_0, e8, e3, e2, g, gm, g1, g2, g3, z_39, z_390, hM, y_ckd, y_ck2d, y_ond, y_onn, y_oI, y_oIx, y_oJ, y_oV, y_oVx, y_oR, y_oRn, y_oRx, y_b0, y_b1, y_bi, y_bid, y_wIK, y_wIL, y_wII, y_wIJ, y_wIR, y_wIN, y_wIw, y_sI, ↓reduceIte, Nat.reduceEqDiff, eq_self, true_or, or_true, false_or, or_false, and_true, true_and, false_and, and_false, not_true, not_false_eq_true, tf_T, tf_F, y_up1, y_up2, y_xx, y_nx, y_sJ, y_sR, Int32.reduceLT, y_nxK, y_nxL, y_nxR, y_sJK, y_sJL, y_sJR, y_sJN, y_sRK, y_sRL, y_sRN, Nat.add_zero, z_nat, z_lit, z_lit0, z_lit1, z_in0, z_in1, z_addl0, z_lt, z_ltl, z_llt, z_inj, z_injl, z_add, z_addl, z_ladd, z_mul, z_mull, z_lmul, z_neg, z_negl, z_in, z_inl, z_ltT, z_ltF, z_eqF, z_10, z_01, z_litne, z_ne0, z_0ne, z_ne1, z_1ne, z_lt64, z_02, z_03, z_04, z_05, z_12, z_13, z_14, z_15, z_20, z_21, z_23, z_24, z_25, z_30, z_31, z_32, z_34, z_35, z_40, z_41, z_42, z_43, z_45, z_50, z_51, z_52, z_53, z_54]
          · simp (disch := omega) only [bk_67_0, bk_66_0, bk_70_0, bk_24_0, bk_23_0, bk_0_0, e8, e3, e2, g, gm, g1, g2, g3, z_39, z_390, hM, y_ckd, y_ck2d, y_ond, y_onn, y_oI, y_oIx, y_oJ, y_oV, y_oVx, y_oR, y_oRn, y_oRx, y_b0, y_b1, y_bi, y_bid, y_wIK, y_wIL, y_wII, y_wIJ, y_wIR, y_wIN, y_wIw, y_sI, ↓reduceIte, Nat.reduceEqDiff, eq_self, true_or, or_true, false_or, or_false, and_true, true_and, false_and, and_false, not_true, not_false_eq_true, tf_T, tf_F, y_up1, y_up2, y_xx, y_nx, y_sJ, y_sR, Int32.reduceLT, y_nxK, y_nxL, y_nxR, y_sJK, y_sJL, y_sJR, y_sJN, y_sRK, y_sRL, y_sRN, Nat.add_zero, z_nat, z_lit, z_lit0, z_lit1, z_in0, z_in1, z_addl0, z_lt, z_ltl, z_llt, z_inj, z_injl, z_add, z_addl, z_ladd, z_mul, z_mull, z_lmul, z_neg, z_negl, z_in, z_inl, z_ltT, z_ltF, z_eqF, z_10, z_01, z_litne, z_ne0, z_0ne, z_ne1, z_1ne, z_lt64, z_02, z_03, z_04, z_05, z_12, z_13, z_14, z_15, z_20, z_21, z_23, z_24, z_25, z_30, z_31, z_32, z_34, z_35, z_40, z_41, z_42, z_43, z_45, z_50, z_51, z_52, z_53, z_54]
    · unfold fld
      by_cases g : w (2622 + 49 * s + 9 + 5 * k + 4) = -1
      · rw [if_pos g]
        exact hp
      · obtain ⟨gp, hp2⟩ := nn_of (hv k hk (by omega)) h4.1 (by omega) g
        have h := hd _ hp2 (by omega)
        rw [if_neg g]
        by_cases g1 : a = -1
        · rw [if_pos g1]
          exact Or.inr h
        · rw [if_neg g1]
          by_cases g2 : w (461 + 18 * cn w (2622 + 49 * s + 9 + 5 * k + 4) + 6) < a
          · rw [if_pos g2]
            exact Or.inr h
          · rw [if_neg g2]
            exact hp) (-1) ⟨rfl, Or.inl rfl⟩
  refine E.trans ?_
  rw [bk_117_4]
  unfold ldr
  rw [← ha]
  by_cases g : 0 < a
  · simp (disch := omega) only [bk_67_0, bk_66_0, bk_70_0, bk_1_0, e8, g, hM, y_ckd, y_ck2d, y_ond, y_onn, y_oI, y_oIx, y_oJ, y_oV, y_oVx, y_oR, y_oRn, y_oRx, y_b0, y_b1, y_bi, y_bid, y_wIK, y_wIL, y_wII, y_wIJ, y_wIR, y_wIN, y_wIw, y_sI, ↓reduceIte, Nat.reduceEqDiff, eq_self, true_or, or_true, false_or, or_false, and_true, true_and, false_and, and_false, not_true, not_false_eq_true, tf_T, tf_F, y_up1, y_up2, y_xx, y_nx, y_sJ, y_sR, Int32.reduceLT, y_nxK, y_nxL, y_nxR, y_sJK, y_sJL, y_sJR, y_sJN, y_sRK, y_sRL, y_sRN, Nat.add_zero, z_nat, z_lit, z_lit0, z_lit1, z_in0, z_in1, z_addl0, z_lt, z_ltl, z_llt, z_inj, z_injl, z_add, z_addl, z_ladd, z_mul, z_mull, z_lmul, z_neg, z_negl, z_in, z_inl, z_ltT, z_ltF, z_eqF, z_10, z_01, z_litne, z_ne0, z_0ne, z_ne1, z_1ne, z_lt64, z_02, z_03, z_04, z_05, z_12, z_13, z_14, z_15, z_20, z_21, z_23, z_24, z_25, z_30, z_31, z_32, z_34, z_35, z_40, z_41, z_42, z_43, z_45, z_50, z_51, z_52, z_53, z_54]
  · simp (disch := omega) only [bk_67_0, bk_66_0, bk_70_0, bk_1_0, e8, g, hM, y_ckd, y_ck2d, y_ond, y_onn, y_oI, y_oIx, y_oJ, y_oV, y_oVx, y_oR, y_oRn, y_oRx, y_b0, y_b1, y_bi, y_bid, y_wIK, y_wIL, y_wII, y_wIJ, y_wIR, y_wIN, y_wIw, y_sI, ↓reduceIte, Nat.reduceEqDiff, eq_self, true_or, or_true, false_or, or_false, and_true, true_and, false_and, and_false, not_true, not_false_eq_true, tf_T, tf_F, y_up1, y_up2, y_xx, y_nx, y_sJ, y_sR, Int32.reduceLT, y_nxK, y_nxL, y_nxR, y_sJK, y_sJL, y_sJR, y_sJN, y_sRK, y_sRL, y_sRN, Nat.add_zero, z_nat, z_lit, z_lit0, z_lit1, z_in0, z_in1, z_addl0, z_lt, z_ltl, z_llt, z_inj, z_injl, z_add, z_addl, z_ladd, z_mul, z_mull, z_lmul, z_neg, z_negl, z_in, z_inl, z_ltT, z_ltF, z_eqF, z_10, z_01, z_litne, z_ne0, z_0ne, z_ne1, z_1ne, z_lt64, z_02, z_03, z_04, z_05, z_12, z_13, z_14, z_15, z_20, z_21, z_23, z_24, z_25, z_30, z_31, z_32, z_34, z_35, z_40, z_41, z_42, z_43, z_45, z_50, z_51, z_52, z_53, z_54]
theorem c_nothing (hY : Yd B b) : ∃ j, am_fx am_P (d + 1) 192 0 [some (.ref (b + 7))] [] (am_wI B i) = some (.inl none, am_wI B j) ∧ j (b + 7) 3 = 0 ∧ (∀ m, m < 6 → j (b + 10) m = 0) ∧ (∀ k, k ≠ 3 → j (b + 7) k = i (b + 7) k) ∧ ∀ q k, q ≠ b + 7 → q ≠ b + 10 → j q k = i q k := by
  obtain ⟨j, E, f0, f⟩ := c_fill (B := B) (d := d) (i := am_up2 i (b + 7) 3 0) (q := b + 10) (n := 6) (v := 0) (by simp (disch := omega) only [hY]) (by simp (disch := omega) only [hY]) (by omega)
  refine ⟨j, ?_, ?_, f0, fun k hk => ?_, fun q k h1 h2 => ?_⟩
  · rw [bk_192_0]
    simp (disch := omega) only [E, hY, y_ckd, y_ck2d, y_ond, y_onn, y_oI, y_oIx, y_oJ, y_oV, y_oVx, y_oR, y_oRn, y_oRx, y_b0, y_b1, y_bi, y_bid, y_wIK, y_wIL, y_wII, y_wIJ, y_wIR, y_wIN, y_wIw, y_sI, ↓reduceIte, Nat.reduceEqDiff, eq_self, true_or, or_true, false_or, or_false, and_true, true_and, false_and, and_false, not_true, not_false_eq_true, tf_T, tf_F, y_up1, y_up2, y_xx, y_nx, y_sJ, y_sR, Int32.reduceLT, y_nxK, y_nxL, y_nxR, y_sJK, y_sJL, y_sJR, y_sJN, y_sRK, y_sRL, y_sRN, Nat.add_zero, z_nat, z_lit, z_lit0, z_lit1, z_in0, z_in1, z_addl0, z_lt, z_ltl, z_llt, z_inj, z_injl, z_add, z_addl, z_ladd, z_mul, z_mull, z_lmul, z_neg, z_negl, z_in, z_inl, z_ltT, z_ltF, z_eqF, z_10, z_01, z_litne, z_ne0, z_0ne, z_ne1, z_1ne, z_lt64, z_02, z_03, z_04, z_05, z_12, z_13, z_14, z_15, z_20, z_21, z_23, z_24, z_25, z_30, z_31, z_32, z_34, z_35, z_40, z_41, z_42, z_43, z_45, z_50, z_51, z_52, z_53, z_54]
  · rw [f _ _ (by omega), y_up1 rfl rfl]
  · rw [f _ _ (by omega), y_up2 (by omega)]
  · rw [f _ _ h2, y_up2 (by omega)]
theorem c_tellO (hY : Yd B b) : ∃ j, am_fx am_P (d + 2) 191 0 [some (.ref (b + 7)), some (.int x), some (.int y), some (.int z)] [] (am_wI B i) = some (.inl none, am_wI B j) ∧ j (b + 7) 3 = 0 ∧ (∀ m, m < 6 → j (b + 10) m = if m = 0 then y else if m = 1 then z else if m = 4 then x else 0) ∧ (∀ k, k ≠ 3 → j (b + 7) k = i (b + 7) k) ∧ ∀ q k, q ≠ b + 7 → q ≠ b + 10 → j q k = i q k := by
  obtain ⟨j, E, f0, f1, f2, f3⟩ := c_nothing (B := B) (d := d) (i := i) hY
  refine ⟨am_up2 (am_up2 (am_up2 j (b + 10) 0 y) (b + 10) 1 z) (b + 10) 4 x, ?_, ?_, fun m hm => ?_, fun k hk => ?_, fun q k h1 h2 => ?_⟩
  · rw [bk_191_0]
    simp (disch := omega) only [E, bk_191_18, hY, y_ckd, y_ck2d, y_ond, y_onn, y_oI, y_oIx, y_oJ, y_oV, y_oVx, y_oR, y_oRn, y_oRx, y_b0, y_b1, y_bi, y_bid, y_wIK, y_wIL, y_wII, y_wIJ, y_wIR, y_wIN, y_wIw, y_sI, ↓reduceIte, Nat.reduceEqDiff, eq_self, true_or, or_true, false_or, or_false, and_true, true_and, false_and, and_false, not_true, not_false_eq_true, tf_T, tf_F, y_up1, y_up2, y_xx, y_nx, y_sJ, y_sR, Int32.reduceLT, y_nxK, y_nxL, y_nxR, y_sJK, y_sJL, y_sJR, y_sJN, y_sRK, y_sRL, y_sRN, Nat.add_zero, z_nat, z_lit, z_lit0, z_lit1, z_in0, z_in1, z_addl0, z_lt, z_ltl, z_llt, z_inj, z_injl, z_add, z_addl, z_ladd, z_mul, z_mull, z_lmul, z_neg, z_negl, z_in, z_inl, z_ltT, z_ltF, z_eqF, z_10, z_01, z_litne, z_ne0, z_0ne, z_ne1, z_1ne, z_lt64, z_02, z_03, z_04, z_05, z_12, z_13, z_14, z_15, z_20, z_21, z_23, z_24, z_25, z_30, z_31, z_32, z_34, z_35, z_40, z_41, z_42, z_43, z_45, z_50, z_51, z_52, z_53, z_54]
  · rw [y_up2 (by omega), y_up2 (by omega), y_up2 (by omega)]
    exact f0
  · by_cases e4 : m = 4
    · subst e4
      exact y_up1 rfl rfl
    · rw [y_up2 (by omega)]
      by_cases e1 : m = 1
      · subst e1
        exact y_up1 rfl rfl
      · rw [y_up2 (by omega)]
        by_cases e0 : m = 0
        · subst e0
          exact y_up1 rfl rfl
        · rw [y_up2 (by omega), if_neg e0, if_neg e1, if_neg e4]
          exact f1 m hm
  · rw [y_up2 (by omega), y_up2 (by omega), y_up2 (by omega)]
    exact f2 k hk
  · rw [y_up2 (by omega), y_up2 (by omega), y_up2 (by omega)]
    exact f3 q k h1 h2
theorem tgo_all : ∀ (hr : Bool) (k : Fin 5), ((((0 : Int32) ||| (if hr then 8 else 0)).toUInt32 >>> ((Int32.ofNat k.val).toUInt32 &&& Int32.toUInt32 31)).toInt32 &&& 1) = if (if k.val = 3 then hr else false) = true then 1 else 0 := by decide +kernel
theorem tgo_ok {s : Nat} {h : Int32} (e : h = w (2622 + 49 * s + 3)) (hh : w (2622 + 49 * s + 3) = 0 ∨ w (2622 + 49 * s + 3) = 1) : TgC ((0 : Int32) ||| if h = 0 then 0 else 8) (fctO w s x y z).1 := by
  intro k hk
  have hA := tgo_all (decide (w (2622 + 49 * s + 3) = 1)) ⟨k, hk⟩
  have e1 : (if h = 0 then (0 : Int32) else 8) = if decide (w (2622 + 49 * s + 3) = 1) = true then 8 else 0 := by
    rw [e]
    rcases hh with g | g <;> rw [g] <;> decide
  rw [e1]
  exact hA
end Ldr
