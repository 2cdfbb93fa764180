/-! THE GANGS OF A DAY, THE CLASS: made by wip/whole/math/90e.py. -/
section Gang2
variable {B : am_A} {i j : Nat → Nat → Int32} {w v : Nat → Int32} {d b q n p s k g r : Nat} {x y z D : Int32} {t : Option Nat}
theorem lwA_ne {z : Nat} (h : z ≠ 2622 + 49 * s + 1) : lwA w g s z = w z := by
  unfold lwA
  split
  · exact wu_ne h
  · rfl
theorem lwB_ne {z : Nat} (h3 : z ≠ 3) (h : z < 461 ∨ 461 + 18 * cn w 460 ≤ z) : lwB t w s z = w z := by
  unfold lwB
  cases t with
  | none => rfl
  | some k =>
    dsimp only
    split
    · exact chW_ne h3 h
    · rfl
theorem gaS_ne {z : Nat} (h3 : z ≠ 3) (h : z < 461 ∨ z = 2621 ∨ 3014 ≤ z) (hs : w (3020 + 2 * g + 1) < 0 ∨ cn w (3020 + 2 * g + 1) < 8) (h4 : cn w 460 ≤ 120) : gaS t g w z = w z := by
  unfold gaS
  by_cases g0 : w (3020 + 2 * g + 1) < 0
  · rw [if_pos g0]
  · rw [if_neg g0]
    have hs' := hs.resolve_left g0
    have e4 : cn (lwA w g (cn w (3020 + 2 * g + 1))) 460 = cn w 460 := by unfold cn; rw [lwA_ne (by omega)]
    rw [lwB_ne h3 (by omega), lwA_ne (by omega)]
theorem Wd_lwA (h : Wd w) (hg : g < cn w 3019) (g8 : g < 8) (hs : s < cn w 2621) (s8 : s < 8) : Wd (lwA w g s) := by
  unfold lwA
  obtain ⟨a0, a1, -⟩ := h.2.2.2.2.1.1 s hs s8
  split
  · exact Wd_wrk h hs s8 (wrk_r a1 (h.2.2.2.2.2.1 g hg g8).1)
  · exact h
theorem c_wk0n (hY : Yd B b) (hb : b + 260 ≤ 874) (hR : Rep B i b w) (hW : Wd w) (hg : g < cn w 3019) (g8 : g < 8) (hs : s < cn w 2621) (s8 : s < 8) : ∃ j, am_fx am_P (d + 1) 247 0 [some (.ref b), some (.int (Int32.ofNat g)), some (.ref (b + 212 + 6 * s)), some .null] [] (am_wI B i) = am_fx am_P (d + 1) 247 37 [some (.ref b), some (.int (Int32.ofNat g)), some (.ref (b + 212 + 6 * s)), some .null] [] (am_wI B j) ∧ Rep B j b (lwA w g s) ∧ ∀ q k, (q < b ∨ b + 260 ≤ q) → j q k = i q k := by
  have hc := hW.1.2.2.2.1
  obtain ⟨hn, hv⟩ := ShW_v hW hs s8
  obtain ⟨a3, a1, a0, a2, a4, a5, a6, a7, a8, a9⟩ := hR.2.2.2.1.2 s hs s8
  have kg := (hR.2.2.2.2.1.2 g hg g8).1
  have Ef := c_fit (d := d) hY hR.2.2.2.1 hc hs hn
  unfold lwA
  by_cases c : (w (2622 + 49 * s) = 1 ∨ w (2622 + 49 * s) = 3) ∧ nfit w s = w (2622 + 49 * s + 8)
  · rw [if_pos c]
    refine ⟨_, ?_, Rep_wrk (x := mx 0 (w (2622 + 49 * s + 1) - w (3020 + 2 * g))) hR hb hs s8, fun q k hq => y_up2 (by omega)⟩
    by_cases gx : 0 < w (2622 + 49 * s + 1) - w (3020 + 2 * g)
    · rw [show mx 0 (w (2622 + 49 * s + 1) - w (3020 + 2 * g)) = w (2622 + 49 * s + 1) - w (3020 + 2 * g) from if_pos gx]
      rw [bk_247_0]
      rcases c.1 with c1 | c1
      · simp (disch := omega) only [bk_229_0, bk_1_0, a3, a1, a8, kg, Ef, c.2, c1, gx, hY, y_ckd, y_ck2d, y_ond, y_onn, y_oI, y_oIx, y_oJ, y_oV, y_oVx, y_oR, y_oRn, y_oRx, y_b0, y_b1, y_bi, y_bid, y_wIK, y_wIL, y_wII, y_wIJ, y_wIR, y_wIN, y_wIw, y_sI, ↓reduceIte, Nat.reduceEqDiff, eq_self, true_or, or_true, false_or, or_false, and_true, true_and, false_and, and_false, not_true, not_false_eq_true, tf_T, tf_F, y_up1, y_up2, y_xx, y_nx, y_sJ, y_sR, Int32.reduceLT, y_nxK, y_nxL, y_nxR, y_sJK, y_sJL, y_sJR, y_sJN, y_sRK, y_sRL, y_sRN, Nat.add_zero, z_nat, z_lit, z_lit0, z_lit1, z_in0, z_in1, z_addl0, z_lt, z_ltl, z_llt, z_inj, z_injl, z_add, z_addl, z_ladd, z_mul, z_mull, z_lmul, z_neg, z_negl, z_in, z_inl, z_ltT, z_ltF, z_eqF, z_10, z_01, z_litne, z_ne0, z_0ne, z_ne1, z_1ne, z_lt64, z_02, z_03, z_04, z_05, z_12, z_13, z_14, z_15, z_20, z_21, z_23, z_24, z_25, z_30, z_31, z_32, z_34, z_35, z_40, z_41, z_42, z_43, z_45, z_50, z_51, z_52, z_53, z_54]
      · simp (disch := omega) only [bk_229_0, bk_1_0, a3, a1, a8, kg, Ef, c.2, c1, gx, hY, y_ckd, y_ck2d, y_ond, y_onn, y_oI, y_oIx, y_oJ, y_oV, y_oVx, y_oR, y_oRn, y_oRx, y_b0, y_b1, y_bi, y_bid, y_wIK, y_wIL, y_wII, y_wIJ, y_wIR, y_wIN, y_wIw, y_sI, ↓reduceIte, Nat.reduceEqDiff, eq_self, true_or, or_true, false_or, or_false, and_true, true_and, false_and, and_false, not_true, not_false_eq_true, tf_T, tf_F, y_up1, y_up2, y_xx, y_nx, y_sJ, y_sR, Int32.reduceLT, y_nxK, y_nxL, y_nxR, y_sJK, y_sJL, y_sJR, y_sJN, y_sRK, y_sRL, y_sRN, Nat.add_zero, z_nat, z_lit, z_lit0, z_lit1, z_in0, z_in1, z_addl0, z_lt, z_ltl, z_llt, z_inj, z_injl, z_add, z_addl, z_ladd, z_mul, z_mull, z_lmul, z_neg, z_negl, z_in, z_inl, z_ltT, z_ltF, z_eqF, z_10, z_01, z_litne, z_ne0, z_0ne, z_ne1, z_1ne, z_lt64, z_02, z_03, z_04, z_05, z_12, z_13, z_14, z_15, z_20, z_21, z_23, z_24, z_25, z_30, z_31, z_32, z_34, z_35, z_40, z_41, z_42, z_43, z_45, z_50, z_51, z_52, z_53, z_54]
    · rw [show mx 0 (w (2622 + 49 * s + 1) - w (3020 + 2 * g)) = 0 from if_neg gx]
      rw [bk_247_0]
      rcases c.1 with c1 | c1
      · simp (disch := omega) only [bk_229_0, bk_1_0, a3, a1, a8, kg, Ef, c.2, c1, gx, hY, y_ckd, y_ck2d, y_ond, y_onn, y_oI, y_oIx, y_oJ, y_oV, y_oVx, y_oR, y_oRn, y_oRx, y_b0, y_b1, y_bi, y_bid, y_wIK, y_wIL, y_wII, y_wIJ, y_wIR, y_wIN, y_wIw, y_sI, ↓reduceIte, Nat.reduceEqDiff, eq_self, true_or, or_true, false_or, or_false, and_true, true_and, false_and, and_false, not_true, not_false_eq_true, tf_T, tf_F, y_up1, y_up2, y_xx, y_nx, y_sJ, y_sR, Int32.reduceLT, y_nxK, y_nxL, y_nxR, y_sJK, y_sJL, y_sJR, y_sJN, y_sRK, y_sRL, y_sRN, Nat.add_zero, z_nat, z_lit, z_lit0, z_lit1, z_in0, z_in1, z_addl0, z_lt, z_ltl, z_llt, z_inj, z_injl, z_add, z_addl, z_ladd, z_mul, z_mull, z_lmul, z_neg, z_negl, z_in, z_inl, z_ltT, z_ltF, z_eqF, z_10, z_01, z_litne, z_ne0, z_0ne, z_ne1, z_1ne, z_lt64, z_02, z_03, z_04, z_05, z_12, z_13, z_14, z_15, z_20, z_21, z_23, z_24, z_25, z_30, z_31, z_32, z_34, z_35, z_40, z_41, z_42, z_43, z_45, z_50, z_51, z_52, z_53, z_54]
      · simp (disch := omega) only [bk_229_0, bk_1_0, a3, a1, a8, kg, Ef, c.2, c1, gx, hY, y_ckd, y_ck2d, y_ond, y_onn, y_oI, y_oIx, y_oJ, y_oV, y_oVx, y_oR, y_oRn, y_oRx, y_b0, y_b1, y_bi, y_bid, y_wIK, y_wIL, y_wII, y_wIJ, y_wIR, y_wIN, y_wIw, y_sI, ↓reduceIte, Nat.reduceEqDiff, eq_self, true_or, or_true, false_or, or_false, and_true, true_and, false_and, and_false, not_true, not_false_eq_true, tf_T, tf_F, y_up1, y_up2, y_xx, y_nx, y_sJ, y_sR, Int32.reduceLT, y_nxK, y_nxL, y_nxR, y_sJK, y_sJL, y_sJR, y_sJN, y_sRK, y_sRL, y_sRN, Nat.add_zero, z_nat, z_lit, z_lit0, z_lit1, z_in0, z_in1, z_addl0, z_lt, z_ltl, z_llt, z_inj, z_injl, z_add, z_addl, z_ladd, z_mul, z_mull, z_lmul, z_neg, z_negl, z_in, z_inl, z_ltT, z_ltF, z_eqF, z_10, z_01, z_litne, z_ne0, z_0ne, z_ne1, z_1ne, z_lt64, z_02, z_03, z_04, z_05, z_12, z_13, z_14, z_15, z_20, z_21, z_23, z_24, z_25, z_30, z_31, z_32, z_34, z_35, z_40, z_41, z_42, z_43, z_45, z_50, z_51, z_52, z_53, z_54]
  · rw [if_neg c]
    refine ⟨i, ?_, hR, fun _ _ _ => rfl⟩
    rw [bk_247_0]
    by_cases c1 : w (2622 + 49 * s) = 1
    · have c2 : ¬ nfit w s = w (2622 + 49 * s + 8) := fun q => c ⟨Or.inl c1, q⟩
      simp (disch := omega) only [bk_229_0, a3, a8, Ef, c1, c2, hY, y_ckd, y_ck2d, y_ond, y_onn, y_oI, y_oIx, y_oJ, y_oV, y_oVx, y_oR, y_oRn, y_oRx, y_b0, y_b1, y_bi, y_bid, y_wIK, y_wIL, y_wII, y_wIJ, y_wIR, y_wIN, y_wIw, y_sI, ↓reduceIte, Nat.reduceEqDiff, eq_self, true_or, or_true, false_or, or_false, and_true, true_and, false_and, and_false, not_true, not_false_eq_true, tf_T, tf_F, y_up1, y_up2, y_xx, y_nx, y_sJ, y_sR, Int32.reduceLT, y_nxK, y_nxL, y_nxR, y_sJK, y_sJL, y_sJR, y_sJN, y_sRK, y_sRL, y_sRN, Nat.add_zero, z_nat, z_lit, z_lit0, z_lit1, z_in0, z_in1, z_addl0, z_lt, z_ltl, z_llt, z_inj, z_injl, z_add, z_addl, z_ladd, z_mul, z_mull, z_lmul, z_neg, z_negl, z_in, z_inl, z_ltT, z_ltF, z_eqF, z_10, z_01, z_litne, z_ne0, z_0ne, z_ne1, z_1ne, z_lt64, z_02, z_03, z_04, z_05, z_12, z_13, z_14, z_15, z_20, z_21, z_23, z_24, z_25, z_30, z_31, z_32, z_34, z_35, z_40, z_41, z_42, z_43, z_45, z_50, z_51, z_52, z_53, z_54]
    · by_cases c3 : w (2622 + 49 * s) = 3
      · have c2 : ¬ nfit w s = w (2622 + 49 * s + 8) := fun q => c ⟨Or.inr c3, q⟩
        simp (disch := omega) only [bk_229_0, a3, a8, Ef, c3, c2, hY, y_ckd, y_ck2d, y_ond, y_onn, y_oI, y_oIx, y_oJ, y_oV, y_oVx, y_oR, y_oRn, y_oRx, y_b0, y_b1, y_bi, y_bid, y_wIK, y_wIL, y_wII, y_wIJ, y_wIR, y_wIN, y_wIw, y_sI, ↓reduceIte, Nat.reduceEqDiff, eq_self, true_or, or_true, false_or, or_false, and_true, true_and, false_and, and_false, not_true, not_false_eq_true, tf_T, tf_F, y_up1, y_up2, y_xx, y_nx, y_sJ, y_sR, Int32.reduceLT, y_nxK, y_nxL, y_nxR, y_sJK, y_sJL, y_sJR, y_sJN, y_sRK, y_sRL, y_sRN, Nat.add_zero, z_nat, z_lit, z_lit0, z_lit1, z_in0, z_in1, z_addl0, z_lt, z_ltl, z_llt, z_inj, z_injl, z_add, z_addl, z_ladd, z_mul, z_mull, z_lmul, z_neg, z_negl, z_in, z_inl, z_ltT, z_ltF, z_eqF, z_10, z_01, z_litne, z_ne0, z_0ne, z_ne1, z_1ne, z_lt64, z_02, z_03, z_04, z_05, z_12, z_13, z_14, z_15, z_20, z_21, z_23, z_24, z_25, z_30, z_31, z_32, z_34, z_35, z_40, z_41, z_42, z_43, z_45, z_50, z_51, z_52, z_53, z_54]
      · simp (disch := omega) only [bk_229_0, a3, c1, c3, hY, y_ckd, y_ck2d, y_ond, y_onn, y_oI, y_oIx, y_oJ, y_oV, y_oVx, y_oR, y_oRn, y_oRx, y_b0, y_b1, y_bi, y_bid, y_wIK, y_wIL, y_wII, y_wIJ, y_wIR, y_wIN, y_wIw, y_sI, ↓reduceIte, Nat.reduceEqDiff, eq_self, true_or, or_true, false_or, or_false, and_true, true_and, false_and, and_false, not_true, not_false_eq_true, tf_T, tf_F, y_up1, y_up2, y_xx, y_nx, y_sJ, y_sR, Int32.reduceLT, y_nxK, y_nxL, y_nxR, y_sJK, y_sJL, y_sJR, y_sJN, y_sRK, y_sRL, y_sRN, Nat.add_zero, z_nat, z_lit, z_lit0, z_lit1, z_in0, z_in1, z_addl0, z_lt, z_ltl, z_llt, z_inj, z_injl, z_add, z_addl, z_ladd, z_mul, z_mull, z_lmul, z_neg, z_negl, z_in, z_inl, z_ltT, z_ltF, z_eqF, z_10, z_01, z_litne, z_ne0, z_0ne, z_ne1, z_1ne, z_lt64, z_02, z_03, z_04, z_05, z_12, z_13, z_14, z_15, z_20, z_21, z_23, z_24, z_25, z_30, z_31, z_32, z_34, z_35, z_40, z_41, z_42, z_43, z_45, z_50, z_51, z_52, z_53, z_54]
theorem c_wk0r (hY : Yd B b) (hb : b + 260 ≤ 874) (hR : Rep B i b w) (hW : Wd w) (hg : g < cn w 3019) (g8 : g < 8) (hs : s < cn w 2621) (s8 : s < 8) : ∃ j, am_fx am_P (d + 1) 247 0 [some (.ref b), some (.int (Int32.ofNat g)), some (.ref (b + 212 + 6 * s)), some (.ref r)] [] (am_wI B i) = am_fx am_P (d + 1) 247 37 [some (.ref b), some (.int (Int32.ofNat g)), some (.ref (b + 212 + 6 * s)), some (.ref r)] [] (am_wI B j) ∧ Rep B j b (lwA w g s) ∧ ∀ q k, (q < b ∨ b + 260 ≤ q) → j q k = i q k := by
  have hc := hW.1.2.2.2.1
  obtain ⟨hn, hv⟩ := ShW_v hW hs s8
  obtain ⟨a3, a1, a0, a2, a4, a5, a6, a7, a8, a9⟩ := hR.2.2.2.1.2 s hs s8
  have kg := (hR.2.2.2.2.1.2 g hg g8).1
  have Ef := c_fit (d := d) hY hR.2.2.2.1 hc hs hn
  unfold lwA
  by_cases c : (w (2622 + 49 * s) = 1 ∨ w (2622 + 49 * s) = 3) ∧ nfit w s = w (2622 + 49 * s + 8)
  · rw [if_pos c]
    refine ⟨_, ?_, Rep_wrk (x := mx 0 (w (2622 + 49 * s + 1) - w (3020 + 2 * g))) hR hb hs s8, fun q k hq => y_up2 (by omega)⟩
    by_cases gx : 0 < w (2622 + 49 * s + 1) - w (3020 + 2 * g)
    · rw [show mx 0 (w (2622 + 49 * s + 1) - w (3020 + 2 * g)) = w (2622 + 49 * s + 1) - w (3020 + 2 * g) from if_pos gx]
      rw [bk_247_0_RIRR_]
      rcases c.1 with c1 | c1
      · simp (disch := omega) only [bk_229_0, bk_1_0, a3, a1, a8, kg, Ef, c.2, c1, gx, hY, y_ckd, y_ck2d, y_ond, y_onn, y_oI, y_oIx, y_oJ, y_oV, y_oVx, y_oR, y_oRn, y_oRx, y_b0, y_b1, y_bi, y_bid, y_wIK, y_wIL, y_wII, y_wIJ, y_wIR, y_wIN, y_wIw, y_sI, ↓reduceIte, Nat.reduceEqDiff, eq_self, true_or, or_true, false_or, or_false, and_true, true_and, false_and, and_false, not_true, not_false_eq_true, tf_T, tf_F, y_up1, y_up2, y_xx, y_nx, y_sJ, y_sR, Int32.reduceLT, y_nxK, y_nxL, y_nxR, y_sJK, y_sJL, y_sJR, y_sJN, y_sRK, y_sRL, y_sRN, Nat.add_zero, z_nat, z_lit, z_lit0, z_lit1, z_in0, z_in1, z_addl0, z_lt, z_ltl, z_llt, z_inj, z_injl, z_add, z_addl, z_ladd, z_mul, z_mull, z_lmul, z_neg, z_negl, z_in, z_inl, z_ltT, z_ltF, z_eqF, z_10, z_01, z_litne, z_ne0, z_0ne, z_ne1, z_1ne, z_lt64, z_02, z_03, z_04, z_05, z_12, z_13, z_14, z_15, z_20, z_21, z_23, z_24, z_25, z_30, z_31, z_32, z_34, z_35, z_40, z_41, z_42, z_43, z_45, z_50, z_51, z_52, z_53, z_54]
      · simp (disch := omega) only [bk_229_0, bk_1_0, a3, a1, a8, kg, Ef, c.2, c1, gx, hY, y_ckd, y_ck2d, y_ond, y_onn, y_oI, y_oIx, y_oJ, y_oV, y_oVx, y_oR, y_oRn, y_oRx, y_b0, y_b1, y_bi, y_bid, y_wIK, y_wIL, y_wII, y_wIJ, y_wIR, y_wIN, y_wIw, y_sI, ↓reduceIte, Nat.reduceEqDiff, eq_self, true_or, or_true, false_or, or_false, and_true, true_and, false_and, and_false, not_true, not_false_eq_true, tf_T, tf_F, y_up1, y_up2, y_xx, y_nx, y_sJ, y_sR, Int32.reduceLT, y_nxK, y_nxL, y_nxR, y_sJK, y_sJL, y_sJR, y_sJN, y_sRK, y_sRL, y_sRN, Nat.add_zero, z_nat, z_lit, z_lit0, z_lit1, z_in0, z_in1, z_addl0, z_lt, z_ltl, z_llt, z_inj, z_injl, z_add, z_addl, z_ladd, z_mul, z_mull, z_lmul, z_neg, z_negl, z_in, z_inl, z_ltT, z_ltF, z_eqF, z_10, z_01, z_litne, z_ne0, z_0ne, z_ne1, z_1ne, z_lt64, z_02, z_03, z_04, z_05, z_12, z_13, z_14, z_15, z_20, z_21, z_23, z_24, z_25, z_30, z_31, z_32, z_34, z_35, z_40, z_41, z_42, z_43, z_45, z_50, z_51, z_52, z_53, z_54]
    · rw [show mx 0 (w (2622 + 49 * s + 1) - w (3020 + 2 * g)) = 0 from if_neg gx]
      rw [bk_247_0_RIRR_]
      rcases c.1 with c1 | c1
      · simp (disch := omega) only [bk_229_0, bk_1_0, a3, a1, a8, kg, Ef, c.2, c1, gx, hY, y_ckd, y_ck2d, y_ond, y_onn, y_oI, y_oIx, y_oJ, y_oV, y_oVx, y_oR, y_oRn, y_oRx, y_b0, y_b1, y_bi, y_bid, y_wIK, y_wIL, y_wII, y_wIJ, y_wIR, y_wIN, y_wIw, y_sI, ↓reduceIte, Nat.reduceEqDiff, eq_self, true_or, or_true, false_or, or_false, and_true, true_and, false_and, and_false, not_true, not_false_eq_true, tf_T, tf_F, y_up1, y_up2, y_xx, y_nx, y_sJ, y_sR, Int32.reduceLT, y_nxK, y_nxL, y_nxR, y_sJK, y_sJL, y_sJR, y_sJN, y_sRK, y_sRL, y_sRN, Nat.add_zero, z_nat, z_lit, z_lit0, z_lit1, z_in0, z_in1, z_addl0, z_lt, z_ltl, z_llt, z_inj, z_injl, z_add, z_addl, z_ladd, z_mul, z_mull, z_lmul, z_neg, z_negl, z_in, z_inl, z_ltT, z_ltF, z_eqF, z_10, z_01, z_litne, z_ne0, z_0ne, z_ne1, z_1ne, z_lt64, z_02, z_03, z_04, z_05, z_12, z_13, z_14, z_15, z_20, z_21, z_23, z_24, z_25, z_30, z_31, z_32, z_34, z_35, z_40, z_41, z_42, z_43, z_45, z_50, z_51, z_52, z_53, z_54]
      · simp (disch := omega) only [bk_229_0, bk_1_0, a3, a1, a8, kg, Ef, c.2, c1, gx, hY, y_ckd, y_ck2d, y_ond, y_onn, y_oI, y_oIx, y_oJ, y_oV, y_oVx, y_oR, y_oRn, y_oRx, y_b0, y_b1, y_bi, y_bid, y_wIK, y_wIL, y_wII, y_wIJ, y_wIR, y_wIN, y_wIw, y_sI, ↓reduceIte, Nat.reduceEqDiff, eq_self, true_or, or_true, false_or, or_false, and_true, true_and, false_and, and_false, not_true, not_false_eq_true, tf_T, tf_F, y_up1, y_up2, y_xx, y_nx, y_sJ, y_sR, Int32.reduceLT, y_nxK, y_nxL, y_nxR, y_sJK, y_sJL, y_sJR, y_sJN, y_sRK, y_sRL, y_sRN, Nat.add_zero, z_nat, z_lit, z_lit0, z_lit1, z_in0, z_in1, z_addl0, z_lt, z_ltl, z_llt, z_inj, z_injl, z_add, z_addl, z_ladd, z_mul, z_mull, z_lmul, z_neg, z_negl, z_in, z_inl, z_ltT, z_ltF, z_eqF, z_10, z_01, z_litne, z_ne0, z_0ne, z_ne1, z_1ne, z_lt64, z_02, z_03, z_04, z_05, z_12, z_13, z_14, z_15, z_20, z_21, z_23, z_24, z_25, z_30, z_31, z_32, z_34, z_35, z_40, z_41, z_42, z_43, z_45, z_50, z_51, z_52, z_53, z_54]
  · rw [if_neg c]
    refine ⟨i, ?_, hR, fun _ _ _ => rfl⟩
    rw [bk_247_0_RIRR_]
    by_cases c1 : w (2622 + 49 * s) = 1
    · have c2 : ¬ nfit w s = w (2622 + 49 * s + 8) := fun q => c ⟨Or.inl c1, q⟩
      simp (disch := omega) only [bk_229_0, a3, a8, Ef, c1, c2, hY, y_ckd, y_ck2d, y_ond, y_onn, y_oI, y_oIx, y_oJ, y_oV, y_oVx, y_oR, y_oRn, y_oRx, y_b0, y_b1, y_bi, y_bid, y_wIK, y_wIL, y_wII, y_wIJ, y_wIR, y_wIN, y_wIw, y_sI, ↓reduceIte, Nat.reduceEqDiff, eq_self, true_or, or_true, false_or, or_false, and_true, true_and, false_and, and_false, not_true, not_false_eq_true, tf_T, tf_F, y_up1, y_up2, y_xx, y_nx, y_sJ, y_sR, Int32.reduceLT, y_nxK, y_nxL, y_nxR, y_sJK, y_sJL, y_sJR, y_sJN, y_sRK, y_sRL, y_sRN, Nat.add_zero, z_nat, z_lit, z_lit0, z_lit1, z_in0, z_in1, z_addl0, z_lt, z_ltl, z_llt, z_inj, z_injl, z_add, z_addl, z_ladd, z_mul, z_mull, z_lmul, z_neg, z_negl, z_in, z_inl, z_ltT, z_ltF, z_eqF, z_10, z_01, z_litne, z_ne0, z_0ne, z_ne1, z_1ne, z_lt64, z_02, z_03, z_04, z_05, z_12, z_13, z_14, z_15, z_20, z_21, z_23, z_24, z_25, z_30, z_31, z_32, z_34, z_35, z_40, z_41, z_42, z_43, z_45, z_50, z_51, z_52, z_53, z_54]
    · by_cases c3 : w (2622 + 49 * s) = 3
      · have c2 : ¬ nfit w s = w (2622 + 49 * s + 8) := fun q => c ⟨Or.inr c3, q⟩
        simp (disch := omega) only [bk_229_0, a3, a8, Ef, c3, c2, hY, y_ckd, y_ck2d, y_ond, y_onn, y_oI, y_oIx, y_oJ, y_oV, y_oVx, y_oR, y_oRn, y_oRx, y_b0, y_b1, y_bi, y_bid, y_wIK, y_wIL, y_wII, y_wIJ, y_wIR, y_wIN, y_wIw, y_sI, ↓reduceIte, Nat.reduceEqDiff, eq_self, true_or, or_true, false_or, or_false, and_true, true_and, false_and, and_false, not_true, not_false_eq_true, tf_T, tf_F, y_up1, y_up2, y_xx, y_nx, y_sJ, y_sR, Int32.reduceLT, y_nxK, y_nxL, y_nxR, y_sJK, y_sJL, y_sJR, y_sJN, y_sRK, y_sRL, y_sRN, Nat.add_zero, z_nat, z_lit, z_lit0, z_lit1, z_in0, z_in1, z_addl0, z_lt, z_ltl, z_llt, z_inj, z_injl, z_add, z_addl, z_ladd, z_mul, z_mull, z_lmul, z_neg, z_negl, z_in, z_inl, z_ltT, z_ltF, z_eqF, z_10, z_01, z_litne, z_ne0, z_0ne, z_ne1, z_1ne, z_lt64, z_02, z_03, z_04, z_05, z_12, z_13, z_14, z_15, z_20, z_21, z_23, z_24, z_25, z_30, z_31, z_32, z_34, z_35, z_40, z_41, z_42, z_43, z_45, z_50, z_51, z_52, z_53, z_54]
      · simp (disch := omega) only [bk_229_0, a3, c1, c3, hY, y_ckd, y_ck2d, y_ond, y_onn, y_oI, y_oIx, y_oJ, y_oV, y_oVx, y_oR, y_oRn, y_oRx, y_b0, y_b1, y_bi, y_bid, y_wIK, y_wIL, y_wII, y_wIJ, y_wIR, y_wIN, y_wIw, y_sI, ↓reduceIte, Nat.reduceEqDiff, eq_self, true_or, or_true, false_or, or_false, and_true, true_and, false_and, and_false, not_true, not_false_eq_true, tf_T, tf_F, y_up1, y_up2, y_xx, y_nx, y_sJ, y_sR, Int32.reduceLT, y_nxK, y_nxL, y_nxR, y_sJK, y_sJL, y_sJR, y_sJN, y_sRK, y_sRL, y_sRN, Nat.add_zero, z_nat, z_lit, z_lit0, z_lit1, z_in0, z_in1, z_addl0, z_lt, z_ltl, z_llt, z_inj, z_injl, z_add, z_addl, z_ladd, z_mul, z_mull, z_lmul, z_neg, z_negl, z_in, z_inl, z_ltT, z_ltF, z_eqF, z_10, z_01, z_litne, z_ne0, z_0ne, z_ne1, z_1ne, z_lt64, z_02, z_03, z_04, z_05, z_12, z_13, z_14, z_15, z_20, z_21, z_23, z_24, z_25, z_30, z_31, z_32, z_34, z_35, z_40, z_41, z_42, z_43, z_45, z_50, z_51, z_52, z_53, z_54]
theorem c_wk37 (hY : Yd B b) (hb : b + 260 ≤ 874) (hR : Rep B i b w) (hW : Wd w) (hg : g < cn w 3019) (g8 : g < 8) (hs : s < cn w 2621) (s8 : s < 8) (eg : w (3020 + 2 * g + 1) = Int32.ofNat s) (hk : k < cn w 3541) (k10 : k < 10) (er : am_R B (b + 8) k = some r) : ∃ j, am_fx am_P (d + 3) 247 37 [some (.ref b), some (.int (Int32.ofNat g)), some (.ref (b + 212 + 6 * s)), some (.ref r)] [] (am_wI B i) = some (.inl none, am_wI B j) ∧ Rep B j b (lwB (some k) w s) ∧ Wd (lwB (some k) w s) ∧ ∀ q k, (q < b ∨ b + 260 ≤ q) → j q k = i q k := by
  have a3 : i (b + 212 + 6 * s) 3 = w (2622 + 49 * s) := (hR.2.2.2.1.2 s hs s8).1
  unfold lwB
  dsimp only
  by_cases c : w (2622 + 49 * s) = 1 ∨ w (2622 + 49 * s) = 2 ∨ w (2622 + 49 * s) = 3
  · rw [if_pos c]
    have E230 : ∀ j : Nat → Nat → Int32, j (b + 212 + 6 * s) 3 = w (2622 + 49 * s) → am_fx am_P (d + 2) 230 0 [some (.ref (b + 212 + 6 * s))] [] (am_wI B j) = some (.inl (some (.int 1)), am_wI B j) := by
      intro j ej
      rw [bk_230_0]
      rcases c with c | c | c
      · simp (disch := omega) only [ej, c, hY, y_ckd, y_ck2d, y_ond, y_onn, y_oI, y_oIx, y_oJ, y_oV, y_oVx, y_oR, y_oRn, y_oRx, y_b0, y_b1, y_bi, y_bid, y_wIK, y_wIL, y_wII, y_wIJ, y_wIR, y_wIN, y_wIw, y_sI, ↓reduceIte, Nat.reduceEqDiff, eq_self, true_or, or_true, false_or, or_false, and_true, true_and, false_and, and_false, not_true, not_false_eq_true, tf_T, tf_F, y_up1, y_up2, y_xx, y_nx, y_sJ, y_sR, Int32.reduceLT, y_nxK, y_nxL, y_nxR, y_sJK, y_sJL, y_sJR, y_sJN, y_sRK, y_sRL, y_sRN, Nat.add_zero, z_nat, z_lit, z_lit0, z_lit1, z_in0, z_in1, z_addl0, z_lt, z_ltl, z_llt, z_inj, z_injl, z_add, z_addl, z_ladd, z_mul, z_mull, z_lmul, z_neg, z_negl, z_in, z_inl, z_ltT, z_ltF, z_eqF, z_10, z_01, z_litne, z_ne0, z_0ne, z_ne1, z_1ne, z_lt64, z_02, z_03, z_04, z_05, z_12, z_13, z_14, z_15, z_20, z_21, z_23, z_24, z_25, z_30, z_31, z_32, z_34, z_35, z_40, z_41, z_42, z_43, z_45, z_50, z_51, z_52, z_53, z_54]
      · simp (disch := omega) only [ej, c, hY, y_ckd, y_ck2d, y_ond, y_onn, y_oI, y_oIx, y_oJ, y_oV, y_oVx, y_oR, y_oRn, y_oRx, y_b0, y_b1, y_bi, y_bid, y_wIK, y_wIL, y_wII, y_wIJ, y_wIR, y_wIN, y_wIw, y_sI, ↓reduceIte, Nat.reduceEqDiff, eq_self, true_or, or_true, false_or, or_false, and_true, true_and, false_and, and_false, not_true, not_false_eq_true, tf_T, tf_F, y_up1, y_up2, y_xx, y_nx, y_sJ, y_sR, Int32.reduceLT, y_nxK, y_nxL, y_nxR, y_sJK, y_sJL, y_sJR, y_sJN, y_sRK, y_sRL, y_sRN, Nat.add_zero, z_nat, z_lit, z_lit0, z_lit1, z_in0, z_in1, z_addl0, z_lt, z_ltl, z_llt, z_inj, z_injl, z_add, z_addl, z_ladd, z_mul, z_mull, z_lmul, z_neg, z_negl, z_in, z_inl, z_ltT, z_ltF, z_eqF, z_10, z_01, z_litne, z_ne0, z_0ne, z_ne1, z_1ne, z_lt64, z_02, z_03, z_04, z_05, z_12, z_13, z_14, z_15, z_20, z_21, z_23, z_24, z_25, z_30, z_31, z_32, z_34, z_35, z_40, z_41, z_42, z_43, z_45, z_50, z_51, z_52, z_53, z_54]
      · simp (disch := omega) only [ej, c, hY, y_ckd, y_ck2d, y_ond, y_onn, y_oI, y_oIx, y_oJ, y_oV, y_oVx, y_oR, y_oRn, y_oRx, y_b0, y_b1, y_bi, y_bid, y_wIK, y_wIL, y_wII, y_wIJ, y_wIR, y_wIN, y_wIw, y_sI, ↓reduceIte, Nat.reduceEqDiff, eq_self, true_or, or_true, false_or, or_false, and_true, true_and, false_and, and_false, not_true, not_false_eq_true, tf_T, tf_F, y_up1, y_up2, y_xx, y_nx, y_sJ, y_sR, Int32.reduceLT, y_nxK, y_nxL, y_nxR, y_sJK, y_sJL, y_sJR, y_sJN, y_sRK, y_sRL, y_sRN, Nat.add_zero, z_nat, z_lit, z_lit0, z_lit1, z_in0, z_in1, z_addl0, z_lt, z_ltl, z_llt, z_inj, z_injl, z_add, z_addl, z_ladd, z_mul, z_mull, z_lmul, z_neg, z_negl, z_in, z_inl, z_ltT, z_ltF, z_eqF, z_10, z_01, z_litne, z_ne0, z_0ne, z_ne1, z_1ne, z_lt64, z_02, z_03, z_04, z_05, z_12, z_13, z_14, z_15, z_20, z_21, z_23, z_24, z_25, z_30, z_31, z_32, z_34, z_35, z_40, z_41, z_42, z_43, z_45, z_50, z_51, z_52, z_53, z_54]
    have E230' := E230 i a3
    obtain ⟨j4, E4, b3, bf, bk, bq⟩ := c_nothing (B := B) (d := d + 1) (i := i) hY
    have hR4 : Rep B j4 b w := Rep_tf hR hb bk bq
    have e2 : j4 (b + 212 + 6 * s) 2 = w (2622 + 49 * s + 3) := (hR4.2.2.2.1.2 s hs s8).2.2.2.1
    have e6 : j4 (b + 6) g = Int32.ofNat s := ((hR4.2.2.2.2.1.2 g hg g8).2).trans eg
    have E5 := c_gangsOn (d := d + 2) (x := Int32.ofNat s) hY hR4.2.2.2.2.1 hW.1.2.2.2.2.2.1
    have E6 := c_tellShip (B := B) (i := j4) (d := d + 2) (x := w (2622 + 49 * s + 3)) (y := ngg w (Int32.ofNat s)) hY
    generalize ej : am_up2 (am_up2 j4 (b + 7) 3 (j4 (b + 7) 3 ||| if w (2622 + 49 * s + 3) = 0 then 0 else 8)) (b + 10) 5 (ngg w (Int32.ofNat s)) = j5 at E6
    have j5q : ∀ q k, q ≠ b + 7 → q ≠ b + 10 → j5 q k = j4 q k := fun q k h1 h2 => by rw [← ej]; simp (disch := omega) only [y_up2]
    have j5k : ∀ k, k ≠ 3 → j5 (b + 7) k = j4 (b + 7) k := fun k h => by rw [← ej]; simp (disch := omega) only [y_up2]
    have hR5 : Rep B j5 b w := Rep_tf hR4 hb j5k j5q
    have hTg : TgC (j5 (b + 7) 3) (fctO w s 0 0 0).1 := by
      have e : j5 (b + 7) 3 = (0 : Int32) ||| if w (2622 + 49 * s + 3) = 0 then 0 else 8 := by rw [← ej, y_up2 (by omega), y_up1 rfl rfl, b3]
      rw [e]
      exact tgo_ok rfl (hW.2.2.2.2.1.1 s hs s8).2.2.1
    have hf : ∀ m, m < 6 → j5 (b + 10) m = (fctO w s 0 0 0).2 m := by
      intro m hm
      unfold fctO
      dsimp only
      by_cases m5 : m = 5
      · subst m5
        rw [← ej, y_up1 rfl rfl]
        rfl
      · rw [← ej, y_up2 (by omega), y_up2 (by omega), bf m hm, if_neg m5]
        (repeat' split) <;> rfl
    obtain ⟨-, q', eq', -, hL5, hT5⟩ := hR5.2.2.2.2.2.2.2.2.2 k hk k10
    obtain rfl : r = q' := Option.some.inj (er.symm.trans eq')
    have hX := hW.2.2.2.2.2.2.2.2.1 k hk k10
    have E7 := c_sum (d := d) (x := 1) (fc := fctO w s 0 0 0) hY hT5 hX hL5 hTg hf
    obtain ⟨j6, E8, hR6, hW6, f6⟩ := c_chips (d := d + 2) (x := smO w (3542 + 850 * k) (fctO w s 0 0 0) 1) hY hb hR5 hW
    have k9 := hT5.2.2.1.1
    refine ⟨j6, ?_, hR6, hW6, fun q k hq => ?_⟩
    · rw [bk_247_37_RIRR_]
      simp (disch := omega) only [E230', E4, e2, e6, E5, E6, bk_247_76, E7, E8, k9, hY, y_ckd, y_ck2d, y_ond, y_onn, y_oI, y_oIx, y_oJ, y_oV, y_oVx, y_oR, y_oRn, y_oRx, y_b0, y_b1, y_bi, y_bid, y_wIK, y_wIL, y_wII, y_wIJ, y_wIR, y_wIN, y_wIw, y_sI, ↓reduceIte, Nat.reduceEqDiff, eq_self, true_or, or_true, false_or, or_false, and_true, true_and, false_and, and_false, not_true, not_false_eq_true, tf_T, tf_F, y_up1, y_up2, y_xx, y_nx, y_sJ, y_sR, Int32.reduceLT, y_nxK, y_nxL, y_nxR, y_sJK, y_sJL, y_sJR, y_sJN, y_sRK, y_sRL, y_sRN, Nat.add_zero, z_nat, z_lit, z_lit0, z_lit1, z_in0, z_in1, z_addl0, z_lt, z_ltl, z_llt, z_inj, z_injl, z_add, z_addl, z_ladd, z_mul, z_mull, z_lmul, z_neg, z_negl, z_in, z_inl, z_ltT, z_ltF, z_eqF, z_10, z_01, z_litne, z_ne0, z_0ne, z_ne1, z_1ne, z_lt64, z_02, z_03, z_04, z_05, z_12, z_13, z_14, z_15, z_20, z_21, z_23, z_24, z_25, z_30, z_31, z_32, z_34, z_35, z_40, z_41, z_42, z_43, z_45, z_50, z_51, z_52, z_53, z_54]
    · rw [f6 q k hq, j5q _ _ (by omega) (by omega), bq _ _ (by omega) (by omega)]
  · rw [if_neg c]
    refine ⟨i, ?_, hR, hW, fun _ _ _ => rfl⟩
    have c1 : ¬ w (2622 + 49 * s) = 1 := fun q => c (Or.inl q)
    have c2 : ¬ w (2622 + 49 * s) = 2 := fun q => c (Or.inr (Or.inl q))
    have c3 : ¬ w (2622 + 49 * s) = 3 := fun q => c (Or.inr (Or.inr q))
    rw [bk_247_37_RIRR_]
    simp (disch := omega) only [bk_230_0, a3, c1, c2, c3, hY, y_ckd, y_ck2d, y_ond, y_onn, y_oI, y_oIx, y_oJ, y_oV, y_oVx, y_oR, y_oRn, y_oRx, y_b0, y_b1, y_bi, y_bid, y_wIK, y_wIL, y_wII, y_wIJ, y_wIR, y_wIN, y_wIw, y_sI, ↓reduceIte, Nat.reduceEqDiff, eq_self, true_or, or_true, false_or, or_false, and_true, true_and, false_and, and_false, not_true, not_false_eq_true, tf_T, tf_F, y_up1, y_up2, y_xx, y_nx, y_sJ, y_sR, Int32.reduceLT, y_nxK, y_nxL, y_nxR, y_sJK, y_sJL, y_sJR, y_sJN, y_sRK, y_sRL, y_sRN, Nat.add_zero, z_nat, z_lit, z_lit0, z_lit1, z_in0, z_in1, z_addl0, z_lt, z_ltl, z_llt, z_inj, z_injl, z_add, z_addl, z_ladd, z_mul, z_mull, z_lmul, z_neg, z_negl, z_in, z_inl, z_ltT, z_ltF, z_eqF, z_10, z_01, z_litne, z_ne0, z_0ne, z_ne1, z_1ne, z_lt64, z_02, z_03, z_04, z_05, z_12, z_13, z_14, z_15, z_20, z_21, z_23, z_24, z_25, z_30, z_31, z_32, z_34, z_35, z_40, z_41, z_42, z_43, z_45, z_50, z_51, z_52, z_53, z_54]
theorem c_wk37n (hY : Yd B b) (hR : Rep B i b w) (hs : s < cn w 2621) (s8 : s < 8) : am_fx am_P (d + 3) 247 37 [some (.ref b), some (.int x), some (.ref (b + 212 + 6 * s)), some .null] [] (am_wI B i) = some (.inl none, am_wI B i) := by
  have a3 : i (b + 212 + 6 * s) 3 = w (2622 + 49 * s) := (hR.2.2.2.1.2 s hs s8).1
  rw [bk_247_37]
  by_cases c1 : w (2622 + 49 * s) = 1
  · simp (disch := omega) only [bk_230_0, a3, c1, hY, y_ckd, y_ck2d, y_ond, y_onn, y_oI, y_oIx, y_oJ, y_oV, y_oVx, y_oR, y_oRn, y_oRx, y_b0, y_b1, y_bi, y_bid, y_wIK, y_wIL, y_wII, y_wIJ, y_wIR, y_wIN, y_wIw, y_sI, ↓reduceIte, Nat.reduceEqDiff, eq_self, true_or, or_true, false_or, or_false, and_true, true_and, false_and, and_false, not_true, not_false_eq_true, tf_T, tf_F, y_up1, y_up2, y_xx, y_nx, y_sJ, y_sR, Int32.reduceLT, y_nxK, y_nxL, y_nxR, y_sJK, y_sJL, y_sJR, y_sJN, y_sRK, y_sRL, y_sRN, Nat.add_zero, z_nat, z_lit, z_lit0, z_lit1, z_in0, z_in1, z_addl0, z_lt, z_ltl, z_llt, z_inj, z_injl, z_add, z_addl, z_ladd, z_mul, z_mull, z_lmul, z_neg, z_negl, z_in, z_inl, z_ltT, z_ltF, z_eqF, z_10, z_01, z_litne, z_ne0, z_0ne, z_ne1, z_1ne, z_lt64, z_02, z_03, z_04, z_05, z_12, z_13, z_14, z_15, z_20, z_21, z_23, z_24, z_25, z_30, z_31, z_32, z_34, z_35, z_40, z_41, z_42, z_43, z_45, z_50, z_51, z_52, z_53, z_54]
  · by_cases c2 : w (2622 + 49 * s) = 2
    · simp (disch := omega) only [bk_230_0, a3, c2, hY, y_ckd, y_ck2d, y_ond, y_onn, y_oI, y_oIx, y_oJ, y_oV, y_oVx, y_oR, y_oRn, y_oRx, y_b0, y_b1, y_bi, y_bid, y_wIK, y_wIL, y_wII, y_wIJ, y_wIR, y_wIN, y_wIw, y_sI, ↓reduceIte, Nat.reduceEqDiff, eq_self, true_or, or_true, false_or, or_false, and_true, true_and, false_and, and_false, not_true, not_false_eq_true, tf_T, tf_F, y_up1, y_up2, y_xx, y_nx, y_sJ, y_sR, Int32.reduceLT, y_nxK, y_nxL, y_nxR, y_sJK, y_sJL, y_sJR, y_sJN, y_sRK, y_sRL, y_sRN, Nat.add_zero, z_nat, z_lit, z_lit0, z_lit1, z_in0, z_in1, z_addl0, z_lt, z_ltl, z_llt, z_inj, z_injl, z_add, z_addl, z_ladd, z_mul, z_mull, z_lmul, z_neg, z_negl, z_in, z_inl, z_ltT, z_ltF, z_eqF, z_10, z_01, z_litne, z_ne0, z_0ne, z_ne1, z_1ne, z_lt64, z_02, z_03, z_04, z_05, z_12, z_13, z_14, z_15, z_20, z_21, z_23, z_24, z_25, z_30, z_31, z_32, z_34, z_35, z_40, z_41, z_42, z_43, z_45, z_50, z_51, z_52, z_53, z_54]
    · by_cases c3 : w (2622 + 49 * s) = 3
      · simp (disch := omega) only [bk_230_0, a3, c3, hY, y_ckd, y_ck2d, y_ond, y_onn, y_oI, y_oIx, y_oJ, y_oV, y_oVx, y_oR, y_oRn, y_oRx, y_b0, y_b1, y_bi, y_bid, y_wIK, y_wIL, y_wII, y_wIJ, y_wIR, y_wIN, y_wIw, y_sI, ↓reduceIte, Nat.reduceEqDiff, eq_self, true_or, or_true, false_or, or_false, and_true, true_and, false_and, and_false, not_true, not_false_eq_true, tf_T, tf_F, y_up1, y_up2, y_xx, y_nx, y_sJ, y_sR, Int32.reduceLT, y_nxK, y_nxL, y_nxR, y_sJK, y_sJL, y_sJR, y_sJN, y_sRK, y_sRL, y_sRN, Nat.add_zero, z_nat, z_lit, z_lit0, z_lit1, z_in0, z_in1, z_addl0, z_lt, z_ltl, z_llt, z_inj, z_injl, z_add, z_addl, z_ladd, z_mul, z_mull, z_lmul, z_neg, z_negl, z_in, z_inl, z_ltT, z_ltF, z_eqF, z_10, z_01, z_litne, z_ne0, z_0ne, z_ne1, z_1ne, z_lt64, z_02, z_03, z_04, z_05, z_12, z_13, z_14, z_15, z_20, z_21, z_23, z_24, z_25, z_30, z_31, z_32, z_34, z_35, z_40, z_41, z_42, z_43, z_45, z_50, z_51, z_52, z_53, z_54]
      · simp (disch := omega) only [bk_230_0, a3, c1, c2, c3, hY, y_ckd, y_ck2d, y_ond, y_onn, y_oI, y_oIx, y_oJ, y_oV, y_oVx, y_oR, y_oRn, y_oRx, y_b0, y_b1, y_bi, y_bid, y_wIK, y_wIL, y_wII, y_wIJ, y_wIR, y_wIN, y_wIw, y_sI, ↓reduceIte, Nat.reduceEqDiff, eq_self, true_or, or_true, false_or, or_false, and_true, true_and, false_and, and_false, not_true, not_false_eq_true, tf_T, tf_F, y_up1, y_up2, y_xx, y_nx, y_sJ, y_sR, Int32.reduceLT, y_nxK, y_nxL, y_nxR, y_sJK, y_sJL, y_sJR, y_sJN, y_sRK, y_sRL, y_sRN, Nat.add_zero, z_nat, z_lit, z_lit0, z_lit1, z_in0, z_in1, z_addl0, z_lt, z_ltl, z_llt, z_inj, z_injl, z_add, z_addl, z_ladd, z_mul, z_mull, z_lmul, z_neg, z_negl, z_in, z_inl, z_ltT, z_ltF, z_eqF, z_10, z_01, z_litne, z_ne0, z_0ne, z_ne1, z_1ne, z_lt64, z_02, z_03, z_04, z_05, z_12, z_13, z_14, z_15, z_20, z_21, z_23, z_24, z_25, z_30, z_31, z_32, z_34, z_35, z_40, z_41, z_42, z_43, z_45, z_50, z_51, z_52, z_53, z_54]
theorem c_work (hY : Yd B b) (hb : b + 260 ≤ 874) (hR : Rep B i b w) (hW : Wd w) (hg : g < cn w 3019) (g8 : g < 8) (hs : s < cn w 2621) (s8 : s < 8) (eg : w (3020 + 2 * g + 1) = Int32.ofNat s) (ht : ∀ k, t = some k → k < cn w 3541 ∧ k < 10) : ∃ j, am_fx am_P (d + 3) 247 0 [some (.ref b), some (.int (Int32.ofNat g)), some (.ref (b + 212 + 6 * s)), some (txq B b t)] [] (am_wI B i) = some (.inl none, am_wI B j) ∧ Rep B j b (lwB t (lwA w g s) s) ∧ Wd (lwB t (lwA w g s) s) ∧ ∀ q k, (q < b ∨ b + 260 ≤ q) → j q k = i q k := by
  have hWA := Wd_lwA (s := s) hW hg g8 hs s8
  have c19 : cn (lwA w g s) 3019 = cn w 3019 := by unfold cn; rw [lwA_ne (by omega)]
  have c21 : cn (lwA w g s) 2621 = cn w 2621 := by unfold cn; rw [lwA_ne (by omega)]
  have c41 : cn (lwA w g s) 3541 = cn w 3541 := by unfold cn; rw [lwA_ne (by omega)]
  cases t with
  | none =>
    obtain ⟨j1, E1, R1, f1⟩ := c_wk0n (d := d + 2) hY hb hR hW hg g8 hs s8
    have E2 := c_wk37n (d := d) (x := Int32.ofNat g) hY R1 (by omega : s < cn (lwA w g s) 2621) s8
    exact ⟨j1, E1.trans E2, R1, hWA, f1⟩
  | some k =>
    obtain ⟨kc, k10⟩ := ht k rfl
    obtain ⟨-, r, er, -⟩ := hR.2.2.2.2.2.2.2.2.2 k kc k10
    have e : txq B b (some k) = .ref r := by simp only [txq, er]
    rw [e]
    obtain ⟨j1, E1, R1, f1⟩ := c_wk0r (r := r) (d := d + 2) hY hb hR hW hg g8 hs s8
    obtain ⟨j2, E2, R2, W2, f2⟩ := c_wk37 (d := d) (r := r) (k := k) (g := g) (s := s) hY hb R1 hWA (by omega) g8 (by omega) s8 (by rw [lwA_ne (by omega)]; exact eg) (by omega) k10 er
    exact ⟨j2, E1.trans E2, R2, W2, fun q m hq => (f2 q m hq).trans (f1 q m hq)⟩
theorem c_gangsD (hY : Yd B b) (hb : b + 260 ≤ 874) (hR : Rep B i b w) (hW : Wd w) (ht : ∀ k, t = some k → k < cn w 3541 ∧ k < 10) : ∃ j, am_fx am_P (d + 4) 245 103 [some (.ref b), some (txq B b t), some (.int 0)] [] (am_wI B i) = some (.inl none, am_wI B j) ∧ Rep B j b (itr (gaS t) (cn w 3019) w) ∧ Wd (itr (gaS t) (cn w 3019) w) ∧ ∀ q k, (q < b ∨ b + 260 ≤ q) → j q k = i q k := by
  have h19 := hW.1.2.2.2.2.2.1
  have n19 := h19.2
  have htx : ∀ {P : Value → Prop}, (∀ q, t = some q → ∀ r, txq B b t = .ref r → P (.ref r)) → (t = none → P .null) → P (txq B b t) := by
    intro P h1 h2
    cases t with
    | none => exact h2 rfl
    | some k =>
      obtain ⟨kc, k10⟩ := ht k rfl
      obtain ⟨-, q, eq, -⟩ := hR.2.2.2.2.2.2.2.2.2 k kc k10
      have e : txq B b (some k) = .ref q := by simp only [txq, eq]
      rw [e]
      exact h1 k rfl q e
  obtain ⟨⟨v, j⟩, E, hv, hRv, hWv, ⟨c1, c2, c3⟩, fo⟩ := lp_inv (fun k (a : (Nat → Int32) × (Nat → Nat → Int32)) => am_fx am_P (d + 4) 245 103 [some (.ref b), some (txq B b t), some (.int (Int32.ofNat k))] [] (am_wI B a.2)) (fun k a => a.1 = itr (gaS t) k w ∧ Rep B a.2 b a.1 ∧ Wd a.1 ∧ (cn a.1 3541 = cn w 3541 ∧ cn a.1 2621 = cn w 2621 ∧ cn a.1 3019 = cn w 3019) ∧ ∀ q k, (q < b ∨ b + 260 ≤ q) → a.2 q k = i q k) (cn w 3019) (fun k a hk hI => by
    obtain ⟨v, j⟩ := a
    obtain ⟨hv, hRv, hWv, ⟨c1, c2, c3⟩, fo⟩ := hI
    dsimp only at hv hRv hWv c1 c2 c3 fo
    have hc := hWv.1.2.2.2.1
    have hc8 := hc.2
    have h460 := hWv.1.2.2.1.2
    have hst : itr (gaS t) (k + 1) w = gaS t k v := by rw [hv]; rfl
    have e12 : j b 12 = Int32.ofNat (cn w 3019) := (hRv.2.2.2.2.1.1.trans hWv.1.2.2.2.2.2.1.1).trans (by rw [c3])
    have e8 : j b 8 = Int32.ofNat (cn v 2621) := hRv.2.2.2.1.1.trans hc.1
    have e6 := (hRv.2.2.2.2.1.2 k (by omega) (by omega)).2
    have hG := (hWv.2.2.2.2.2.1 k (by omega) (by omega)).2
    by_cases g : v (3020 + 2 * k + 1) < 0
    · have eS : gaS t k v = v := if_pos g
      refine ⟨(v, j), ?_, by rw [hst, eS], hRv, hWv, ⟨c1, c2, c3⟩, fo⟩
      dsimp only
      refine htx (P := fun T => am_fx am_P (d + 4) 245 103 [some (.ref b), some T, some (.int (Int32.ofNat k))] [] (am_wI B j) = am_fx am_P (d + 4) 245 103 [some (.ref b), some T, some (.int (Int32.ofNat (k + 1)))] [] (am_wI B j)) (fun _ _ r _ => ?_) (fun _ => ?_)
      · rw [bk_245_103_RRI_]
        simp (disch := omega) only [e12, e6, bk_352_0, g, hY, y_ckd, y_ck2d, y_ond, y_onn, y_oI, y_oIx, y_oJ, y_oV, y_oVx, y_oR, y_oRn, y_oRx, y_b0, y_b1, y_bi, y_bid, y_wIK, y_wIL, y_wII, y_wIJ, y_wIR, y_wIN, y_wIw, y_sI, ↓reduceIte, Nat.reduceEqDiff, eq_self, true_or, or_true, false_or, or_false, and_true, true_and, false_and, and_false, not_true, not_false_eq_true, tf_T, tf_F, y_up1, y_up2, y_xx, y_nx, y_sJ, y_sR, Int32.reduceLT, y_nxK, y_nxL, y_nxR, y_sJK, y_sJL, y_sJR, y_sJN, y_sRK, y_sRL, y_sRN, Nat.add_zero, z_nat, z_lit, z_lit0, z_lit1, z_in0, z_in1, z_addl0, z_lt, z_ltl, z_llt, z_inj, z_injl, z_add, z_addl, z_ladd, z_mul, z_mull, z_lmul, z_neg, z_negl, z_in, z_inl, z_ltT, z_ltF, z_eqF, z_10, z_01, z_litne, z_ne0, z_0ne, z_ne1, z_1ne, z_lt64, z_02, z_03, z_04, z_05, z_12, z_13, z_14, z_15, z_20, z_21, z_23, z_24, z_25, z_30, z_31, z_32, z_34, z_35, z_40, z_41, z_42, z_43, z_45, z_50, z_51, z_52, z_53, z_54]
      · rw [bk_245_103]
        simp (disch := omega) only [e12, e6, bk_352_0, g, hY, y_ckd, y_ck2d, y_ond, y_onn, y_oI, y_oIx, y_oJ, y_oV, y_oVx, y_oR, y_oRn, y_oRx, y_b0, y_b1, y_bi, y_bid, y_wIK, y_wIL, y_wII, y_wIJ, y_wIR, y_wIN, y_wIw, y_sI, ↓reduceIte, Nat.reduceEqDiff, eq_self, true_or, or_true, false_or, or_false, and_true, true_and, false_and, and_false, not_true, not_false_eq_true, tf_T, tf_F, y_up1, y_up2, y_xx, y_nx, y_sJ, y_sR, Int32.reduceLT, y_nxK, y_nxL, y_nxR, y_sJK, y_sJL, y_sJR, y_sJN, y_sRK, y_sRL, y_sRN, Nat.add_zero, z_nat, z_lit, z_lit0, z_lit1, z_in0, z_in1, z_addl0, z_lt, z_ltl, z_llt, z_inj, z_injl, z_add, z_addl, z_ladd, z_mul, z_mull, z_lmul, z_neg, z_negl, z_in, z_inl, z_ltT, z_ltF, z_eqF, z_10, z_01, z_litne, z_ne0, z_0ne, z_ne1, z_1ne, z_lt64, z_02, z_03, z_04, z_05, z_12, z_13, z_14, z_15, z_20, z_21, z_23, z_24, z_25, z_30, z_31, z_32, z_34, z_35, z_40, z_41, z_42, z_43, z_45, z_50, z_51, z_52, z_53, z_54]
    · obtain ⟨eg, hs⟩ := nn_of hG hc.1 (by omega) (fun q => g (by rw [q]; decide))
      have eS : gaS t k v = lwB t (lwA v k (cn v (3020 + 2 * k + 1))) (cn v (3020 + 2 * k + 1)) := if_neg g
      obtain ⟨j2, E2, R2, W2, f2⟩ := c_work (t := t) (d := d) (g := k) (s := cn v (3020 + 2 * k + 1)) hY hb hRv hWv (by omega) (by omega) hs (by omega) eg (fun m hm => by have := ht m hm; omega)
      have hcc : ∀ z, z = 3541 ∨ z = 2621 ∨ z = 3019 → gaS t k v z = v z := fun z hz => gaS_ne (by omega) (by omega) (Or.inr (by omega)) h460
      have cc : cn (gaS t k v) 3541 = cn w 3541 ∧ cn (gaS t k v) 2621 = cn w 2621 ∧ cn (gaS t k v) 3019 = cn w 3019 := by
        unfold cn at c1 c2 c3 ⊢
        rw [hcc 3541 (by omega), hcc 2621 (by omega), hcc 3019 (by omega)]
        exact ⟨c1, c2, c3⟩
      have e6' : j (b + 6) k = Int32.ofNat (cn v (3020 + 2 * k + 1)) := e6.trans eg
      have gs : ¬ Int32.ofNat (cn v (3020 + 2 * k + 1)) < 0 := by rw [z_neg (by omega)]; exact id
      have gl : ¬ Int32.ofNat (cn v 2621) - 1 < Int32.ofNat (cn v (3020 + 2 * k + 1)) := by
        rw [show Int32.ofNat (cn v 2621) - 1 = Int32.ofNat (cn v 2621 - 1) from z_sub (b := 1) (by omega), z_lt (by omega) (by omega)]
        omega
      refine ⟨(gaS t k v, j2), ?_, hst.symm, by rw [eS]; exact R2, by rw [eS]; exact W2, cc, fun q m hq => (f2 q m hq).trans (fo q m hq)⟩
      dsimp only
      revert E2
      refine htx (P := fun T => am_fx am_P (d + 3) 247 0 [some (.ref b), some (.int (Int32.ofNat k)), some (.ref (b + 212 + 6 * cn v (3020 + 2 * k + 1))), some T] [] (am_wI B j) = some (.inl none, am_wI B j2) → am_fx am_P (d + 4) 245 103 [some (.ref b), some T, some (.int (Int32.ofNat k))] [] (am_wI B j) = am_fx am_P (d + 4) 245 103 [some (.ref b), some T, some (.int (Int32.ofNat (k + 1)))] [] (am_wI B j2)) (fun _ _ r _ E2 => ?_) (fun _ E2 => ?_)
      · rw [bk_245_103_RRI_]
        simp (disch := omega) only [e12, e6', e8, bk_352_0, gs, gl, E2, hY, y_ckd, y_ck2d, y_ond, y_onn, y_oI, y_oIx, y_oJ, y_oV, y_oVx, y_oR, y_oRn, y_oRx, y_b0, y_b1, y_bi, y_bid, y_wIK, y_wIL, y_wII, y_wIJ, y_wIR, y_wIN, y_wIw, y_sI, ↓reduceIte, Nat.reduceEqDiff, eq_self, true_or, or_true, false_or, or_false, and_true, true_and, false_and, and_false, not_true, not_false_eq_true, tf_T, tf_F, y_up1, y_up2, y_xx, y_nx, y_sJ, y_sR, Int32.reduceLT, y_nxK, y_nxL, y_nxR, y_sJK, y_sJL, y_sJR, y_sJN, y_sRK, y_sRL, y_sRN, Nat.add_zero, z_nat, z_lit, z_lit0, z_lit1, z_in0, z_in1, z_addl0, z_lt, z_ltl, z_llt, z_inj, z_injl, z_add, z_addl, z_ladd, z_mul, z_mull, z_lmul, z_neg, z_negl, z_in, z_inl, z_ltT, z_ltF, z_eqF, z_10, z_01, z_litne, z_ne0, z_0ne, z_ne1, z_1ne, z_lt64, z_02, z_03, z_04, z_05, z_12, z_13, z_14, z_15, z_20, z_21, z_23, z_24, z_25, z_30, z_31, z_32, z_34, z_35, z_40, z_41, z_42, z_43, z_45, z_50, z_51, z_52, z_53, z_54]
      · rw [bk_245_103]
        simp (disch := omega) only [e12, e6', e8, bk_352_0, gs, gl, E2, hY, y_ckd, y_ck2d, y_ond, y_onn, y_oI, y_oIx, y_oJ, y_oV, y_oVx, y_oR, y_oRn, y_oRx, y_b0, y_b1, y_bi, y_bid, y_wIK, y_wIL, y_wII, y_wIJ, y_wIR, y_wIN, y_wIw, y_sI, ↓reduceIte, Nat.reduceEqDiff, eq_self, true_or, or_true, false_or, or_false, and_true, true_and, false_and, and_false, not_true, not_false_eq_true, tf_T, tf_F, y_up1, y_up2, y_xx, y_nx, y_sJ, y_sR, Int32.reduceLT, y_nxK, y_nxL, y_nxR, y_sJK, y_sJL, y_sJR, y_sJN, y_sRK, y_sRL, y_sRN, Nat.add_zero, z_nat, z_lit, z_lit0, z_lit1, z_in0, z_in1, z_addl0, z_lt, z_ltl, z_llt, z_inj, z_injl, z_add, z_addl, z_ladd, z_mul, z_mull, z_lmul, z_neg, z_negl, z_in, z_inl, z_ltT, z_ltF, z_eqF, z_10, z_01, z_litne, z_ne0, z_0ne, z_ne1, z_1ne, z_lt64, z_02, z_03, z_04, z_05, z_12, z_13, z_14, z_15, z_20, z_21, z_23, z_24, z_25, z_30, z_31, z_32, z_34, z_35, z_40, z_41, z_42, z_43, z_45, z_50, z_51, z_52, z_53, z_54]) (w, i) ⟨rfl, hR, hW, ⟨rfl, rfl, rfl⟩, fun _ _ _ => rfl⟩
  dsimp only at E hv hRv hWv c1 c2 c3 fo
  rw [← hv]
  refine ⟨j, E.trans ?_, hRv, hWv, fo⟩
  have e12 : j b 12 = Int32.ofNat (cn w 3019) := (hRv.2.2.2.2.1.1.trans hWv.1.2.2.2.2.2.1.1).trans (by rw [c3])
  refine htx (P := fun T => am_fx am_P (d + 4) 245 103 [some (.ref b), some T, some (.int (Int32.ofNat (cn w 3019)))] [] (am_wI B j) = some (.inl none, am_wI B j)) (fun _ _ r _ => ?_) (fun _ => ?_)
  · rw [bk_245_103_RRI_]
    simp (disch := omega) only [e12, hY, y_ckd, y_ck2d, y_ond, y_onn, y_oI, y_oIx, y_oJ, y_oV, y_oVx, y_oR, y_oRn, y_oRx, y_b0, y_b1, y_bi, y_bid, y_wIK, y_wIL, y_wII, y_wIJ, y_wIR, y_wIN, y_wIw, y_sI, ↓reduceIte, Nat.reduceEqDiff, eq_self, true_or, or_true, false_or, or_false, and_true, true_and, false_and, and_false, not_true, not_false_eq_true, tf_T, tf_F, y_up1, y_up2, y_xx, y_nx, y_sJ, y_sR, Int32.reduceLT, y_nxK, y_nxL, y_nxR, y_sJK, y_sJL, y_sJR, y_sJN, y_sRK, y_sRL, y_sRN, Nat.add_zero, z_nat, z_lit, z_lit0, z_lit1, z_in0, z_in1, z_addl0, z_lt, z_ltl, z_llt, z_inj, z_injl, z_add, z_addl, z_ladd, z_mul, z_mull, z_lmul, z_neg, z_negl, z_in, z_inl, z_ltT, z_ltF, z_eqF, z_10, z_01, z_litne, z_ne0, z_0ne, z_ne1, z_1ne, z_lt64, z_02, z_03, z_04, z_05, z_12, z_13, z_14, z_15, z_20, z_21, z_23, z_24, z_25, z_30, z_31, z_32, z_34, z_35, z_40, z_41, z_42, z_43, z_45, z_50, z_51, z_52, z_53, z_54]
  · rw [bk_245_103]
    simp (disch := omega) only [e12, hY, y_ckd, y_ck2d, y_ond, y_onn, y_oI, y_oIx, y_oJ, y_oV, y_oVx, y_oR, y_oRn, y_oRx, y_b0, y_b1, y_bi, y_bid, y_wIK, y_wIL, y_wII, y_wIJ, y_wIR, y_wIN, y_wIw, y_sI, ↓reduceIte, Nat.reduceEqDiff, eq_self, true_or, or_true, false_or, or_false, and_true, true_and, false_and, and_false, not_true, not_false_eq_true, tf_T, tf_F, y_up1, y_up2, y_xx, y_nx, y_sJ, y_sR, Int32.reduceLT, y_nxK, y_nxL, y_nxR, y_sJK, y_sJL, y_sJR, y_sJN, y_sRK, y_sRL, y_sRN, Nat.add_zero, z_nat, z_lit, z_lit0, z_lit1, z_in0, z_in1, z_addl0, z_lt, z_ltl, z_llt, z_inj, z_injl, z_add, z_addl, z_ladd, z_mul, z_mull, z_lmul, z_neg, z_negl, z_in, z_inl, z_ltT, z_ltF, z_eqF, z_10, z_01, z_litne, z_ne0, z_0ne, z_ne1, z_1ne, z_lt64, z_02, z_03, z_04, z_05, z_12, z_13, z_14, z_15, z_20, z_21, z_23, z_24, z_25, z_30, z_31, z_32, z_34, z_35, z_40, z_41, z_42, z_43, z_45, z_50, z_51, z_52, z_53, z_54]
end Gang2
