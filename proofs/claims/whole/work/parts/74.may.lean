/-! MAY, WHY, THE CALLS: made by wip/whole/math/74.py. -/
section May
variable {B : am_A} {i : Nat → Nat → Int32} {σ : Sg} {w : Nat → Int32} {L j d b : Nat} {x y z : Int32}
theorem whT_v {p s : Nat} {t : Option Nat} (hX : WdX w) (ht : ∀ k, t = some k → k < cn w 3541 ∧ k < 10) : whT w p s t = -1 ∨ ∃ n, n < 12 ∧ whT w p s t = Int32.ofNat n := by
  cases t with
  | none => exact Or.inl rfl
  | some k =>
    obtain ⟨h1, h2⟩ := ht k rfl
    have hn := (hX k h1 h2).2.1.2
    show whO w (3542 + 850 * k) (fctP w p s) (w (461 + 18 * p)) = -1 ∨ ∃ n, n < 12 ∧ whO w (3542 + 850 * k) (fctP w p s) (w (461 + 18 * p)) = Int32.ofNat n
    unfold whO
    cases e : fst0 (ltl w (3542 + 850 * k) (fctP w p s) (w (461 + 18 * p))) (cn w (3542 + 850 * k + 1)) with
    | none => exact Or.inl rfl
    | some n => exact Or.inr ⟨n, by have := (fst0_some.mp e).1; omega, rfl⟩
theorem c_letsNow {p s : Nat} (h : CR B i σ) (hW : Wd σ.1) (hp : p < cn σ.1 460) (hs : s < cn σ.1 2621) {k q : Nat} (hk : k < cn σ.1 3541) (eq : am_R B (94 + 8) k = some q) : ∃ i', am_fx am_P (d + 3) 250 0 [some (.ref 94), some (.ref q), some (.ref (94 + 92 + p)), some (.int (Int32.ofNat s))] [] (am_wI B i) = some (.inl (some (.int (whO σ.1 (3542 + 850 * k) (fctP σ.1 p s) (σ.1 (461 + 18 * p))))), am_wI B i') ∧ ∀ q k, (q = 94 + 7 → k ≠ 3) → q ≠ 94 + 10 → i' q k = i q k := by
  have hx := hW.1.2.2.2.2.2.2.2.2.2.2
  obtain ⟨-, q', eq', -, hl, hT⟩ := h.2.1.2.2.2.2.2.2.2.2.2 k hk (by omega)
  have : q' = q := by rw [eq] at eq'; exact (Option.some.inj eq').symm
  subst this
  exact c_lineFor h.1.2.1 (by omega) h.2.1 hW hp hs hT (hW.2.2.2.2.2.2.2.2.1 k hk (by omega)) hl
theorem c_lineThat {p s : Nat} (h : CR B i σ) (hW : Wd σ.1) (hp : p < cn σ.1 460) (hs : s < cn σ.1 2621) : ∃ i', am_fx am_P (d + 5) 346 0 [some (.ref 64), some (.int (Int32.ofNat p)), some (.int (Int32.ofNat s)), some (.int z), none] [] (am_wI B i) = some (.inl (some (.int (whT σ.1 p s (txi σ.1 z (cn σ.1 3541))))), am_wI B i') ∧ ∀ q k, (q = 94 + 7 → k ≠ 3) → q ≠ 94 + 10 → i' q k = i q k := by
  have hF : Fc B := h.1.1
  have hY : Yd B 94 := h.1.2.1
  have hc := hW.1.2.2.1
  have hc26 := hW.1.2.2.2.1
  have hx := hW.1.2.2.2.2.2.2.2.2.2
  have r8 := h.2.1.2.2.2.1.1
  have e := c_inForce (d := d + 4) (x := z) hY h.2.1.2.2.2.2.2.2.2.2 hx hW.2.2.2.2.2.2.2.2.1
  cases et : txi σ.1 z (cn σ.1 3541) with
  | none =>
    rw [et] at e
    simp only [txq] at e
    refine ⟨i, ?_, fun _ _ _ _ => rfl⟩
    rw [bk_346_0]
    simp (disch := omega) only [c_pcN hF hY h.2.1.2.2.1.1 hc hp, c_ckI1 (ck_nat hc26 (by omega) hs), r8, e, bk_250_0, whT, hF, hY, y_ckd, y_ck2d, y_ond, y_onn, y_oI, y_oIx, y_oJ, y_oV, y_oVx, y_oR, y_oRn, y_oRx, y_b0, y_b1, y_bi, y_bid, y_wIK, y_wIL, y_wII, y_wIJ, y_wIR, y_wIN, y_wIw, y_sI, ↓reduceIte, Nat.reduceEqDiff, eq_self, true_or, or_true, false_or, or_false, and_true, true_and, false_and, and_false, not_true, not_false_eq_true, tf_T, tf_F, y_up1, y_up2, y_xx, y_nx, y_sJ, y_sR, Int32.reduceLT, y_nxK, y_nxL, y_nxR, y_sJK, y_sJL, y_sJR, y_sJN, y_sRK, y_sRL, y_sRN, Nat.add_zero, z_nat, z_lit, z_lit0, z_lit1, z_in0, z_in1, z_addl0, z_lt, z_ltl, z_llt, z_inj, z_injl, z_add, z_addl, z_ladd, z_mul, z_mull, z_lmul, z_neg, z_negl, z_in, z_inl, z_ltT, z_ltF, z_eqF, z_10, z_01, z_litne, z_ne0, z_0ne, z_ne1, z_1ne, z_lt64, z_02, z_03, z_04, z_05, z_12, z_13, z_14, z_15, z_20, z_21, z_23, z_24, z_25, z_30, z_31, z_32, z_34, z_35, z_40, z_41, z_42, z_43, z_45, z_50, z_51, z_52, z_53, z_54]
  | some k =>
    have hk := txi_lt _ et
    obtain ⟨-, q, eq, -, -, -⟩ := h.2.1.2.2.2.2.2.2.2.2.2 k hk (by have := hx.2; omega)
    rw [et] at e
    simp only [txq, eq] at e
    obtain ⟨i', E, f⟩ := c_letsNow (d := d + 1) h hW hp hs hk eq
    refine ⟨i', ?_, f⟩
    rw [bk_346_0]
    simp (disch := omega) only [c_pcN hF hY h.2.1.2.2.1.1 hc hp, c_ckI1 (ck_nat hc26 (by omega) hs), r8, e, E, whT, hF, hY, y_ckd, y_ck2d, y_ond, y_onn, y_oI, y_oIx, y_oJ, y_oV, y_oVx, y_oR, y_oRn, y_oRx, y_b0, y_b1, y_bi, y_bid, y_wIK, y_wIL, y_wII, y_wIJ, y_wIR, y_wIN, y_wIw, y_sI, ↓reduceIte, Nat.reduceEqDiff, eq_self, true_or, or_true, false_or, or_false, and_true, true_and, false_and, and_false, not_true, not_false_eq_true, tf_T, tf_F, y_up1, y_up2, y_xx, y_nx, y_sJ, y_sR, Int32.reduceLT, y_nxK, y_nxL, y_nxR, y_sJK, y_sJL, y_sJR, y_sJN, y_sRK, y_sRL, y_sRN, Nat.add_zero, z_nat, z_lit, z_lit0, z_lit1, z_in0, z_in1, z_addl0, z_lt, z_ltl, z_llt, z_inj, z_injl, z_add, z_addl, z_ladd, z_mul, z_mull, z_lmul, z_neg, z_negl, z_in, z_inl, z_ltT, z_ltF, z_eqF, z_10, z_01, z_litne, z_ne0, z_0ne, z_ne1, z_1ne, z_lt64, z_02, z_03, z_04, z_05, z_12, z_13, z_14, z_15, z_20, z_21, z_23, z_24, z_25, z_30, z_31, z_32, z_34, z_35, z_40, z_41, z_42, z_43, z_45, z_50, z_51, z_52, z_53, z_54]
theorem f_may_x0 (h : CR B i σ) (g : ¬ (¬ x < 0 ∧ x < σ.1 460)) : FRs B i σ (am_fx am_P (d + 150) 303 0 [some (.ref 64), some (.int x), some (.int y), some (.int z)] [] (am_wI B i)) (.inr 1) := by
  refine FRs_x h ?_
  have hF : Fc B := h.1.1
  have hY : Yd B 94 := h.1.2.1
  rw [bk_303_0]
  simp (disch := omega) only [(fun d x0 x1 x2 x3 B i => bk_346_0 d x0 x1 x2 x3 (am_wI B i)), c_pcN0 hF hY h.2.1.2.2.1.1 g, hF, hY, y_ckd, y_ck2d, y_ond, y_onn, y_oI, y_oIx, y_oJ, y_oV, y_oVx, y_oR, y_oRn, y_oRx, y_b0, y_b1, y_bi, y_bid, y_wIK, y_wIL, y_wII, y_wIJ, y_wIR, y_wIN, y_wIw, y_sI, ↓reduceIte, Nat.reduceEqDiff, eq_self, true_or, or_true, false_or, or_false, and_true, true_and, false_and, and_false, not_true, not_false_eq_true, tf_T, tf_F, y_up1, y_up2, y_xx, y_nx, y_sJ, y_sR, Int32.reduceLT, y_nxK, y_nxL, y_nxR, y_sJK, y_sJL, y_sJR, y_sJN, y_sRK, y_sRL, y_sRN, Nat.add_zero, z_nat, z_lit, z_lit0, z_lit1, z_in0, z_in1, z_addl0, z_lt, z_ltl, z_llt, z_inj, z_injl, z_add, z_addl, z_ladd, z_mul, z_mull, z_lmul, z_neg, z_negl, z_in, z_inl, z_ltT, z_ltF, z_eqF, z_10, z_01, z_litne, z_ne0, z_0ne, z_ne1, z_1ne, z_lt64, z_02, z_03, z_04, z_05, z_12, z_13, z_14, z_15, z_20, z_21, z_23, z_24, z_25, z_30, z_31, z_32, z_34, z_35, z_40, z_41, z_42, z_43, z_45, z_50, z_51, z_52, z_53, z_54]
theorem m_may_x0 (h : MR B i σ) (hc : isc σ.1 460 120) (g : ¬ (¬ x < 0 ∧ x < σ.1 460)) : MRs B i σ (am_fx am_P (d + 150) 63 0 [some (.ref 874), some (.int x), some (.int y), some (.int z)] [] (am_wI B i)) (some (.int 0)) 1 := by
  refine MRs_x h ?_
  have hM : Md B := h.1.1
  have e5 := h.2.1 460 (by omega)
  rw [bk_63_0]
  simp (maxSteps := 1000000) (disch := omega) only [(fun d x0 x1 B i => bk_26_0 d x0 x1 (am_wI B i)), (fun d x0 x1 x2 x3 s0 s1 B i => bk_63_27 d x0 x1 x2 x3 s0 s1 (am_wI B i)), m_in, z_pred hc.1, Classical.not_not, g, m_thr1 hM, e5, hM, y_ckd, y_ck2d, y_ond, y_onn, y_oI, y_oIx, y_oJ, y_oV, y_oVx, y_oR, y_oRn, y_oRx, y_b0, y_b1, y_bi, y_bid, y_wIK, y_wIL, y_wII, y_wIJ, y_wIR, y_wIN, y_wIw, y_sI, ↓reduceIte, Nat.reduceEqDiff, eq_self, true_or, or_true, false_or, or_false, and_true, true_and, false_and, and_false, not_true, not_false_eq_true, tf_T, tf_F, y_up1, y_up2, y_xx, y_nx, y_sJ, y_sR, Int32.reduceLT, y_nxK, y_nxL, y_nxR, y_sJK, y_sJL, y_sJR, y_sJN, y_sRK, y_sRL, y_sRN, Nat.add_zero, z_nat, z_lit, z_lit0, z_lit1, z_in0, z_in1, z_addl0, z_lt, z_ltl, z_llt, z_inj, z_injl, z_add, z_addl, z_ladd, z_mul, z_mull, z_lmul, z_neg, z_negl, z_in, z_inl, z_ltT, z_ltF, z_eqF, z_10, z_01, z_litne, z_ne0, z_0ne, z_ne1, z_1ne, z_lt64, z_02, z_03, z_04, z_05, z_12, z_13, z_14, z_15, z_20, z_21, z_23, z_24, z_25, z_30, z_31, z_32, z_34, z_35, z_40, z_41, z_42, z_43, z_45, z_50, z_51, z_52, z_53, z_54]
theorem f_may_x1 {p : Nat} (h : CR B i σ) (hc : isc σ.1 460 120) (hp : p < cn σ.1 460) (g : ¬ (¬ y < 0 ∧ y < σ.1 2621)) : FRs B i σ (am_fx am_P (d + 150) 303 0 [some (.ref 64), some (.int (Int32.ofNat p)), some (.int y), some (.int z)] [] (am_wI B i)) (.inr 1) := by
  refine FRs_x h ?_
  have hF : Fc B := h.1.1
  have hY : Yd B 94 := h.1.2.1
  have r8 := h.2.1.2.2.2.1.1
  rw [bk_303_0]
  simp (maxSteps := 1000000) (disch := omega) only [(fun d x0 x1 x2 x3 B i => bk_346_0 d x0 x1 x2 x3 (am_wI B i)), c_pcN hF hY h.2.1.2.2.1.1 hc hp, c_ckI0 g, r8, hF, hY, y_ckd, y_ck2d, y_ond, y_onn, y_oI, y_oIx, y_oJ, y_oV, y_oVx, y_oR, y_oRn, y_oRx, y_b0, y_b1, y_bi, y_bid, y_wIK, y_wIL, y_wII, y_wIJ, y_wIR, y_wIN, y_wIw, y_sI, ↓reduceIte, Nat.reduceEqDiff, eq_self, true_or, or_true, false_or, or_false, and_true, true_and, false_and, and_false, not_true, not_false_eq_true, tf_T, tf_F, y_up1, y_up2, y_xx, y_nx, y_sJ, y_sR, Int32.reduceLT, y_nxK, y_nxL, y_nxR, y_sJK, y_sJL, y_sJR, y_sJN, y_sRK, y_sRL, y_sRN, Nat.add_zero, z_nat, z_lit, z_lit0, z_lit1, z_in0, z_in1, z_addl0, z_lt, z_ltl, z_llt, z_inj, z_injl, z_add, z_addl, z_ladd, z_mul, z_mull, z_lmul, z_neg, z_negl, z_in, z_inl, z_ltT, z_ltF, z_eqF, z_10, z_01, z_litne, z_ne0, z_0ne, z_ne1, z_1ne, z_lt64, z_02, z_03, z_04, z_05, z_12, z_13, z_14, z_15, z_20, z_21, z_23, z_24, z_25, z_30, z_31, z_32, z_34, z_35, z_40, z_41, z_42, z_43, z_45, z_50, z_51, z_52, z_53, z_54]
theorem m_may_x1 {p : Nat} (h : MR B i σ) (hc : isc σ.1 460 120) (hp : p < cn σ.1 460) (hc26 : isc σ.1 2621 8) (g : ¬ (¬ y < 0 ∧ y < σ.1 2621)) : MRs B i σ (am_fx am_P (d + 150) 63 0 [some (.ref 874), some (.int (Int32.ofNat p)), some (.int y), some (.int z)] [] (am_wI B i)) (some (.int 0)) 1 := by
  refine MRs_x h ?_
  have hM : Md B := h.1.1
  have h120 := hc.2
  have t1 : (Int32.ofNat p < 0) = False := z_neg (by omega)
  have t2 := eq_true (ck_nat hc (by omega) hp).2
  have e5 := h.2.1 460 (by omega)
  have e6 := h.2.1 2621 (by omega)
  rw [bk_63_0]
  simp (maxSteps := 1000000) (disch := omega) only [(fun d x0 x1 B i => bk_26_0 d x0 x1 (am_wI B i)), (fun d x0 x1 B i => bk_69_0 d x0 x1 (am_wI B i)), (fun d x0 x1 x2 x3 s0 s1 B i => bk_63_27 d x0 x1 x2 x3 s0 s1 (am_wI B i)), m_in, z_pred hc.1, z_pred hc26.1, Classical.not_not, t1, t2, g, m_thr1 hM, e5, e6, hM, y_ckd, y_ck2d, y_ond, y_onn, y_oI, y_oIx, y_oJ, y_oV, y_oVx, y_oR, y_oRn, y_oRx, y_b0, y_b1, y_bi, y_bid, y_wIK, y_wIL, y_wII, y_wIJ, y_wIR, y_wIN, y_wIw, y_sI, ↓reduceIte, Nat.reduceEqDiff, eq_self, true_or, or_true, false_or, or_false, and_true, true_and, false_and, and_false, not_true, not_false_eq_true, tf_T, tf_F, y_up1, y_up2, y_xx, y_nx, y_sJ, y_sR, Int32.reduceLT, y_nxK, y_nxL, y_nxR, y_sJK, y_sJL, y_sJR, y_sJN, y_sRK, y_sRL, y_sRN, Nat.add_zero, z_nat, z_lit, z_lit0, z_lit1, z_in0, z_in1, z_addl0, z_lt, z_ltl, z_llt, z_inj, z_injl, z_add, z_addl, z_ladd, z_mul, z_mull, z_lmul, z_neg, z_negl, z_in, z_inl, z_ltT, z_ltF, z_eqF, z_10, z_01, z_litne, z_ne0, z_0ne, z_ne1, z_1ne, z_lt64, z_02, z_03, z_04, z_05, z_12, z_13, z_14, z_15, z_20, z_21, z_23, z_24, z_25, z_30, z_31, z_32, z_34, z_35, z_40, z_41, z_42, z_43, z_45, z_50, z_51, z_52, z_53, z_54]
theorem f_may {p s : Nat} (h : CR B i σ) (hW : Wd σ.1) (hp : p < cn σ.1 460) (hs : s < cn σ.1 2621) : FRs B i σ (am_fx am_P (d + 150) 303 0 [some (.ref 64), some (.int (Int32.ofNat p)), some (.int (Int32.ofNat s)), some (.int z)] [] (am_wI B i)) (.inl (some (.int (if whT σ.1 p s (txi σ.1 z (cn σ.1 3541)) = -1 then 0 else 1)))) := by
  have hF : Fc B := h.1.1
  have hY : Yd B 94 := h.1.2.1
  obtain ⟨i', E, f⟩ := c_lineThat (d := d + 144) (z := z) h hW hp hs
  refine FRs_s (i' := i') h ?_ fun q k _ _ h1 h2 _ _ => f q k (by omega) (by omega)
  · rw [bk_303_0]
    by_cases g : whT σ.1 p s (txi σ.1 z (cn σ.1 3541)) = -1
    · simp (disch := omega) only [E, g, hF, y_ckd, y_ck2d, y_ond, y_onn, y_oI, y_oIx, y_oJ, y_oV, y_oVx, y_oR, y_oRn, y_oRx, y_b0, y_b1, y_bi, y_bid, y_wIK, y_wIL, y_wII, y_wIJ, y_wIR, y_wIN, y_wIw, y_sI, ↓reduceIte, Nat.reduceEqDiff, eq_self, true_or, or_true, false_or, or_false, and_true, true_and, false_and, and_false, not_true, not_false_eq_true, tf_T, tf_F, y_up1, y_up2, y_xx, y_nx, y_sJ, y_sR, Int32.reduceLT, y_nxK, y_nxL, y_nxR, y_sJK, y_sJL, y_sJR, y_sJN, y_sRK, y_sRL, y_sRN, Nat.add_zero, z_nat, z_lit, z_lit0, z_lit1, z_in0, z_in1, z_addl0, z_lt, z_ltl, z_llt, z_inj, z_injl, z_add, z_addl, z_ladd, z_mul, z_mull, z_lmul, z_neg, z_negl, z_in, z_inl, z_ltT, z_ltF, z_eqF, z_10, z_01, z_litne, z_ne0, z_0ne, z_ne1, z_1ne, z_lt64, z_02, z_03, z_04, z_05, z_12, z_13, z_14, z_15, z_20, z_21, z_23, z_24, z_25, z_30, z_31, z_32, z_34, z_35, z_40, z_41, z_42, z_43, z_45, z_50, z_51, z_52, z_53, z_54]
    · simp (disch := omega) only [E, g, hF, y_ckd, y_ck2d, y_ond, y_onn, y_oI, y_oIx, y_oJ, y_oV, y_oVx, y_oR, y_oRn, y_oRx, y_b0, y_b1, y_bi, y_bid, y_wIK, y_wIL, y_wII, y_wIJ, y_wIR, y_wIN, y_wIw, y_sI, ↓reduceIte, Nat.reduceEqDiff, eq_self, true_or, or_true, false_or, or_false, and_true, true_and, false_and, and_false, not_true, not_false_eq_true, tf_T, tf_F, y_up1, y_up2, y_xx, y_nx, y_sJ, y_sR, Int32.reduceLT, y_nxK, y_nxL, y_nxR, y_sJK, y_sJL, y_sJR, y_sJN, y_sRK, y_sRL, y_sRN, Nat.add_zero, z_nat, z_lit, z_lit0, z_lit1, z_in0, z_in1, z_addl0, z_lt, z_ltl, z_llt, z_inj, z_injl, z_add, z_addl, z_ladd, z_mul, z_mull, z_lmul, z_neg, z_negl, z_in, z_inl, z_ltT, z_ltF, z_eqF, z_10, z_01, z_litne, z_ne0, z_0ne, z_ne1, z_1ne, z_lt64, z_02, z_03, z_04, z_05, z_12, z_13, z_14, z_15, z_20, z_21, z_23, z_24, z_25, z_30, z_31, z_32, z_34, z_35, z_40, z_41, z_42, z_43, z_45, z_50, z_51, z_52, z_53, z_54]
theorem m_mayK {p s : Nat} (h : MR B i σ) (hW : Wd σ.1) (hp : p < cn σ.1 460) (hs : s < cn σ.1 2621) : MRs B i σ (am_fx am_P (d + 150) 63 0 [some (.ref 874), some (.int (Int32.ofNat p)), some (.int (Int32.ofNat s)), some (.int z)] [] (am_wI B i)) (some (.int (if whT σ.1 p s (txi σ.1 z (cn σ.1 3541)) = -1 then 0 else 1))) 0 := by
  have hM : Md B := h.1.1
  have hc := hW.1.2.2.1
  have hc26 := hW.1.2.2.2.1
  have hx := hW.1.2.2.2.2.2.2.2.2.2
  have h120 := hc.2
  have h8 := hc26.2
  have h10 := hx.2
  have t1 : (Int32.ofNat p < 0) = False := z_neg (by omega)
  have t2 := eq_true (ck_nat hc (by omega) hp).2
  have t3 : (Int32.ofNat s < 0) = False := z_neg (by omega)
  have t4 := eq_true (ck_nat hc26 (by omega) hs).2
  have e5 := h.2.1 460 (by omega)
  have e6 := h.2.1 2621 (by omega)
  have hw := up_o (q := 874) (k := 0) (v := 0) (by omega) h.2.1
  have eT := m_textOf (d := d + 147) (x := z) hM hw hx
  obtain ⟨j, E, f⟩ := m_why (d := d + 145) (p := p) (s := s) (t := txi σ.1 z (cn σ.1 3541)) hM hw hW.2.2.2.2.2.2.2.2.1 (fun k q => ⟨txi_lt _ q, by have := txi_lt _ q; omega⟩) (by omega) (by omega) hW.1.2.2.2.2.2.1
  refine MRs_s (i' := j) h ?_ (by rw [f _ _ (by omega) (by omega) (by omega), y_up1 rfl rfl]) (fun q k h1 h2 => by rw [f _ _ (by omega) (by omega) (by omega), y_up2 (by omega)])
  · rw [bk_63_0]
    rcases whT_v (w := σ.1) (p := p) (s := s) (t := txi σ.1 z (cn σ.1 3541)) hW.2.2.2.2.2.2.2.2.1 (fun k q => ⟨txi_lt _ q, by have := txi_lt _ q; omega⟩) with g | ⟨n, hn, g⟩
    · rw [g] at E ⊢
      rw [if_pos rfl]
      simp (maxSteps := 1000000) (disch := omega) only [(fun d x0 x1 B i => bk_26_0 d x0 x1 (am_wI B i)), (fun d x0 x1 B i => bk_69_0 d x0 x1 (am_wI B i)), (fun d x0 x1 x2 x3 s0 s1 B i => bk_63_27 d x0 x1 x2 x3 s0 s1 (am_wI B i)), m_in, z_pred hc.1, z_pred hc26.1, Classical.not_not, t1, t2, t3, t4, m_thr0, e5, e6, eT, E, z_lm1, hM, y_ckd, y_ck2d, y_ond, y_onn, y_oI, y_oIx, y_oJ, y_oV, y_oVx, y_oR, y_oRn, y_oRx, y_b0, y_b1, y_bi, y_bid, y_wIK, y_wIL, y_wII, y_wIJ, y_wIR, y_wIN, y_wIw, y_sI, ↓reduceIte, Nat.reduceEqDiff, eq_self, true_or, or_true, false_or, or_false, and_true, true_and, false_and, and_false, not_true, not_false_eq_true, tf_T, tf_F, y_up1, y_up2, y_xx, y_nx, y_sJ, y_sR, Int32.reduceLT, y_nxK, y_nxL, y_nxR, y_sJK, y_sJL, y_sJR, y_sJN, y_sRK, y_sRL, y_sRN, Nat.add_zero, z_nat, z_lit, z_lit0, z_lit1, z_in0, z_in1, z_addl0, z_lt, z_ltl, z_llt, z_inj, z_injl, z_add, z_addl, z_ladd, z_mul, z_mull, z_lmul, z_neg, z_negl, z_in, z_inl, z_ltT, z_ltF, z_eqF, z_10, z_01, z_litne, z_ne0, z_0ne, z_ne1, z_1ne, z_lt64, z_02, z_03, z_04, z_05, z_12, z_13, z_14, z_15, z_20, z_21, z_23, z_24, z_25, z_30, z_31, z_32, z_34, z_35, z_40, z_41, z_42, z_43, z_45, z_50, z_51, z_52, z_53, z_54]
    · rw [g] at E ⊢
      have gm : ¬ Int32.ofNat n < 0 := by rw [z_neg (by omega)]; exact id
      rw [if_neg (z_nm1 (by omega))]
      simp (maxSteps := 1000000) (disch := omega) only [(fun d x0 x1 B i => bk_26_0 d x0 x1 (am_wI B i)), (fun d x0 x1 B i => bk_69_0 d x0 x1 (am_wI B i)), (fun d x0 x1 x2 x3 s0 s1 B i => bk_63_27 d x0 x1 x2 x3 s0 s1 (am_wI B i)), m_in, z_pred hc.1, z_pred hc26.1, Classical.not_not, t1, t2, t3, t4, m_thr0, e5, e6, eT, E, gm, hM, y_ckd, y_ck2d, y_ond, y_onn, y_oI, y_oIx, y_oJ, y_oV, y_oVx, y_oR, y_oRn, y_oRx, y_b0, y_b1, y_bi, y_bid, y_wIK, y_wIL, y_wII, y_wIJ, y_wIR, y_wIN, y_wIw, y_sI, ↓reduceIte, Nat.reduceEqDiff, eq_self, true_or, or_true, false_or, or_false, and_true, true_and, false_and, and_false, not_true, not_false_eq_true, tf_T, tf_F, y_up1, y_up2, y_xx, y_nx, y_sJ, y_sR, Int32.reduceLT, y_nxK, y_nxL, y_nxR, y_sJK, y_sJL, y_sJR, y_sJN, y_sRK, y_sRL, y_sRN, Nat.add_zero, z_nat, z_lit, z_lit0, z_lit1, z_in0, z_in1, z_addl0, z_lt, z_ltl, z_llt, z_inj, z_injl, z_add, z_addl, z_ladd, z_mul, z_mull, z_lmul, z_neg, z_negl, z_in, z_inl, z_ltT, z_ltF, z_eqF, z_10, z_01, z_litne, z_ne0, z_0ne, z_ne1, z_1ne, z_lt64, z_02, z_03, z_04, z_05, z_12, z_13, z_14, z_15, z_20, z_21, z_23, z_24, z_25, z_30, z_31, z_32, z_34, z_35, z_40, z_41, z_42, z_43, z_45, z_50, z_51, z_52, z_53, z_54]
theorem k_may (h : Sim B i σ) (hs : Sc B i L j) (hO : am_K B 892 = 22 ∧ am_L B 892 = 1) : Stq B i d 1000 j := by
  have hc := h.2.2.1.1.2.2.1
  have hc26 := h.2.2.1.1.2.2.2.1
  by_cases g : ¬ i 0 (j + 1) < 0 ∧ i 0 (j + 1) < σ.1 460
  rotate_left
  · exact kx_12_1 h hs hO (f_may_x0 (d := d + 48) h.1 g) fun B0 i0 h0 => m_may_x0 (d := d + 49) h0 hc g
  obtain ⟨p, e, hp⟩ := nat_ck hc (by omega) g
  by_cases g1 : ¬ i 0 (j + 2) < 0 ∧ i 0 (j + 2) < σ.1 2621
  rotate_left
  · exact kx_12_1 h hs hO (by rw [e]; exact f_may_x1 (d := d + 48) h.1 hc hp g1) fun B0 i0 h0 => by rw [e]; exact m_may_x1 (d := d + 49) h0 hc hp hc26 g1
  obtain ⟨s, e2, hs'⟩ := nat_ck hc26 (by omega) g1
  exact kk_12 h hs hO h.2.2 (by rw [e, e2]; exact f_may (d := d + 48) h.1 h.2.2.1 hp hs') fun B0 i0 h0 => by rw [e, e2]; exact m_mayK (d := d + 49) h0 h.2.2.1 hp hs'
theorem f_why_x0 (h : CR B i σ) (g : ¬ (¬ x < 0 ∧ x < σ.1 460)) : FRs B i σ (am_fx am_P (d + 150) 304 0 [some (.ref 64), some (.int x), some (.int y), some (.int z)] [] (am_wI B i)) (.inr 1) := by
  refine FRs_x h ?_
  have hF : Fc B := h.1.1
  have hY : Yd B 94 := h.1.2.1
  rw [bk_304_0]
  simp (disch := omega) only [(fun d x0 x1 x2 x3 B i => bk_346_0 d x0 x1 x2 x3 (am_wI B i)), c_pcN0 hF hY h.2.1.2.2.1.1 g, hF, hY, y_ckd, y_ck2d, y_ond, y_onn, y_oI, y_oIx, y_oJ, y_oV, y_oVx, y_oR, y_oRn, y_oRx, y_b0, y_b1, y_bi, y_bid, y_wIK, y_wIL, y_wII, y_wIJ, y_wIR, y_wIN, y_wIw, y_sI, ↓reduceIte, Nat.reduceEqDiff, eq_self, true_or, or_true, false_or, or_false, and_true, true_and, false_and, and_false, not_true, not_false_eq_true, tf_T, tf_F, y_up1, y_up2, y_xx, y_nx, y_sJ, y_sR, Int32.reduceLT, y_nxK, y_nxL, y_nxR, y_sJK, y_sJL, y_sJR, y_sJN, y_sRK, y_sRL, y_sRN, Nat.add_zero, z_nat, z_lit, z_lit0, z_lit1, z_in0, z_in1, z_addl0, z_lt, z_ltl, z_llt, z_inj, z_injl, z_add, z_addl, z_ladd, z_mul, z_mull, z_lmul, z_neg, z_negl, z_in, z_inl, z_ltT, z_ltF, z_eqF, z_10, z_01, z_litne, z_ne0, z_0ne, z_ne1, z_1ne, z_lt64, z_02, z_03, z_04, z_05, z_12, z_13, z_14, z_15, z_20, z_21, z_23, z_24, z_25, z_30, z_31, z_32, z_34, z_35, z_40, z_41, z_42, z_43, z_45, z_50, z_51, z_52, z_53, z_54]
theorem m_why_x0 (h : MR B i σ) (hc : isc σ.1 460 120) (g : ¬ (¬ x < 0 ∧ x < σ.1 460)) : MRs B i σ (am_fx am_P (d + 150) 64 0 [some (.ref 874), some (.int x), some (.int y), some (.int z)] [] (am_wI B i)) (some (.int 0)) 1 := by
  refine MRs_x h ?_
  have hM : Md B := h.1.1
  have e5 := h.2.1 460 (by omega)
  rw [bk_64_0]
  simp (maxSteps := 1000000) (disch := omega) only [(fun d x0 x1 B i => bk_26_0 d x0 x1 (am_wI B i)), (fun d x0 x1 x2 x3 s0 s1 B i => bk_64_27 d x0 x1 x2 x3 s0 s1 (am_wI B i)), m_in, z_pred hc.1, Classical.not_not, g, m_thr1 hM, e5, hM, y_ckd, y_ck2d, y_ond, y_onn, y_oI, y_oIx, y_oJ, y_oV, y_oVx, y_oR, y_oRn, y_oRx, y_b0, y_b1, y_bi, y_bid, y_wIK, y_wIL, y_wII, y_wIJ, y_wIR, y_wIN, y_wIw, y_sI, ↓reduceIte, Nat.reduceEqDiff, eq_self, true_or, or_true, false_or, or_false, and_true, true_and, false_and, and_false, not_true, not_false_eq_true, tf_T, tf_F, y_up1, y_up2, y_xx, y_nx, y_sJ, y_sR, Int32.reduceLT, y_nxK, y_nxL, y_nxR, y_sJK, y_sJL, y_sJR, y_sJN, y_sRK, y_sRL, y_sRN, Nat.add_zero, z_nat, z_lit, z_lit0, z_lit1, z_in0, z_in1, z_addl0, z_lt, z_ltl, z_llt, z_inj, z_injl, z_add, z_addl, z_ladd, z_mul, z_mull, z_lmul, z_neg, z_negl, z_in, z_inl, z_ltT, z_ltF, z_eqF, z_10, z_01, z_litne, z_ne0, z_0ne, z_ne1, z_1ne, z_lt64, z_02, z_03, z_04, z_05, z_12, z_13, z_14, z_15, z_20, z_21, z_23, z_24, z_25, z_30, z_31, z_32, z_34, z_35, z_40, z_41, z_42, z_43, z_45, z_50, z_51, z_52, z_53, z_54]
theorem f_why_x1 {p : Nat} (h : CR B i σ) (hc : isc σ.1 460 120) (hp : p < cn σ.1 460) (g : ¬ (¬ y < 0 ∧ y < σ.1 2621)) : FRs B i σ (am_fx am_P (d + 150) 304 0 [some (.ref 64), some (.int (Int32.ofNat p)), some (.int y), some (.int z)] [] (am_wI B i)) (.inr 1) := by
  refine FRs_x h ?_
  have hF : Fc B := h.1.1
  have hY : Yd B 94 := h.1.2.1
  have r8 := h.2.1.2.2.2.1.1
  rw [bk_304_0]
  simp (maxSteps := 1000000) (disch := omega) only [(fun d x0 x1 x2 x3 B i => bk_346_0 d x0 x1 x2 x3 (am_wI B i)), c_pcN hF hY h.2.1.2.2.1.1 hc hp, c_ckI0 g, r8, hF, hY, y_ckd, y_ck2d, y_ond, y_onn, y_oI, y_oIx, y_oJ, y_oV, y_oVx, y_oR, y_oRn, y_oRx, y_b0, y_b1, y_bi, y_bid, y_wIK, y_wIL, y_wII, y_wIJ, y_wIR, y_wIN, y_wIw, y_sI, ↓reduceIte, Nat.reduceEqDiff, eq_self, true_or, or_true, false_or, or_false, and_true, true_and, false_and, and_false, not_true, not_false_eq_true, tf_T, tf_F, y_up1, y_up2, y_xx, y_nx, y_sJ, y_sR, Int32.reduceLT, y_nxK, y_nxL, y_nxR, y_sJK, y_sJL, y_sJR, y_sJN, y_sRK, y_sRL, y_sRN, Nat.add_zero, z_nat, z_lit, z_lit0, z_lit1, z_in0, z_in1, z_addl0, z_lt, z_ltl, z_llt, z_inj, z_injl, z_add, z_addl, z_ladd, z_mul, z_mull, z_lmul, z_neg, z_negl, z_in, z_inl, z_ltT, z_ltF, z_eqF, z_10, z_01, z_litne, z_ne0, z_0ne, z_ne1, z_1ne, z_lt64, z_02, z_03, z_04, z_05, z_12, z_13, z_14, z_15, z_20, z_21, z_23, z_24, z_25, z_30, z_31, z_32, z_34, z_35, z_40, z_41, z_42, z_43, z_45, z_50, z_51, z_52, z_53, z_54]
theorem m_why_x1 {p : Nat} (h : MR B i σ) (hc : isc σ.1 460 120) (hp : p < cn σ.1 460) (hc26 : isc σ.1 2621 8) (g : ¬ (¬ y < 0 ∧ y < σ.1 2621)) : MRs B i σ (am_fx am_P (d + 150) 64 0 [some (.ref 874), some (.int (Int32.ofNat p)), some (.int y), some (.int z)] [] (am_wI B i)) (some (.int 0)) 1 := by
  refine MRs_x h ?_
  have hM : Md B := h.1.1
  have h120 := hc.2
  have t1 : (Int32.ofNat p < 0) = False := z_neg (by omega)
  have t2 := eq_true (ck_nat hc (by omega) hp).2
  have e5 := h.2.1 460 (by omega)
  have e6 := h.2.1 2621 (by omega)
  rw [bk_64_0]
  simp (maxSteps := 1000000) (disch := omega) only [(fun d x0 x1 B i => bk_26_0 d x0 x1 (am_wI B i)), (fun d x0 x1 B i => bk_69_0 d x0 x1 (am_wI B i)), (fun d x0 x1 x2 x3 s0 s1 B i => bk_64_27 d x0 x1 x2 x3 s0 s1 (am_wI B i)), m_in, z_pred hc.1, z_pred hc26.1, Classical.not_not, t1, t2, g, m_thr1 hM, e5, e6, hM, y_ckd, y_ck2d, y_ond, y_onn, y_oI, y_oIx, y_oJ, y_oV, y_oVx, y_oR, y_oRn, y_oRx, y_b0, y_b1, y_bi, y_bid, y_wIK, y_wIL, y_wII, y_wIJ, y_wIR, y_wIN, y_wIw, y_sI, ↓reduceIte, Nat.reduceEqDiff, eq_self, true_or, or_true, false_or, or_false, and_true, true_and, false_and, and_false, not_true, not_false_eq_true, tf_T, tf_F, y_up1, y_up2, y_xx, y_nx, y_sJ, y_sR, Int32.reduceLT, y_nxK, y_nxL, y_nxR, y_sJK, y_sJL, y_sJR, y_sJN, y_sRK, y_sRL, y_sRN, Nat.add_zero, z_nat, z_lit, z_lit0, z_lit1, z_in0, z_in1, z_addl0, z_lt, z_ltl, z_llt, z_inj, z_injl, z_add, z_addl, z_ladd, z_mul, z_mull, z_lmul, z_neg, z_negl, z_in, z_inl, z_ltT, z_ltF, z_eqF, z_10, z_01, z_litne, z_ne0, z_0ne, z_ne1, z_1ne, z_lt64, z_02, z_03, z_04, z_05, z_12, z_13, z_14, z_15, z_20, z_21, z_23, z_24, z_25, z_30, z_31, z_32, z_34, z_35, z_40, z_41, z_42, z_43, z_45, z_50, z_51, z_52, z_53, z_54]
theorem f_why {p s : Nat} (h : CR B i σ) (hW : Wd σ.1) (hp : p < cn σ.1 460) (hs : s < cn σ.1 2621) : FRs B i σ (am_fx am_P (d + 150) 304 0 [some (.ref 64), some (.int (Int32.ofNat p)), some (.int (Int32.ofNat s)), some (.int z)] [] (am_wI B i)) (.inl (some (.int (whT σ.1 p s (txi σ.1 z (cn σ.1 3541)))))) := by
  have hF : Fc B := h.1.1
  have hY : Yd B 94 := h.1.2.1
  obtain ⟨i', E, f⟩ := c_lineThat (d := d + 144) (z := z) h hW hp hs
  refine FRs_s (i' := i') h ?_ fun q k _ _ h1 h2 _ _ => f q k (by omega) (by omega)
  · rw [bk_304_0]
    simp (disch := omega) only [E, hF, y_ckd, y_ck2d, y_ond, y_onn, y_oI, y_oIx, y_oJ, y_oV, y_oVx, y_oR, y_oRn, y_oRx, y_b0, y_b1, y_bi, y_bid, y_wIK, y_wIL, y_wII, y_wIJ, y_wIR, y_wIN, y_wIw, y_sI, ↓reduceIte, Nat.reduceEqDiff, eq_self, true_or, or_true, false_or, or_false, and_true, true_and, false_and, and_false, not_true, not_false_eq_true, tf_T, tf_F, y_up1, y_up2, y_xx, y_nx, y_sJ, y_sR, Int32.reduceLT, y_nxK, y_nxL, y_nxR, y_sJK, y_sJL, y_sJR, y_sJN, y_sRK, y_sRL, y_sRN, Nat.add_zero, z_nat, z_lit, z_lit0, z_lit1, z_in0, z_in1, z_addl0, z_lt, z_ltl, z_llt, z_inj, z_injl, z_add, z_addl, z_ladd, z_mul, z_mull, z_lmul, z_neg, z_negl, z_in, z_inl, z_ltT, z_ltF, z_eqF, z_10, z_01, z_litne, z_ne0, z_0ne, z_ne1, z_1ne, z_lt64, z_02, z_03, z_04, z_05, z_12, z_13, z_14, z_15, z_20, z_21, z_23, z_24, z_25, z_30, z_31, z_32, z_34, z_35, z_40, z_41, z_42, z_43, z_45, z_50, z_51, z_52, z_53, z_54]
theorem m_whyK {p s : Nat} (h : MR B i σ) (hW : Wd σ.1) (hp : p < cn σ.1 460) (hs : s < cn σ.1 2621) : MRs B i σ (am_fx am_P (d + 150) 64 0 [some (.ref 874), some (.int (Int32.ofNat p)), some (.int (Int32.ofNat s)), some (.int z)] [] (am_wI B i)) (some (.int (whT σ.1 p s (txi σ.1 z (cn σ.1 3541))))) 0 := by
  have hM : Md B := h.1.1
  have hc := hW.1.2.2.1
  have hc26 := hW.1.2.2.2.1
  have hx := hW.1.2.2.2.2.2.2.2.2.2
  have h120 := hc.2
  have h8 := hc26.2
  have h10 := hx.2
  have t1 : (Int32.ofNat p < 0) = False := z_neg (by omega)
  have t2 := eq_true (ck_nat hc (by omega) hp).2
  have t3 : (Int32.ofNat s < 0) = False := z_neg (by omega)
  have t4 := eq_true (ck_nat hc26 (by omega) hs).2
  have e5 := h.2.1 460 (by omega)
  have e6 := h.2.1 2621 (by omega)
  have hw := up_o (q := 874) (k := 0) (v := 0) (by omega) h.2.1
  have eT := m_textOf (d := d + 147) (x := z) hM hw hx
  obtain ⟨j, E, f⟩ := m_why (d := d + 145) (p := p) (s := s) (t := txi σ.1 z (cn σ.1 3541)) hM hw hW.2.2.2.2.2.2.2.2.1 (fun k q => ⟨txi_lt _ q, by have := txi_lt _ q; omega⟩) (by omega) (by omega) hW.1.2.2.2.2.2.1
  refine MRs_s (i' := j) h ?_ (by rw [f _ _ (by omega) (by omega) (by omega), y_up1 rfl rfl]) (fun q k h1 h2 => by rw [f _ _ (by omega) (by omega) (by omega), y_up2 (by omega)])
  · rw [bk_64_0]
    simp (maxSteps := 1000000) (disch := omega) only [(fun d x0 x1 B i => bk_26_0 d x0 x1 (am_wI B i)), (fun d x0 x1 B i => bk_69_0 d x0 x1 (am_wI B i)), (fun d x0 x1 x2 x3 s0 s1 B i => bk_64_27 d x0 x1 x2 x3 s0 s1 (am_wI B i)), m_in, z_pred hc.1, z_pred hc26.1, Classical.not_not, t1, t2, t3, t4, m_thr0, e5, e6, eT, E, hM, y_ckd, y_ck2d, y_ond, y_onn, y_oI, y_oIx, y_oJ, y_oV, y_oVx, y_oR, y_oRn, y_oRx, y_b0, y_b1, y_bi, y_bid, y_wIK, y_wIL, y_wII, y_wIJ, y_wIR, y_wIN, y_wIw, y_sI, ↓reduceIte, Nat.reduceEqDiff, eq_self, true_or, or_true, false_or, or_false, and_true, true_and, false_and, and_false, not_true, not_false_eq_true, tf_T, tf_F, y_up1, y_up2, y_xx, y_nx, y_sJ, y_sR, Int32.reduceLT, y_nxK, y_nxL, y_nxR, y_sJK, y_sJL, y_sJR, y_sJN, y_sRK, y_sRL, y_sRN, Nat.add_zero, z_nat, z_lit, z_lit0, z_lit1, z_in0, z_in1, z_addl0, z_lt, z_ltl, z_llt, z_inj, z_injl, z_add, z_addl, z_ladd, z_mul, z_mull, z_lmul, z_neg, z_negl, z_in, z_inl, z_ltT, z_ltF, z_eqF, z_10, z_01, z_litne, z_ne0, z_0ne, z_ne1, z_1ne, z_lt64, z_02, z_03, z_04, z_05, z_12, z_13, z_14, z_15, z_20, z_21, z_23, z_24, z_25, z_30, z_31, z_32, z_34, z_35, z_40, z_41, z_42, z_43, z_45, z_50, z_51, z_52, z_53, z_54]
theorem k_why (h : Sim B i σ) (hs : Sc B i L j) (hO : am_K B 892 = 22 ∧ am_L B 892 = 1) : Stq B i d 1087 j := by
  have hc := h.2.2.1.1.2.2.1
  have hc26 := h.2.2.1.1.2.2.2.1
  by_cases g : ¬ i 0 (j + 1) < 0 ∧ i 0 (j + 1) < σ.1 460
  rotate_left
  · exact kx_13_1 h hs hO (f_why_x0 (d := d + 48) h.1 g) fun B0 i0 h0 => m_why_x0 (d := d + 49) h0 hc g
  obtain ⟨p, e, hp⟩ := nat_ck hc (by omega) g
  by_cases g1 : ¬ i 0 (j + 2) < 0 ∧ i 0 (j + 2) < σ.1 2621
  rotate_left
  · exact kx_13_1 h hs hO (by rw [e]; exact f_why_x1 (d := d + 48) h.1 hc hp g1) fun B0 i0 h0 => by rw [e]; exact m_why_x1 (d := d + 49) h0 hc hp hc26 g1
  obtain ⟨s, e2, hs'⟩ := nat_ck hc26 (by omega) g1
  exact kk_13 h hs hO h.2.2 (by rw [e, e2]; exact f_why (d := d + 48) h.1 h.2.2.1 hp hs') fun B0 i0 h0 => by rw [e, e2]; exact m_whyK (d := d + 49) h0 h.2.2.1 hp hs'
end May
