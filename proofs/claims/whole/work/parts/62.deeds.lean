/-! LAUNCH, SAIL, SHED: made by wip/whole/math/62.py. -/
section Deeds
variable {B B1 : am_A} {i i1 : Nat → Nat → Int32} {σ σ' : Sg} {w : Nat → Int32} {L j d : Nat} {x y : Int32} {X : am_X} {V : Option Value}
theorem FRs_tr {O : Option Value ⊕ Nat} (hS : Sr B B1 362) (hf : ∀ q k, (q < 354 ∨ 614 ≤ q) → (q = 64 → k ≠ 5) → i1 q k = i q k) (h : FRs B1 i1 σ' X O) : FRs B i σ' X O := by
  obtain ⟨B2, i2, a, b, c, ⟨e, e2⟩, f⟩ := h
  exact ⟨B2, i2, a, b, Le.tr (Sr.le hS (by omega)) c, ⟨by rw [← hS.2.2.2.1]; exact e, by rw [← hS.2.2.2.2.1]; exact e2⟩, fun q k hq => (f q k hq).trans (hf q k (by omega) (by omega))⟩
theorem MR_0 (h : MR B i σ) : MR B (am_up2 i 874 0 0) σ := MR_fr h (Le.rf B) fun q k hq => y_up2 (by omega)
theorem MRs_d {t : Int32} (hf : ∀ q k, q ≠ 877 → (q = 874 → k ≠ 5) → i1 q k = am_up2 i 874 0 0 q k) (h : MRs B i1 σ' X V t) : MRs B i σ' X V t := by
  obtain ⟨B2, i2, a, b, c, e, f⟩ := h
  exact ⟨B2, i2, a, b, c, e, fun q k hq => (f q k hq).trans ((hf q k (by omega) (by omega)).trans (y_up2 (by omega)))⟩
theorem nfit_of {s M : Nat} (hM : M < 2147483648) : ∃ m, itr (fun n a => if w (2622 + 49 * s + 9 + 5 * n + 4) = -1 then a else a + 1) M 0 = Int32.ofNat m ∧ m ≤ M := by
  induction M with
  | zero => exact ⟨0, rfl, Nat.le_refl _⟩
  | succ M ih =>
    obtain ⟨m, e, hm⟩ := ih (by omega)
    show ∃ m, (if w (2622 + 49 * s + 9 + 5 * M + 4) = -1 then itr (fun n a => if w (2622 + 49 * s + 9 + 5 * n + 4) = -1 then a else a + 1) M 0 else itr (fun n a => if w (2622 + 49 * s + 9 + 5 * n + 4) = -1 then a else a + 1) M 0 + 1) = Int32.ofNat m ∧ m ≤ M + 1
    rw [e]
    by_cases g : w (2622 + 49 * s + 9 + 5 * M + 4) = -1
    · exact ⟨m, if_pos g, by omega⟩
    · exact ⟨m + 1, (if_neg g).trans (z_addl m 1), by omega⟩
theorem nfit_lt {s : Nat} (hn : isc w (2622 + 49 * s + 8) 8) : (nfit w s < w (2622 + 49 * s + 8)) = ¬ (nfit w s = w (2622 + 49 * s + 8)) := by
  have h2 := hn.2
  obtain ⟨m, e, hm⟩ := nfit_of (w := w) (s := s) (M := cn w (2622 + 49 * s + 8)) (by omega)
  have e : nfit w s = Int32.ofNat m := e
  rw [e, hn.1, z_lt (by omega) (by omega), z_inj (by omega) (by omega)]
  exact propext ⟨fun h => by omega, fun h => by omega⟩
theorem f_launch_x0 {x : Int32} (h : CR B i σ) (g : ¬ (¬ x < 0 ∧ x < σ.1 2621)) : FRs B i σ (am_fx am_P (d + 150) 316 0 [some (.ref 64), some (.int x), none] [] (am_wI B i)) (.inr 1) := by
  refine FRs_x h ?_
  have hF : Fc B := h.1.1
  have hY : Yd B 94 := h.1.2.1
  rw [bk_316_0]
  simp (disch := omega) only [c_shN0 hF hY h.2.1.2.2.2.1.1 g, hF, hY, y_ckd, y_ck2d, y_ond, y_onn, y_oI, y_oIx, y_oJ, y_oV, y_oVx, y_oR, y_oRn, y_oRx, y_b0, y_b1, y_bi, y_bid, y_wIK, y_wIL, y_wII, y_wIJ, y_wIR, y_wIN, y_wIw, y_sI, ↓reduceIte, Nat.reduceEqDiff, eq_self, true_or, or_true, false_or, or_false, and_true, true_and, false_and, and_false, not_true, not_false_eq_true, tf_T, tf_F, y_up1, y_up2, y_xx, y_nx, y_sJ, y_sR, Int32.reduceLT, y_nxK, y_nxL, y_nxR, y_sJK, y_sJL, y_sJR, y_sJN, y_sRK, y_sRL, y_sRN, Nat.add_zero, z_nat, z_lit, z_lit0, z_lit1, z_in0, z_in1, z_addl0, z_lt, z_ltl, z_llt, z_inj, z_injl, z_add, z_addl, z_ladd, z_mul, z_mull, z_lmul, z_neg, z_negl, z_in, z_inl, z_ltT, z_ltF, z_eqF, z_10, z_01, z_litne, z_ne0, z_0ne, z_ne1, z_1ne, z_lt64, z_02, z_03, z_04, z_05, z_12, z_13, z_14, z_15, z_20, z_21, z_23, z_24, z_25, z_30, z_31, z_32, z_34, z_35, z_40, z_41, z_42, z_43, z_45, z_50, z_51, z_52, z_53, z_54]
theorem m_launch_x0 {x : Int32} (h : MR B i σ) (hc : isc σ.1 2621 8) (g : ¬ (¬ x < 0 ∧ x < σ.1 2621)) : MRs B i σ (am_fx am_P (d + 150) 95 0 [some (.ref 874), some (.int x)] [] (am_wI B i)) (some (.int 0)) 1 := by
  refine MRs_x h ?_
  have hM : Md B := h.1.1
  have e5 := h.2.1 2621 (by omega)
  rw [bk_95_0]
  simp (maxSteps := 2000000) (disch := omega) only [(fun d x0 x1 B i => bk_69_0 d x0 x1 (am_wI B i)), m_in, z_pred hc.1, Classical.not_not, g, m_thr1 hM, e5, hM, y_ckd, y_ck2d, y_ond, y_onn, y_oI, y_oIx, y_oJ, y_oV, y_oVx, y_oR, y_oRn, y_oRx, y_b0, y_b1, y_bi, y_bid, y_wIK, y_wIL, y_wII, y_wIJ, y_wIR, y_wIN, y_wIw, y_sI, ↓reduceIte, Nat.reduceEqDiff, eq_self, true_or, or_true, false_or, or_false, and_true, true_and, false_and, and_false, not_true, not_false_eq_true, tf_T, tf_F, y_up1, y_up2, y_xx, y_nx, y_sJ, y_sR, Int32.reduceLT, y_nxK, y_nxL, y_nxR, y_sJK, y_sJL, y_sJR, y_sJN, y_sRK, y_sRL, y_sRN, Nat.add_zero, z_nat, z_lit, z_lit0, z_lit1, z_in0, z_in1, z_addl0, z_lt, z_ltl, z_llt, z_inj, z_injl, z_add, z_addl, z_ladd, z_mul, z_mull, z_lmul, z_neg, z_negl, z_in, z_inl, z_ltT, z_ltF, z_eqF, z_10, z_01, z_litne, z_ne0, z_0ne, z_ne1, z_1ne, z_lt64, z_02, z_03, z_04, z_05, z_12, z_13, z_14, z_15, z_20, z_21, z_23, z_24, z_25, z_30, z_31, z_32, z_34, z_35, z_40, z_41, z_42, z_43, z_45, z_50, z_51, z_52, z_53, z_54]
theorem f_launch {p : Nat} (h : CR B i σ) (hW : Wd σ.1) (hc : isc σ.1 2621 8) (hp : p < cn σ.1 2621) (hn : isc σ.1 (2622 + 49 * p + 8) 8) (hv : ∀ n, n < cn σ.1 (2622 + 49 * p + 8) → n < 8 → σ.1 (2622 + 49 * p + 9 + 5 * n + 4) = -1 ∨ ¬ σ.1 (2622 + 49 * p + 9 + 5 * n + 4) < 0 ∧ σ.1 (2622 + 49 * p + 9 + 5 * n + 4) < σ.1 460) (h4 : isc σ.1 460 120) (g0 : σ.1 (2622 + 49 * p) = 1) (g1 : ¬ 0 < σ.1 (2622 + 49 * p + 1)) (g2 : nfit σ.1 p = σ.1 (2622 + 49 * p + 8)) : FRs B i ((wu (wu σ.1 (2622 + 49 * p) 2) (2622 + 49 * p + 5) (σ.1 0)), σ.1, σ.2.2.1, true, σ.2.2.2.2) (am_fx am_P (d + 150) 316 0 [some (.ref 64), some (.int (Int32.ofNat p)), none] [] (am_wI B i)) (.inl (some (.int 1))) := by
  have hF : Fc B := h.1.1
  have hY : Yd B 94 := h.1.2.1
  have h8 := hc.2
  have t1 : (Int32.ofNat p < 0) = False := z_neg (by omega)
  have t2 := eq_true (ck_nat hc (by omega) hp).2
  obtain ⟨B1, i1, E, hC, hS, hf⟩ := c_remember (d := d + 143) h hW
  have hF1 : Fc B1 := hC.1.1
  have hY1 : Yd B1 94 := hC.1.2.1
  obtain ⟨a1, a2, a3, a4, a5, a6, a7, a8, a9, a10⟩ := h.2.1.2.2.2.1.2 p hp (by omega)
  obtain ⟨c1, c2, c3, c4, c5, c6, c7, c8, c9, c10⟩ := hC.2.1.2.2.2.1.2 p hp (by omega)
  have k0 : i1 94 0 = σ.1 0 := hC.2.1.1.1
  have gl : ¬ nfit σ.1 p < σ.1 (2622 + 49 * p + 8) := by rw [nfit_lt hn]; exact fun q => q g2
  refine FRs_tr hS hf (FRs_w (i' := (am_up2 (am_up2 i1 (94 + 212 + 6 * p) 3 2) (94 + 212 + 6 * p) 5 (σ.1 0))) hC ?_ ?_ (by intros; simp (disch := omega) only [y_up2]))
  · rw [bk_316_0]
    simp (maxSteps := 1000000) (disch := omega) only [c_shN hF hY h.2.1.2.2.2.1.1 hc hp, a1, a2, a5, a7, a9, k0, E, c_fit hY h.2.1.2.2.2.1 hc hp hn, g0, g1, gl, (fun d B i => bk_316_54 d (am_wI B i)), hF, hY, hF1, hY1, y_ckd, y_ck2d, y_ond, y_onn, y_oI, y_oIx, y_oJ, y_oV, y_oVx, y_oR, y_oRn, y_oRx, y_b0, y_b1, y_bi, y_bid, y_wIK, y_wIL, y_wII, y_wIJ, y_wIR, y_wIN, y_wIw, y_sI, ↓reduceIte, Nat.reduceEqDiff, eq_self, true_or, or_true, false_or, or_false, and_true, true_and, false_and, and_false, not_true, not_false_eq_true, tf_T, tf_F, y_up1, y_up2, y_xx, y_nx, y_sJ, y_sR, Int32.reduceLT, y_nxK, y_nxL, y_nxR, y_sJK, y_sJL, y_sJR, y_sJN, y_sRK, y_sRL, y_sRN, Nat.add_zero, z_nat, z_lit, z_lit0, z_lit1, z_in0, z_in1, z_addl0, z_lt, z_ltl, z_llt, z_inj, z_injl, z_add, z_addl, z_ladd, z_mul, z_mull, z_lmul, z_neg, z_negl, z_in, z_inl, z_ltT, z_ltF, z_eqF, z_10, z_01, z_litne, z_ne0, z_0ne, z_ne1, z_1ne, z_lt64, z_02, z_03, z_04, z_05, z_12, z_13, z_14, z_15, z_20, z_21, z_23, z_24, z_25, z_30, z_31, z_32, z_34, z_35, z_40, z_41, z_42, z_43, z_45, z_50, z_51, z_52, z_53, z_54]
  · refine Rep_sh hC.2.1 (by omega) (by omega) (by intros; simp (disch := omega) only [y_up2]) (by intros; simp (disch := omega) only [wu_ne]) (ShR_8 (hC.2.1.2.2.2.1.2 p hp (by omega)) (by intros; simp (disch := omega) only [y_up2]) (by intros; simp (disch := omega) only [wu_ne]) ?_ ?_ ?_ ?_ ?_ ?_ ?_ ?_ ?_)
    all_goals (simp (disch := omega) only [y_up1, y_up2, wu_at, wu_ne]; try assumption)
theorem m_launch {p : Nat} (h : MR B i σ) (hc : isc σ.1 2621 8) (hp : p < cn σ.1 2621) (hn : isc σ.1 (2622 + 49 * p + 8) 8) (hv : ∀ n, n < cn σ.1 (2622 + 49 * p + 8) → n < 8 → σ.1 (2622 + 49 * p + 9 + 5 * n + 4) = -1 ∨ ¬ σ.1 (2622 + 49 * p + 9 + 5 * n + 4) < 0 ∧ σ.1 (2622 + 49 * p + 9 + 5 * n + 4) < σ.1 460) (h4 : isc σ.1 460 120) (g0 : σ.1 (2622 + 49 * p) = 1) (g1 : ¬ 0 < σ.1 (2622 + 49 * p + 1)) (g2 : nfit σ.1 p = σ.1 (2622 + 49 * p + 8)) : MRs B i ((wu (wu σ.1 (2622 + 49 * p) 2) (2622 + 49 * p + 5) (σ.1 0)), σ.1, σ.2.2.1, true, σ.2.2.2.2) (am_fx am_P (d + 150) 95 0 [some (.ref 874), some (.int (Int32.ofNat p))] [] (am_wI B i)) (some (.int 1)) 0 := by
  have hM : Md B := h.1.1
  have h8 := hc.2
  have t1 : (Int32.ofNat p < 0) = False := z_neg (by omega)
  have t2 := eq_true (ck_nat hc (by omega) hp).2
  obtain ⟨i1, E, hD, hf⟩ := m_deed (d := d + 149) (MR_0 h)
  have z0 : i1 874 0 = 0 := (hf _ _ (by omega) (by omega)).trans (y_up1 rfl rfl)
  have hw := up_o (q := 874) (k := 0) (v := 0) (by omega) h.2.1
  have e5 := h.2.1 2621 (by omega)
  have q0 := h.2.1 (2622 + 49 * p) (by omega)
  have q1 := h.2.1 (2622 + 49 * p + 1) (by omega)
  have q4 := h.2.1 (2622 + 49 * p + 4) (by omega)
  have q6 := h.2.1 (2622 + 49 * p + 6) (by omega)
  have q8 := h.2.1 (2622 + 49 * p + 8) (by omega)
  have r0 := hD.2.1 0 (by omega)
  refine MRs_d hf (MRs_w hD (i' := (am_up2 (am_up2 i1 875 (2622 + 49 * p) 2) 875 (2622 + 49 * p + 5) (σ.1 0))) ?_ (by rw [y_up2 (by omega), y_up2 (by omega), z0]) (up_wu (up_wu hD.2.1)) (by intros; simp (disch := omega) only [y_up2]))
  rw [bk_95_0]
  simp (maxSteps := 1000000) (disch := omega) only [(fun d x0 x1 B i => bk_69_0 d x0 x1 (am_wI B i)), m_in, z_pred hc.1, Classical.not_not, (fun d x0 x1 x2 B i => bk_67_0 d x0 x1 x2 (am_wI B i)), (fun d x0 x1 B i => bk_66_0 d x0 x1 (am_wI B i)), (fun d x0 x1 x2 x3 B i => bk_68_0 d x0 x1 x2 x3 (am_wI B i)), m_thr0, t1, t2, e5, q0, q1, q4, q6, q8, r0, E, m_fitOf hM hw hc hp hn hv h4, (fun d x0 x1 B i => bk_84_0 d x0 x1 (am_wI B i)), (fun d x0 B i => bk_13_0 d x0 (am_wI B i)), (fun d x0 x1 B i => bk_95_37 d x0 x1 (am_wI B i)), (fun d B i => bk_95_68 d (am_wI B i)), g0, g1, g2, hM, y_ckd, y_ck2d, y_ond, y_onn, y_oI, y_oIx, y_oJ, y_oV, y_oVx, y_oR, y_oRn, y_oRx, y_b0, y_b1, y_bi, y_bid, y_wIK, y_wIL, y_wII, y_wIJ, y_wIR, y_wIN, y_wIw, y_sI, ↓reduceIte, Nat.reduceEqDiff, eq_self, true_or, or_true, false_or, or_false, and_true, true_and, false_and, and_false, not_true, not_false_eq_true, tf_T, tf_F, y_up1, y_up2, y_xx, y_nx, y_sJ, y_sR, Int32.reduceLT, y_nxK, y_nxL, y_nxR, y_sJK, y_sJL, y_sJR, y_sJN, y_sRK, y_sRL, y_sRN, Nat.add_zero, z_nat, z_lit, z_lit0, z_lit1, z_in0, z_in1, z_addl0, z_lt, z_ltl, z_llt, z_inj, z_injl, z_add, z_addl, z_ladd, z_mul, z_mull, z_lmul, z_neg, z_negl, z_in, z_inl, z_ltT, z_ltF, z_eqF, z_10, z_01, z_litne, z_ne0, z_0ne, z_ne1, z_1ne, z_lt64, z_02, z_03, z_04, z_05, z_12, z_13, z_14, z_15, z_20, z_21, z_23, z_24, z_25, z_30, z_31, z_32, z_34, z_35, z_40, z_41, z_42, z_43, z_45, z_50, z_51, z_52, z_53, z_54]
theorem f_launch0 {p : Nat} (h : CR B i σ) (hc : isc σ.1 2621 8) (hp : p < cn σ.1 2621) (hn : isc σ.1 (2622 + 49 * p + 8) 8) (hv : ∀ n, n < cn σ.1 (2622 + 49 * p + 8) → n < 8 → σ.1 (2622 + 49 * p + 9 + 5 * n + 4) = -1 ∨ ¬ σ.1 (2622 + 49 * p + 9 + 5 * n + 4) < 0 ∧ σ.1 (2622 + 49 * p + 9 + 5 * n + 4) < σ.1 460) (h4 : isc σ.1 460 120) (g : ¬ (σ.1 (2622 + 49 * p) = 1 ∧ ¬ 0 < σ.1 (2622 + 49 * p + 1) ∧ nfit σ.1 p = σ.1 (2622 + 49 * p + 8))) : FRs B i σ (am_fx am_P (d + 150) 316 0 [some (.ref 64), some (.int (Int32.ofNat p)), none] [] (am_wI B i)) (.inl (some (.int 0))) := by
  refine FRs_0 h ?_
  have hF : Fc B := h.1.1
  have hY : Yd B 94 := h.1.2.1
  have h8 := hc.2
  have t1 : (Int32.ofNat p < 0) = False := z_neg (by omega)
  have t2 := eq_true (ck_nat hc (by omega) hp).2
  obtain ⟨a1, a2, a3, a4, a5, a6, a7, a8, a9, a10⟩ := h.2.1.2.2.2.1.2 p hp (by omega)
  rw [bk_316_0]
  by_cases g0 : σ.1 (2622 + 49 * p) = 1
  rotate_left
  · simp (maxSteps := 1000000) (disch := omega) only [c_shN hF hY h.2.1.2.2.2.1.1 hc hp, a1, a2, a9, c_fit hY h.2.1.2.2.2.1 hc hp hn, g0, hF, hY, y_ckd, y_ck2d, y_ond, y_onn, y_oI, y_oIx, y_oJ, y_oV, y_oVx, y_oR, y_oRn, y_oRx, y_b0, y_b1, y_bi, y_bid, y_wIK, y_wIL, y_wII, y_wIJ, y_wIR, y_wIN, y_wIw, y_sI, ↓reduceIte, Nat.reduceEqDiff, eq_self, true_or, or_true, false_or, or_false, and_true, true_and, false_and, and_false, not_true, not_false_eq_true, tf_T, tf_F, y_up1, y_up2, y_xx, y_nx, y_sJ, y_sR, Int32.reduceLT, y_nxK, y_nxL, y_nxR, y_sJK, y_sJL, y_sJR, y_sJN, y_sRK, y_sRL, y_sRN, Nat.add_zero, z_nat, z_lit, z_lit0, z_lit1, z_in0, z_in1, z_addl0, z_lt, z_ltl, z_llt, z_inj, z_injl, z_add, z_addl, z_ladd, z_mul, z_mull, z_lmul, z_neg, z_negl, z_in, z_inl, z_ltT, z_ltF, z_eqF, z_10, z_01, z_litne, z_ne0, z_0ne, z_ne1, z_1ne, z_lt64, z_02, z_03, z_04, z_05, z_12, z_13, z_14, z_15, z_20, z_21, z_23, z_24, z_25, z_30, z_31, z_32, z_34, z_35, z_40, z_41, z_42, z_43, z_45, z_50, z_51, z_52, z_53, z_54]
  by_cases g2 : nfit σ.1 p = σ.1 (2622 + 49 * p + 8)
  rotate_left
  · have gl : nfit σ.1 p < σ.1 (2622 + 49 * p + 8) := by rw [nfit_lt hn]; exact g2
    simp (maxSteps := 1000000) (disch := omega) only [c_shN hF hY h.2.1.2.2.2.1.1 hc hp, a1, a2, a9, c_fit hY h.2.1.2.2.2.1 hc hp hn, g0, gl, hF, hY, y_ckd, y_ck2d, y_ond, y_onn, y_oI, y_oIx, y_oJ, y_oV, y_oVx, y_oR, y_oRn, y_oRx, y_b0, y_b1, y_bi, y_bid, y_wIK, y_wIL, y_wII, y_wIJ, y_wIR, y_wIN, y_wIw, y_sI, ↓reduceIte, Nat.reduceEqDiff, eq_self, true_or, or_true, false_or, or_false, and_true, true_and, false_and, and_false, not_true, not_false_eq_true, tf_T, tf_F, y_up1, y_up2, y_xx, y_nx, y_sJ, y_sR, Int32.reduceLT, y_nxK, y_nxL, y_nxR, y_sJK, y_sJL, y_sJR, y_sJN, y_sRK, y_sRL, y_sRN, Nat.add_zero, z_nat, z_lit, z_lit0, z_lit1, z_in0, z_in1, z_addl0, z_lt, z_ltl, z_llt, z_inj, z_injl, z_add, z_addl, z_ladd, z_mul, z_mull, z_lmul, z_neg, z_negl, z_in, z_inl, z_ltT, z_ltF, z_eqF, z_10, z_01, z_litne, z_ne0, z_0ne, z_ne1, z_1ne, z_lt64, z_02, z_03, z_04, z_05, z_12, z_13, z_14, z_15, z_20, z_21, z_23, z_24, z_25, z_30, z_31, z_32, z_34, z_35, z_40, z_41, z_42, z_43, z_45, z_50, z_51, z_52, z_53, z_54]
  have gl : ¬ nfit σ.1 p < σ.1 (2622 + 49 * p + 8) := by rw [nfit_lt hn]; exact fun q => q g2
  have g1 : 0 < σ.1 (2622 + 49 * p + 1) := Decidable.byContradiction fun q => g ⟨g0, q, g2⟩
  simp (maxSteps := 1000000) (disch := omega) only [c_shN hF hY h.2.1.2.2.2.1.1 hc hp, a1, a2, a9, c_fit hY h.2.1.2.2.2.1 hc hp hn, g0, g1, gl, hF, hY, y_ckd, y_ck2d, y_ond, y_onn, y_oI, y_oIx, y_oJ, y_oV, y_oVx, y_oR, y_oRn, y_oRx, y_b0, y_b1, y_bi, y_bid, y_wIK, y_wIL, y_wII, y_wIJ, y_wIR, y_wIN, y_wIw, y_sI, ↓reduceIte, Nat.reduceEqDiff, eq_self, true_or, or_true, false_or, or_false, and_true, true_and, false_and, and_false, not_true, not_false_eq_true, tf_T, tf_F, y_up1, y_up2, y_xx, y_nx, y_sJ, y_sR, Int32.reduceLT, y_nxK, y_nxL, y_nxR, y_sJK, y_sJL, y_sJR, y_sJN, y_sRK, y_sRL, y_sRN, Nat.add_zero, z_nat, z_lit, z_lit0, z_lit1, z_in0, z_in1, z_addl0, z_lt, z_ltl, z_llt, z_inj, z_injl, z_add, z_addl, z_ladd, z_mul, z_mull, z_lmul, z_neg, z_negl, z_in, z_inl, z_ltT, z_ltF, z_eqF, z_10, z_01, z_litne, z_ne0, z_0ne, z_ne1, z_1ne, z_lt64, z_02, z_03, z_04, z_05, z_12, z_13, z_14, z_15, z_20, z_21, z_23, z_24, z_25, z_30, z_31, z_32, z_34, z_35, z_40, z_41, z_42, z_43, z_45, z_50, z_51, z_52, z_53, z_54]
theorem m_launch0 {p : Nat} (h : MR B i σ) (hc : isc σ.1 2621 8) (hp : p < cn σ.1 2621) (hn : isc σ.1 (2622 + 49 * p + 8) 8) (hv : ∀ n, n < cn σ.1 (2622 + 49 * p + 8) → n < 8 → σ.1 (2622 + 49 * p + 9 + 5 * n + 4) = -1 ∨ ¬ σ.1 (2622 + 49 * p + 9 + 5 * n + 4) < 0 ∧ σ.1 (2622 + 49 * p + 9 + 5 * n + 4) < σ.1 460) (h4 : isc σ.1 460 120) (g : ¬ (σ.1 (2622 + 49 * p) = 1 ∧ ¬ 0 < σ.1 (2622 + 49 * p + 1) ∧ nfit σ.1 p = σ.1 (2622 + 49 * p + 8))) : MRs B i σ (am_fx am_P (d + 150) 95 0 [some (.ref 874), some (.int (Int32.ofNat p))] [] (am_wI B i)) (some (.int 0)) 0 := by
  refine MRs_0 h ?_
  have hM : Md B := h.1.1
  have h8 := hc.2
  have t1 : (Int32.ofNat p < 0) = False := z_neg (by omega)
  have t2 := eq_true (ck_nat hc (by omega) hp).2
  have hw := up_o (q := 874) (k := 0) (v := 0) (by omega) h.2.1
  have e5 := h.2.1 2621 (by omega)
  have q0 := h.2.1 (2622 + 49 * p) (by omega)
  have q1 := h.2.1 (2622 + 49 * p + 1) (by omega)
  have q4 := h.2.1 (2622 + 49 * p + 4) (by omega)
  have q6 := h.2.1 (2622 + 49 * p + 6) (by omega)
  have q8 := h.2.1 (2622 + 49 * p + 8) (by omega)
  rw [bk_95_0]
  by_cases g0 : σ.1 (2622 + 49 * p) = 1
  rotate_left
  · simp (maxSteps := 1000000) (disch := omega) only [(fun d x0 x1 B i => bk_69_0 d x0 x1 (am_wI B i)), m_in, z_pred hc.1, Classical.not_not, (fun d x0 x1 x2 B i => bk_67_0 d x0 x1 x2 (am_wI B i)), (fun d x0 x1 B i => bk_66_0 d x0 x1 (am_wI B i)), (fun d x0 x1 x2 x3 B i => bk_68_0 d x0 x1 x2 x3 (am_wI B i)), m_fitOf hM hw hc hp hn hv h4, (fun d x0 x1 B i => bk_84_0 d x0 x1 (am_wI B i)), (fun d x0 B i => bk_13_0 d x0 (am_wI B i)), (fun d x0 x1 B i => bk_95_37 d x0 x1 (am_wI B i)), (fun d B i => bk_95_68 d (am_wI B i)), m_thr0, t1, t2, e5, q0, q1, q8, hM, g0, y_ckd, y_ck2d, y_ond, y_onn, y_oI, y_oIx, y_oJ, y_oV, y_oVx, y_oR, y_oRn, y_oRx, y_b0, y_b1, y_bi, y_bid, y_wIK, y_wIL, y_wII, y_wIJ, y_wIR, y_wIN, y_wIw, y_sI, ↓reduceIte, Nat.reduceEqDiff, eq_self, true_or, or_true, false_or, or_false, and_true, true_and, false_and, and_false, not_true, not_false_eq_true, tf_T, tf_F, y_up1, y_up2, y_xx, y_nx, y_sJ, y_sR, Int32.reduceLT, y_nxK, y_nxL, y_nxR, y_sJK, y_sJL, y_sJR, y_sJN, y_sRK, y_sRL, y_sRN, Nat.add_zero, z_nat, z_lit, z_lit0, z_lit1, z_in0, z_in1, z_addl0, z_lt, z_ltl, z_llt, z_inj, z_injl, z_add, z_addl, z_ladd, z_mul, z_mull, z_lmul, z_neg, z_negl, z_in, z_inl, z_ltT, z_ltF, z_eqF, z_10, z_01, z_litne, z_ne0, z_0ne, z_ne1, z_1ne, z_lt64, z_02, z_03, z_04, z_05, z_12, z_13, z_14, z_15, z_20, z_21, z_23, z_24, z_25, z_30, z_31, z_32, z_34, z_35, z_40, z_41, z_42, z_43, z_45, z_50, z_51, z_52, z_53, z_54]
  by_cases g1 : 0 < σ.1 (2622 + 49 * p + 1)
  · simp (maxSteps := 1000000) (disch := omega) only [(fun d x0 x1 B i => bk_69_0 d x0 x1 (am_wI B i)), m_in, z_pred hc.1, Classical.not_not, (fun d x0 x1 x2 B i => bk_67_0 d x0 x1 x2 (am_wI B i)), (fun d x0 x1 B i => bk_66_0 d x0 x1 (am_wI B i)), (fun d x0 x1 x2 x3 B i => bk_68_0 d x0 x1 x2 x3 (am_wI B i)), m_fitOf hM hw hc hp hn hv h4, (fun d x0 x1 B i => bk_84_0 d x0 x1 (am_wI B i)), (fun d x0 B i => bk_13_0 d x0 (am_wI B i)), (fun d x0 x1 B i => bk_95_37 d x0 x1 (am_wI B i)), (fun d B i => bk_95_68 d (am_wI B i)), m_thr0, t1, t2, e5, q0, q1, q8, hM, g0, g1, y_ckd, y_ck2d, y_ond, y_onn, y_oI, y_oIx, y_oJ, y_oV, y_oVx, y_oR, y_oRn, y_oRx, y_b0, y_b1, y_bi, y_bid, y_wIK, y_wIL, y_wII, y_wIJ, y_wIR, y_wIN, y_wIw, y_sI, ↓reduceIte, Nat.reduceEqDiff, eq_self, true_or, or_true, false_or, or_false, and_true, true_and, false_and, and_false, not_true, not_false_eq_true, tf_T, tf_F, y_up1, y_up2, y_xx, y_nx, y_sJ, y_sR, Int32.reduceLT, y_nxK, y_nxL, y_nxR, y_sJK, y_sJL, y_sJR, y_sJN, y_sRK, y_sRL, y_sRN, Nat.add_zero, z_nat, z_lit, z_lit0, z_lit1, z_in0, z_in1, z_addl0, z_lt, z_ltl, z_llt, z_inj, z_injl, z_add, z_addl, z_ladd, z_mul, z_mull, z_lmul, z_neg, z_negl, z_in, z_inl, z_ltT, z_ltF, z_eqF, z_10, z_01, z_litne, z_ne0, z_0ne, z_ne1, z_1ne, z_lt64, z_02, z_03, z_04, z_05, z_12, z_13, z_14, z_15, z_20, z_21, z_23, z_24, z_25, z_30, z_31, z_32, z_34, z_35, z_40, z_41, z_42, z_43, z_45, z_50, z_51, z_52, z_53, z_54]
  have g2 : ¬ nfit σ.1 p = σ.1 (2622 + 49 * p + 8) := fun q => g ⟨g0, g1, q⟩
  simp (maxSteps := 1000000) (disch := omega) only [(fun d x0 x1 B i => bk_69_0 d x0 x1 (am_wI B i)), m_in, z_pred hc.1, Classical.not_not, (fun d x0 x1 x2 B i => bk_67_0 d x0 x1 x2 (am_wI B i)), (fun d x0 x1 B i => bk_66_0 d x0 x1 (am_wI B i)), (fun d x0 x1 x2 x3 B i => bk_68_0 d x0 x1 x2 x3 (am_wI B i)), m_fitOf hM hw hc hp hn hv h4, (fun d x0 x1 B i => bk_84_0 d x0 x1 (am_wI B i)), (fun d x0 B i => bk_13_0 d x0 (am_wI B i)), (fun d x0 x1 B i => bk_95_37 d x0 x1 (am_wI B i)), (fun d B i => bk_95_68 d (am_wI B i)), m_thr0, t1, t2, e5, q0, q1, q8, hM, g0, g1, g2, y_ckd, y_ck2d, y_ond, y_onn, y_oI, y_oIx, y_oJ, y_oV, y_oVx, y_oR, y_oRn, y_oRx, y_b0, y_b1, y_bi, y_bid, y_wIK, y_wIL, y_wII, y_wIJ, y_wIR, y_wIN, y_wIw, y_sI, ↓reduceIte, Nat.reduceEqDiff, eq_self, true_or, or_true, false_or, or_false, and_true, true_and, false_and, and_false, not_true, not_false_eq_true, tf_T, tf_F, y_up1, y_up2, y_xx, y_nx, y_sJ, y_sR, Int32.reduceLT, y_nxK, y_nxL, y_nxR, y_sJK, y_sJL, y_sJR, y_sJN, y_sRK, y_sRL, y_sRN, Nat.add_zero, z_nat, z_lit, z_lit0, z_lit1, z_in0, z_in1, z_addl0, z_lt, z_ltl, z_llt, z_inj, z_injl, z_add, z_addl, z_ladd, z_mul, z_mull, z_lmul, z_neg, z_negl, z_in, z_inl, z_ltT, z_ltF, z_eqF, z_10, z_01, z_litne, z_ne0, z_0ne, z_ne1, z_1ne, z_lt64, z_02, z_03, z_04, z_05, z_12, z_13, z_14, z_15, z_20, z_21, z_23, z_24, z_25, z_30, z_31, z_32, z_34, z_35, z_40, z_41, z_42, z_43, z_45, z_50, z_51, z_52, z_53, z_54]
theorem k_launch (h : Sim B i σ) (hs : Sc B i L j) (hO : am_K B 892 = 22 ∧ am_L B 892 = 1) : Stq B i d 1965 j := by
  have hc := h.2.2.1.1.2.2.2.1
  have h8 := hc.2
  by_cases g : ¬ i 0 (j + 1) < 0 ∧ i 0 (j + 1) < σ.1 2621
  rotate_left
  · exact kx_24_1 h hs hO (f_launch_x0 (d := d + 48) h.1 g) fun B0 i0 h0 => m_launch_x0 (d := d + 49) h0 hc g
  obtain ⟨p, e, hp⟩ := nat_ck hc (by omega) g
  obtain ⟨b0, b1, b3, b4, b5, b6, b7, b8, b9⟩ := h.2.2.1.2.2.2.2.1.1 p hp (by omega)
  have h4 := h.2.2.1.1.2.2.1
  have hv := fun n h1 h2 => (b9 n h1 h2).2
  by_cases g0 : σ.1 (2622 + 49 * p) = 1 ∧ ¬ 0 < σ.1 (2622 + 49 * p + 1) ∧ nfit σ.1 p = σ.1 (2622 + 49 * p + 8)
  · exact kk_24 (σ' := ((wu (wu σ.1 (2622 + 49 * p) 2) (2622 + 49 * p + 5) (σ.1 0)), σ.1, σ.2.2.1, true, σ.2.2.2.2)) h hs hO ⟨(show Wd (wu (wu σ.1 (2622 + 49 * p) 2) (2622 + 49 * p + 5) (σ.1 0)) from Wd_sh8 h.2.2.1 hp (by omega) (by intros; simp (disch := omega) only [wu_ne]) (by rw [wu_ne (by omega), wu_at rfl]; decide) (by rw [wu_ne (by omega)]; rw [wu_ne (by omega)]; exact b1) (by rw [wu_ne (by omega)]; rw [wu_ne (by omega)]; exact b3) (fun q => absurd q (by rw [wu_ne (by omega), wu_at rfl]; decide)) (fun _ => by rw [wu_ne (by omega), wu_ne (by omega)]; exact b5 (by rw [g0.1]; decide)) (by rw [wu_ne (by omega)]; rw [wu_ne (by omega)]; exact b6) (by rw [wu_ne (by omega)]; rw [wu_ne (by omega)]; exact b7)), fun _ => h.2.2.1, h.2.2.2.2.1, h.2.2.2.2.2⟩ (by rw [e]; exact f_launch (d := d + 48) h.1 h.2.2.1 hc hp b8 hv h4 g0.1 g0.2.1 g0.2.2) fun B0 i0 h0 => by rw [e]; exact m_launch (d := d + 49) h0 hc hp b8 hv h4 g0.1 g0.2.1 g0.2.2
  · exact kk_24 h hs hO h.2.2 (by rw [e]; exact f_launch0 (d := d + 48) h.1 hc hp b8 hv h4 g0) fun B0 i0 h0 => by rw [e]; exact m_launch0 (d := d + 49) h0 hc hp b8 hv h4 g0
theorem f_sail_x0 {x y : Int32} (h : CR B i σ) (g : ¬ (¬ x < 0 ∧ x < σ.1 2621)) : FRs B i σ (am_fx am_P (d + 150) 320 0 [some (.ref 64), some (.int x), some (.int y), none, none] [] (am_wI B i)) (.inr 1) := by
  refine FRs_x h ?_
  have hF : Fc B := h.1.1
  have hY : Yd B 94 := h.1.2.1
  rw [bk_320_0]
  simp (disch := omega) only [c_shN0 hF hY h.2.1.2.2.2.1.1 g, hF, hY, y_ckd, y_ck2d, y_ond, y_onn, y_oI, y_oIx, y_oJ, y_oV, y_oVx, y_oR, y_oRn, y_oRx, y_b0, y_b1, y_bi, y_bid, y_wIK, y_wIL, y_wII, y_wIJ, y_wIR, y_wIN, y_wIw, y_sI, ↓reduceIte, Nat.reduceEqDiff, eq_self, true_or, or_true, false_or, or_false, and_true, true_and, false_and, and_false, not_true, not_false_eq_true, tf_T, tf_F, y_up1, y_up2, y_xx, y_nx, y_sJ, y_sR, Int32.reduceLT, y_nxK, y_nxL, y_nxR, y_sJK, y_sJL, y_sJR, y_sJN, y_sRK, y_sRL, y_sRN, Nat.add_zero, z_nat, z_lit, z_lit0, z_lit1, z_in0, z_in1, z_addl0, z_lt, z_ltl, z_llt, z_inj, z_injl, z_add, z_addl, z_ladd, z_mul, z_mull, z_lmul, z_neg, z_negl, z_in, z_inl, z_ltT, z_ltF, z_eqF, z_10, z_01, z_litne, z_ne0, z_0ne, z_ne1, z_1ne, z_lt64, z_02, z_03, z_04, z_05, z_12, z_13, z_14, z_15, z_20, z_21, z_23, z_24, z_25, z_30, z_31, z_32, z_34, z_35, z_40, z_41, z_42, z_43, z_45, z_50, z_51, z_52, z_53, z_54]
theorem m_sail_x0 {x y : Int32} (h : MR B i σ) (hc : isc σ.1 2621 8) (g : ¬ (¬ x < 0 ∧ x < σ.1 2621)) : MRs B i σ (am_fx am_P (d + 150) 102 0 [some (.ref 874), some (.int x), some (.int y)] [] (am_wI B i)) (some (.int 0)) 1 := by
  refine MRs_x h ?_
  have hM : Md B := h.1.1
  have e5 := h.2.1 2621 (by omega)
  rw [bk_102_0]
  simp (maxSteps := 2000000) (disch := omega) only [(fun d x0 x1 B i => bk_69_0 d x0 x1 (am_wI B i)), m_in, z_pred hc.1, Classical.not_not, g, m_thr1 hM, e5, hM, y_ckd, y_ck2d, y_ond, y_onn, y_oI, y_oIx, y_oJ, y_oV, y_oVx, y_oR, y_oRn, y_oRx, y_b0, y_b1, y_bi, y_bid, y_wIK, y_wIL, y_wII, y_wIJ, y_wIR, y_wIN, y_wIw, y_sI, ↓reduceIte, Nat.reduceEqDiff, eq_self, true_or, or_true, false_or, or_false, and_true, true_and, false_and, and_false, not_true, not_false_eq_true, tf_T, tf_F, y_up1, y_up2, y_xx, y_nx, y_sJ, y_sR, Int32.reduceLT, y_nxK, y_nxL, y_nxR, y_sJK, y_sJL, y_sJR, y_sJN, y_sRK, y_sRL, y_sRN, Nat.add_zero, z_nat, z_lit, z_lit0, z_lit1, z_in0, z_in1, z_addl0, z_lt, z_ltl, z_llt, z_inj, z_injl, z_add, z_addl, z_ladd, z_mul, z_mull, z_lmul, z_neg, z_negl, z_in, z_inl, z_ltT, z_ltF, z_eqF, z_10, z_01, z_litne, z_ne0, z_0ne, z_ne1, z_1ne, z_lt64, z_02, z_03, z_04, z_05, z_12, z_13, z_14, z_15, z_20, z_21, z_23, z_24, z_25, z_30, z_31, z_32, z_34, z_35, z_40, z_41, z_42, z_43, z_45, z_50, z_51, z_52, z_53, z_54]
theorem f_sail_a {p : Nat} (h : CR B i σ) (hW : Wd σ.1) (hc : isc σ.1 2621 8) (hp : p < cn σ.1 2621)  (g0 : σ.1 (2622 + 49 * p) = 4) : FRs B i ((wu σ.1 (2622 + 49 * p) 2), σ.1, σ.2.2.1, true, σ.2.2.2.2) (am_fx am_P (d + 150) 320 0 [some (.ref 64), some (.int (Int32.ofNat p)), some (.int 0), none, none] [] (am_wI B i)) (.inl (some (.int 1))) := by
  have hF : Fc B := h.1.1
  have hY : Yd B 94 := h.1.2.1
  have h8 := hc.2
  have t1 : (Int32.ofNat p < 0) = False := z_neg (by omega)
  have t2 := eq_true (ck_nat hc (by omega) hp).2
  obtain ⟨B1, i1, E, hC, hS, hf⟩ := c_remember (d := d + 143) h hW
  have hF1 : Fc B1 := hC.1.1
  have hY1 : Yd B1 94 := hC.1.2.1
  obtain ⟨a1, a2, a3, a4, a5, a6, a7, a8, a9, a10⟩ := h.2.1.2.2.2.1.2 p hp (by omega)
  obtain ⟨c1, c2, c3, c4, c5, c6, c7, c8, c9, c10⟩ := hC.2.1.2.2.2.1.2 p hp (by omega)
  have k0 : i1 94 0 = σ.1 0 := hC.2.1.1.1
  refine FRs_tr hS hf (FRs_w (i' := (am_up2 i1 (94 + 212 + 6 * p) 3 2)) hC ?_ ?_ (by intros; simp (disch := omega) only [y_up2]))
  · rw [bk_320_0]
    simp (maxSteps := 1000000) (disch := omega) only [c_shN hF hY h.2.1.2.2.2.1.1 hc hp, a1, a2, a5, a7, a9, k0, E, g0, (fun d x0 x2 x3 s0 B i => bk_320_46 d x0 x2 x3 s0 (am_wI B i)), hF, hY, hF1, hY1, y_ckd, y_ck2d, y_ond, y_onn, y_oI, y_oIx, y_oJ, y_oV, y_oVx, y_oR, y_oRn, y_oRx, y_b0, y_b1, y_bi, y_bid, y_wIK, y_wIL, y_wII, y_wIJ, y_wIR, y_wIN, y_wIw, y_sI, ↓reduceIte, Nat.reduceEqDiff, eq_self, true_or, or_true, false_or, or_false, and_true, true_and, false_and, and_false, not_true, not_false_eq_true, tf_T, tf_F, y_up1, y_up2, y_xx, y_nx, y_sJ, y_sR, Int32.reduceLT, y_nxK, y_nxL, y_nxR, y_sJK, y_sJL, y_sJR, y_sJN, y_sRK, y_sRL, y_sRN, Nat.add_zero, z_nat, z_lit, z_lit0, z_lit1, z_in0, z_in1, z_addl0, z_lt, z_ltl, z_llt, z_inj, z_injl, z_add, z_addl, z_ladd, z_mul, z_mull, z_lmul, z_neg, z_negl, z_in, z_inl, z_ltT, z_ltF, z_eqF, z_10, z_01, z_litne, z_ne0, z_0ne, z_ne1, z_1ne, z_lt64, z_02, z_03, z_04, z_05, z_12, z_13, z_14, z_15, z_20, z_21, z_23, z_24, z_25, z_30, z_31, z_32, z_34, z_35, z_40, z_41, z_42, z_43, z_45, z_50, z_51, z_52, z_53, z_54]
  · refine Rep_sh hC.2.1 (by omega) (by omega) (by intros; simp (disch := omega) only [y_up2]) (by intros; simp (disch := omega) only [wu_ne]) (ShR_8 (hC.2.1.2.2.2.1.2 p hp (by omega)) (by intros; simp (disch := omega) only [y_up2]) (by intros; simp (disch := omega) only [wu_ne]) ?_ ?_ ?_ ?_ ?_ ?_ ?_ ?_ ?_)
    all_goals (simp (disch := omega) only [y_up1, y_up2, wu_at, wu_ne]; try assumption)
theorem m_sail_a {p : Nat} (h : MR B i σ) (hc : isc σ.1 2621 8) (hp : p < cn σ.1 2621)  (g0 : σ.1 (2622 + 49 * p) = 4) : MRs B i ((wu σ.1 (2622 + 49 * p) 2), σ.1, σ.2.2.1, true, σ.2.2.2.2) (am_fx am_P (d + 150) 102 0 [some (.ref 874), some (.int (Int32.ofNat p)), some (.int 0)] [] (am_wI B i)) (some (.int 1)) 0 := by
  have hM : Md B := h.1.1
  have h8 := hc.2
  have t1 : (Int32.ofNat p < 0) = False := z_neg (by omega)
  have t2 := eq_true (ck_nat hc (by omega) hp).2
  obtain ⟨i1, E, hD, hf⟩ := m_deed (d := d + 149) (MR_0 h)
  have z0 : i1 874 0 = 0 := (hf _ _ (by omega) (by omega)).trans (y_up1 rfl rfl)
  have hw := up_o (q := 874) (k := 0) (v := 0) (by omega) h.2.1
  have e5 := h.2.1 2621 (by omega)
  have q0 := h.2.1 (2622 + 49 * p) (by omega)
  have q1 := h.2.1 (2622 + 49 * p + 1) (by omega)
  have q4 := h.2.1 (2622 + 49 * p + 4) (by omega)
  have q6 := h.2.1 (2622 + 49 * p + 6) (by omega)
  have q8 := h.2.1 (2622 + 49 * p + 8) (by omega)
  have r0 := hD.2.1 0 (by omega)
  refine MRs_d hf (MRs_w hD (i' := (am_up2 i1 875 (2622 + 49 * p) 2)) ?_ (by rw [y_up2 (by omega), z0]) (up_wu hD.2.1) (by intros; simp (disch := omega) only [y_up2]))
  rw [bk_102_0]
  simp (maxSteps := 1000000) (disch := omega) only [(fun d x0 x1 B i => bk_69_0 d x0 x1 (am_wI B i)), m_in, z_pred hc.1, Classical.not_not, (fun d x0 x1 x2 B i => bk_67_0 d x0 x1 x2 (am_wI B i)), (fun d x0 x1 B i => bk_66_0 d x0 x1 (am_wI B i)), (fun d x0 x1 x2 x3 B i => bk_68_0 d x0 x1 x2 x3 (am_wI B i)), m_thr0, t1, t2, e5, q0, q1, q4, q6, q8, r0, E, g0, (fun d x0 x1 x2 s0 s1 B i => bk_102_33 d x0 x1 x2 s0 s1 (am_wI B i)), (fun d x0 x1 x2 B i => bk_102_53 d x0 x1 x2 (am_wI B i)), (fun d s0 s1 s2 s3 B i => bk_102_69 d s0 s1 s2 s3 (am_wI B i)), hM, y_ckd, y_ck2d, y_ond, y_onn, y_oI, y_oIx, y_oJ, y_oV, y_oVx, y_oR, y_oRn, y_oRx, y_b0, y_b1, y_bi, y_bid, y_wIK, y_wIL, y_wII, y_wIJ, y_wIR, y_wIN, y_wIw, y_sI, ↓reduceIte, Nat.reduceEqDiff, eq_self, true_or, or_true, false_or, or_false, and_true, true_and, false_and, and_false, not_true, not_false_eq_true, tf_T, tf_F, y_up1, y_up2, y_xx, y_nx, y_sJ, y_sR, Int32.reduceLT, y_nxK, y_nxL, y_nxR, y_sJK, y_sJL, y_sJR, y_sJN, y_sRK, y_sRL, y_sRN, Nat.add_zero, z_nat, z_lit, z_lit0, z_lit1, z_in0, z_in1, z_addl0, z_lt, z_ltl, z_llt, z_inj, z_injl, z_add, z_addl, z_ladd, z_mul, z_mull, z_lmul, z_neg, z_negl, z_in, z_inl, z_ltT, z_ltF, z_eqF, z_10, z_01, z_litne, z_ne0, z_0ne, z_ne1, z_1ne, z_lt64, z_02, z_03, z_04, z_05, z_12, z_13, z_14, z_15, z_20, z_21, z_23, z_24, z_25, z_30, z_31, z_32, z_34, z_35, z_40, z_41, z_42, z_43, z_45, z_50, z_51, z_52, z_53, z_54]
theorem f_sail0_a {p : Nat} (h : CR B i σ) (hc : isc σ.1 2621 8) (hp : p < cn σ.1 2621)   (g : ¬ (σ.1 (2622 + 49 * p) = 4)) : FRs B i σ (am_fx am_P (d + 150) 320 0 [some (.ref 64), some (.int (Int32.ofNat p)), some (.int 0), none, none] [] (am_wI B i)) (.inl (some (.int 0))) := by
  refine FRs_0 h ?_
  have hF : Fc B := h.1.1
  have hY : Yd B 94 := h.1.2.1
  have h8 := hc.2
  have t1 : (Int32.ofNat p < 0) = False := z_neg (by omega)
  have t2 := eq_true (ck_nat hc (by omega) hp).2
  obtain ⟨a1, a2, a3, a4, a5, a6, a7, a8, a9, a10⟩ := h.2.1.2.2.2.1.2 p hp (by omega)
  rw [bk_320_0]
  simp (maxSteps := 1000000) (disch := omega) only [c_shN hF hY h.2.1.2.2.2.1.1 hc hp, a1, a7, (fun d x0 x2 x3 s0 B i => bk_320_46 d x0 x2 x3 s0 (am_wI B i)), g, hF, hY, y_ckd, y_ck2d, y_ond, y_onn, y_oI, y_oIx, y_oJ, y_oV, y_oVx, y_oR, y_oRn, y_oRx, y_b0, y_b1, y_bi, y_bid, y_wIK, y_wIL, y_wII, y_wIJ, y_wIR, y_wIN, y_wIw, y_sI, ↓reduceIte, Nat.reduceEqDiff, eq_self, true_or, or_true, false_or, or_false, and_true, true_and, false_and, and_false, not_true, not_false_eq_true, tf_T, tf_F, y_up1, y_up2, y_xx, y_nx, y_sJ, y_sR, Int32.reduceLT, y_nxK, y_nxL, y_nxR, y_sJK, y_sJL, y_sJR, y_sJN, y_sRK, y_sRL, y_sRN, Nat.add_zero, z_nat, z_lit, z_lit0, z_lit1, z_in0, z_in1, z_addl0, z_lt, z_ltl, z_llt, z_inj, z_injl, z_add, z_addl, z_ladd, z_mul, z_mull, z_lmul, z_neg, z_negl, z_in, z_inl, z_ltT, z_ltF, z_eqF, z_10, z_01, z_litne, z_ne0, z_0ne, z_ne1, z_1ne, z_lt64, z_02, z_03, z_04, z_05, z_12, z_13, z_14, z_15, z_20, z_21, z_23, z_24, z_25, z_30, z_31, z_32, z_34, z_35, z_40, z_41, z_42, z_43, z_45, z_50, z_51, z_52, z_53, z_54]
theorem m_sail0_a {p : Nat} (h : MR B i σ) (hc : isc σ.1 2621 8) (hp : p < cn σ.1 2621)   (g : ¬ (σ.1 (2622 + 49 * p) = 4)) : MRs B i σ (am_fx am_P (d + 150) 102 0 [some (.ref 874), some (.int (Int32.ofNat p)), some (.int 0)] [] (am_wI B i)) (some (.int 0)) 0 := by
  refine MRs_0 h ?_
  have hM : Md B := h.1.1
  have h8 := hc.2
  have t1 : (Int32.ofNat p < 0) = False := z_neg (by omega)
  have t2 := eq_true (ck_nat hc (by omega) hp).2
  have hw := up_o (q := 874) (k := 0) (v := 0) (by omega) h.2.1
  have e5 := h.2.1 2621 (by omega)
  have q0 := h.2.1 (2622 + 49 * p) (by omega)
  have q1 := h.2.1 (2622 + 49 * p + 1) (by omega)
  have q4 := h.2.1 (2622 + 49 * p + 4) (by omega)
  have q6 := h.2.1 (2622 + 49 * p + 6) (by omega)
  have q8 := h.2.1 (2622 + 49 * p + 8) (by omega)
  rw [bk_102_0]
  simp (maxSteps := 1000000) (disch := omega) only [(fun d x0 x1 B i => bk_69_0 d x0 x1 (am_wI B i)), m_in, z_pred hc.1, Classical.not_not, (fun d x0 x1 x2 B i => bk_67_0 d x0 x1 x2 (am_wI B i)), (fun d x0 x1 B i => bk_66_0 d x0 x1 (am_wI B i)), (fun d x0 x1 x2 x3 B i => bk_68_0 d x0 x1 x2 x3 (am_wI B i)), (fun d x0 x1 x2 s0 s1 B i => bk_102_33 d x0 x1 x2 s0 s1 (am_wI B i)), (fun d x0 x1 x2 B i => bk_102_53 d x0 x1 x2 (am_wI B i)), (fun d s0 s1 s2 s3 B i => bk_102_69 d s0 s1 s2 s3 (am_wI B i)), m_thr0, t1, t2, e5, q0, q6, hM, g, y_ckd, y_ck2d, y_ond, y_onn, y_oI, y_oIx, y_oJ, y_oV, y_oVx, y_oR, y_oRn, y_oRx, y_b0, y_b1, y_bi, y_bid, y_wIK, y_wIL, y_wII, y_wIJ, y_wIR, y_wIN, y_wIw, y_sI, ↓reduceIte, Nat.reduceEqDiff, eq_self, true_or, or_true, false_or, or_false, and_true, true_and, false_and, and_false, not_true, not_false_eq_true, tf_T, tf_F, y_up1, y_up2, y_xx, y_nx, y_sJ, y_sR, Int32.reduceLT, y_nxK, y_nxL, y_nxR, y_sJK, y_sJL, y_sJR, y_sJN, y_sRK, y_sRL, y_sRN, Nat.add_zero, z_nat, z_lit, z_lit0, z_lit1, z_in0, z_in1, z_addl0, z_lt, z_ltl, z_llt, z_inj, z_injl, z_add, z_addl, z_ladd, z_mul, z_mull, z_lmul, z_neg, z_negl, z_in, z_inl, z_ltT, z_ltF, z_eqF, z_10, z_01, z_litne, z_ne0, z_0ne, z_ne1, z_1ne, z_lt64, z_02, z_03, z_04, z_05, z_12, z_13, z_14, z_15, z_20, z_21, z_23, z_24, z_25, z_30, z_31, z_32, z_34, z_35, z_40, z_41, z_42, z_43, z_45, z_50, z_51, z_52, z_53, z_54]
theorem f_sail_b {p : Nat} (h : CR B i σ) (hW : Wd σ.1) (hc : isc σ.1 2621 8) (hp : p < cn σ.1 2621) (hy : ¬ y = 0) (g0 : σ.1 (2622 + 49 * p) = 2) (g1 : σ.1 (2622 + 49 * p + 6) = 0) : FRs B i ((wu σ.1 (2622 + 49 * p) 4), σ.1, σ.2.2.1, true, σ.2.2.2.2) (am_fx am_P (d + 150) 320 0 [some (.ref 64), some (.int (Int32.ofNat p)), some (.int y), none, none] [] (am_wI B i)) (.inl (some (.int 1))) := by
  have hF : Fc B := h.1.1
  have hY : Yd B 94 := h.1.2.1
  have h8 := hc.2
  have t1 : (Int32.ofNat p < 0) = False := z_neg (by omega)
  have t2 := eq_true (ck_nat hc (by omega) hp).2
  obtain ⟨B1, i1, E, hC, hS, hf⟩ := c_remember (d := d + 143) h hW
  have hF1 : Fc B1 := hC.1.1
  have hY1 : Yd B1 94 := hC.1.2.1
  obtain ⟨a1, a2, a3, a4, a5, a6, a7, a8, a9, a10⟩ := h.2.1.2.2.2.1.2 p hp (by omega)
  obtain ⟨c1, c2, c3, c4, c5, c6, c7, c8, c9, c10⟩ := hC.2.1.2.2.2.1.2 p hp (by omega)
  have k0 : i1 94 0 = σ.1 0 := hC.2.1.1.1
  refine FRs_tr hS hf (FRs_w (i' := (am_up2 i1 (94 + 212 + 6 * p) 3 4)) hC ?_ ?_ (by intros; simp (disch := omega) only [y_up2]))
  · rw [bk_320_0]
    simp (maxSteps := 1000000) (disch := omega) only [c_shN hF hY h.2.1.2.2.2.1.1 hc hp, a1, a2, a5, a7, a9, k0, E, hy, g0, g1, (fun d x0 x2 x3 s0 B i => bk_320_46 d x0 x2 x3 s0 (am_wI B i)), hF, hY, hF1, hY1, y_ckd, y_ck2d, y_ond, y_onn, y_oI, y_oIx, y_oJ, y_oV, y_oVx, y_oR, y_oRn, y_oRx, y_b0, y_b1, y_bi, y_bid, y_wIK, y_wIL, y_wII, y_wIJ, y_wIR, y_wIN, y_wIw, y_sI, ↓reduceIte, Nat.reduceEqDiff, eq_self, true_or, or_true, false_or, or_false, and_true, true_and, false_and, and_false, not_true, not_false_eq_true, tf_T, tf_F, y_up1, y_up2, y_xx, y_nx, y_sJ, y_sR, Int32.reduceLT, y_nxK, y_nxL, y_nxR, y_sJK, y_sJL, y_sJR, y_sJN, y_sRK, y_sRL, y_sRN, Nat.add_zero, z_nat, z_lit, z_lit0, z_lit1, z_in0, z_in1, z_addl0, z_lt, z_ltl, z_llt, z_inj, z_injl, z_add, z_addl, z_ladd, z_mul, z_mull, z_lmul, z_neg, z_negl, z_in, z_inl, z_ltT, z_ltF, z_eqF, z_10, z_01, z_litne, z_ne0, z_0ne, z_ne1, z_1ne, z_lt64, z_02, z_03, z_04, z_05, z_12, z_13, z_14, z_15, z_20, z_21, z_23, z_24, z_25, z_30, z_31, z_32, z_34, z_35, z_40, z_41, z_42, z_43, z_45, z_50, z_51, z_52, z_53, z_54]
  · refine Rep_sh hC.2.1 (by omega) (by omega) (by intros; simp (disch := omega) only [y_up2]) (by intros; simp (disch := omega) only [wu_ne]) (ShR_8 (hC.2.1.2.2.2.1.2 p hp (by omega)) (by intros; simp (disch := omega) only [y_up2]) (by intros; simp (disch := omega) only [wu_ne]) ?_ ?_ ?_ ?_ ?_ ?_ ?_ ?_ ?_)
    all_goals (simp (disch := omega) only [y_up1, y_up2, wu_at, wu_ne]; try assumption)
theorem m_sail_b {p : Nat} (h : MR B i σ) (hc : isc σ.1 2621 8) (hp : p < cn σ.1 2621) (hy : ¬ y = 0) (g0 : σ.1 (2622 + 49 * p) = 2) (g1 : σ.1 (2622 + 49 * p + 6) = 0) : MRs B i ((wu σ.1 (2622 + 49 * p) 4), σ.1, σ.2.2.1, true, σ.2.2.2.2) (am_fx am_P (d + 150) 102 0 [some (.ref 874), some (.int (Int32.ofNat p)), some (.int y)] [] (am_wI B i)) (some (.int 1)) 0 := by
  have hM : Md B := h.1.1
  have h8 := hc.2
  have t1 : (Int32.ofNat p < 0) = False := z_neg (by omega)
  have t2 := eq_true (ck_nat hc (by omega) hp).2
  obtain ⟨i1, E, hD, hf⟩ := m_deed (d := d + 149) (MR_0 h)
  have z0 : i1 874 0 = 0 := (hf _ _ (by omega) (by omega)).trans (y_up1 rfl rfl)
  have hw := up_o (q := 874) (k := 0) (v := 0) (by omega) h.2.1
  have e5 := h.2.1 2621 (by omega)
  have q0 := h.2.1 (2622 + 49 * p) (by omega)
  have q1 := h.2.1 (2622 + 49 * p + 1) (by omega)
  have q4 := h.2.1 (2622 + 49 * p + 4) (by omega)
  have q6 := h.2.1 (2622 + 49 * p + 6) (by omega)
  have q8 := h.2.1 (2622 + 49 * p + 8) (by omega)
  have r0 := hD.2.1 0 (by omega)
  refine MRs_d hf (MRs_w hD (i' := (am_up2 i1 875 (2622 + 49 * p) 4)) ?_ (by rw [y_up2 (by omega), z0]) (up_wu hD.2.1) (by intros; simp (disch := omega) only [y_up2]))
  rw [bk_102_0]
  simp (maxSteps := 1000000) (disch := omega) only [(fun d x0 x1 B i => bk_69_0 d x0 x1 (am_wI B i)), m_in, z_pred hc.1, Classical.not_not, (fun d x0 x1 x2 B i => bk_67_0 d x0 x1 x2 (am_wI B i)), (fun d x0 x1 B i => bk_66_0 d x0 x1 (am_wI B i)), (fun d x0 x1 x2 x3 B i => bk_68_0 d x0 x1 x2 x3 (am_wI B i)), m_thr0, t1, t2, e5, q0, q1, q4, q6, q8, r0, E, hy, g0, g1, (fun d x0 x1 x2 s0 s1 B i => bk_102_33 d x0 x1 x2 s0 s1 (am_wI B i)), (fun d x0 x1 x2 B i => bk_102_53 d x0 x1 x2 (am_wI B i)), (fun d s0 s1 s2 s3 B i => bk_102_69 d s0 s1 s2 s3 (am_wI B i)), hM, y_ckd, y_ck2d, y_ond, y_onn, y_oI, y_oIx, y_oJ, y_oV, y_oVx, y_oR, y_oRn, y_oRx, y_b0, y_b1, y_bi, y_bid, y_wIK, y_wIL, y_wII, y_wIJ, y_wIR, y_wIN, y_wIw, y_sI, ↓reduceIte, Nat.reduceEqDiff, eq_self, true_or, or_true, false_or, or_false, and_true, true_and, false_and, and_false, not_true, not_false_eq_true, tf_T, tf_F, y_up1, y_up2, y_xx, y_nx, y_sJ, y_sR, Int32.reduceLT, y_nxK, y_nxL, y_nxR, y_sJK, y_sJL, y_sJR, y_sJN, y_sRK, y_sRL, y_sRN, Nat.add_zero, z_nat, z_lit, z_lit0, z_lit1, z_in0, z_in1, z_addl0, z_lt, z_ltl, z_llt, z_inj, z_injl, z_add, z_addl, z_ladd, z_mul, z_mull, z_lmul, z_neg, z_negl, z_in, z_inl, z_ltT, z_ltF, z_eqF, z_10, z_01, z_litne, z_ne0, z_0ne, z_ne1, z_1ne, z_lt64, z_02, z_03, z_04, z_05, z_12, z_13, z_14, z_15, z_20, z_21, z_23, z_24, z_25, z_30, z_31, z_32, z_34, z_35, z_40, z_41, z_42, z_43, z_45, z_50, z_51, z_52, z_53, z_54]
theorem f_sail0_b {p : Nat} (h : CR B i σ) (hc : isc σ.1 2621 8) (hp : p < cn σ.1 2621) (hy : ¬ y = 0) (hb : σ.1 (2622 + 49 * p + 6) = 0 ∨ σ.1 (2622 + 49 * p + 6) = 1) (g : ¬ (σ.1 (2622 + 49 * p) = 2 ∧ σ.1 (2622 + 49 * p + 6) = 0)) : FRs B i σ (am_fx am_P (d + 150) 320 0 [some (.ref 64), some (.int (Int32.ofNat p)), some (.int y), none, none] [] (am_wI B i)) (.inl (some (.int 0))) := by
  refine FRs_0 h ?_
  have hF : Fc B := h.1.1
  have hY : Yd B 94 := h.1.2.1
  have h8 := hc.2
  have t1 : (Int32.ofNat p < 0) = False := z_neg (by omega)
  have t2 := eq_true (ck_nat hc (by omega) hp).2
  obtain ⟨a1, a2, a3, a4, a5, a6, a7, a8, a9, a10⟩ := h.2.1.2.2.2.1.2 p hp (by omega)
  rw [bk_320_0]
  by_cases g0 : σ.1 (2622 + 49 * p) = 2
  · have g1 : ¬ σ.1 (2622 + 49 * p + 6) = 0 := fun q => g ⟨g0, q⟩
    simp (maxSteps := 1000000) (disch := omega) only [c_shN hF hY h.2.1.2.2.2.1.1 hc hp, a1, a7, (fun d x0 x2 x3 s0 B i => bk_320_46 d x0 x2 x3 s0 (am_wI B i)), hy, g0, g1, hF, hY, y_ckd, y_ck2d, y_ond, y_onn, y_oI, y_oIx, y_oJ, y_oV, y_oVx, y_oR, y_oRn, y_oRx, y_b0, y_b1, y_bi, y_bid, y_wIK, y_wIL, y_wII, y_wIJ, y_wIR, y_wIN, y_wIw, y_sI, ↓reduceIte, Nat.reduceEqDiff, eq_self, true_or, or_true, false_or, or_false, and_true, true_and, false_and, and_false, not_true, not_false_eq_true, tf_T, tf_F, y_up1, y_up2, y_xx, y_nx, y_sJ, y_sR, Int32.reduceLT, y_nxK, y_nxL, y_nxR, y_sJK, y_sJL, y_sJR, y_sJN, y_sRK, y_sRL, y_sRN, Nat.add_zero, z_nat, z_lit, z_lit0, z_lit1, z_in0, z_in1, z_addl0, z_lt, z_ltl, z_llt, z_inj, z_injl, z_add, z_addl, z_ladd, z_mul, z_mull, z_lmul, z_neg, z_negl, z_in, z_inl, z_ltT, z_ltF, z_eqF, z_10, z_01, z_litne, z_ne0, z_0ne, z_ne1, z_1ne, z_lt64, z_02, z_03, z_04, z_05, z_12, z_13, z_14, z_15, z_20, z_21, z_23, z_24, z_25, z_30, z_31, z_32, z_34, z_35, z_40, z_41, z_42, z_43, z_45, z_50, z_51, z_52, z_53, z_54]
  · simp (maxSteps := 1000000) (disch := omega) only [c_shN hF hY h.2.1.2.2.2.1.1 hc hp, a1, a7, (fun d x0 x2 x3 s0 B i => bk_320_46 d x0 x2 x3 s0 (am_wI B i)), hy, g0, hF, hY, y_ckd, y_ck2d, y_ond, y_onn, y_oI, y_oIx, y_oJ, y_oV, y_oVx, y_oR, y_oRn, y_oRx, y_b0, y_b1, y_bi, y_bid, y_wIK, y_wIL, y_wII, y_wIJ, y_wIR, y_wIN, y_wIw, y_sI, ↓reduceIte, Nat.reduceEqDiff, eq_self, true_or, or_true, false_or, or_false, and_true, true_and, false_and, and_false, not_true, not_false_eq_true, tf_T, tf_F, y_up1, y_up2, y_xx, y_nx, y_sJ, y_sR, Int32.reduceLT, y_nxK, y_nxL, y_nxR, y_sJK, y_sJL, y_sJR, y_sJN, y_sRK, y_sRL, y_sRN, Nat.add_zero, z_nat, z_lit, z_lit0, z_lit1, z_in0, z_in1, z_addl0, z_lt, z_ltl, z_llt, z_inj, z_injl, z_add, z_addl, z_ladd, z_mul, z_mull, z_lmul, z_neg, z_negl, z_in, z_inl, z_ltT, z_ltF, z_eqF, z_10, z_01, z_litne, z_ne0, z_0ne, z_ne1, z_1ne, z_lt64, z_02, z_03, z_04, z_05, z_12, z_13, z_14, z_15, z_20, z_21, z_23, z_24, z_25, z_30, z_31, z_32, z_34, z_35, z_40, z_41, z_42, z_43, z_45, z_50, z_51, z_52, z_53, z_54]
theorem m_sail0_b {p : Nat} (h : MR B i σ) (hc : isc σ.1 2621 8) (hp : p < cn σ.1 2621) (hy : ¬ y = 0) (hb : σ.1 (2622 + 49 * p + 6) = 0 ∨ σ.1 (2622 + 49 * p + 6) = 1) (g : ¬ (σ.1 (2622 + 49 * p) = 2 ∧ σ.1 (2622 + 49 * p + 6) = 0)) : MRs B i σ (am_fx am_P (d + 150) 102 0 [some (.ref 874), some (.int (Int32.ofNat p)), some (.int y)] [] (am_wI B i)) (some (.int 0)) 0 := by
  refine MRs_0 h ?_
  have hM : Md B := h.1.1
  have h8 := hc.2
  have t1 : (Int32.ofNat p < 0) = False := z_neg (by omega)
  have t2 := eq_true (ck_nat hc (by omega) hp).2
  have hw := up_o (q := 874) (k := 0) (v := 0) (by omega) h.2.1
  have e5 := h.2.1 2621 (by omega)
  have q0 := h.2.1 (2622 + 49 * p) (by omega)
  have q1 := h.2.1 (2622 + 49 * p + 1) (by omega)
  have q4 := h.2.1 (2622 + 49 * p + 4) (by omega)
  have q6 := h.2.1 (2622 + 49 * p + 6) (by omega)
  have q8 := h.2.1 (2622 + 49 * p + 8) (by omega)
  rw [bk_102_0]
  by_cases g0 : σ.1 (2622 + 49 * p) = 2
  · have g1 : σ.1 (2622 + 49 * p + 6) = 1 := hb.resolve_left fun q => g ⟨g0, q⟩
    simp (maxSteps := 1000000) (disch := omega) only [(fun d x0 x1 B i => bk_69_0 d x0 x1 (am_wI B i)), m_in, z_pred hc.1, Classical.not_not, (fun d x0 x1 x2 B i => bk_67_0 d x0 x1 x2 (am_wI B i)), (fun d x0 x1 B i => bk_66_0 d x0 x1 (am_wI B i)), (fun d x0 x1 x2 x3 B i => bk_68_0 d x0 x1 x2 x3 (am_wI B i)), (fun d x0 x1 x2 s0 s1 B i => bk_102_33 d x0 x1 x2 s0 s1 (am_wI B i)), (fun d x0 x1 x2 B i => bk_102_53 d x0 x1 x2 (am_wI B i)), (fun d s0 s1 s2 s3 B i => bk_102_69 d s0 s1 s2 s3 (am_wI B i)), m_thr0, t1, t2, e5, q0, q6, hM, hy, g0, g1, y_ckd, y_ck2d, y_ond, y_onn, y_oI, y_oIx, y_oJ, y_oV, y_oVx, y_oR, y_oRn, y_oRx, y_b0, y_b1, y_bi, y_bid, y_wIK, y_wIL, y_wII, y_wIJ, y_wIR, y_wIN, y_wIw, y_sI, ↓reduceIte, Nat.reduceEqDiff, eq_self, true_or, or_true, false_or, or_false, and_true, true_and, false_and, and_false, not_true, not_false_eq_true, tf_T, tf_F, y_up1, y_up2, y_xx, y_nx, y_sJ, y_sR, Int32.reduceLT, y_nxK, y_nxL, y_nxR, y_sJK, y_sJL, y_sJR, y_sJN, y_sRK, y_sRL, y_sRN, Nat.add_zero, z_nat, z_lit, z_lit0, z_lit1, z_in0, z_in1, z_addl0, z_lt, z_ltl, z_llt, z_inj, z_injl, z_add, z_addl, z_ladd, z_mul, z_mull, z_lmul, z_neg, z_negl, z_in, z_inl, z_ltT, z_ltF, z_eqF, z_10, z_01, z_litne, z_ne0, z_0ne, z_ne1, z_1ne, z_lt64, z_02, z_03, z_04, z_05, z_12, z_13, z_14, z_15, z_20, z_21, z_23, z_24, z_25, z_30, z_31, z_32, z_34, z_35, z_40, z_41, z_42, z_43, z_45, z_50, z_51, z_52, z_53, z_54]
  · simp (maxSteps := 1000000) (disch := omega) only [(fun d x0 x1 B i => bk_69_0 d x0 x1 (am_wI B i)), m_in, z_pred hc.1, Classical.not_not, (fun d x0 x1 x2 B i => bk_67_0 d x0 x1 x2 (am_wI B i)), (fun d x0 x1 B i => bk_66_0 d x0 x1 (am_wI B i)), (fun d x0 x1 x2 x3 B i => bk_68_0 d x0 x1 x2 x3 (am_wI B i)), (fun d x0 x1 x2 s0 s1 B i => bk_102_33 d x0 x1 x2 s0 s1 (am_wI B i)), (fun d x0 x1 x2 B i => bk_102_53 d x0 x1 x2 (am_wI B i)), (fun d s0 s1 s2 s3 B i => bk_102_69 d s0 s1 s2 s3 (am_wI B i)), m_thr0, t1, t2, e5, q0, q6, hM, hy, g0, y_ckd, y_ck2d, y_ond, y_onn, y_oI, y_oIx, y_oJ, y_oV, y_oVx, y_oR, y_oRn, y_oRx, y_b0, y_b1, y_bi, y_bid, y_wIK, y_wIL, y_wII, y_wIJ, y_wIR, y_wIN, y_wIw, y_sI, ↓reduceIte, Nat.reduceEqDiff, eq_self, true_or, or_true, false_or, or_false, and_true, true_and, false_and, and_false, not_true, not_false_eq_true, tf_T, tf_F, y_up1, y_up2, y_xx, y_nx, y_sJ, y_sR, Int32.reduceLT, y_nxK, y_nxL, y_nxR, y_sJK, y_sJL, y_sJR, y_sJN, y_sRK, y_sRL, y_sRN, Nat.add_zero, z_nat, z_lit, z_lit0, z_lit1, z_in0, z_in1, z_addl0, z_lt, z_ltl, z_llt, z_inj, z_injl, z_add, z_addl, z_ladd, z_mul, z_mull, z_lmul, z_neg, z_negl, z_in, z_inl, z_ltT, z_ltF, z_eqF, z_10, z_01, z_litne, z_ne0, z_0ne, z_ne1, z_1ne, z_lt64, z_02, z_03, z_04, z_05, z_12, z_13, z_14, z_15, z_20, z_21, z_23, z_24, z_25, z_30, z_31, z_32, z_34, z_35, z_40, z_41, z_42, z_43, z_45, z_50, z_51, z_52, z_53, z_54]
theorem k_sail (h : Sim B i σ) (hs : Sc B i L j) (hO : am_K B 892 = 22 ∧ am_L B 892 = 1) : Stq B i d 2235 j := by
  have hc := h.2.2.1.1.2.2.2.1
  have h8 := hc.2
  by_cases g : ¬ i 0 (j + 1) < 0 ∧ i 0 (j + 1) < σ.1 2621
  rotate_left
  · exact kx_28_1 h hs hO (f_sail_x0 (d := d + 48) h.1 g) fun B0 i0 h0 => m_sail_x0 (d := d + 49) h0 hc g
  obtain ⟨p, e, hp⟩ := nat_ck hc (by omega) g
  obtain ⟨b0, b1, b3, b4, b5, b6, b7, b8, b9⟩ := h.2.2.1.2.2.2.2.1.1 p hp (by omega)
  by_cases y0 : bt (i 0 (j + 2)) = 0
  · skip
    by_cases g0 : σ.1 (2622 + 49 * p) = 4
    · exact kk_28 (σ' := ((wu σ.1 (2622 + 49 * p) 2), σ.1, σ.2.2.1, true, σ.2.2.2.2)) h hs hO ⟨(show Wd (wu σ.1 (2622 + 49 * p) 2) from Wd_sh8 h.2.2.1 hp (by omega) (by intros; simp (disch := omega) only [wu_ne]) (by rw [wu_at rfl]; decide) (by rw [wu_ne (by omega)]; exact b1) (by rw [wu_ne (by omega)]; exact b3) (fun q => absurd q (by rw [wu_at rfl]; decide)) (fun _ => by rw [wu_ne (by omega)]; exact b5 (by rw [g0]; decide)) (by rw [wu_ne (by omega)]; exact b6) (by rw [wu_ne (by omega)]; exact b7)), fun _ => h.2.2.1, h.2.2.2.2.1, h.2.2.2.2.2⟩ (by rw [e, y0]; exact f_sail_a (d := d + 48) h.1 h.2.2.1 hc hp g0) fun B0 i0 h0 => by rw [e, y0]; exact m_sail_a (d := d + 49) h0 hc hp g0
    · exact kk_28 h hs hO h.2.2 (by rw [e, y0]; exact f_sail0_a (d := d + 48) h.1 hc hp g0) fun B0 i0 h0 => by rw [e, y0]; exact m_sail0_a (d := d + 49) h0 hc hp g0
  · skip
    by_cases g0 : σ.1 (2622 + 49 * p) = 2 ∧ σ.1 (2622 + 49 * p + 6) = 0
    · exact kk_28 (σ' := ((wu σ.1 (2622 + 49 * p) 4), σ.1, σ.2.2.1, true, σ.2.2.2.2)) h hs hO ⟨(show Wd (wu σ.1 (2622 + 49 * p) 4) from Wd_sh8 h.2.2.1 hp (by omega) (by intros; simp (disch := omega) only [wu_ne]) (by rw [wu_at rfl]; decide) (by rw [wu_ne (by omega)]; exact b1) (by rw [wu_ne (by omega)]; exact b3) (fun q => absurd q (by rw [wu_at rfl]; decide)) (fun _ => by rw [wu_ne (by omega)]; exact b5 (by rw [g0.1]; decide)) (by rw [wu_ne (by omega)]; exact b6) (by rw [wu_ne (by omega)]; exact b7)), fun _ => h.2.2.1, h.2.2.2.2.1, h.2.2.2.2.2⟩ (by rw [e]; exact f_sail_b (d := d + 48) h.1 h.2.2.1 hc hp y0 g0.1 g0.2) fun B0 i0 h0 => by rw [e]; exact m_sail_b (d := d + 49) h0 hc hp y0 g0.1 g0.2
    · exact kk_28 h hs hO h.2.2 (by rw [e]; exact f_sail0_b (d := d + 48) h.1 hc hp y0 b6 g0) fun B0 i0 h0 => by rw [e]; exact m_sail0_b (d := d + 49) h0 hc hp y0 b6 g0
end Deeds
