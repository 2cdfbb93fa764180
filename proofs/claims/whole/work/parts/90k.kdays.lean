/-! DAYS, THE CALL: made by wip/whole/math/90k.py. -/
section Days
variable {B B1 : am_A} {i i1 j : Nat → Nat → Int32} {w v : Nat → Int32} {d b q n p s k g m L jj : Nat} {x y z D : Int32} {t : Option Nat} {σ : Sg}
theorem c_dloop (h : CR B i σ) (hW : Wd σ.1) (hm : cn σ.1 0 + m ≤ 4000) : ∃ j, am_fx am_P (d + 6) 329 42 [some (.ref 64), none, some (.int (Int32.ofNat (cn σ.1 0 + m))), none] [] (am_wI B i) = some (.inl (some (.int (Int32.ofNat (cn σ.1 0 + m)))), am_wI B j) ∧ Rep B j 94 (dyN m σ.1) ∧ ∀ q k, (q < 94 ∨ 94 + 260 ≤ q) → j q k = i q k := by
  have hF : Fc B := h.1.1
  have hY : Yd B 94 := h.1.2.1
  have k0 : i 94 0 = Int32.ofNat (cn σ.1 0) := h.2.1.1.1.trans hW.1.1.1
  obtain ⟨j, E, R, fo⟩ := lp_inv (fun k j => am_fx am_P (d + 6) 329 50 [some (.ref 64), none, some (.int (Int32.ofNat (cn σ.1 0 + m))), some (.int (Int32.ofNat (cn σ.1 0 + k)))] [] (am_wI B j)) (fun k j => Rep B j 94 (dyN k σ.1) ∧ ∀ q k, (q < 94 ∨ 94 + 260 ≤ q) → j q k = i q k) m (fun k j hk hI => by
    obtain ⟨hR, fo⟩ := hI
    obtain ⟨hWk, ek⟩ := dyN_ok hW k (by omega)
    have ec : cn (dyN k σ.1) 0 = cn σ.1 0 + k := by
      show (dyN k σ.1 0).toNatClampNeg = _
      rw [ek, z_nat (by omega)]
    obtain ⟨j2, E2, R2, f2⟩ := c_day (d := d) hY (by omega) hR hWk (by omega)
    refine ⟨j2, ?_, R2, fun q k hq => (f2 q k hq).trans (fo q k hq)⟩
    rw [bk_329_50]
    simp (disch := omega) only [E2, hF, hY, y_ckd, y_ck2d, y_ond, y_onn, y_oI, y_oIx, y_oJ, y_oV, y_oVx, y_oR, y_oRn, y_oRx, y_b0, y_b1, y_bi, y_bid, y_wIK, y_wIL, y_wII, y_wIJ, y_wIR, y_wIN, y_wIw, y_sI, ↓reduceIte, Nat.reduceEqDiff, eq_self, true_or, or_true, false_or, or_false, and_true, true_and, false_and, and_false, not_true, not_false_eq_true, tf_T, tf_F, y_up1, y_up2, y_xx, y_nx, y_sJ, y_sR, Int32.reduceLT, y_nxK, y_nxL, y_nxR, y_sJK, y_sJL, y_sJR, y_sJN, y_sRK, y_sRL, y_sRN, Nat.add_zero, z_nat, z_lit, z_lit0, z_lit1, z_in0, z_in1, z_addl0, z_lt, z_ltl, z_llt, z_inj, z_injl, z_add, z_addl, z_ladd, z_mul, z_mull, z_lmul, z_neg, z_negl, z_in, z_inl, z_ltT, z_ltF, z_eqF, z_10, z_01, z_litne, z_ne0, z_0ne, z_ne1, z_1ne, z_lt64, z_02, z_03, z_04, z_05, z_12, z_13, z_14, z_15, z_20, z_21, z_23, z_24, z_25, z_30, z_31, z_32, z_34, z_35, z_40, z_41, z_42, z_43, z_45, z_50, z_51, z_52, z_53, z_54]
    rfl) i ⟨h.2.1, fun _ _ _ => rfl⟩
  obtain ⟨-, ek⟩ := dyN_ok hW m hm
  have e0 : j 94 0 = Int32.ofNat (cn σ.1 0 + m) := R.1.1.trans ek
  refine ⟨j, ?_, R, fo⟩
  rw [bk_329_42]
  simp (disch := omega) only [k0, hF, hY, y_ckd, y_ck2d, y_ond, y_onn, y_oI, y_oIx, y_oJ, y_oV, y_oVx, y_oR, y_oRn, y_oRx, y_b0, y_b1, y_bi, y_bid, y_wIK, y_wIL, y_wII, y_wIJ, y_wIR, y_wIN, y_wIw, y_sI, ↓reduceIte, Nat.reduceEqDiff, eq_self, true_or, or_true, false_or, or_false, and_true, true_and, false_and, and_false, not_true, not_false_eq_true, tf_T, tf_F, y_up1, y_up2, y_xx, y_nx, y_sJ, y_sR, Int32.reduceLT, y_nxK, y_nxL, y_nxR, y_sJK, y_sJL, y_sJR, y_sJN, y_sRK, y_sRL, y_sRN, Nat.add_zero, z_nat, z_lit, z_lit0, z_lit1, z_in0, z_in1, z_addl0, z_lt, z_ltl, z_llt, z_inj, z_injl, z_add, z_addl, z_ladd, z_mul, z_mull, z_lmul, z_neg, z_negl, z_in, z_inl, z_ltT, z_ltF, z_eqF, z_10, z_01, z_litne, z_ne0, z_0ne, z_ne1, z_1ne, z_lt64, z_02, z_03, z_04, z_05, z_12, z_13, z_14, z_15, z_20, z_21, z_23, z_24, z_25, z_30, z_31, z_32, z_34, z_35, z_40, z_41, z_42, z_43, z_45, z_50, z_51, z_52, z_53, z_54]
  refine E.trans ?_
  rw [bk_329_50]
  simp (disch := omega) only [e0, hF, hY, y_ckd, y_ck2d, y_ond, y_onn, y_oI, y_oIx, y_oJ, y_oV, y_oVx, y_oR, y_oRn, y_oRx, y_b0, y_b1, y_bi, y_bid, y_wIK, y_wIL, y_wII, y_wIJ, y_wIR, y_wIN, y_wIw, y_sI, ↓reduceIte, Nat.reduceEqDiff, eq_self, true_or, or_true, false_or, or_false, and_true, true_and, false_and, and_false, not_true, not_false_eq_true, tf_T, tf_F, y_up1, y_up2, y_xx, y_nx, y_sJ, y_sR, Int32.reduceLT, y_nxK, y_nxL, y_nxR, y_sJK, y_sJL, y_sJR, y_sJN, y_sRK, y_sRL, y_sRN, Nat.add_zero, z_nat, z_lit, z_lit0, z_lit1, z_in0, z_in1, z_addl0, z_lt, z_ltl, z_llt, z_inj, z_injl, z_add, z_addl, z_ladd, z_mul, z_mull, z_lmul, z_neg, z_negl, z_in, z_inl, z_ltT, z_ltF, z_eqF, z_10, z_01, z_litne, z_ne0, z_0ne, z_ne1, z_1ne, z_lt64, z_02, z_03, z_04, z_05, z_12, z_13, z_14, z_15, z_20, z_21, z_23, z_24, z_25, z_30, z_31, z_32, z_34, z_35, z_40, z_41, z_42, z_43, z_45, z_50, z_51, z_52, z_53, z_54]
def dyS (σ : Sg) (m : Nat) : Sg := if m = 0 then σ else (dyN m σ.1, σ.1, σ.2.2.1, true, σ.2.2.2.2)
theorem f_days_x0 (h : CR B i σ) (g : ¬ (¬ x < 0 ∧ ¬ 200 < x)) : FRs B i σ (am_fx am_P (d + 150) 329 0 [some (.ref 64), some (.int x), none, none] [] (am_wI B i)) (.inr 2) := by
  refine FRs_x h ?_
  rw [bk_329_0]
  simp (disch := omega) only [c_within, c_ckN0, g, y_ckd, y_ck2d, y_ond, y_onn, y_oI, y_oIx, y_oJ, y_oV, y_oVx, y_oR, y_oRn, y_oRx, y_b0, y_b1, y_bi, y_bid, y_wIK, y_wIL, y_wII, y_wIJ, y_wIR, y_wIN, y_wIw, y_sI, ↓reduceIte, Nat.reduceEqDiff, eq_self, true_or, or_true, false_or, or_false, and_true, true_and, false_and, and_false, not_true, not_false_eq_true, tf_T, tf_F, y_up1, y_up2, y_xx, y_nx, y_sJ, y_sR, Int32.reduceLT, y_nxK, y_nxL, y_nxR, y_sJK, y_sJL, y_sJR, y_sJN, y_sRK, y_sRL, y_sRN, Nat.add_zero, z_nat, z_lit, z_lit0, z_lit1, z_in0, z_in1, z_addl0, z_lt, z_ltl, z_llt, z_inj, z_injl, z_add, z_addl, z_ladd, z_mul, z_mull, z_lmul, z_neg, z_negl, z_in, z_inl, z_ltT, z_ltF, z_eqF, z_10, z_01, z_litne, z_ne0, z_0ne, z_ne1, z_1ne, z_lt64, z_02, z_03, z_04, z_05, z_12, z_13, z_14, z_15, z_20, z_21, z_23, z_24, z_25, z_30, z_31, z_32, z_34, z_35, z_40, z_41, z_42, z_43, z_45, z_50, z_51, z_52, z_53, z_54]
theorem m_days_x0 (h : MR B i σ) (g : ¬ (¬ x < 0 ∧ ¬ 200 < x)) : MRs B i σ (am_fx am_P (d + 150) 121 0 [some (.ref 874), some (.int x), none] [] (am_wI B i)) (some (.int 0)) 1 := by
  refine MRs_x h ?_
  have hM := h.1.1
  rw [bk_121_0]
  simp (disch := omega) only [bk_121_22, m_in, m_thr1 hM, g, hM, y_ckd, y_ck2d, y_ond, y_onn, y_oI, y_oIx, y_oJ, y_oV, y_oVx, y_oR, y_oRn, y_oRx, y_b0, y_b1, y_bi, y_bid, y_wIK, y_wIL, y_wII, y_wIJ, y_wIR, y_wIN, y_wIw, y_sI, ↓reduceIte, Nat.reduceEqDiff, eq_self, true_or, or_true, false_or, or_false, and_true, true_and, false_and, and_false, not_true, not_false_eq_true, tf_T, tf_F, y_up1, y_up2, y_xx, y_nx, y_sJ, y_sR, Int32.reduceLT, y_nxK, y_nxL, y_nxR, y_sJK, y_sJL, y_sJR, y_sJN, y_sRK, y_sRL, y_sRN, Nat.add_zero, z_nat, z_lit, z_lit0, z_lit1, z_in0, z_in1, z_addl0, z_lt, z_ltl, z_llt, z_inj, z_injl, z_add, z_addl, z_ladd, z_mul, z_mull, z_lmul, z_neg, z_negl, z_in, z_inl, z_ltT, z_ltF, z_eqF, z_10, z_01, z_litne, z_ne0, z_0ne, z_ne1, z_1ne, z_lt64, z_02, z_03, z_04, z_05, z_12, z_13, z_14, z_15, z_20, z_21, z_23, z_24, z_25, z_30, z_31, z_32, z_34, z_35, z_40, z_41, z_42, z_43, z_45, z_50, z_51, z_52, z_53, z_54]
theorem f_days (h : CR B i σ) (hW : Wd σ.1) (hn : n ≤ 200) (em : m = min n (4000 - cn σ.1 0)) : FRs B i (dyS σ m) (am_fx am_P (d + 150) 329 0 [some (.ref 64), some (.int (Int32.ofNat n)), none, none] [] (am_wI B i)) (.inl (some (.int (Int32.ofNat (cn σ.1 0 + m))))) := by
  have hF : Fc B := h.1.1
  have hY : Yd B 94 := h.1.2.1
  have n0 := hW.1.1.2
  have k0 : i 94 0 = Int32.ofNat (cn σ.1 0) := h.2.1.1.1.trans hW.1.1.1
  have g1 : ¬ Int32.ofNat n < 0 := by rw [z_neg (by omega)]; exact id
  have g2 : ¬ (200 : Int32) < Int32.ofNat n := by
    rw [show (200 : Int32) = Int32.ofNat 200 from rfl, z_lt (by omega) (by omega)]
    omega
  have eT : (if Int32.ofNat (cn σ.1 0 + n) < 4000 then Int32.ofNat (cn σ.1 0 + n) else 4000) = Int32.ofNat (cn σ.1 0 + m) := by
    by_cases g : cn σ.1 0 + n < 4000
    · rw [if_pos (by rw [show (4000 : Int32) = Int32.ofNat 4000 from rfl, z_lt (by omega) (by omega)]; exact g)]
      rw [show cn σ.1 0 + n = cn σ.1 0 + m by omega]
    · rw [if_neg (by rw [show (4000 : Int32) = Int32.ofNat 4000 from rfl, z_lt (by omega) (by omega)]; exact g)]
      rw [show cn σ.1 0 + m = 4000 by omega]
      rfl
  have hstart : am_fx am_P (d + 150) 329 0 [some (.ref 64), some (.int (Int32.ofNat n)), none, none] [] (am_wI B i) = if cn σ.1 0 < cn σ.1 0 + m then am_ck (am_wI B i) 64 1 (am_oV (am_fx am_P (d + 149) 345 0 [some (.ref 64)] [] (am_wI B i)) (fun e A => some (.inr e, A)) (fun A => am_fx am_P (d + 150) 329 42 [some (.ref 64), none, some (.int (Int32.ofNat (cn σ.1 0 + m))), none] [] A)) else am_fx am_P (d + 150) 329 42 [some (.ref 64), none, some (.int (Int32.ofNat (cn σ.1 0 + m))), none] [] (am_wI B i) := by
    have eM : ∀ A : am_A, am_fx am_P (d + 149) 0 0 [some (.int 4000), some (.int (Int32.ofNat (cn σ.1 0 + n)))] [] A = some (.inl (some (.int (Int32.ofNat (cn σ.1 0 + m)))), A) := by
      intro A
      rw [bk_0_0, ← eT]
      split <;> rfl
    rw [bk_329_0]
    by_cases gm : cn σ.1 0 < cn σ.1 0 + m
    · simp (disch := omega) only [c_within, c_ckN1, eM, k0, g1, g2, gm, hF, hY, y_ckd, y_ck2d, y_ond, y_onn, y_oI, y_oIx, y_oJ, y_oV, y_oVx, y_oR, y_oRn, y_oRx, y_b0, y_b1, y_bi, y_bid, y_wIK, y_wIL, y_wII, y_wIJ, y_wIR, y_wIN, y_wIw, y_sI, ↓reduceIte, Nat.reduceEqDiff, eq_self, true_or, or_true, false_or, or_false, and_true, true_and, false_and, and_false, not_true, not_false_eq_true, tf_T, tf_F, y_up1, y_up2, y_xx, y_nx, y_sJ, y_sR, Int32.reduceLT, y_nxK, y_nxL, y_nxR, y_sJK, y_sJL, y_sJR, y_sJN, y_sRK, y_sRL, y_sRN, Nat.add_zero, z_nat, z_lit, z_lit0, z_lit1, z_in0, z_in1, z_addl0, z_lt, z_ltl, z_llt, z_inj, z_injl, z_add, z_addl, z_ladd, z_mul, z_mull, z_lmul, z_neg, z_negl, z_in, z_inl, z_ltT, z_ltF, z_eqF, z_10, z_01, z_litne, z_ne0, z_0ne, z_ne1, z_1ne, z_lt64, z_02, z_03, z_04, z_05, z_12, z_13, z_14, z_15, z_20, z_21, z_23, z_24, z_25, z_30, z_31, z_32, z_34, z_35, z_40, z_41, z_42, z_43, z_45, z_50, z_51, z_52, z_53, z_54]
    · simp (disch := omega) only [c_within, c_ckN1, eM, k0, g1, g2, gm, hF, hY, y_ckd, y_ck2d, y_ond, y_onn, y_oI, y_oIx, y_oJ, y_oV, y_oVx, y_oR, y_oRn, y_oRx, y_b0, y_b1, y_bi, y_bid, y_wIK, y_wIL, y_wII, y_wIJ, y_wIR, y_wIN, y_wIw, y_sI, ↓reduceIte, Nat.reduceEqDiff, eq_self, true_or, or_true, false_or, or_false, and_true, true_and, false_and, and_false, not_true, not_false_eq_true, tf_T, tf_F, y_up1, y_up2, y_xx, y_nx, y_sJ, y_sR, Int32.reduceLT, y_nxK, y_nxL, y_nxR, y_sJK, y_sJL, y_sJR, y_sJN, y_sRK, y_sRL, y_sRN, Nat.add_zero, z_nat, z_lit, z_lit0, z_lit1, z_in0, z_in1, z_addl0, z_lt, z_ltl, z_llt, z_inj, z_injl, z_add, z_addl, z_ladd, z_mul, z_mull, z_lmul, z_neg, z_negl, z_in, z_inl, z_ltT, z_ltF, z_eqF, z_10, z_01, z_litne, z_ne0, z_0ne, z_ne1, z_1ne, z_lt64, z_02, z_03, z_04, z_05, z_12, z_13, z_14, z_15, z_20, z_21, z_23, z_24, z_25, z_30, z_31, z_32, z_34, z_35, z_40, z_41, z_42, z_43, z_45, z_50, z_51, z_52, z_53, z_54]
  rw [hstart]
  unfold dyS
  by_cases gm : m = 0
  · rw [if_pos gm, if_neg (by omega)]
    obtain ⟨j, E, R, fo⟩ := c_dloop (d := d + 144) h hW (m := m) (by omega)
    rw [gm] at R
    exact FRs_w (σ := σ) (w' := σ.1) h E R (fun q k h1 h2 => fo q k (by omega))
  · rw [if_neg gm, if_pos (by omega)]
    obtain ⟨B1, i1, E, hC, hS, hf⟩ := c_remember (d := d + 143) h hW
    obtain ⟨j, E2, R, fo⟩ := c_dloop (d := d + 144) hC hW (m := m) (by dsimp only; omega)
    refine FRs_tr hS hf (FRs_w hC ?_ R (fun q k h1 h2 => fo q k (by omega)))
    simp (disch := omega) only [E, hF, hY, y_ckd, y_ck2d, y_ond, y_onn, y_oI, y_oIx, y_oJ, y_oV, y_oVx, y_oR, y_oRn, y_oRx, y_b0, y_b1, y_bi, y_bid, y_wIK, y_wIL, y_wII, y_wIJ, y_wIR, y_wIN, y_wIw, y_sI, ↓reduceIte, Nat.reduceEqDiff, eq_self, true_or, or_true, false_or, or_false, and_true, true_and, false_and, and_false, not_true, not_false_eq_true, tf_T, tf_F, y_up1, y_up2, y_xx, y_nx, y_sJ, y_sR, Int32.reduceLT, y_nxK, y_nxL, y_nxR, y_sJK, y_sJL, y_sJR, y_sJN, y_sRK, y_sRL, y_sRN, Nat.add_zero, z_nat, z_lit, z_lit0, z_lit1, z_in0, z_in1, z_addl0, z_lt, z_ltl, z_llt, z_inj, z_injl, z_add, z_addl, z_ladd, z_mul, z_mull, z_lmul, z_neg, z_negl, z_in, z_inl, z_ltT, z_ltF, z_eqF, z_10, z_01, z_litne, z_ne0, z_0ne, z_ne1, z_1ne, z_lt64, z_02, z_03, z_04, z_05, z_12, z_13, z_14, z_15, z_20, z_21, z_23, z_24, z_25, z_30, z_31, z_32, z_34, z_35, z_40, z_41, z_42, z_43, z_45, z_50, z_51, z_52, z_53, z_54]
    exact E2
theorem m_dloop (hM : Md B) (hw : ∀ z, z < 12042 → i 875 z = w z) (hW : Wd w) (hn : n ≤ 200) (em : m = min n (4000 - cn w 0)) : ∃ j, am_fx am_P (d + 6) 121 51 [some (.ref 874), some (.int (Int32.ofNat n)), some (.int 0)] [] (am_wI B i) = some (.inl (some (.int (Int32.ofNat (cn w 0 + m)))), am_wI B j) ∧ (∀ z, z < 12042 → j 875 z = dyN m w z) ∧ ∀ q k, q ≠ 875 → q ≠ 880 → q ≠ 881 → q ≠ 882 → j q k = i q k := by
  have n0 := hW.1.1.2
  obtain ⟨j, E, hj, fo⟩ := lp_inv (fun k j => am_fx am_P (d + 6) 121 51 [some (.ref 874), some (.int (Int32.ofNat n)), some (.int (Int32.ofNat k))] [] (am_wI B j)) (fun k j => (∀ z, z < 12042 → j 875 z = dyN k w z) ∧ ∀ q k, q ≠ 875 → q ≠ 880 → q ≠ 881 → q ≠ 882 → j q k = i q k) m (fun k j hk hI => by
    obtain ⟨hj, fo⟩ := hI
    obtain ⟨hWk, ek⟩ := dyN_ok hW k (by omega)
    have ec : cn (dyN k w) 0 = cn w 0 + k := by
      show (dyN k w 0).toNatClampNeg = _
      rw [ek, z_nat (by omega)]
    obtain ⟨j2, E2, h2, f2⟩ := m_day (B := B) (d := d) hM hj hWk (by omega)
    have e0 : j 875 0 = Int32.ofNat (cn w 0 + k) := (hj 0 (by omega)).trans ek
    refine ⟨j2, ?_, h2, fun q k h1 h3 h4 h5 => (f2 q k h1 h3 h4 h5).trans (fo q k h1 h3 h4 h5)⟩
    rw [bk_121_51]
    simp (disch := omega) only [bk_13_0, e0, E2, hM, y_ckd, y_ck2d, y_ond, y_onn, y_oI, y_oIx, y_oJ, y_oV, y_oVx, y_oR, y_oRn, y_oRx, y_b0, y_b1, y_bi, y_bid, y_wIK, y_wIL, y_wII, y_wIJ, y_wIR, y_wIN, y_wIw, y_sI, ↓reduceIte, Nat.reduceEqDiff, eq_self, true_or, or_true, false_or, or_false, and_true, true_and, false_and, and_false, not_true, not_false_eq_true, tf_T, tf_F, y_up1, y_up2, y_xx, y_nx, y_sJ, y_sR, Int32.reduceLT, y_nxK, y_nxL, y_nxR, y_sJK, y_sJL, y_sJR, y_sJN, y_sRK, y_sRL, y_sRN, Nat.add_zero, z_nat, z_lit, z_lit0, z_lit1, z_in0, z_in1, z_addl0, z_lt, z_ltl, z_llt, z_inj, z_injl, z_add, z_addl, z_ladd, z_mul, z_mull, z_lmul, z_neg, z_negl, z_in, z_inl, z_ltT, z_ltF, z_eqF, z_10, z_01, z_litne, z_ne0, z_0ne, z_ne1, z_1ne, z_lt64, z_02, z_03, z_04, z_05, z_12, z_13, z_14, z_15, z_20, z_21, z_23, z_24, z_25, z_30, z_31, z_32, z_34, z_35, z_40, z_41, z_42, z_43, z_45, z_50, z_51, z_52, z_53, z_54]) i ⟨hw, fun _ _ _ _ _ _ => rfl⟩
  obtain ⟨-, ek⟩ := dyN_ok hW m (by omega)
  have e0 : j 875 0 = Int32.ofNat (cn w 0 + m) := (hj 0 (by omega)).trans ek
  refine ⟨j, E.trans ?_, hj, fo⟩
  rw [bk_121_51]
  by_cases g : m < n
  · have e4 : cn w 0 + m = 4000 := by omega
    rw [e4] at e0
    rw [e4]
    simp (disch := omega) only [bk_13_0, bk_121_76, e0, hM, y_ckd, y_ck2d, y_ond, y_onn, y_oI, y_oIx, y_oJ, y_oV, y_oVx, y_oR, y_oRn, y_oRx, y_b0, y_b1, y_bi, y_bid, y_wIK, y_wIL, y_wII, y_wIJ, y_wIR, y_wIN, y_wIw, y_sI, ↓reduceIte, Nat.reduceEqDiff, eq_self, true_or, or_true, false_or, or_false, and_true, true_and, false_and, and_false, not_true, not_false_eq_true, tf_T, tf_F, y_up1, y_up2, y_xx, y_nx, y_sJ, y_sR, Int32.reduceLT, y_nxK, y_nxL, y_nxR, y_sJK, y_sJL, y_sJR, y_sJN, y_sRK, y_sRL, y_sRN, Nat.add_zero, z_nat, z_lit, z_lit0, z_lit1, z_in0, z_in1, z_addl0, z_lt, z_ltl, z_llt, z_inj, z_injl, z_add, z_addl, z_ladd, z_mul, z_mull, z_lmul, z_neg, z_negl, z_in, z_inl, z_ltT, z_ltF, z_eqF, z_10, z_01, z_litne, z_ne0, z_0ne, z_ne1, z_1ne, z_lt64, z_02, z_03, z_04, z_05, z_12, z_13, z_14, z_15, z_20, z_21, z_23, z_24, z_25, z_30, z_31, z_32, z_34, z_35, z_40, z_41, z_42, z_43, z_45, z_50, z_51, z_52, z_53, z_54]
  · rw [show m = n by omega] at e0 ⊢
    simp (disch := omega) only [bk_13_0, bk_121_76, e0, hM, y_ckd, y_ck2d, y_ond, y_onn, y_oI, y_oIx, y_oJ, y_oV, y_oVx, y_oR, y_oRn, y_oRx, y_b0, y_b1, y_bi, y_bid, y_wIK, y_wIL, y_wII, y_wIJ, y_wIR, y_wIN, y_wIw, y_sI, ↓reduceIte, Nat.reduceEqDiff, eq_self, true_or, or_true, false_or, or_false, and_true, true_and, false_and, and_false, not_true, not_false_eq_true, tf_T, tf_F, y_up1, y_up2, y_xx, y_nx, y_sJ, y_sR, Int32.reduceLT, y_nxK, y_nxL, y_nxR, y_sJK, y_sJL, y_sJR, y_sJN, y_sRK, y_sRL, y_sRN, Nat.add_zero, z_nat, z_lit, z_lit0, z_lit1, z_in0, z_in1, z_addl0, z_lt, z_ltl, z_llt, z_inj, z_injl, z_add, z_addl, z_ladd, z_mul, z_mull, z_lmul, z_neg, z_negl, z_in, z_inl, z_ltT, z_ltF, z_eqF, z_10, z_01, z_litne, z_ne0, z_0ne, z_ne1, z_1ne, z_lt64, z_02, z_03, z_04, z_05, z_12, z_13, z_14, z_15, z_20, z_21, z_23, z_24, z_25, z_30, z_31, z_32, z_34, z_35, z_40, z_41, z_42, z_43, z_45, z_50, z_51, z_52, z_53, z_54]
theorem m_daysK (h : MR B i σ) (hW : Wd σ.1) (hn : n ≤ 200) (em : m = min n (4000 - cn σ.1 0)) : MRs B i (dyS σ m) (am_fx am_P (d + 150) 121 0 [some (.ref 874), some (.int (Int32.ofNat n)), none] [] (am_wI B i)) (some (.int (Int32.ofNat (cn σ.1 0 + m)))) 0 := by
  have hM : Md B := h.1.1
  have n0 := hW.1.1.2
  have g1 : ¬ Int32.ofNat n < 0 := by rw [z_neg (by omega)]; exact id
  have g2 : ¬ (200 : Int32) < Int32.ofNat n := by
    rw [show (200 : Int32) = Int32.ofNat 200 from rfl, z_lt (by omega) (by omega)]
    omega
  have k0 : (am_up2 i 874 0 0) 875 0 = Int32.ofNat (cn σ.1 0) := by rw [y_up2 (by omega)]; exact (h.2.1 0 (by omega)).trans hW.1.1.1
  unfold dyS
  by_cases gm : m = 0
  · rw [if_pos gm]
    obtain ⟨j, E, hj, fo⟩ := m_dloop (B := B) (d := d + 144) (i := am_up2 i 874 0 0) (w := σ.1) hM (MR_0 h).2.1 hW hn em
    rw [gm] at hj
    refine MRs_w (σ := σ) (w' := σ.1) (i' := j) h ?_ ?_ hj (fun q k hq hk => (fo q k (by omega) (by omega) (by omega) (by omega)).trans (y_up2 (by omega)))
    · rw [bk_121_0]
      by_cases gn : 0 < n
      · have g4 : cn σ.1 0 = 4000 := by omega
        rw [g4] at k0
        have p0 : (0 : Int32) < Int32.ofNat n := by rw [show (0 : Int32) = Int32.ofNat 0 from rfl, z_lt (by omega) (by omega)]; exact gn
        simp (disch := omega) only [bk_121_22, m_in, m_thr0, bk_13_0, g1, g2, p0, k0, hM, y_ckd, y_ck2d, y_ond, y_onn, y_oI, y_oIx, y_oJ, y_oV, y_oVx, y_oR, y_oRn, y_oRx, y_b0, y_b1, y_bi, y_bid, y_wIK, y_wIL, y_wII, y_wIJ, y_wIR, y_wIN, y_wIw, y_sI, ↓reduceIte, Nat.reduceEqDiff, eq_self, true_or, or_true, false_or, or_false, and_true, true_and, false_and, and_false, not_true, not_false_eq_true, tf_T, tf_F, y_up1, y_up2, y_xx, y_nx, y_sJ, y_sR, Int32.reduceLT, y_nxK, y_nxL, y_nxR, y_sJK, y_sJL, y_sJR, y_sJN, y_sRK, y_sRL, y_sRN, Nat.add_zero, z_nat, z_lit, z_lit0, z_lit1, z_in0, z_in1, z_addl0, z_lt, z_ltl, z_llt, z_inj, z_injl, z_add, z_addl, z_ladd, z_mul, z_mull, z_lmul, z_neg, z_negl, z_in, z_inl, z_ltT, z_ltF, z_eqF, z_10, z_01, z_litne, z_ne0, z_0ne, z_ne1, z_1ne, z_lt64, z_02, z_03, z_04, z_05, z_12, z_13, z_14, z_15, z_20, z_21, z_23, z_24, z_25, z_30, z_31, z_32, z_34, z_35, z_40, z_41, z_42, z_43, z_45, z_50, z_51, z_52, z_53, z_54]
        exact E
      · have p0 : ¬ (0 : Int32) < Int32.ofNat n := by rw [show (0 : Int32) = Int32.ofNat 0 from rfl, z_lt (by omega) (by omega)]; exact gn
        simp (disch := omega) only [bk_121_22, m_in, m_thr0, bk_13_0, g1, g2, p0, hM, y_ckd, y_ck2d, y_ond, y_onn, y_oI, y_oIx, y_oJ, y_oV, y_oVx, y_oR, y_oRn, y_oRx, y_b0, y_b1, y_bi, y_bid, y_wIK, y_wIL, y_wII, y_wIJ, y_wIR, y_wIN, y_wIw, y_sI, ↓reduceIte, Nat.reduceEqDiff, eq_self, true_or, or_true, false_or, or_false, and_true, true_and, false_and, and_false, not_true, not_false_eq_true, tf_T, tf_F, y_up1, y_up2, y_xx, y_nx, y_sJ, y_sR, Int32.reduceLT, y_nxK, y_nxL, y_nxR, y_sJK, y_sJL, y_sJR, y_sJN, y_sRK, y_sRL, y_sRN, Nat.add_zero, z_nat, z_lit, z_lit0, z_lit1, z_in0, z_in1, z_addl0, z_lt, z_ltl, z_llt, z_inj, z_injl, z_add, z_addl, z_ladd, z_mul, z_mull, z_lmul, z_neg, z_negl, z_in, z_inl, z_ltT, z_ltF, z_eqF, z_10, z_01, z_litne, z_ne0, z_0ne, z_ne1, z_1ne, z_lt64, z_02, z_03, z_04, z_05, z_12, z_13, z_14, z_15, z_20, z_21, z_23, z_24, z_25, z_30, z_31, z_32, z_34, z_35, z_40, z_41, z_42, z_43, z_45, z_50, z_51, z_52, z_53, z_54]
        exact E
    · rw [fo _ _ (by omega) (by omega) (by omega) (by omega), y_up1 rfl rfl]
  · rw [if_neg gm]
    obtain ⟨i1, E1, hD, hf⟩ := m_deed (d := d + 149) (MR_0 h)
    have z0 : i1 874 0 = 0 := (hf _ _ (by omega) (by omega)).trans (y_up1 rfl rfl)
    obtain ⟨j, E, hj, fo⟩ := m_dloop (B := B) (d := d + 144) (i := i1) (w := σ.1) hM hD.2.1 hW hn em
    refine MRs_d hf (MRs_w hD (i' := j) ?_ (by rw [fo _ _ (by omega) (by omega) (by omega) (by omega), z0]) hj (fun q k hq _ => fo q k (by omega) (by omega) (by omega) (by omega)))
    have p0 : (0 : Int32) < Int32.ofNat n := by rw [show (0 : Int32) = Int32.ofNat 0 from rfl, z_lt (by omega) (by omega)]; omega
    have p4 : Int32.ofNat (cn σ.1 0) < 4000 := by rw [show (4000 : Int32) = Int32.ofNat 4000 from rfl, z_lt (by omega) (by omega)]; omega
    rw [bk_121_0]
    simp (disch := omega) only [bk_121_22, m_in, m_thr0, bk_13_0, g1, g2, p0, p4, k0, E1, hM, y_ckd, y_ck2d, y_ond, y_onn, y_oI, y_oIx, y_oJ, y_oV, y_oVx, y_oR, y_oRn, y_oRx, y_b0, y_b1, y_bi, y_bid, y_wIK, y_wIL, y_wII, y_wIJ, y_wIR, y_wIN, y_wIw, y_sI, ↓reduceIte, Nat.reduceEqDiff, eq_self, true_or, or_true, false_or, or_false, and_true, true_and, false_and, and_false, not_true, not_false_eq_true, tf_T, tf_F, y_up1, y_up2, y_xx, y_nx, y_sJ, y_sR, Int32.reduceLT, y_nxK, y_nxL, y_nxR, y_sJK, y_sJL, y_sJR, y_sJN, y_sRK, y_sRL, y_sRN, Nat.add_zero, z_nat, z_lit, z_lit0, z_lit1, z_in0, z_in1, z_addl0, z_lt, z_ltl, z_llt, z_inj, z_injl, z_add, z_addl, z_ladd, z_mul, z_mull, z_lmul, z_neg, z_negl, z_in, z_inl, z_ltT, z_ltF, z_eqF, z_10, z_01, z_litne, z_ne0, z_0ne, z_ne1, z_1ne, z_lt64, z_02, z_03, z_04, z_05, z_12, z_13, z_14, z_15, z_20, z_21, z_23, z_24, z_25, z_30, z_31, z_32, z_34, z_35, z_40, z_41, z_42, z_43, z_45, z_50, z_51, z_52, z_53, z_54]
    exact E
theorem SW_days (h : SW σ) (hm : cn σ.1 0 + m ≤ 4000) : SW (dyS σ m) := by
  unfold dyS
  split
  · exact h
  · exact ⟨(dyN_ok h.1 m hm).1, fun _ => h.1, h.2.2.1, h.2.2.2⟩
theorem k_days (h : Sim B i σ) (hs : Sc B i L jj) (hO : am_K B 892 = 22 ∧ am_L B 892 = 1) : Stq B i d 2817 jj := by
  have hW := h.2.2.1
  have n0 := hW.1.1.2
  by_cases g : ¬ i 0 (jj + 1) < 0 ∧ ¬ 200 < i 0 (jj + 1)
  rotate_left
  · exact kx_37_2 h hs hO (f_days_x0 (d := d + 48) h.1 g) fun B0 i0 h0 => m_days_x0 (d := d + 49) h0 g
  obtain ⟨n, e, hn⟩ := z_le 200 (by omega) g.1 g.2
  exact kk_37 (σ' := dyS σ (min n (4000 - cn σ.1 0))) h hs hO (SW_days h.2.2 (by omega)) (by rw [e]; exact f_days (d := d + 48) h.1 hW hn rfl) fun B0 i0 h0 => by rw [e]; exact m_daysK (d := d + 49) h0 hW hn rfl
end Days
