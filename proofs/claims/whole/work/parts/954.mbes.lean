/-! BESIDE, the model. Made by wip/whole/math/954.py. -/
section Besm
variable {B : am_A} {i j : Nat → Nat → Int32} {σ : Sg} {w u : Nat → Int32} {d f s p o : Nat} {x y : Int32} {r : Nat × PS} {fc : Fct}
theorem whO_v (hX : TxW w o) : whO w o fc x = -1 ∨ ∃ n, n < 12 ∧ whO w o fc x = Int32.ofNat n := by
  unfold whO
  cases e : fst0 (ltl w o fc x) (cn w (o + 1)) with
  | none => exact Or.inl rfl
  | some n =>
    have l := (fst0_some.mp e).1
    have := hX.2.1.2
    exact Or.inr ⟨n, by omega, rfl⟩
theorem m_bes_x (h : MR B i σ) (g : ¬ (¬ x < 0 ∧ x < σ.1 2621)) (hc : isc σ.1 2621 8) : MRs B i (sgt σ σ.1 σ.2.2.2.2.2.2.2) (am_fx am_P (d + 150) 65 0 [some (.ref 874), some (.int x), some (.int y), none, none, none, none] [] (am_wI B i)) (some (.int 0)) 1 := by
  have hM : Md B := h.1.1
  have e0 := m_uses (d := d + 149) (i := i) hM
  have k0 : tkup i 875 2621 = σ.1 2621 := (tku_o (by omega)).trans (h.2.1 2621 (by omega))
  have e11 : ∀ A, am_fx am_P (d + 148) 11 0 [some (.int x), some (.int 0), some (.int (σ.1 2621 - 1))] [] A = some (.inl (some (.int 0)), A) := fun A => by
    rw [bk_11_0]
    by_cases g1 : x < 0
    · rw [if_pos g1, y_b0]
    · have g2 : σ.1 2621 - 1 < x := by
        rw [z_pred hc.1 (by have := hc.2; omega)]
        exact fun q => g ⟨g1, q⟩
      rw [if_neg g1, if_pos g2, y_b0]
  refine MRs_gx (j := tkup i) h ?_ tku_7 ((tku_o (by omega)).trans h.2.2.2.2.2.2.2.2) (fun q k h1 h2 => tku_o (by omega)) (fun z _ => tku_o (by omega))
  rw [bk_65_0]
  simp (disch := omega) only [e0, bk_69_0, k0, e11, bk_10_0, z_39, z_390, hM, y_ckd, y_ck2d, y_ond, y_onn, y_oI, y_oIx, y_oJ, y_oV, y_oVx, y_oR, y_oRn, y_oRx, y_b0, y_b1, y_bi, y_bid, y_wIK, y_wIL, y_wII, y_wIJ, y_wIR, y_wIN, y_wIw, y_sI, ↓reduceIte, Nat.reduceEqDiff, eq_self, true_or, or_true, false_or, or_false, and_true, true_and, false_and, and_false, not_true, not_false_eq_true, tf_T, tf_F, y_up1, y_up2, y_xx, y_nx, y_sJ, y_sR, Int32.reduceLT, y_nxK, y_nxL, y_nxR, y_sJK, y_sJL, y_sJR, y_sJN, y_sRK, y_sRL, y_sRN, Nat.add_zero, z_nat, z_lit, z_lit0, z_lit1, z_in0, z_in1, z_addl0, z_lt, z_ltl, z_llt, z_inj, z_injl, z_add, z_addl, z_ladd, z_mul, z_mull, z_lmul, z_neg, z_negl, z_in, z_inl, z_ltT, z_ltF, z_eqF, z_10, z_01, z_litne, z_ne0, z_0ne, z_ne1, z_1ne, z_lt64, z_02, z_03, z_04, z_05, z_12, z_13, z_14, z_15, z_20, z_21, z_23, z_24, z_25, z_30, z_31, z_32, z_34, z_35, z_40, z_41, z_42, z_43, z_45, z_50, z_51, z_52, z_53, z_54]
theorem m_bes11 (hc : isc w 2621 8) (hs : s < cn w 2621) {A : am_A} : am_fx am_P d 11 0 [some (.int (Int32.ofNat s)), some (.int 0), some (.int (w 2621 - 1))] [] A = some (.inl (some (.int 1)), A) := by
  have t := ck_nat hc (by omega) hs
  rw [bk_11_0, if_neg t.1, if_neg (by rw [z_pred hc.1 (by have := hc.2; omega)]; exact fun q => q t.2), y_b1]
theorem m_bes_f (h : MR B i σ) (hS : SW σ) (hX : Stx B i) (hu : ∀ z, i 875 z = u z) (hs : s < cn σ.1 2621) (ht : txtS (nyb σ) σ.2.2.2.2.2.1 u = .inl f) : MRs B i (sgt σ σ.1 (Int32.ofNat f)) (am_fx am_P (d + 150) 65 0 [some (.ref 874), some (.int (Int32.ofNat s)), some (.int y), none, none, none, none] [] (am_wI B i)) (some (.int 0)) 2 := by
  have hM : Md B := h.1.1
  have e0 := m_uses (d := d + 149) (i := i) hM
  have k0 : tkup i 875 2621 = σ.1 2621 := (tku_o (by omega)).trans (h.2.1 2621 (by omega))
  have R := m_reads (d := d + 122) (u := u) hM (Stx_tku hX) (MT_of h hS) tku_8 (fun z => (tku_o (by omega)).trans (hu z))
  rw [ht, show d + 122 + 26 + 1 = d + 149 by omega] at R
  obtain ⟨j, E, j12, fj, zj⟩ := R
  have nn : (-1 : Int32) < 0 := by decide
  refine MRs_gx (j := j) h ?_ ((fj _ _ (by omega) (by omega)).trans tku_7) j12 (fun q k h1 h2 => (fj q k h1 (by omega)).trans (tku_o (by omega))) (fun z hz => (zj z hz).trans (tku_o (by omega)))
  rw [bk_65_0]
  simp (disch := omega) only [e0, bk_69_0, k0, m_bes11 hS.1.1.2.2.2.1 hs, bk_10_0, E, nn, bk_65_32, z_39, z_390, hM, y_ckd, y_ck2d, y_ond, y_onn, y_oI, y_oIx, y_oJ, y_oV, y_oVx, y_oR, y_oRn, y_oRx, y_b0, y_b1, y_bi, y_bid, y_wIK, y_wIL, y_wII, y_wIJ, y_wIR, y_wIN, y_wIw, y_sI, ↓reduceIte, Nat.reduceEqDiff, eq_self, true_or, or_true, false_or, or_false, and_true, true_and, false_and, and_false, not_true, not_false_eq_true, tf_T, tf_F, y_up1, y_up2, y_xx, y_nx, y_sJ, y_sR, Int32.reduceLT, y_nxK, y_nxL, y_nxR, y_sJK, y_sJL, y_sJR, y_sJN, y_sRK, y_sRL, y_sRN, Nat.add_zero, z_nat, z_lit, z_lit0, z_lit1, z_in0, z_in1, z_addl0, z_lt, z_ltl, z_llt, z_inj, z_injl, z_add, z_addl, z_ladd, z_mul, z_mull, z_lmul, z_neg, z_negl, z_in, z_inl, z_ltT, z_ltF, z_eqF, z_10, z_01, z_litne, z_ne0, z_0ne, z_ne1, z_1ne, z_lt64, z_02, z_03, z_04, z_05, z_12, z_13, z_14, z_15, z_20, z_21, z_23, z_24, z_25, z_30, z_31, z_32, z_34, z_35, z_40, z_41, z_42, z_43, z_45, z_50, z_51, z_52, z_53, z_54]
/-- one piece -/
theorem m_bes1 {a : Nat} {zT zD : Int32} (hM : Md B) (h0 : i 875 460 = Int32.ofNat (cn w 460)) (hp : p < cn w 460) (h120 : cn w 460 ≤ 120) (h1 : i 875 (461 + 18 * p + 1) = w (461 + 18 * p + 1)) {t : Option Nat} (hT : am_fx am_P (d + 149) 57 0 [some (.ref 874), some (.int (i 875 0)), none, none] [] (am_wI B i) = some (.inl (some (.int (txn t))), am_wI B i)) {j1 j2 : Nat → Nat → Int32} (E1 : am_fx am_P (d + 149) 62 0 [some (.ref 874), some (.int (Int32.ofNat p)), some (.int (Int32.ofNat s)), some (.int (txn t)), none] [] (am_wI B i) = some (.inl (some (.int zT)), am_wI B j1)) (E2 : am_fx am_P (d + 149) 62 0 [some (.ref 874), some (.int (Int32.ofNat p)), some (.int (Int32.ofNat s)), some (.int 10), none] [] (am_wI B j1) = some (.inl (some (.int zD)), am_wI B j2)) (v1 : zT = -1 ∨ ∃ n, n < 12 ∧ zT = Int32.ofNat n) (v2 : zD = -1 ∨ ∃ n, n < 12 ∧ zD = Int32.ofNat n) (hy : y = 0 ∨ y = 1) : am_fx am_P (d + 150) 65 46 [some (.ref 874), some (.int (Int32.ofNat s)), some (.int y), some (.int (Int32.ofNat (a))), some (.int (Int32.ofNat (p))), none, none] [] (am_wI B i) = if w (461 + 18 * p + 1) = 2 then (if (y = 0 ∧ ¬ zD = -1 ∧ zT = -1) ∨ (y = 1 ∧ ¬ zT = -1 ∧ zD = -1) then am_fx am_P (d + 150) 65 46 [some (.ref 874), some (.int (Int32.ofNat s)), some (.int y), some (.int (Int32.ofNat (a + 1))), some (.int (Int32.ofNat (p + 1))), none, none] [] (am_wI B j2) else am_fx am_P (d + 150) 65 46 [some (.ref 874), some (.int (Int32.ofNat s)), some (.int y), some (.int (Int32.ofNat (a))), some (.int (Int32.ofNat (p + 1))), none, none] [] (am_wI B j2)) else am_fx am_P (d + 150) 65 46 [some (.ref 874), some (.int (Int32.ofNat s)), some (.int y), some (.int (Int32.ofNat (a))), some (.int (Int32.ofNat (p + 1))), none, none] [] (am_wI B i) := by
  have nn : (-1 : Int32) < 0 := by decide
  have m0 : ¬ (0 : Int32) = 1 := by decide
  have m1 : ¬ (1 : Int32) = 0 := by decide
  have p1 : ∀ z : Int32, (z = -1 ∨ ∃ n, n < 12 ∧ z = Int32.ofNat n) → ¬ z = -1 → ¬ z < 0 := fun z hz h => by
    rcases hz with q | ⟨n, h1, h2⟩
    · exact absurd q h
    · rw [h2, z_neg (by omega)]
      exact id
  rw [bk_65_46]
  by_cases g : w (461 + 18 * p + 1) = 2
  rotate_left
  · rw [if_neg g]
    simp (disch := omega) only [bk_24_0, bk_23_0, h0, hp, h1, g, hM, y_ckd, y_ck2d, y_ond, y_onn, y_oI, y_oIx, y_oJ, y_oV, y_oVx, y_oR, y_oRn, y_oRx, y_b0, y_b1, y_bi, y_bid, y_wIK, y_wIL, y_wII, y_wIJ, y_wIR, y_wIN, y_wIw, y_sI, ↓reduceIte, Nat.reduceEqDiff, eq_self, true_or, or_true, false_or, or_false, and_true, true_and, false_and, and_false, not_true, not_false_eq_true, tf_T, tf_F, y_up1, y_up2, y_xx, y_nx, y_sJ, y_sR, Int32.reduceLT, y_nxK, y_nxL, y_nxR, y_sJK, y_sJL, y_sJR, y_sJN, y_sRK, y_sRL, y_sRN, Nat.add_zero, z_nat, z_lit, z_lit0, z_lit1, z_in0, z_in1, z_addl0, z_lt, z_ltl, z_llt, z_inj, z_injl, z_add, z_addl, z_ladd, z_mul, z_mull, z_lmul, z_neg, z_negl, z_in, z_inl, z_ltT, z_ltF, z_eqF, z_10, z_01, z_litne, z_ne0, z_0ne, z_ne1, z_1ne, z_lt64, z_02, z_03, z_04, z_05, z_12, z_13, z_14, z_15, z_20, z_21, z_23, z_24, z_25, z_30, z_31, z_32, z_34, z_35, z_40, z_41, z_42, z_43, z_45, z_50, z_51, z_52, z_53, z_54]
  rw [if_pos g]
  rw [g] at h1
  by_cases g1 : zT = -1
  · have n1 : zT < 0 := by rw [g1]; exact nn
    by_cases g2 : zD = -1
    · have n2 : zD < 0 := by rw [g2]; exact nn
      rw [if_neg (fun q => q.elim (fun q => q.2.1 g2) fun q => q.2.1 g1)]
      rcases hy with rfl | rfl
      · simp (disch := omega) only [bk_24_0, bk_23_0, h0, hp, h1, m_today, hT, E1, E2, n1, n2, bk_65_96, bk_65_115, bk_65_136, m0, m1, Int32.add_zero, hM, y_ckd, y_ck2d, y_ond, y_onn, y_oI, y_oIx, y_oJ, y_oV, y_oVx, y_oR, y_oRn, y_oRx, y_b0, y_b1, y_bi, y_bid, y_wIK, y_wIL, y_wII, y_wIJ, y_wIR, y_wIN, y_wIw, y_sI, ↓reduceIte, Nat.reduceEqDiff, eq_self, true_or, or_true, false_or, or_false, and_true, true_and, false_and, and_false, not_true, not_false_eq_true, tf_T, tf_F, y_up1, y_up2, y_xx, y_nx, y_sJ, y_sR, Int32.reduceLT, y_nxK, y_nxL, y_nxR, y_sJK, y_sJL, y_sJR, y_sJN, y_sRK, y_sRL, y_sRN, Nat.add_zero, z_nat, z_lit, z_lit0, z_lit1, z_in0, z_in1, z_addl0, z_lt, z_ltl, z_llt, z_inj, z_injl, z_add, z_addl, z_ladd, z_mul, z_mull, z_lmul, z_neg, z_negl, z_in, z_inl, z_ltT, z_ltF, z_eqF, z_10, z_01, z_litne, z_ne0, z_0ne, z_ne1, z_1ne, z_lt64, z_02, z_03, z_04, z_05, z_12, z_13, z_14, z_15, z_20, z_21, z_23, z_24, z_25, z_30, z_31, z_32, z_34, z_35, z_40, z_41, z_42, z_43, z_45, z_50, z_51, z_52, z_53, z_54]
      · simp (disch := omega) only [bk_24_0, bk_23_0, h0, hp, h1, m_today, hT, E1, E2, n1, n2, bk_65_96, bk_65_115, bk_65_136, m0, m1, Int32.add_zero, hM, y_ckd, y_ck2d, y_ond, y_onn, y_oI, y_oIx, y_oJ, y_oV, y_oVx, y_oR, y_oRn, y_oRx, y_b0, y_b1, y_bi, y_bid, y_wIK, y_wIL, y_wII, y_wIJ, y_wIR, y_wIN, y_wIw, y_sI, ↓reduceIte, Nat.reduceEqDiff, eq_self, true_or, or_true, false_or, or_false, and_true, true_and, false_and, and_false, not_true, not_false_eq_true, tf_T, tf_F, y_up1, y_up2, y_xx, y_nx, y_sJ, y_sR, Int32.reduceLT, y_nxK, y_nxL, y_nxR, y_sJK, y_sJL, y_sJR, y_sJN, y_sRK, y_sRL, y_sRN, Nat.add_zero, z_nat, z_lit, z_lit0, z_lit1, z_in0, z_in1, z_addl0, z_lt, z_ltl, z_llt, z_inj, z_injl, z_add, z_addl, z_ladd, z_mul, z_mull, z_lmul, z_neg, z_negl, z_in, z_inl, z_ltT, z_ltF, z_eqF, z_10, z_01, z_litne, z_ne0, z_0ne, z_ne1, z_1ne, z_lt64, z_02, z_03, z_04, z_05, z_12, z_13, z_14, z_15, z_20, z_21, z_23, z_24, z_25, z_30, z_31, z_32, z_34, z_35, z_40, z_41, z_42, z_43, z_45, z_50, z_51, z_52, z_53, z_54]
    · have n2 : ¬ zD < 0 := p1 zD v2 g2
      rcases hy with rfl | rfl
      · rw [if_pos (Or.inl ⟨rfl, g2, g1⟩)]
        simp (disch := omega) only [bk_24_0, bk_23_0, h0, hp, h1, m_today, hT, E1, E2, n1, n2, bk_65_96, bk_65_115, bk_65_136, m0, m1, hM, y_ckd, y_ck2d, y_ond, y_onn, y_oI, y_oIx, y_oJ, y_oV, y_oVx, y_oR, y_oRn, y_oRx, y_b0, y_b1, y_bi, y_bid, y_wIK, y_wIL, y_wII, y_wIJ, y_wIR, y_wIN, y_wIw, y_sI, ↓reduceIte, Nat.reduceEqDiff, eq_self, true_or, or_true, false_or, or_false, and_true, true_and, false_and, and_false, not_true, not_false_eq_true, tf_T, tf_F, y_up1, y_up2, y_xx, y_nx, y_sJ, y_sR, Int32.reduceLT, y_nxK, y_nxL, y_nxR, y_sJK, y_sJL, y_sJR, y_sJN, y_sRK, y_sRL, y_sRN, Nat.add_zero, z_nat, z_lit, z_lit0, z_lit1, z_in0, z_in1, z_addl0, z_lt, z_ltl, z_llt, z_inj, z_injl, z_add, z_addl, z_ladd, z_mul, z_mull, z_lmul, z_neg, z_negl, z_in, z_inl, z_ltT, z_ltF, z_eqF, z_10, z_01, z_litne, z_ne0, z_0ne, z_ne1, z_1ne, z_lt64, z_02, z_03, z_04, z_05, z_12, z_13, z_14, z_15, z_20, z_21, z_23, z_24, z_25, z_30, z_31, z_32, z_34, z_35, z_40, z_41, z_42, z_43, z_45, z_50, z_51, z_52, z_53, z_54]
      · rw [if_neg (fun q => q.elim (fun q => m1 q.1) fun q => q.2.1 g1)]
        simp (disch := omega) only [bk_24_0, bk_23_0, h0, hp, h1, m_today, hT, E1, E2, n1, n2, bk_65_96, bk_65_115, bk_65_136, m0, m1, Int32.add_zero, hM, y_ckd, y_ck2d, y_ond, y_onn, y_oI, y_oIx, y_oJ, y_oV, y_oVx, y_oR, y_oRn, y_oRx, y_b0, y_b1, y_bi, y_bid, y_wIK, y_wIL, y_wII, y_wIJ, y_wIR, y_wIN, y_wIw, y_sI, ↓reduceIte, Nat.reduceEqDiff, eq_self, true_or, or_true, false_or, or_false, and_true, true_and, false_and, and_false, not_true, not_false_eq_true, tf_T, tf_F, y_up1, y_up2, y_xx, y_nx, y_sJ, y_sR, Int32.reduceLT, y_nxK, y_nxL, y_nxR, y_sJK, y_sJL, y_sJR, y_sJN, y_sRK, y_sRL, y_sRN, Nat.add_zero, z_nat, z_lit, z_lit0, z_lit1, z_in0, z_in1, z_addl0, z_lt, z_ltl, z_llt, z_inj, z_injl, z_add, z_addl, z_ladd, z_mul, z_mull, z_lmul, z_neg, z_negl, z_in, z_inl, z_ltT, z_ltF, z_eqF, z_10, z_01, z_litne, z_ne0, z_0ne, z_ne1, z_1ne, z_lt64, z_02, z_03, z_04, z_05, z_12, z_13, z_14, z_15, z_20, z_21, z_23, z_24, z_25, z_30, z_31, z_32, z_34, z_35, z_40, z_41, z_42, z_43, z_45, z_50, z_51, z_52, z_53, z_54]
  · have n1 : ¬ zT < 0 := p1 zT v1 g1
    by_cases g2 : zD = -1
    · have n2 : zD < 0 := by rw [g2]; exact nn
      rcases hy with rfl | rfl
      · rw [if_neg (fun q => q.elim (fun q => q.2.1 g2) fun q => m0 q.1)]
        simp (disch := omega) only [bk_24_0, bk_23_0, h0, hp, h1, m_today, hT, E1, E2, n1, n2, bk_65_96, bk_65_115, bk_65_136, m0, m1, Int32.add_zero, hM, y_ckd, y_ck2d, y_ond, y_onn, y_oI, y_oIx, y_oJ, y_oV, y_oVx, y_oR, y_oRn, y_oRx, y_b0, y_b1, y_bi, y_bid, y_wIK, y_wIL, y_wII, y_wIJ, y_wIR, y_wIN, y_wIw, y_sI, ↓reduceIte, Nat.reduceEqDiff, eq_self, true_or, or_true, false_or, or_false, and_true, true_and, false_and, and_false, not_true, not_false_eq_true, tf_T, tf_F, y_up1, y_up2, y_xx, y_nx, y_sJ, y_sR, Int32.reduceLT, y_nxK, y_nxL, y_nxR, y_sJK, y_sJL, y_sJR, y_sJN, y_sRK, y_sRL, y_sRN, Nat.add_zero, z_nat, z_lit, z_lit0, z_lit1, z_in0, z_in1, z_addl0, z_lt, z_ltl, z_llt, z_inj, z_injl, z_add, z_addl, z_ladd, z_mul, z_mull, z_lmul, z_neg, z_negl, z_in, z_inl, z_ltT, z_ltF, z_eqF, z_10, z_01, z_litne, z_ne0, z_0ne, z_ne1, z_1ne, z_lt64, z_02, z_03, z_04, z_05, z_12, z_13, z_14, z_15, z_20, z_21, z_23, z_24, z_25, z_30, z_31, z_32, z_34, z_35, z_40, z_41, z_42, z_43, z_45, z_50, z_51, z_52, z_53, z_54]
      · rw [if_pos (Or.inr ⟨rfl, g1, g2⟩)]
        simp (disch := omega) only [bk_24_0, bk_23_0, h0, hp, h1, m_today, hT, E1, E2, n1, n2, bk_65_96, bk_65_115, bk_65_136, m0, m1, hM, y_ckd, y_ck2d, y_ond, y_onn, y_oI, y_oIx, y_oJ, y_oV, y_oVx, y_oR, y_oRn, y_oRx, y_b0, y_b1, y_bi, y_bid, y_wIK, y_wIL, y_wII, y_wIJ, y_wIR, y_wIN, y_wIw, y_sI, ↓reduceIte, Nat.reduceEqDiff, eq_self, true_or, or_true, false_or, or_false, and_true, true_and, false_and, and_false, not_true, not_false_eq_true, tf_T, tf_F, y_up1, y_up2, y_xx, y_nx, y_sJ, y_sR, Int32.reduceLT, y_nxK, y_nxL, y_nxR, y_sJK, y_sJL, y_sJR, y_sJN, y_sRK, y_sRL, y_sRN, Nat.add_zero, z_nat, z_lit, z_lit0, z_lit1, z_in0, z_in1, z_addl0, z_lt, z_ltl, z_llt, z_inj, z_injl, z_add, z_addl, z_ladd, z_mul, z_mull, z_lmul, z_neg, z_negl, z_in, z_inl, z_ltT, z_ltF, z_eqF, z_10, z_01, z_litne, z_ne0, z_0ne, z_ne1, z_1ne, z_lt64, z_02, z_03, z_04, z_05, z_12, z_13, z_14, z_15, z_20, z_21, z_23, z_24, z_25, z_30, z_31, z_32, z_34, z_35, z_40, z_41, z_42, z_43, z_45, z_50, z_51, z_52, z_53, z_54]
    · have n2 : ¬ zD < 0 := p1 zD v2 g2
      rw [if_neg (fun q => q.elim (fun q => g1 q.2.2) fun q => g2 q.2.2)]
      rcases hy with rfl | rfl
      · simp (disch := omega) only [bk_24_0, bk_23_0, h0, hp, h1, m_today, hT, E1, E2, n1, n2, bk_65_96, bk_65_115, bk_65_136, m0, m1, Int32.add_zero, hM, y_ckd, y_ck2d, y_ond, y_onn, y_oI, y_oIx, y_oJ, y_oV, y_oVx, y_oR, y_oRn, y_oRx, y_b0, y_b1, y_bi, y_bid, y_wIK, y_wIL, y_wII, y_wIJ, y_wIR, y_wIN, y_wIw, y_sI, ↓reduceIte, Nat.reduceEqDiff, eq_self, true_or, or_true, false_or, or_false, and_true, true_and, false_and, and_false, not_true, not_false_eq_true, tf_T, tf_F, y_up1, y_up2, y_xx, y_nx, y_sJ, y_sR, Int32.reduceLT, y_nxK, y_nxL, y_nxR, y_sJK, y_sJL, y_sJR, y_sJN, y_sRK, y_sRL, y_sRN, Nat.add_zero, z_nat, z_lit, z_lit0, z_lit1, z_in0, z_in1, z_addl0, z_lt, z_ltl, z_llt, z_inj, z_injl, z_add, z_addl, z_ladd, z_mul, z_mull, z_lmul, z_neg, z_negl, z_in, z_inl, z_ltT, z_ltF, z_eqF, z_10, z_01, z_litne, z_ne0, z_0ne, z_ne1, z_1ne, z_lt64, z_02, z_03, z_04, z_05, z_12, z_13, z_14, z_15, z_20, z_21, z_23, z_24, z_25, z_30, z_31, z_32, z_34, z_35, z_40, z_41, z_42, z_43, z_45, z_50, z_51, z_52, z_53, z_54]
      · simp (disch := omega) only [bk_24_0, bk_23_0, h0, hp, h1, m_today, hT, E1, E2, n1, n2, bk_65_96, bk_65_115, bk_65_136, m0, m1, Int32.add_zero, hM, y_ckd, y_ck2d, y_ond, y_onn, y_oI, y_oIx, y_oJ, y_oV, y_oVx, y_oR, y_oRn, y_oRx, y_b0, y_b1, y_bi, y_bid, y_wIK, y_wIL, y_wII, y_wIJ, y_wIR, y_wIN, y_wIw, y_sI, ↓reduceIte, Nat.reduceEqDiff, eq_self, true_or, or_true, false_or, or_false, and_true, true_and, false_and, and_false, not_true, not_false_eq_true, tf_T, tf_F, y_up1, y_up2, y_xx, y_nx, y_sJ, y_sR, Int32.reduceLT, y_nxK, y_nxL, y_nxR, y_sJK, y_sJL, y_sJR, y_sJN, y_sRK, y_sRL, y_sRN, Nat.add_zero, z_nat, z_lit, z_lit0, z_lit1, z_in0, z_in1, z_addl0, z_lt, z_ltl, z_llt, z_inj, z_injl, z_add, z_addl, z_ladd, z_mul, z_mull, z_lmul, z_neg, z_negl, z_in, z_inl, z_ltT, z_ltF, z_eqF, z_10, z_01, z_litne, z_ne0, z_0ne, z_ne1, z_1ne, z_lt64, z_02, z_03, z_04, z_05, z_12, z_13, z_14, z_15, z_20, z_21, z_23, z_24, z_25, z_30, z_31, z_32, z_34, z_35, z_40, z_41, z_42, z_43, z_45, z_50, z_51, z_52, z_53, z_54]
end Besm
