/-! TEXTS ON THE TAPE, the model: all of it. Made by wip/whole/math/945.py. -/
def MA (B : am_A) (i : Nat → Nat → Int32) (x : am_X) : Nat ⊕ (Nat × PS) → Prop
  | .inl f => ∃ j, x = some (.inl (some (.int (-1))), am_wI B j) ∧ j 874 10 = Int32.ofNat f ∧ FRm i j ∧ ∀ z, z < 12042 → j 875 z = i 875 z
  | .inr r => ∃ j, x = some (.inl (some (.int (Int32.ofNat r.1))), am_wI B j) ∧ (∀ z, j 875 z = r.2.2.2 z) ∧ FRm i j ∧ ∀ z, z < 12042 → j 875 z = i 875 z
def MRd (B : am_A) (i : Nat → Nat → Int32) (x : am_X) : Nat ⊕ (Nat × PS) → Prop
  | .inl f => ∃ j, x = some (.inl (some (.int (-1))), am_wI B j) ∧ j 874 12 = Int32.ofNat f ∧ (∀ q k, q ≠ 875 → (q = 874 → k ≠ 8 ∧ k ≠ 10 ∧ k ≠ 11 ∧ k ≠ 12 ∧ k ≠ 14) → j q k = i q k) ∧ ∀ z, z < 12042 → j 875 z = i 875 z
  | .inr r => ∃ j, x = some (.inl (some (.int (Int32.ofNat r.1))), am_wI B j) ∧ (j 874 12 = -1 ∧ ∀ z, j 875 z = wu r.2.2.2 12043 (Int32.ofNat r.1) z) ∧ (∀ q k, q ≠ 875 → (q = 874 → k ≠ 8 ∧ k ≠ 10 ∧ k ≠ 11 ∧ k ≠ 12 ∧ k ≠ 14) → j q k = i q k) ∧ ∀ z, z < 12042 → j 875 z = i 875 z
section ModH
variable {B : am_A} {i j k i' : Nat → Nat → Int32} {N : Nat → Nat} {d D L p b e q n s f c v K y : Nat} {u : Nat → Int32} {st : PS} {x : am_X} {r : Nat ⊕ (Nat × PS)}
theorem MA_fr (hf : FRm i j) (hz : ∀ z, z < 12042 → j 875 z = i 875 z) (h : MA B j x r) : MA B i x r := by
  cases r with
  | inl f =>
    obtain ⟨m, a1, a2, a3, a4⟩ := h
    exact ⟨m, a1, a2, hf.tr a3, fun z hz2 => (a4 z hz2).trans (hz z hz2)⟩
  | inr st =>
    obtain ⟨m, a1, a2, a3, a4⟩ := h
    exact ⟨m, a1, a2, hf.tr a3, fun z hz2 => (a4 z hz2).trans (hz z hz2)⟩
theorem m_lns (hM : Md B) (m : Nat) : ∀ (n : Nat) (st : PS) (i : Nat → Nat → Int32), n + m = 12 → Stx B i → MT N L i → MP i st → st.1 ≤ L → st.2.1 ≤ st.1 → MA B i (am_fx am_P (d + 25 + 1) 54 24 [some (.ref 874), some (.int (Int32.ofNat n))] [] (am_wI B i)) (lnsS N L m n st) := by
  induction m with
  | zero =>
    intro n st i hn hX hc hp h1 h2
    obtain ⟨j1, E1, a8, a10, f1⟩ := m_word (d := d + 22) hM hc hp.1 h1
    have f1 : Mv i j1 := f1
    have e12 : n = 12 := by omega
    subst e12
    have w12 : Int32.ofNat 12 = 12 := rfl
    have E : am_fx am_P (d + 25) 53 0 [some (.ref 874), some (.int (Int32.ofNat 12)), none, none] [] (am_wI B i) = some (.inl (some (.int 0)), am_wI B j1) := by
      rw [show d + 25 = d + 24 + 1 by omega, bk_53_0]
      simp (disch := omega) only [E1, w12, hM, y_ckd, y_ck2d, y_ond, y_onn, y_oI, y_oIx, y_oJ, y_oV, y_oVx, y_oR, y_oRn, y_oRx, y_b0, y_b1, y_bi, y_bid, y_wIK, y_wIL, y_wII, y_wIJ, y_wIR, y_wIN, y_wIw, y_sI, ↓reduceIte, Nat.reduceEqDiff, eq_self, true_or, or_true, false_or, or_false, and_true, true_and, false_and, and_false, not_true, not_false_eq_true, tf_T, tf_F, y_up1, y_up2, y_xx, y_nx, y_sJ, y_sR, Int32.reduceLT, y_nxK, y_nxL, y_nxR, y_sJK, y_sJL, y_sJR, y_sJN, y_sRK, y_sRL, y_sRN, Nat.add_zero, z_nat, z_lit, z_lit0, z_lit1, z_in0, z_in1, z_addl0, z_lt, z_ltl, z_llt, z_inj, z_injl, z_add, z_addl, z_ladd, z_mul, z_mull, z_lmul, z_neg, z_negl, z_in, z_inl, z_ltT, z_ltF, z_eqF, z_10, z_01, z_litne, z_ne0, z_0ne, z_ne1, z_1ne, z_lt64, z_02, z_03, z_04, z_05, z_12, z_13, z_14, z_15, z_20, z_21, z_23, z_24, z_25, z_30, z_31, z_32, z_34, z_35, z_40, z_41, z_42, z_43, z_45, z_50, z_51, z_52, z_53, z_54]
    refine ⟨j1, ?_, a10, f1.fr, fun z _ => f1 _ _ (by omega)⟩
    rw [bk_54_24]
    simp (disch := omega) only [E, hM, y_ckd, y_ck2d, y_ond, y_onn, y_oI, y_oIx, y_oJ, y_oV, y_oVx, y_oR, y_oRn, y_oRx, y_b0, y_b1, y_bi, y_bid, y_wIK, y_wIL, y_wII, y_wIJ, y_wIR, y_wIN, y_wIw, y_sI, ↓reduceIte, Nat.reduceEqDiff, eq_self, true_or, or_true, false_or, or_false, and_true, true_and, false_and, and_false, not_true, not_false_eq_true, tf_T, tf_F, y_up1, y_up2, y_xx, y_nx, y_sJ, y_sR, Int32.reduceLT, y_nxK, y_nxL, y_nxR, y_sJK, y_sJL, y_sJR, y_sJN, y_sRK, y_sRL, y_sRN, Nat.add_zero, z_nat, z_lit, z_lit0, z_lit1, z_in0, z_in1, z_addl0, z_lt, z_ltl, z_llt, z_inj, z_injl, z_add, z_addl, z_ladd, z_mul, z_mull, z_lmul, z_neg, z_negl, z_in, z_inl, z_ltT, z_ltF, z_eqF, z_10, z_01, z_litne, z_ne0, z_0ne, z_ne1, z_1ne, z_lt64, z_02, z_03, z_04, z_05, z_12, z_13, z_14, z_15, z_20, z_21, z_23, z_24, z_25, z_30, z_31, z_32, z_34, z_35, z_40, z_41, z_42, z_43, z_45, z_50, z_51, z_52, z_53, z_54]
  | succ m ih =>
    intro n st i hn hX hc hp h1 h2
    have l400 := hc.2.1
    have R := m_line (d := d) (n := n) hM hX hc hp h1 h2 (by omega)
    rw [show d + 24 + 1 = d + 25 by omega] at R
    unfold lnsS
    cases hl : lnS N L n st with
    | inl f =>
      rw [hl] at R
      obtain ⟨j2, E2, b10, f2, z2⟩ := R
      refine ⟨j2, ?_, b10, f2, z2⟩
      rw [bk_54_24]
      simp (disch := omega) only [E2, hM, y_ckd, y_ck2d, y_ond, y_onn, y_oI, y_oIx, y_oJ, y_oV, y_oVx, y_oR, y_oRn, y_oRx, y_b0, y_b1, y_bi, y_bid, y_wIK, y_wIL, y_wII, y_wIJ, y_wIR, y_wIN, y_wIw, y_sI, ↓reduceIte, Nat.reduceEqDiff, eq_self, true_or, or_true, false_or, or_false, and_true, true_and, false_and, and_false, not_true, not_false_eq_true, tf_T, tf_F, y_up1, y_up2, y_xx, y_nx, y_sJ, y_sR, Int32.reduceLT, y_nxK, y_nxL, y_nxR, y_sJK, y_sJL, y_sJR, y_sJN, y_sRK, y_sRL, y_sRN, Nat.add_zero, z_nat, z_lit, z_lit0, z_lit1, z_in0, z_in1, z_addl0, z_lt, z_ltl, z_llt, z_inj, z_injl, z_add, z_addl, z_ladd, z_mul, z_mull, z_lmul, z_neg, z_negl, z_in, z_inl, z_ltT, z_ltF, z_eqF, z_10, z_01, z_litne, z_ne0, z_0ne, z_ne1, z_1ne, z_lt64, z_02, z_03, z_04, z_05, z_12, z_13, z_14, z_15, z_20, z_21, z_23, z_24, z_25, z_30, z_31, z_32, z_34, z_35, z_40, z_41, z_42, z_43, z_45, z_50, z_51, z_52, z_53, z_54]
    | inr s1 =>
      rw [hl] at R
      obtain ⟨j2, E2, p2, f2, z2⟩ := R
      obtain ⟨⟨a1, a2⟩, ⟨a3, a4⟩, -, -⟩ := ln_pr h1 h2 (by omega) hl
      have c2 := MT_FRm hc f2
      obtain ⟨t1, t2⟩ := tb_bnd (N := N) (L := L) a2
      obtain ⟨j3, E3, c8, c10, f3⟩ := m_blanks (d := d + 24) hM (L - s1.1) s1.1 j2 (Nat.le_refl _) a2 c2 p2.1
      have f3 : Mv j2 j3 := f3
      rw [show d + 24 + 1 = d + 25 by omega] at E3
      have c3 := MT_Mv c2 f3
      have c9 := c3.1
      have p3 := MP_Mv p2 f3 c8
      have z3 : ∀ z, z < 12042 → j3 875 z = i 875 z := fun z hz => (f3 _ _ (by omega)).trans (z2 z hz)
      dsimp only
      by_cases g0 : tb N L s1.1 < L
      rotate_left
      · rw [if_pos g0]
        refine ⟨j3, ?_, p3.2.2, f2.tr f3.fr, z3⟩
        have eL : tb N L s1.1 = L := by omega
        rw [eL] at c8
        rw [bk_54_24]
        simp (disch := omega) only [E2, E3, c8, c9, z_39, z_390, hM, y_ckd, y_ck2d, y_ond, y_onn, y_oI, y_oIx, y_oJ, y_oV, y_oVx, y_oR, y_oRn, y_oRx, y_b0, y_b1, y_bi, y_bid, y_wIK, y_wIL, y_wII, y_wIJ, y_wIR, y_wIN, y_wIw, y_sI, ↓reduceIte, Nat.reduceEqDiff, eq_self, true_or, or_true, false_or, or_false, and_true, true_and, false_and, and_false, not_true, not_false_eq_true, tf_T, tf_F, y_up1, y_up2, y_xx, y_nx, y_sJ, y_sR, Int32.reduceLT, y_nxK, y_nxL, y_nxR, y_sJK, y_sJL, y_sJR, y_sJN, y_sRK, y_sRL, y_sRN, Nat.add_zero, z_nat, z_lit, z_lit0, z_lit1, z_in0, z_in1, z_addl0, z_lt, z_ltl, z_llt, z_inj, z_injl, z_add, z_addl, z_ladd, z_mul, z_mull, z_lmul, z_neg, z_negl, z_in, z_inl, z_ltT, z_ltF, z_eqF, z_10, z_01, z_litne, z_ne0, z_0ne, z_ne1, z_1ne, z_lt64, z_02, z_03, z_04, z_05, z_12, z_13, z_14, z_15, z_20, z_21, z_23, z_24, z_25, z_30, z_31, z_32, z_34, z_35, z_40, z_41, z_42, z_43, z_45, z_50, z_51, z_52, z_53, z_54]
      rw [if_neg (Classical.not_not.mpr g0)]
      have nL : ¬ tb N L s1.1 = L := by omega
      have A := m_isAt (d := d + 25) (l := 59) (h := 59) (lo := 59) (hi := 59) hM c3 c8 t2 rfl rfl (by omega) (by omega)
      by_cases g1 : N (tb N L s1.1) = 59
      · rw [if_pos g1]
        rw [if_pos ⟨g0, by omega, by omega⟩] at A
        have f4 : Mv j3 (am_up2 j3 874 8 (Int32.ofNat (tb N L s1.1 + 1))) := fun q k h => y_up2 (by omega)
        have p4 : MP (am_up2 j3 874 8 (Int32.ofNat (tb N L s1.1 + 1))) (tb N L s1.1 + 1, s1.2) := MP_Mv (st := (tb N L s1.1, s1.2)) p3 f4 (y_up1 rfl rfl)
        have fa := (f2.tr f3.fr).tr f4.fr
        have R2 := ih (n + 1) (tb N L s1.1 + 1, s1.2) (am_up2 j3 874 8 (Int32.ofNat (tb N L s1.1 + 1))) (by omega) (Stx_FRm hX fa) (MT_FRm hc fa) p4 (by show tb N L s1.1 + 1 ≤ L; omega) (by show s1.2.1 ≤ tb N L s1.1 + 1; omega)
        refine MA_fr fa (fun z hz => (y_up2 (by omega)).trans (z3 z hz)) ?_
        have e54 : am_fx am_P (d + 25 + 1) 54 24 [some (.ref 874), some (.int (Int32.ofNat n))] [] (am_wI B i) = am_fx am_P (d + 25 + 1) 54 24 [some (.ref 874), some (.int (Int32.ofNat (n + 1)))] [] (am_wI B (am_up2 j3 874 8 (Int32.ofNat (tb N L s1.1 + 1)))) := by
          rw [bk_54_24]
          simp (disch := omega) only [E2, E3, A, c8, c9, nL, z_39, z_390, hM, y_ckd, y_ck2d, y_ond, y_onn, y_oI, y_oIx, y_oJ, y_oV, y_oVx, y_oR, y_oRn, y_oRx, y_b0, y_b1, y_bi, y_bid, y_wIK, y_wIL, y_wII, y_wIJ, y_wIR, y_wIN, y_wIw, y_sI, ↓reduceIte, Nat.reduceEqDiff, eq_self, true_or, or_true, false_or, or_false, and_true, true_and, false_and, and_false, not_true, not_false_eq_true, tf_T, tf_F, y_up1, y_up2, y_xx, y_nx, y_sJ, y_sR, Int32.reduceLT, y_nxK, y_nxL, y_nxR, y_sJK, y_sJL, y_sJR, y_sJN, y_sRK, y_sRL, y_sRN, Nat.add_zero, z_nat, z_lit, z_lit0, z_lit1, z_in0, z_in1, z_addl0, z_lt, z_ltl, z_llt, z_inj, z_injl, z_add, z_addl, z_ladd, z_mul, z_mull, z_lmul, z_neg, z_negl, z_in, z_inl, z_ltT, z_ltF, z_eqF, z_10, z_01, z_litne, z_ne0, z_0ne, z_ne1, z_1ne, z_lt64, z_02, z_03, z_04, z_05, z_12, z_13, z_14, z_15, z_20, z_21, z_23, z_24, z_25, z_30, z_31, z_32, z_34, z_35, z_40, z_41, z_42, z_43, z_45, z_50, z_51, z_52, z_53, z_54]
        rw [e54]
        exact R2
      · rw [if_neg g1]
        rw [if_neg fun q => g1 (by omega)] at A
        refine ⟨j3, ?_, c10, f2.tr f3.fr, z3⟩
        rw [bk_54_24]
        simp (disch := omega) only [E2, E3, A, c8, c9, nL, z_39, z_390, hM, y_ckd, y_ck2d, y_ond, y_onn, y_oI, y_oIx, y_oJ, y_oV, y_oVx, y_oR, y_oRn, y_oRx, y_b0, y_b1, y_bi, y_bid, y_wIK, y_wIL, y_wII, y_wIJ, y_wIR, y_wIN, y_wIw, y_sI, ↓reduceIte, Nat.reduceEqDiff, eq_self, true_or, or_true, false_or, or_false, and_true, true_and, false_and, and_false, not_true, not_false_eq_true, tf_T, tf_F, y_up1, y_up2, y_xx, y_nx, y_sJ, y_sR, Int32.reduceLT, y_nxK, y_nxL, y_nxR, y_sJK, y_sJL, y_sJR, y_sJN, y_sRK, y_sRL, y_sRN, Nat.add_zero, z_nat, z_lit, z_lit0, z_lit1, z_in0, z_in1, z_addl0, z_lt, z_ltl, z_llt, z_inj, z_injl, z_add, z_addl, z_ladd, z_mul, z_mull, z_lmul, z_neg, z_negl, z_in, z_inl, z_ltT, z_ltF, z_eqF, z_10, z_01, z_litne, z_ne0, z_0ne, z_ne1, z_1ne, z_lt64, z_02, z_03, z_04, z_05, z_12, z_13, z_14, z_15, z_20, z_21, z_23, z_24, z_25, z_30, z_31, z_32, z_34, z_35, z_40, z_41, z_42, z_43, z_45, z_50, z_51, z_52, z_53, z_54]
theorem m_readAll (hM : Md B) (hX : Stx B i) (hc : MT N L i) (e8 : i 874 8 = 0) (eu : ∀ z, i 875 z = u z) : MA B i (am_fx am_P (d + 25 + 1) 54 0 [some (.ref 874), none] [] (am_wI B i)) (txtS N L u) := by
  have l400 := hc.2.1
  have f0 : FRm i (am_up2 i 874 14 0) := fun q k h1 h2 => y_up2 (by omega)
  have c0 := MT_FRm hc f0
  have e8' : am_up2 i 874 14 0 874 8 = Int32.ofNat 0 := (y_up2 (by omega)).trans e8
  obtain ⟨j1, E1, a8, a10, f1⟩ := m_blanks (d := d + 24) hM (L - 0) 0 (am_up2 i 874 14 0) (Nat.le_refl _) (Nat.zero_le _) c0 e8'
  have f1 : Mv (am_up2 i 874 14 0) j1 := f1
  rw [show d + 24 + 1 = d + 25 by omega] at E1
  obtain ⟨t1, t2⟩ := tb_bnd (N := N) (L := L) (p := 0) (Nat.zero_le _)
  have c1 := MT_Mv c0 f1
  have a9 := c1.1
  have p1 : MP j1 (tb N L 0, 0, u) := ⟨a8, (f1 _ _ (by omega)).trans (y_up1 rfl rfl), fun z => (f1 _ _ (by omega)).trans ((y_up2 (by omega)).trans (eu z))⟩
  have fa := f0.tr f1.fr
  have lo : ∀ z, z < 12042 → j1 875 z = i 875 z := fun z hz => (f1 _ _ (by omega)).trans (y_up2 (by omega))
  unfold txtS
  rw [bk_54_0]
  by_cases g : tb N L 0 < L
  · rw [if_pos g]
    have R := m_lns (d := d) hM 12 0 (tb N L 0, 0, u) j1 (by omega) (Stx_FRm hX fa) (MT_FRm hc fa) p1 t2 (Nat.zero_le _)
    refine MA_fr fa lo ?_
    have nL : ¬ tb N L 0 = L := by omega
    simp (disch := omega) only [E1, a8, a9, nL, hM, y_ckd, y_ck2d, y_ond, y_onn, y_oI, y_oIx, y_oJ, y_oV, y_oVx, y_oR, y_oRn, y_oRx, y_b0, y_b1, y_bi, y_bid, y_wIK, y_wIL, y_wII, y_wIJ, y_wIR, y_wIN, y_wIw, y_sI, ↓reduceIte, Nat.reduceEqDiff, eq_self, true_or, or_true, false_or, or_false, and_true, true_and, false_and, and_false, not_true, not_false_eq_true, tf_T, tf_F, y_up1, y_up2, y_xx, y_nx, y_sJ, y_sR, Int32.reduceLT, y_nxK, y_nxL, y_nxR, y_sJK, y_sJL, y_sJR, y_sJN, y_sRK, y_sRL, y_sRN, Nat.add_zero, z_nat, z_lit, z_lit0, z_lit1, z_in0, z_in1, z_addl0, z_lt, z_ltl, z_llt, z_inj, z_injl, z_add, z_addl, z_ladd, z_mul, z_mull, z_lmul, z_neg, z_negl, z_in, z_inl, z_ltT, z_ltF, z_eqF, z_10, z_01, z_litne, z_ne0, z_0ne, z_ne1, z_1ne, z_lt64, z_02, z_03, z_04, z_05, z_12, z_13, z_14, z_15, z_20, z_21, z_23, z_24, z_25, z_30, z_31, z_32, z_34, z_35, z_40, z_41, z_42, z_43, z_45, z_50, z_51, z_52, z_53, z_54]
    exact R
  · rw [if_neg g]
    have eL : tb N L 0 = L := by omega
    rw [eL] at a8
    refine ⟨j1, ?_, p1.2.2, fa, lo⟩
    simp (disch := omega) only [E1, a8, a9, hM, y_ckd, y_ck2d, y_ond, y_onn, y_oI, y_oIx, y_oJ, y_oV, y_oVx, y_oR, y_oRn, y_oRx, y_b0, y_b1, y_bi, y_bid, y_wIK, y_wIL, y_wII, y_wIJ, y_wIR, y_wIN, y_wIw, y_sI, ↓reduceIte, Nat.reduceEqDiff, eq_self, true_or, or_true, false_or, or_false, and_true, true_and, false_and, and_false, not_true, not_false_eq_true, tf_T, tf_F, y_up1, y_up2, y_xx, y_nx, y_sJ, y_sR, Int32.reduceLT, y_nxK, y_nxL, y_nxR, y_sJK, y_sJL, y_sJR, y_sJN, y_sRK, y_sRL, y_sRN, Nat.add_zero, z_nat, z_lit, z_lit0, z_lit1, z_in0, z_in1, z_addl0, z_lt, z_ltl, z_llt, z_inj, z_injl, z_add, z_addl, z_ladd, z_mul, z_mull, z_lmul, z_neg, z_negl, z_in, z_inl, z_ltT, z_ltF, z_eqF, z_10, z_01, z_litne, z_ne0, z_0ne, z_ne1, z_1ne, z_lt64, z_02, z_03, z_04, z_05, z_12, z_13, z_14, z_15, z_20, z_21, z_23, z_24, z_25, z_30, z_31, z_32, z_34, z_35, z_40, z_41, z_42, z_43, z_45, z_50, z_51, z_52, z_53, z_54]
    try rfl
theorem txt_12 {r : Nat × PS} (h : txtS N L u = .inr r) : r.1 ≤ 12 := by
  obtain ⟨e, -, -, h12, -⟩ := txt_pr h
  exact h12
theorem m_reads (hM : Md B) (hX : Stx B i) (hc : MT N L i) (e8 : i 874 8 = 0) (eu : ∀ z, i 875 z = u z) : MRd B i (am_fx am_P (d + 26 + 1) 55 0 [some (.ref 874), none] [] (am_wI B i)) (txtS N L u) := by
  have R := m_readAll (d := d) (u := u) hM hX hc e8 eu
  rw [show d + 25 + 1 = d + 26 by omega] at R
  have em : (3542 : Int32) + 850 * 10 + 1 = Int32.ofNat 12043 := by decide
  have nn : (-1 : Int32) < 0 := by decide
  rw [bk_55_0]
  cases hr : txtS N L u with
  | inl f =>
    rw [hr] at R
    obtain ⟨j, E, b10, f1, z1⟩ := R
    refine ⟨am_up2 (am_up2 j 874 12 (Int32.ofNat f)) 875 12043 0, ?_, by rw [y_up2 (by omega), y_up1 rfl rfl], fun q k h1 h2 => by rw [y_up2 (by omega), y_up2 (by omega)]; exact f1 q k h1 (by omega), fun z hz => by rw [y_up2 (by omega), y_up2 (by omega)]; exact z1 z hz⟩
    simp (disch := omega) only [E, nn, b10, bk_55_18, bk_47_0, bk_1_0, em, hM, y_ckd, y_ck2d, y_ond, y_onn, y_oI, y_oIx, y_oJ, y_oV, y_oVx, y_oR, y_oRn, y_oRx, y_b0, y_b1, y_bi, y_bid, y_wIK, y_wIL, y_wII, y_wIJ, y_wIR, y_wIN, y_wIw, y_sI, ↓reduceIte, Nat.reduceEqDiff, eq_self, true_or, or_true, false_or, or_false, and_true, true_and, false_and, and_false, not_true, not_false_eq_true, tf_T, tf_F, y_up1, y_up2, y_xx, y_nx, y_sJ, y_sR, Int32.reduceLT, y_nxK, y_nxL, y_nxR, y_sJK, y_sJL, y_sJR, y_sJN, y_sRK, y_sRL, y_sRN, Nat.add_zero, z_nat, z_lit, z_lit0, z_lit1, z_in0, z_in1, z_addl0, z_lt, z_ltl, z_llt, z_inj, z_injl, z_add, z_addl, z_ladd, z_mul, z_mull, z_lmul, z_neg, z_negl, z_in, z_inl, z_ltT, z_ltF, z_eqF, z_10, z_01, z_litne, z_ne0, z_0ne, z_ne1, z_1ne, z_lt64, z_02, z_03, z_04, z_05, z_12, z_13, z_14, z_15, z_20, z_21, z_23, z_24, z_25, z_30, z_31, z_32, z_34, z_35, z_40, z_41, z_42, z_43, z_45, z_50, z_51, z_52, z_53, z_54]
  | inr r =>
    rw [hr] at R
    have r12 := txt_12 hr
    obtain ⟨j, E, ju, f1, z1⟩ := R
    refine ⟨am_up2 (am_up2 j 874 12 (-1)) 875 12043 (Int32.ofNat r.1), ?_, ⟨by rw [y_up2 (by omega), y_up1 rfl rfl], upw fun z => (y_up2 (by omega)).trans (ju z)⟩, fun q k h1 h2 => by rw [y_up2 (by omega), y_up2 (by omega)]; exact f1 q k h1 (by omega), fun z hz => by rw [y_up2 (by omega), y_up2 (by omega)]; exact z1 z hz⟩
    have m0 : am_fx am_P (d + 26) 1 0 [some (.int 0), some (.int (Int32.ofNat r.1))] [] (am_wI B (am_up2 j 874 12 (-1))) = some (.inl (some (.int (Int32.ofNat r.1))), am_wI B (am_up2 j 874 12 (-1))) := by
      rw [bk_1_0]
      by_cases q : r.1 = 0
      · rw [q]
        rfl
      · simp (disch := omega) only [show (0 : Int32) = Int32.ofNat 0 from rfl, z_lt, show 0 < r.1 by omega, show ¬ r.1 < 0 by omega, y_ckd, y_ck2d, y_ond, y_onn, y_oI, y_oIx, y_oJ, y_oV, y_oVx, y_oR, y_oRn, y_oRx, y_b0, y_b1, y_bi, y_bid, y_wIK, y_wIL, y_wII, y_wIJ, y_wIR, y_wIN, y_wIw, y_sI, ↓reduceIte, Nat.reduceEqDiff, eq_self, true_or, or_true, false_or, or_false, and_true, true_and, false_and, and_false, not_true, not_false_eq_true, tf_T, tf_F, y_up1, y_up2, y_xx, y_nx, y_sJ, y_sR, Int32.reduceLT, y_nxK, y_nxL, y_nxR, y_sJK, y_sJL, y_sJR, y_sJN, y_sRK, y_sRL, y_sRN]
    simp (disch := omega) only [E, bk_55_18, bk_47_0, m0, em, hM, y_ckd, y_ck2d, y_ond, y_onn, y_oI, y_oIx, y_oJ, y_oV, y_oVx, y_oR, y_oRn, y_oRx, y_b0, y_b1, y_bi, y_bid, y_wIK, y_wIL, y_wII, y_wIJ, y_wIR, y_wIN, y_wIw, y_sI, ↓reduceIte, Nat.reduceEqDiff, eq_self, true_or, or_true, false_or, or_false, and_true, true_and, false_and, and_false, not_true, not_false_eq_true, tf_T, tf_F, y_up1, y_up2, y_xx, y_nx, y_sJ, y_sR, Int32.reduceLT, y_nxK, y_nxL, y_nxR, y_sJK, y_sJL, y_sJR, y_sJN, y_sRK, y_sRL, y_sRN, Nat.add_zero, z_nat, z_lit, z_lit0, z_lit1, z_in0, z_in1, z_addl0, z_lt, z_ltl, z_llt, z_inj, z_injl, z_add, z_addl, z_ladd, z_mul, z_mull, z_lmul, z_neg, z_negl, z_in, z_inl, z_ltT, z_ltF, z_eqF, z_10, z_01, z_litne, z_ne0, z_0ne, z_ne1, z_1ne, z_lt64, z_02, z_03, z_04, z_05, z_12, z_13, z_14, z_15, z_20, z_21, z_23, z_24, z_25, z_30, z_31, z_32, z_34, z_35, z_40, z_41, z_42, z_43, z_45, z_50, z_51, z_52, z_53, z_54]
end ModH
