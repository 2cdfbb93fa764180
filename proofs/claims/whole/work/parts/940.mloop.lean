/-! TEXTS ON THE TAPE, the model: a condition. Made by wip/whole/math/940.py. -/
def MAt (B : am_A) (N : Nat → Nat) (L x : Nat) (X : (Nat → Nat → Int32) → am_X) (A : PS → PR) : Prop := ∀ (i : Nat → Nat → Int32) (st : PS), Stx B i → MT N L i → MP i st → st.1 ≤ L → st.2.1 ≤ st.1 → i 874 11 = Int32.ofNat x → MO B i (X i) (A st)
section ModC
variable {B : am_A} {i j k : Nat → Nat → Int32} {N : Nat → Nat} {d D L H y p b e q n s f c : Nat} {u : Nat → Int32} {st : PS} {x : am_X} {r : PR} {A : PS → PR}
theorem MP_Mv (h : MP i st) (hf : Mv i j) (h8 : j 874 8 = Int32.ofNat p) : MP j (p, st.2) := ⟨h8, (hf _ _ (by omega)).trans h.2.1, fun z => (hf _ _ (by omega)).trans (h.2.2 z)⟩
/-- what was read keeps what lies before -/
theorem MP_lo {sa : PS} (h : MP i st) (hj : MP j sa) (hz : ∀ z, (z < 12092 + 2 * st.2.1 ∨ 12092 + 2 * sa.2.1 ≤ z) → sa.2.2 z = st.2.2 z) : ∀ z, z < 12042 → j 875 z = i 875 z := fun z q => by rw [hj.2.2 z, hz z (by omega), h.2.2 z]
theorem m_lp51 (hM : Md B) (hA : MAt B N L y (fun i => am_fx am_P (D + 3) 50 0 [some (.ref 874), none, none, none, none] [] (am_wI B i)) A) (hP : Pr L H A) (n : Nat) : ∀ (i : Nat → Nat → Int32) (st : PS), L - st.1 ≤ n → Stx B i → MT N L i → MP i st → st.1 ≤ L → st.2.1 ≤ st.1 → i 874 11 = Int32.ofNat y → MO B i (am_fx am_P (D + 3 + 1) 51 9 [some (.ref 874)] [] (am_wI B i)) (lpS N L 301 8 A n st) := by
  have out : ∀ (i : Nat → Nat → Int32) (st : PS), Stx B i → MT N L i → MP i st → st.1 ≤ L → ¬ isw N (tb N L st.1) (lw N L (tb N L st.1)) (sx 8) → MO B i (am_fx am_P (D + 3 + 1) 51 9 [some (.ref 874)] [] (am_wI B i)) (.inr (tb N L st.1, st.2)) := by
    intro i st hX hc hp h1 g
    obtain ⟨j, E, a8, a10, f⟩ := m_passes (d := D) hM hX hc hp.1 h1 (q := 8) (by omega) (sxs 8 (by omega) (by omega))
    have f : Mv i j := f
    rw [if_neg g] at E a8
    refine ⟨j, ?_, MP_Mv hp f a8, f _ _ (by omega), f.fr⟩
    rw [bk_51_9]
    simp (disch := omega) only [(hX 8 (by omega) (by omega)).1, E, hM, y_ckd, y_ck2d, y_ond, y_onn, y_oI, y_oIx, y_oJ, y_oV, y_oVx, y_oR, y_oRn, y_oRx, y_b0, y_b1, y_bi, y_bid, y_wIK, y_wIL, y_wII, y_wIJ, y_wIR, y_wIN, y_wIw, y_sI, ↓reduceIte, Nat.reduceEqDiff, eq_self, true_or, or_true, false_or, or_false, and_true, true_and, false_and, and_false, not_true, not_false_eq_true, tf_T, tf_F, y_up1, y_up2, y_xx, y_nx, y_sJ, y_sR, Int32.reduceLT, y_nxK, y_nxL, y_nxR, y_sJK, y_sJL, y_sJR, y_sJN, y_sRK, y_sRL, y_sRN, Nat.add_zero, z_nat, z_lit, z_lit0, z_lit1, z_in0, z_in1, z_addl0, z_lt, z_ltl, z_llt, z_inj, z_injl, z_add, z_addl, z_ladd, z_mul, z_mull, z_lmul, z_neg, z_negl, z_in, z_inl, z_ltT, z_ltF, z_eqF, z_10, z_01, z_litne, z_ne0, z_0ne, z_ne1, z_1ne, z_lt64, z_02, z_03, z_04, z_05, z_12, z_13, z_14, z_15, z_20, z_21, z_23, z_24, z_25, z_30, z_31, z_32, z_34, z_35, z_40, z_41, z_42, z_43, z_45, z_50, z_51, z_52, z_53, z_54]
  induction n with
  | zero =>
    intro i st hn hX hc hp h1 h2 h11
    refine out i st hX hc hp h1 fun g => ?_
    obtain ⟨l1, l2, -⟩ := isw_lt g (by decide) (rn_le h1)
    have := (tb_bnd (N := N) (L := L) h1).1
    omega
  | succ n ih =>
    intro i st hn hX hc hp h1 h2 h11
    have l400 := hc.2.1
    obtain ⟨t1, t2⟩ := tb_bnd (N := N) (L := L) h1
    unfold lpS
    by_cases g : isw N (tb N L st.1) (lw N L (tb N L st.1)) (sx 8)
    rotate_left
    · rw [if_neg g]
      exact out i st hX hc hp h1 g
    rw [if_pos g]
    obtain ⟨l1, l2, -⟩ := isw_lt g (by decide) t2
    obtain ⟨j1, E1, a8, a10, f1⟩ := m_passes (d := D) hM hX hc hp.1 h1 (q := 8) (by omega) (sxs 8 (by omega) (by omega))
    have f1 : Mv i j1 := f1
    rw [if_pos g] at E1 a8
    have p1 := MP_Mv hp f1 a8
    have g11 : j1 874 11 = Int32.ofNat y := (f1 _ _ (by omega)).trans h11
    have R := hA j1 (lw N L (tb N L st.1), st.2) (Stx_Mv hX f1) (MT_Mv hc f1) p1 l2 (by show st.2.1 ≤ lw N L (tb N L st.1); omega) g11
    refine MO_mv f1 ?_
    have kq := (hX 8 (by omega) (by omega)).1
    cases hr : A (lw N L (tb N L st.1), st.2) with
    | inl f =>
      rw [hr] at R
      obtain ⟨j2, E2, b10, f2, z2⟩ := R
      refine ⟨j2, ?_, b10, f2, z2⟩
      dsimp only at E2
      rw [bk_51_9]
      simp (disch := omega) only [kq, E1, E2, z_39, z_390, hM, y_ckd, y_ck2d, y_ond, y_onn, y_oI, y_oIx, y_oJ, y_oV, y_oVx, y_oR, y_oRn, y_oRx, y_b0, y_b1, y_bi, y_bid, y_wIK, y_wIL, y_wII, y_wIJ, y_wIR, y_wIN, y_wIw, y_sI, ↓reduceIte, Nat.reduceEqDiff, eq_self, true_or, or_true, false_or, or_false, and_true, true_and, false_and, and_false, not_true, not_false_eq_true, tf_T, tf_F, y_up1, y_up2, y_xx, y_nx, y_sJ, y_sR, Int32.reduceLT, y_nxK, y_nxL, y_nxR, y_sJK, y_sJL, y_sJR, y_sJN, y_sRK, y_sRL, y_sRN, Nat.add_zero, z_nat, z_lit, z_lit0, z_lit1, z_in0, z_in1, z_addl0, z_lt, z_ltl, z_llt, z_inj, z_injl, z_add, z_addl, z_ladd, z_mul, z_mull, z_lmul, z_neg, z_negl, z_in, z_inl, z_ltT, z_ltF, z_eqF, z_10, z_01, z_litne, z_ne0, z_0ne, z_ne1, z_1ne, z_lt64, z_02, z_03, z_04, z_05, z_12, z_13, z_14, z_15, z_20, z_21, z_23, z_24, z_25, z_30, z_31, z_32, z_34, z_35, z_40, z_41, z_42, z_43, z_45, z_50, z_51, z_52, z_53, z_54]
    | inr sa =>
      rw [hr] at R
      obtain ⟨j2, E2, p2, b11, f2⟩ := R
      obtain ⟨b1, b2, b3, b4, b5, -⟩ := hP _ sa l2 hr
      dsimp only at b2 b3 b4 b5 E2
      obtain ⟨j3, E3, p3, c11, f3⟩ := MO_emit (d := D + 2) (a := 301) (c := 0) hM p2.1 p2.2.1 (by omega) p2.2.2
      have fa := f2.tr f3
      have R2 := ih j3 (pem sa 301 0) (by show L - sa.1 ≤ n; omega) (Stx_FRm (Stx_Mv hX f1) fa) (MT_FRm (MT_Mv hc f1) fa) p3 b1 (by show sa.2.1 + 1 ≤ sa.1; omega) (c11.trans (b11.trans g11))
      have e4 : am_fx am_P (D + 3 + 1) 51 9 [some (.ref 874)] [] (am_wI B i) = am_fx am_P (D + 3 + 1) 51 9 [some (.ref 874)] [] (am_wI B j3) := by
        rw [bk_51_9]
        simp (disch := omega) only [kq, E1, E2, E3, z_39, z_390, hM, y_ckd, y_ck2d, y_ond, y_onn, y_oI, y_oIx, y_oJ, y_oV, y_oVx, y_oR, y_oRn, y_oRx, y_b0, y_b1, y_bi, y_bid, y_wIK, y_wIL, y_wII, y_wIJ, y_wIR, y_wIN, y_wIw, y_sI, ↓reduceIte, Nat.reduceEqDiff, eq_self, true_or, or_true, false_or, or_false, and_true, true_and, false_and, and_false, not_true, not_false_eq_true, tf_T, tf_F, y_up1, y_up2, y_xx, y_nx, y_sJ, y_sR, Int32.reduceLT, y_nxK, y_nxL, y_nxR, y_sJK, y_sJL, y_sJR, y_sJN, y_sRK, y_sRL, y_sRN, Nat.add_zero, z_nat, z_lit, z_lit0, z_lit1, z_in0, z_in1, z_addl0, z_lt, z_ltl, z_llt, z_inj, z_injl, z_add, z_addl, z_ladd, z_mul, z_mull, z_lmul, z_neg, z_negl, z_in, z_inl, z_ltT, z_ltF, z_eqF, z_10, z_01, z_litne, z_ne0, z_0ne, z_ne1, z_1ne, z_lt64, z_02, z_03, z_04, z_05, z_12, z_13, z_14, z_15, z_20, z_21, z_23, z_24, z_25, z_30, z_31, z_32, z_34, z_35, z_40, z_41, z_42, z_43, z_45, z_50, z_51, z_52, z_53, z_54]
      rw [e4]
      refine MO_fr fa (c11.trans b11) (MP_lo (st := (lw N L (tb N L st.1), st.2)) (sa := pem sa 301 0) p1 p3 fun z hz => ?_) R2
      have hz : z < 12092 + 2 * st.2.1 ∨ 12092 + 2 * (sa.2.1 + 1) ≤ z := hz
      exact (emt_ne (by omega)).trans (b5 z (by omega))
theorem m_hd51 (hM : Md B) (hA : MAt B N L y (fun i => am_fx am_P (D + 3) 50 0 [some (.ref 874), none, none, none, none] [] (am_wI B i)) A) (hP : Pr L H A) (hL : L ≤ 400) : MAt B N L y (fun i => am_fx am_P (D + 3 + 1) 51 0 [some (.ref 874)] [] (am_wI B i)) (fun st => bnP (A st) (lpS N L 301 8 A 400)) := by
  intro i st hX hc hp h1 h2 h11
  have R := hA i st hX hc hp h1 h2 h11
  dsimp only at R ⊢
  rw [bk_51_0]
  cases hr : A st with
  | inl f =>
    rw [hr] at R
    obtain ⟨j2, E2, b10, f2, z2⟩ := R
    refine ⟨j2, ?_, b10, f2, z2⟩
    simp (disch := omega) only [E2, hM, y_ckd, y_ck2d, y_ond, y_onn, y_oI, y_oIx, y_oJ, y_oV, y_oVx, y_oR, y_oRn, y_oRx, y_b0, y_b1, y_bi, y_bid, y_wIK, y_wIL, y_wII, y_wIJ, y_wIR, y_wIN, y_wIw, y_sI, ↓reduceIte, Nat.reduceEqDiff, eq_self, true_or, or_true, false_or, or_false, and_true, true_and, false_and, and_false, not_true, not_false_eq_true, tf_T, tf_F, y_up1, y_up2, y_xx, y_nx, y_sJ, y_sR, Int32.reduceLT, y_nxK, y_nxL, y_nxR, y_sJK, y_sJL, y_sJR, y_sJN, y_sRK, y_sRL, y_sRN, Nat.add_zero, z_nat, z_lit, z_lit0, z_lit1, z_in0, z_in1, z_addl0, z_lt, z_ltl, z_llt, z_inj, z_injl, z_add, z_addl, z_ladd, z_mul, z_mull, z_lmul, z_neg, z_negl, z_in, z_inl, z_ltT, z_ltF, z_eqF, z_10, z_01, z_litne, z_ne0, z_0ne, z_ne1, z_1ne, z_lt64, z_02, z_03, z_04, z_05, z_12, z_13, z_14, z_15, z_20, z_21, z_23, z_24, z_25, z_30, z_31, z_32, z_34, z_35, z_40, z_41, z_42, z_43, z_45, z_50, z_51, z_52, z_53, z_54]
  | inr sa =>
    rw [hr] at R
    obtain ⟨j2, E2, p2, b11, f2⟩ := R
    obtain ⟨b1, b2, b3, b4, b5, -⟩ := hP _ sa h1 hr
    refine MO_fr f2 b11 (MP_lo hp p2 b5) ?_
    have R2 := m_lp51 (D := D) hM hA hP 400 j2 sa (by omega) (Stx_FRm hX f2) (MT_FRm hc f2) p2 b1 (by omega) (b11.trans h11)
    simp (disch := omega) only [E2, z_39, z_390, hM, y_ckd, y_ck2d, y_ond, y_onn, y_oI, y_oIx, y_oJ, y_oV, y_oVx, y_oR, y_oRn, y_oRx, y_b0, y_b1, y_bi, y_bid, y_wIK, y_wIL, y_wII, y_wIJ, y_wIR, y_wIN, y_wIw, y_sI, ↓reduceIte, Nat.reduceEqDiff, eq_self, true_or, or_true, false_or, or_false, and_true, true_and, false_and, and_false, not_true, not_false_eq_true, tf_T, tf_F, y_up1, y_up2, y_xx, y_nx, y_sJ, y_sR, Int32.reduceLT, y_nxK, y_nxL, y_nxR, y_sJK, y_sJL, y_sJR, y_sJN, y_sRK, y_sRL, y_sRN, Nat.add_zero, z_nat, z_lit, z_lit0, z_lit1, z_in0, z_in1, z_addl0, z_lt, z_ltl, z_llt, z_inj, z_injl, z_add, z_addl, z_ladd, z_mul, z_mull, z_lmul, z_neg, z_negl, z_in, z_inl, z_ltT, z_ltF, z_eqF, z_10, z_01, z_litne, z_ne0, z_0ne, z_ne1, z_1ne, z_lt64, z_02, z_03, z_04, z_05, z_12, z_13, z_14, z_15, z_20, z_21, z_23, z_24, z_25, z_30, z_31, z_32, z_34, z_35, z_40, z_41, z_42, z_43, z_45, z_50, z_51, z_52, z_53, z_54]
    exact R2
theorem m_lp52 (hM : Md B) (hA : MAt B N L y (fun i => am_fx am_P (D + 3) 51 0 [some (.ref 874)] [] (am_wI B i)) A) (hP : Pr L H A) (n : Nat) : ∀ (i : Nat → Nat → Int32) (st : PS), L - st.1 ≤ n → Stx B i → MT N L i → MP i st → st.1 ≤ L → st.2.1 ≤ st.1 → i 874 11 = Int32.ofNat y → MO B i (am_fx am_P (D + 3 + 1) 52 9 [some (.ref 874)] [] (am_wI B i)) (lpS N L 302 9 A n st) := by
  have out : ∀ (i : Nat → Nat → Int32) (st : PS), Stx B i → MT N L i → MP i st → st.1 ≤ L → ¬ isw N (tb N L st.1) (lw N L (tb N L st.1)) (sx 9) → MO B i (am_fx am_P (D + 3 + 1) 52 9 [some (.ref 874)] [] (am_wI B i)) (.inr (tb N L st.1, st.2)) := by
    intro i st hX hc hp h1 g
    obtain ⟨j, E, a8, a10, f⟩ := m_passes (d := D) hM hX hc hp.1 h1 (q := 9) (by omega) (sxs 9 (by omega) (by omega))
    have f : Mv i j := f
    rw [if_neg g] at E a8
    refine ⟨j, ?_, MP_Mv hp f a8, f _ _ (by omega), f.fr⟩
    rw [bk_52_9]
    simp (disch := omega) only [(hX 9 (by omega) (by omega)).1, E, hM, y_ckd, y_ck2d, y_ond, y_onn, y_oI, y_oIx, y_oJ, y_oV, y_oVx, y_oR, y_oRn, y_oRx, y_b0, y_b1, y_bi, y_bid, y_wIK, y_wIL, y_wII, y_wIJ, y_wIR, y_wIN, y_wIw, y_sI, ↓reduceIte, Nat.reduceEqDiff, eq_self, true_or, or_true, false_or, or_false, and_true, true_and, false_and, and_false, not_true, not_false_eq_true, tf_T, tf_F, y_up1, y_up2, y_xx, y_nx, y_sJ, y_sR, Int32.reduceLT, y_nxK, y_nxL, y_nxR, y_sJK, y_sJL, y_sJR, y_sJN, y_sRK, y_sRL, y_sRN, Nat.add_zero, z_nat, z_lit, z_lit0, z_lit1, z_in0, z_in1, z_addl0, z_lt, z_ltl, z_llt, z_inj, z_injl, z_add, z_addl, z_ladd, z_mul, z_mull, z_lmul, z_neg, z_negl, z_in, z_inl, z_ltT, z_ltF, z_eqF, z_10, z_01, z_litne, z_ne0, z_0ne, z_ne1, z_1ne, z_lt64, z_02, z_03, z_04, z_05, z_12, z_13, z_14, z_15, z_20, z_21, z_23, z_24, z_25, z_30, z_31, z_32, z_34, z_35, z_40, z_41, z_42, z_43, z_45, z_50, z_51, z_52, z_53, z_54]
  induction n with
  | zero =>
    intro i st hn hX hc hp h1 h2 h11
    refine out i st hX hc hp h1 fun g => ?_
    obtain ⟨l1, l2, -⟩ := isw_lt g (by decide) (rn_le h1)
    have := (tb_bnd (N := N) (L := L) h1).1
    omega
  | succ n ih =>
    intro i st hn hX hc hp h1 h2 h11
    have l400 := hc.2.1
    obtain ⟨t1, t2⟩ := tb_bnd (N := N) (L := L) h1
    unfold lpS
    by_cases g : isw N (tb N L st.1) (lw N L (tb N L st.1)) (sx 9)
    rotate_left
    · rw [if_neg g]
      exact out i st hX hc hp h1 g
    rw [if_pos g]
    obtain ⟨l1, l2, -⟩ := isw_lt g (by decide) t2
    obtain ⟨j1, E1, a8, a10, f1⟩ := m_passes (d := D) hM hX hc hp.1 h1 (q := 9) (by omega) (sxs 9 (by omega) (by omega))
    have f1 : Mv i j1 := f1
    rw [if_pos g] at E1 a8
    have p1 := MP_Mv hp f1 a8
    have g11 : j1 874 11 = Int32.ofNat y := (f1 _ _ (by omega)).trans h11
    have R := hA j1 (lw N L (tb N L st.1), st.2) (Stx_Mv hX f1) (MT_Mv hc f1) p1 l2 (by show st.2.1 ≤ lw N L (tb N L st.1); omega) g11
    refine MO_mv f1 ?_
    have kq := (hX 9 (by omega) (by omega)).1
    cases hr : A (lw N L (tb N L st.1), st.2) with
    | inl f =>
      rw [hr] at R
      obtain ⟨j2, E2, b10, f2, z2⟩ := R
      refine ⟨j2, ?_, b10, f2, z2⟩
      dsimp only at E2
      rw [bk_52_9]
      simp (disch := omega) only [kq, E1, E2, z_39, z_390, hM, y_ckd, y_ck2d, y_ond, y_onn, y_oI, y_oIx, y_oJ, y_oV, y_oVx, y_oR, y_oRn, y_oRx, y_b0, y_b1, y_bi, y_bid, y_wIK, y_wIL, y_wII, y_wIJ, y_wIR, y_wIN, y_wIw, y_sI, ↓reduceIte, Nat.reduceEqDiff, eq_self, true_or, or_true, false_or, or_false, and_true, true_and, false_and, and_false, not_true, not_false_eq_true, tf_T, tf_F, y_up1, y_up2, y_xx, y_nx, y_sJ, y_sR, Int32.reduceLT, y_nxK, y_nxL, y_nxR, y_sJK, y_sJL, y_sJR, y_sJN, y_sRK, y_sRL, y_sRN, Nat.add_zero, z_nat, z_lit, z_lit0, z_lit1, z_in0, z_in1, z_addl0, z_lt, z_ltl, z_llt, z_inj, z_injl, z_add, z_addl, z_ladd, z_mul, z_mull, z_lmul, z_neg, z_negl, z_in, z_inl, z_ltT, z_ltF, z_eqF, z_10, z_01, z_litne, z_ne0, z_0ne, z_ne1, z_1ne, z_lt64, z_02, z_03, z_04, z_05, z_12, z_13, z_14, z_15, z_20, z_21, z_23, z_24, z_25, z_30, z_31, z_32, z_34, z_35, z_40, z_41, z_42, z_43, z_45, z_50, z_51, z_52, z_53, z_54]
    | inr sa =>
      rw [hr] at R
      obtain ⟨j2, E2, p2, b11, f2⟩ := R
      obtain ⟨b1, b2, b3, b4, b5, -⟩ := hP _ sa l2 hr
      dsimp only at b2 b3 b4 b5 E2
      obtain ⟨j3, E3, p3, c11, f3⟩ := MO_emit (d := D + 2) (a := 302) (c := 0) hM p2.1 p2.2.1 (by omega) p2.2.2
      have fa := f2.tr f3
      have R2 := ih j3 (pem sa 302 0) (by show L - sa.1 ≤ n; omega) (Stx_FRm (Stx_Mv hX f1) fa) (MT_FRm (MT_Mv hc f1) fa) p3 b1 (by show sa.2.1 + 1 ≤ sa.1; omega) (c11.trans (b11.trans g11))
      have e4 : am_fx am_P (D + 3 + 1) 52 9 [some (.ref 874)] [] (am_wI B i) = am_fx am_P (D + 3 + 1) 52 9 [some (.ref 874)] [] (am_wI B j3) := by
        rw [bk_52_9]
        simp (disch := omega) only [kq, E1, E2, E3, z_39, z_390, hM, y_ckd, y_ck2d, y_ond, y_onn, y_oI, y_oIx, y_oJ, y_oV, y_oVx, y_oR, y_oRn, y_oRx, y_b0, y_b1, y_bi, y_bid, y_wIK, y_wIL, y_wII, y_wIJ, y_wIR, y_wIN, y_wIw, y_sI, ↓reduceIte, Nat.reduceEqDiff, eq_self, true_or, or_true, false_or, or_false, and_true, true_and, false_and, and_false, not_true, not_false_eq_true, tf_T, tf_F, y_up1, y_up2, y_xx, y_nx, y_sJ, y_sR, Int32.reduceLT, y_nxK, y_nxL, y_nxR, y_sJK, y_sJL, y_sJR, y_sJN, y_sRK, y_sRL, y_sRN, Nat.add_zero, z_nat, z_lit, z_lit0, z_lit1, z_in0, z_in1, z_addl0, z_lt, z_ltl, z_llt, z_inj, z_injl, z_add, z_addl, z_ladd, z_mul, z_mull, z_lmul, z_neg, z_negl, z_in, z_inl, z_ltT, z_ltF, z_eqF, z_10, z_01, z_litne, z_ne0, z_0ne, z_ne1, z_1ne, z_lt64, z_02, z_03, z_04, z_05, z_12, z_13, z_14, z_15, z_20, z_21, z_23, z_24, z_25, z_30, z_31, z_32, z_34, z_35, z_40, z_41, z_42, z_43, z_45, z_50, z_51, z_52, z_53, z_54]
      rw [e4]
      refine MO_fr fa (c11.trans b11) (MP_lo (st := (lw N L (tb N L st.1), st.2)) (sa := pem sa 302 0) p1 p3 fun z hz => ?_) R2
      have hz : z < 12092 + 2 * st.2.1 ∨ 12092 + 2 * (sa.2.1 + 1) ≤ z := hz
      exact (emt_ne (by omega)).trans (b5 z (by omega))
theorem m_hd52 (hM : Md B) (hA : MAt B N L y (fun i => am_fx am_P (D + 3) 51 0 [some (.ref 874)] [] (am_wI B i)) A) (hP : Pr L H A) (hL : L ≤ 400) : MAt B N L y (fun i => am_fx am_P (D + 3 + 1) 52 0 [some (.ref 874)] [] (am_wI B i)) (fun st => bnP (A st) (lpS N L 302 9 A 400)) := by
  intro i st hX hc hp h1 h2 h11
  have R := hA i st hX hc hp h1 h2 h11
  dsimp only at R ⊢
  rw [bk_52_0]
  cases hr : A st with
  | inl f =>
    rw [hr] at R
    obtain ⟨j2, E2, b10, f2, z2⟩ := R
    refine ⟨j2, ?_, b10, f2, z2⟩
    simp (disch := omega) only [E2, hM, y_ckd, y_ck2d, y_ond, y_onn, y_oI, y_oIx, y_oJ, y_oV, y_oVx, y_oR, y_oRn, y_oRx, y_b0, y_b1, y_bi, y_bid, y_wIK, y_wIL, y_wII, y_wIJ, y_wIR, y_wIN, y_wIw, y_sI, ↓reduceIte, Nat.reduceEqDiff, eq_self, true_or, or_true, false_or, or_false, and_true, true_and, false_and, and_false, not_true, not_false_eq_true, tf_T, tf_F, y_up1, y_up2, y_xx, y_nx, y_sJ, y_sR, Int32.reduceLT, y_nxK, y_nxL, y_nxR, y_sJK, y_sJL, y_sJR, y_sJN, y_sRK, y_sRL, y_sRN, Nat.add_zero, z_nat, z_lit, z_lit0, z_lit1, z_in0, z_in1, z_addl0, z_lt, z_ltl, z_llt, z_inj, z_injl, z_add, z_addl, z_ladd, z_mul, z_mull, z_lmul, z_neg, z_negl, z_in, z_inl, z_ltT, z_ltF, z_eqF, z_10, z_01, z_litne, z_ne0, z_0ne, z_ne1, z_1ne, z_lt64, z_02, z_03, z_04, z_05, z_12, z_13, z_14, z_15, z_20, z_21, z_23, z_24, z_25, z_30, z_31, z_32, z_34, z_35, z_40, z_41, z_42, z_43, z_45, z_50, z_51, z_52, z_53, z_54]
  | inr sa =>
    rw [hr] at R
    obtain ⟨j2, E2, p2, b11, f2⟩ := R
    obtain ⟨b1, b2, b3, b4, b5, -⟩ := hP _ sa h1 hr
    refine MO_fr f2 b11 (MP_lo hp p2 b5) ?_
    have R2 := m_lp52 (D := D) hM hA hP 400 j2 sa (by omega) (Stx_FRm hX f2) (MT_FRm hc f2) p2 b1 (by omega) (b11.trans h11)
    simp (disch := omega) only [E2, z_39, z_390, hM, y_ckd, y_ck2d, y_ond, y_onn, y_oI, y_oIx, y_oJ, y_oV, y_oVx, y_oR, y_oRn, y_oRx, y_b0, y_b1, y_bi, y_bid, y_wIK, y_wIL, y_wII, y_wIJ, y_wIR, y_wIN, y_wIw, y_sI, ↓reduceIte, Nat.reduceEqDiff, eq_self, true_or, or_true, false_or, or_false, and_true, true_and, false_and, and_false, not_true, not_false_eq_true, tf_T, tf_F, y_up1, y_up2, y_xx, y_nx, y_sJ, y_sR, Int32.reduceLT, y_nxK, y_nxL, y_nxR, y_sJK, y_sJL, y_sJR, y_sJN, y_sRK, y_sRL, y_sRN, Nat.add_zero, z_nat, z_lit, z_lit0, z_lit1, z_in0, z_in1, z_addl0, z_lt, z_ltl, z_llt, z_inj, z_injl, z_add, z_addl, z_ladd, z_mul, z_mull, z_lmul, z_neg, z_negl, z_in, z_inl, z_ltT, z_ltF, z_eqF, z_10, z_01, z_litne, z_ne0, z_0ne, z_ne1, z_1ne, z_lt64, z_02, z_03, z_04, z_05, z_12, z_13, z_14, z_15, z_20, z_21, z_23, z_24, z_25, z_30, z_31, z_32, z_34, z_35, z_40, z_41, z_42, z_43, z_45, z_50, z_51, z_52, z_53, z_54]
    exact R2
end ModC
