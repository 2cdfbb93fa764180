/-! TEXTS ON THE TAPE, the class: the loops of a condition. Made by wip/whole/math/928.py. -/
/-- a method of the tape reads what A says -/
def CAt (B : am_A) (N : Nat → Nat) (L : Nat) (X : (Nat → Nat → Int32) → am_X) (A : PS → PR) : Prop := ∀ (i : Nat → Nat → Int32) (st : PS), Stx B i → CT N L i → CPt N L i st → st.1 ≤ L → st.2.1 ≤ st.1 → PO B N L i (X i) (A st)
section ClsC
variable {B : am_A} {i j k : Nat → Nat → Int32} {N : Nat → Nat} {d D L H p b e q n s f c r : Nat} {u : Nat → Int32} {st : PS} {x : am_X} {qs : List Nat} {A C : PS → PR} {x1 : Int32}
theorem CPt_tb (h : CPt N L i st) : CPt N L i (tb N L st.1, st.2) := ⟨by show LD N L (tb N L (tb N L st.1)) i; rw [tb_tb]; exact h.1, h.2⟩
theorem c_lp204 (hF : Fc B) (hA : CAt B N L (fun i => am_fx am_P (D + 1) 205 0 [some (.ref 65), some (.int x1), none, none] [] (am_wI B i)) A) (hP : Pr L H A) (n : Nat) : ∀ (k : Nat) (i : Nat → Nat → Int32) (st : PS), k + n = 400 → Stx B i → CT N L i → CPt N L i st → st.1 ≤ L → st.2.1 ≤ st.1 → PO B N L i (am_fx am_P (D + 1 + 1) 204 12 [some (.ref 65), some (.int x1), some (.int (Int32.ofNat (k)))] [] (am_wI B i)) (lpS N L 301 8 A n st) := by
  induction n with
  | zero =>
    intro k i st hk hX hc hp h1 h2
    refine ⟨i, ?_, rfl, CPt_tb hp, FRc.rf⟩
    rw [bk_204_12]
    simp (disch := omega) only [show k = 400 by omega, hF, y_ckd, y_ck2d, y_ond, y_onn, y_oI, y_oIx, y_oJ, y_oV, y_oVx, y_oR, y_oRn, y_oRx, y_b0, y_b1, y_bi, y_bid, y_wIK, y_wIL, y_wII, y_wIJ, y_wIR, y_wIN, y_wIw, y_sI, ↓reduceIte, Nat.reduceEqDiff, eq_self, true_or, or_true, false_or, or_false, and_true, true_and, false_and, and_false, not_true, not_false_eq_true, tf_T, tf_F, y_up1, y_up2, y_xx, y_nx, y_sJ, y_sR, Int32.reduceLT, y_nxK, y_nxL, y_nxR, y_sJK, y_sJL, y_sJR, y_sJN, y_sRK, y_sRL, y_sRN, Nat.add_zero, z_nat, z_lit, z_lit0, z_lit1, z_in0, z_in1, z_addl0, z_lt, z_ltl, z_llt, z_inj, z_injl, z_add, z_addl, z_ladd, z_mul, z_mull, z_lmul, z_neg, z_negl, z_in, z_inl, z_ltT, z_ltF, z_eqF, z_10, z_01, z_litne, z_ne0, z_0ne, z_ne1, z_1ne, z_lt64, z_02, z_03, z_04, z_05, z_12, z_13, z_14, z_15, z_20, z_21, z_23, z_24, z_25, z_30, z_31, z_32, z_34, z_35, z_40, z_41, z_42, z_43, z_45, z_50, z_51, z_52, z_53, z_54]
  | succ n ih =>
    intro k i st hk hX hc hp h1 h2
    have l400 := hc.2.1
    obtain ⟨hl, hs⟩ := id hp
    obtain ⟨t1, t2⟩ := tb_bnd (N := N) (L := L) h1
    have W := c_isW (d := D) hF hX hc hl t2 seg_8 (by decide) (by decide)
    have kq := (hX 8 (by omega) (by omega)).1
    unfold lpS
    by_cases g : isw N (tb N L st.1) (lw N L (tb N L st.1)) (sx 8)
    rotate_left
    · rw [if_neg g] at W ⊢
      refine ⟨i, ?_, rfl, CPt_tb hp, FRc.rf⟩
      rw [bk_204_12]
      simp (disch := omega) only [kq, W, hF, y_ckd, y_ck2d, y_ond, y_onn, y_oI, y_oIx, y_oJ, y_oV, y_oVx, y_oR, y_oRn, y_oRx, y_b0, y_b1, y_bi, y_bid, y_wIK, y_wIL, y_wII, y_wIJ, y_wIR, y_wIN, y_wIw, y_sI, ↓reduceIte, Nat.reduceEqDiff, eq_self, true_or, or_true, false_or, or_false, and_true, true_and, false_and, and_false, not_true, not_false_eq_true, tf_T, tf_F, y_up1, y_up2, y_xx, y_nx, y_sJ, y_sR, Int32.reduceLT, y_nxK, y_nxL, y_nxR, y_sJK, y_sJL, y_sJR, y_sJN, y_sRK, y_sRL, y_sRN, Nat.add_zero, z_nat, z_lit, z_lit0, z_lit1, z_in0, z_in1, z_addl0, z_lt, z_ltl, z_llt, z_inj, z_injl, z_add, z_addl, z_ladd, z_mul, z_mull, z_lmul, z_neg, z_negl, z_in, z_inl, z_ltT, z_ltF, z_eqF, z_10, z_01, z_litne, z_ne0, z_0ne, z_ne1, z_1ne, z_lt64, z_02, z_03, z_04, z_05, z_12, z_13, z_14, z_15, z_20, z_21, z_23, z_24, z_25, z_30, z_31, z_32, z_34, z_35, z_40, z_41, z_42, z_43, z_45, z_50, z_51, z_52, z_53, z_54]
    rw [if_pos g] at W ⊢
    obtain ⟨l1, l2, -⟩ := isw_lt g (by decide) t2
    have e3 : i 65 3 = Int32.ofNat (lw N L (tb N L st.1)) := by rw [hl.1, tke_w l1]
    obtain ⟨j1, E1, ld1, s1, g1, f1⟩ := c_nextP (d := D + 1) hF hc e3 l2 hs
    have c1 := CT_FRc hc f1
    have x1' := Stx_FRc hX f1
    have R := hA j1 (lw N L (tb N L st.1), st.2) x1' c1 ⟨ld1, s1⟩ l2 (by show st.2.1 ≤ lw N L (tb N L st.1); omega)
    cases hr : A (lw N L (tb N L st.1), st.2) with
    | inl f =>
      rw [hr] at R
      obtain ⟨j2, E2, w2, f2⟩ := R
      refine ⟨j2, ?_, w2, f1.tr f2⟩
      dsimp only at E2
      rw [bk_204_12]
      simp (disch := omega) only [kq, W, E1, E2, z_39, z_390, hF, y_ckd, y_ck2d, y_ond, y_onn, y_oI, y_oIx, y_oJ, y_oV, y_oVx, y_oR, y_oRn, y_oRx, y_b0, y_b1, y_bi, y_bid, y_wIK, y_wIL, y_wII, y_wIJ, y_wIR, y_wIN, y_wIw, y_sI, ↓reduceIte, Nat.reduceEqDiff, eq_self, true_or, or_true, false_or, or_false, and_true, true_and, false_and, and_false, not_true, not_false_eq_true, tf_T, tf_F, y_up1, y_up2, y_xx, y_nx, y_sJ, y_sR, Int32.reduceLT, y_nxK, y_nxL, y_nxR, y_sJK, y_sJL, y_sJR, y_sJN, y_sRK, y_sRL, y_sRN, Nat.add_zero, z_nat, z_lit, z_lit0, z_lit1, z_in0, z_in1, z_addl0, z_lt, z_ltl, z_llt, z_inj, z_injl, z_add, z_addl, z_ladd, z_mul, z_mull, z_lmul, z_neg, z_negl, z_in, z_inl, z_ltT, z_ltF, z_eqF, z_10, z_01, z_litne, z_ne0, z_0ne, z_ne1, z_1ne, z_lt64, z_02, z_03, z_04, z_05, z_12, z_13, z_14, z_15, z_20, z_21, z_23, z_24, z_25, z_30, z_31, z_32, z_34, z_35, z_40, z_41, z_42, z_43, z_45, z_50, z_51, z_52, z_53, z_54]
    | inr sa =>
      rw [hr] at R
      obtain ⟨j2, E2, w2, p2, f2⟩ := R
      obtain ⟨b1, b2, b3, b4, -, -⟩ := hP _ sa l2 hr
      dsimp only at b2 b3 b4 E2
      obtain ⟨j3, E3, s3, g3, k3, f3⟩ := c_addP (d := D + 1) (i := j2) hF p2.2 (by omega) enc_opc.2.1
      have fa := (f1.tr f2).tr f3
      refine PO_fr fa (g3.trans (w2.trans g1)) ?_
      have R2 := ih (k + 1) j3 (pem sa 301 0) (by omega) (Stx_FRc hX fa) (CT_FRc hc fa) ⟨LD_fr p2.1 k3, s3⟩ b1 (by show sa.2.1 + 1 ≤ sa.1; omega)
      have e4 : am_fx am_P (D + 1 + 1) 204 12 [some (.ref 65), some (.int x1), some (.int (Int32.ofNat (k)))] [] (am_wI B i) = am_fx am_P (D + 1 + 1) 204 12 [some (.ref 65), some (.int x1), some (.int (Int32.ofNat (k + 1)))] [] (am_wI B j3) := by
        rw [bk_204_12]
        simp (disch := omega) only [kq, W, E1, E2, bk_176_0, z_39, z_390, hF, y_ckd, y_ck2d, y_ond, y_onn, y_oI, y_oIx, y_oJ, y_oV, y_oVx, y_oR, y_oRn, y_oRx, y_b0, y_b1, y_bi, y_bid, y_wIK, y_wIL, y_wII, y_wIJ, y_wIR, y_wIN, y_wIw, y_sI, ↓reduceIte, Nat.reduceEqDiff, eq_self, true_or, or_true, false_or, or_false, and_true, true_and, false_and, and_false, not_true, not_false_eq_true, tf_T, tf_F, y_up1, y_up2, y_xx, y_nx, y_sJ, y_sR, Int32.reduceLT, y_nxK, y_nxL, y_nxR, y_sJK, y_sJL, y_sJR, y_sJN, y_sRK, y_sRL, y_sRN, Nat.add_zero, z_nat, z_lit, z_lit0, z_lit1, z_in0, z_in1, z_addl0, z_lt, z_ltl, z_llt, z_inj, z_injl, z_add, z_addl, z_ladd, z_mul, z_mull, z_lmul, z_neg, z_negl, z_in, z_inl, z_ltT, z_ltF, z_eqF, z_10, z_01, z_litne, z_ne0, z_0ne, z_ne1, z_1ne, z_lt64, z_02, z_03, z_04, z_05, z_12, z_13, z_14, z_15, z_20, z_21, z_23, z_24, z_25, z_30, z_31, z_32, z_34, z_35, z_40, z_41, z_42, z_43, z_45, z_50, z_51, z_52, z_53, z_54]
        simp (disch := omega) only [E3, hF, y_ckd, y_ck2d, y_ond, y_onn, y_oI, y_oIx, y_oJ, y_oV, y_oVx, y_oR, y_oRn, y_oRx, y_b0, y_b1, y_bi, y_bid, y_wIK, y_wIL, y_wII, y_wIJ, y_wIR, y_wIN, y_wIw, y_sI, ↓reduceIte, Nat.reduceEqDiff, eq_self, true_or, or_true, false_or, or_false, and_true, true_and, false_and, and_false, not_true, not_false_eq_true, tf_T, tf_F, y_up1, y_up2, y_xx, y_nx, y_sJ, y_sR, Int32.reduceLT, y_nxK, y_nxL, y_nxR, y_sJK, y_sJL, y_sJR, y_sJN, y_sRK, y_sRL, y_sRN, Nat.add_zero, z_nat, z_lit, z_lit0, z_lit1, z_in0, z_in1, z_addl0, z_lt, z_ltl, z_llt, z_inj, z_injl, z_add, z_addl, z_ladd, z_mul, z_mull, z_lmul, z_neg, z_negl, z_in, z_inl, z_ltT, z_ltF, z_eqF, z_10, z_01, z_litne, z_ne0, z_0ne, z_ne1, z_1ne, z_lt64, z_02, z_03, z_04, z_05, z_12, z_13, z_14, z_15, z_20, z_21, z_23, z_24, z_25, z_30, z_31, z_32, z_34, z_35, z_40, z_41, z_42, z_43, z_45, z_50, z_51, z_52, z_53, z_54]
      rw [e4]
      exact R2
theorem c_lp203 (hF : Fc B) (hA : CAt B N L (fun i => am_fx am_P (D + 1) 204 0 [some (.ref 65), some (.int x1), none] [] (am_wI B i)) A) (hP : Pr L H A) (n : Nat) : ∀ (k : Nat) (i : Nat → Nat → Int32) (st : PS), k + n = 400 → Stx B i → CT N L i → CPt N L i st → st.1 ≤ L → st.2.1 ≤ st.1 → PO B N L i (am_fx am_P (D + 1 + 1) 203 12 [some (.ref 65), some (.int x1), some (.int (Int32.ofNat (k)))] [] (am_wI B i)) (lpS N L 302 9 A n st) := by
  induction n with
  | zero =>
    intro k i st hk hX hc hp h1 h2
    refine ⟨i, ?_, rfl, CPt_tb hp, FRc.rf⟩
    rw [bk_203_12]
    simp (disch := omega) only [show k = 400 by omega, hF, y_ckd, y_ck2d, y_ond, y_onn, y_oI, y_oIx, y_oJ, y_oV, y_oVx, y_oR, y_oRn, y_oRx, y_b0, y_b1, y_bi, y_bid, y_wIK, y_wIL, y_wII, y_wIJ, y_wIR, y_wIN, y_wIw, y_sI, ↓reduceIte, Nat.reduceEqDiff, eq_self, true_or, or_true, false_or, or_false, and_true, true_and, false_and, and_false, not_true, not_false_eq_true, tf_T, tf_F, y_up1, y_up2, y_xx, y_nx, y_sJ, y_sR, Int32.reduceLT, y_nxK, y_nxL, y_nxR, y_sJK, y_sJL, y_sJR, y_sJN, y_sRK, y_sRL, y_sRN, Nat.add_zero, z_nat, z_lit, z_lit0, z_lit1, z_in0, z_in1, z_addl0, z_lt, z_ltl, z_llt, z_inj, z_injl, z_add, z_addl, z_ladd, z_mul, z_mull, z_lmul, z_neg, z_negl, z_in, z_inl, z_ltT, z_ltF, z_eqF, z_10, z_01, z_litne, z_ne0, z_0ne, z_ne1, z_1ne, z_lt64, z_02, z_03, z_04, z_05, z_12, z_13, z_14, z_15, z_20, z_21, z_23, z_24, z_25, z_30, z_31, z_32, z_34, z_35, z_40, z_41, z_42, z_43, z_45, z_50, z_51, z_52, z_53, z_54]
  | succ n ih =>
    intro k i st hk hX hc hp h1 h2
    have l400 := hc.2.1
    obtain ⟨hl, hs⟩ := id hp
    obtain ⟨t1, t2⟩ := tb_bnd (N := N) (L := L) h1
    have W := c_isW (d := D) hF hX hc hl t2 seg_9 (by decide) (by decide)
    have kq := (hX 9 (by omega) (by omega)).1
    unfold lpS
    by_cases g : isw N (tb N L st.1) (lw N L (tb N L st.1)) (sx 9)
    rotate_left
    · rw [if_neg g] at W ⊢
      refine ⟨i, ?_, rfl, CPt_tb hp, FRc.rf⟩
      rw [bk_203_12]
      simp (disch := omega) only [kq, W, hF, y_ckd, y_ck2d, y_ond, y_onn, y_oI, y_oIx, y_oJ, y_oV, y_oVx, y_oR, y_oRn, y_oRx, y_b0, y_b1, y_bi, y_bid, y_wIK, y_wIL, y_wII, y_wIJ, y_wIR, y_wIN, y_wIw, y_sI, ↓reduceIte, Nat.reduceEqDiff, eq_self, true_or, or_true, false_or, or_false, and_true, true_and, false_and, and_false, not_true, not_false_eq_true, tf_T, tf_F, y_up1, y_up2, y_xx, y_nx, y_sJ, y_sR, Int32.reduceLT, y_nxK, y_nxL, y_nxR, y_sJK, y_sJL, y_sJR, y_sJN, y_sRK, y_sRL, y_sRN, Nat.add_zero, z_nat, z_lit, z_lit0, z_lit1, z_in0, z_in1, z_addl0, z_lt, z_ltl, z_llt, z_inj, z_injl, z_add, z_addl, z_ladd, z_mul, z_mull, z_lmul, z_neg, z_negl, z_in, z_inl, z_ltT, z_ltF, z_eqF, z_10, z_01, z_litne, z_ne0, z_0ne, z_ne1, z_1ne, z_lt64, z_02, z_03, z_04, z_05, z_12, z_13, z_14, z_15, z_20, z_21, z_23, z_24, z_25, z_30, z_31, z_32, z_34, z_35, z_40, z_41, z_42, z_43, z_45, z_50, z_51, z_52, z_53, z_54]
    rw [if_pos g] at W ⊢
    obtain ⟨l1, l2, -⟩ := isw_lt g (by decide) t2
    have e3 : i 65 3 = Int32.ofNat (lw N L (tb N L st.1)) := by rw [hl.1, tke_w l1]
    obtain ⟨j1, E1, ld1, s1, g1, f1⟩ := c_nextP (d := D + 1) hF hc e3 l2 hs
    have c1 := CT_FRc hc f1
    have x1' := Stx_FRc hX f1
    have R := hA j1 (lw N L (tb N L st.1), st.2) x1' c1 ⟨ld1, s1⟩ l2 (by show st.2.1 ≤ lw N L (tb N L st.1); omega)
    cases hr : A (lw N L (tb N L st.1), st.2) with
    | inl f =>
      rw [hr] at R
      obtain ⟨j2, E2, w2, f2⟩ := R
      refine ⟨j2, ?_, w2, f1.tr f2⟩
      dsimp only at E2
      rw [bk_203_12]
      simp (disch := omega) only [kq, W, E1, E2, z_39, z_390, hF, y_ckd, y_ck2d, y_ond, y_onn, y_oI, y_oIx, y_oJ, y_oV, y_oVx, y_oR, y_oRn, y_oRx, y_b0, y_b1, y_bi, y_bid, y_wIK, y_wIL, y_wII, y_wIJ, y_wIR, y_wIN, y_wIw, y_sI, ↓reduceIte, Nat.reduceEqDiff, eq_self, true_or, or_true, false_or, or_false, and_true, true_and, false_and, and_false, not_true, not_false_eq_true, tf_T, tf_F, y_up1, y_up2, y_xx, y_nx, y_sJ, y_sR, Int32.reduceLT, y_nxK, y_nxL, y_nxR, y_sJK, y_sJL, y_sJR, y_sJN, y_sRK, y_sRL, y_sRN, Nat.add_zero, z_nat, z_lit, z_lit0, z_lit1, z_in0, z_in1, z_addl0, z_lt, z_ltl, z_llt, z_inj, z_injl, z_add, z_addl, z_ladd, z_mul, z_mull, z_lmul, z_neg, z_negl, z_in, z_inl, z_ltT, z_ltF, z_eqF, z_10, z_01, z_litne, z_ne0, z_0ne, z_ne1, z_1ne, z_lt64, z_02, z_03, z_04, z_05, z_12, z_13, z_14, z_15, z_20, z_21, z_23, z_24, z_25, z_30, z_31, z_32, z_34, z_35, z_40, z_41, z_42, z_43, z_45, z_50, z_51, z_52, z_53, z_54]
    | inr sa =>
      rw [hr] at R
      obtain ⟨j2, E2, w2, p2, f2⟩ := R
      obtain ⟨b1, b2, b3, b4, -, -⟩ := hP _ sa l2 hr
      dsimp only at b2 b3 b4 E2
      obtain ⟨j3, E3, s3, g3, k3, f3⟩ := c_addP (d := D + 1) (i := j2) hF p2.2 (by omega) enc_opc.2.2
      have fa := (f1.tr f2).tr f3
      refine PO_fr fa (g3.trans (w2.trans g1)) ?_
      have R2 := ih (k + 1) j3 (pem sa 302 0) (by omega) (Stx_FRc hX fa) (CT_FRc hc fa) ⟨LD_fr p2.1 k3, s3⟩ b1 (by show sa.2.1 + 1 ≤ sa.1; omega)
      have e4 : am_fx am_P (D + 1 + 1) 203 12 [some (.ref 65), some (.int x1), some (.int (Int32.ofNat (k)))] [] (am_wI B i) = am_fx am_P (D + 1 + 1) 203 12 [some (.ref 65), some (.int x1), some (.int (Int32.ofNat (k + 1)))] [] (am_wI B j3) := by
        rw [bk_203_12]
        simp (disch := omega) only [kq, W, E1, E2, bk_176_0, z_39, z_390, hF, y_ckd, y_ck2d, y_ond, y_onn, y_oI, y_oIx, y_oJ, y_oV, y_oVx, y_oR, y_oRn, y_oRx, y_b0, y_b1, y_bi, y_bid, y_wIK, y_wIL, y_wII, y_wIJ, y_wIR, y_wIN, y_wIw, y_sI, ↓reduceIte, Nat.reduceEqDiff, eq_self, true_or, or_true, false_or, or_false, and_true, true_and, false_and, and_false, not_true, not_false_eq_true, tf_T, tf_F, y_up1, y_up2, y_xx, y_nx, y_sJ, y_sR, Int32.reduceLT, y_nxK, y_nxL, y_nxR, y_sJK, y_sJL, y_sJR, y_sJN, y_sRK, y_sRL, y_sRN, Nat.add_zero, z_nat, z_lit, z_lit0, z_lit1, z_in0, z_in1, z_addl0, z_lt, z_ltl, z_llt, z_inj, z_injl, z_add, z_addl, z_ladd, z_mul, z_mull, z_lmul, z_neg, z_negl, z_in, z_inl, z_ltT, z_ltF, z_eqF, z_10, z_01, z_litne, z_ne0, z_0ne, z_ne1, z_1ne, z_lt64, z_02, z_03, z_04, z_05, z_12, z_13, z_14, z_15, z_20, z_21, z_23, z_24, z_25, z_30, z_31, z_32, z_34, z_35, z_40, z_41, z_42, z_43, z_45, z_50, z_51, z_52, z_53, z_54]
        simp (disch := omega) only [E3, hF, y_ckd, y_ck2d, y_ond, y_onn, y_oI, y_oIx, y_oJ, y_oV, y_oVx, y_oR, y_oRn, y_oRx, y_b0, y_b1, y_bi, y_bid, y_wIK, y_wIL, y_wII, y_wIJ, y_wIR, y_wIN, y_wIw, y_sI, ↓reduceIte, Nat.reduceEqDiff, eq_self, true_or, or_true, false_or, or_false, and_true, true_and, false_and, and_false, not_true, not_false_eq_true, tf_T, tf_F, y_up1, y_up2, y_xx, y_nx, y_sJ, y_sR, Int32.reduceLT, y_nxK, y_nxL, y_nxR, y_sJK, y_sJL, y_sJR, y_sJN, y_sRK, y_sRL, y_sRN, Nat.add_zero, z_nat, z_lit, z_lit0, z_lit1, z_in0, z_in1, z_addl0, z_lt, z_ltl, z_llt, z_inj, z_injl, z_add, z_addl, z_ladd, z_mul, z_mull, z_lmul, z_neg, z_negl, z_in, z_inl, z_ltT, z_ltF, z_eqF, z_10, z_01, z_litne, z_ne0, z_0ne, z_ne1, z_1ne, z_lt64, z_02, z_03, z_04, z_05, z_12, z_13, z_14, z_15, z_20, z_21, z_23, z_24, z_25, z_30, z_31, z_32, z_34, z_35, z_40, z_41, z_42, z_43, z_45, z_50, z_51, z_52, z_53, z_54]
      rw [e4]
      exact R2
theorem c_all (hF : Fc B) (hA : CAt B N L (fun i => am_fx am_P (D + 1) 205 0 [some (.ref 65), some (.int x1), none, none] [] (am_wI B i)) A) (hP : Pr L H A) : CAt B N L (fun i => am_fx am_P (D + 1 + 1) 204 0 [some (.ref 65), some (.int x1), none] [] (am_wI B i)) (fun st => bnP (A st) (lpS N L 301 8 A 400)) := by
  intro i st hX hc hp h1 h2
  have R := hA i st hX hc hp h1 h2
  dsimp only at R ⊢
  cases hr : A st with
  | inl f =>
    rw [hr] at R
    obtain ⟨j2, E2, w2, f2⟩ := R
    refine ⟨j2, ?_, w2, f2⟩
    rw [bk_204_0]
    simp (disch := omega) only [E2, hF, y_ckd, y_ck2d, y_ond, y_onn, y_oI, y_oIx, y_oJ, y_oV, y_oVx, y_oR, y_oRn, y_oRx, y_b0, y_b1, y_bi, y_bid, y_wIK, y_wIL, y_wII, y_wIJ, y_wIR, y_wIN, y_wIw, y_sI, ↓reduceIte, Nat.reduceEqDiff, eq_self, true_or, or_true, false_or, or_false, and_true, true_and, false_and, and_false, not_true, not_false_eq_true, tf_T, tf_F, y_up1, y_up2, y_xx, y_nx, y_sJ, y_sR, Int32.reduceLT, y_nxK, y_nxL, y_nxR, y_sJK, y_sJL, y_sJR, y_sJN, y_sRK, y_sRL, y_sRN, Nat.add_zero, z_nat, z_lit, z_lit0, z_lit1, z_in0, z_in1, z_addl0, z_lt, z_ltl, z_llt, z_inj, z_injl, z_add, z_addl, z_ladd, z_mul, z_mull, z_lmul, z_neg, z_negl, z_in, z_inl, z_ltT, z_ltF, z_eqF, z_10, z_01, z_litne, z_ne0, z_0ne, z_ne1, z_1ne, z_lt64, z_02, z_03, z_04, z_05, z_12, z_13, z_14, z_15, z_20, z_21, z_23, z_24, z_25, z_30, z_31, z_32, z_34, z_35, z_40, z_41, z_42, z_43, z_45, z_50, z_51, z_52, z_53, z_54]
  | inr sa =>
    rw [hr] at R
    obtain ⟨j2, E2, w2, p2, f2⟩ := R
    obtain ⟨b1, b2, b3, b4, -, -⟩ := hP _ sa h1 hr
    refine PO_fr f2 w2 ?_
    have R2 := c_lp204 hF hA hP 400 0 j2 sa (by omega) (Stx_FRc hX f2) (CT_FRc hc f2) p2 b1 (by omega)
    rw [bk_204_0]
    simp (disch := omega) only [E2, z_39, z_390, hF, y_ckd, y_ck2d, y_ond, y_onn, y_oI, y_oIx, y_oJ, y_oV, y_oVx, y_oR, y_oRn, y_oRx, y_b0, y_b1, y_bi, y_bid, y_wIK, y_wIL, y_wII, y_wIJ, y_wIR, y_wIN, y_wIw, y_sI, ↓reduceIte, Nat.reduceEqDiff, eq_self, true_or, or_true, false_or, or_false, and_true, true_and, false_and, and_false, not_true, not_false_eq_true, tf_T, tf_F, y_up1, y_up2, y_xx, y_nx, y_sJ, y_sR, Int32.reduceLT, y_nxK, y_nxL, y_nxR, y_sJK, y_sJL, y_sJR, y_sJN, y_sRK, y_sRL, y_sRN, Nat.add_zero, z_nat, z_lit, z_lit0, z_lit1, z_in0, z_in1, z_addl0, z_lt, z_ltl, z_llt, z_inj, z_injl, z_add, z_addl, z_ladd, z_mul, z_mull, z_lmul, z_neg, z_negl, z_in, z_inl, z_ltT, z_ltF, z_eqF, z_10, z_01, z_litne, z_ne0, z_0ne, z_ne1, z_1ne, z_lt64, z_02, z_03, z_04, z_05, z_12, z_13, z_14, z_15, z_20, z_21, z_23, z_24, z_25, z_30, z_31, z_32, z_34, z_35, z_40, z_41, z_42, z_43, z_45, z_50, z_51, z_52, z_53, z_54]
    exact R2
theorem c_cnd (hF : Fc B) (hA : CAt B N L (fun i => am_fx am_P (D + 1) 204 0 [some (.ref 65), some (.int x1), none] [] (am_wI B i)) A) (hP : Pr L H A) : CAt B N L (fun i => am_fx am_P (D + 1 + 1) 203 0 [some (.ref 65), some (.int x1), none] [] (am_wI B i)) (fun st => bnP (A st) (lpS N L 302 9 A 400)) := by
  intro i st hX hc hp h1 h2
  have R := hA i st hX hc hp h1 h2
  dsimp only at R ⊢
  cases hr : A st with
  | inl f =>
    rw [hr] at R
    obtain ⟨j2, E2, w2, f2⟩ := R
    refine ⟨j2, ?_, w2, f2⟩
    rw [bk_203_0]
    simp (disch := omega) only [E2, hF, y_ckd, y_ck2d, y_ond, y_onn, y_oI, y_oIx, y_oJ, y_oV, y_oVx, y_oR, y_oRn, y_oRx, y_b0, y_b1, y_bi, y_bid, y_wIK, y_wIL, y_wII, y_wIJ, y_wIR, y_wIN, y_wIw, y_sI, ↓reduceIte, Nat.reduceEqDiff, eq_self, true_or, or_true, false_or, or_false, and_true, true_and, false_and, and_false, not_true, not_false_eq_true, tf_T, tf_F, y_up1, y_up2, y_xx, y_nx, y_sJ, y_sR, Int32.reduceLT, y_nxK, y_nxL, y_nxR, y_sJK, y_sJL, y_sJR, y_sJN, y_sRK, y_sRL, y_sRN, Nat.add_zero, z_nat, z_lit, z_lit0, z_lit1, z_in0, z_in1, z_addl0, z_lt, z_ltl, z_llt, z_inj, z_injl, z_add, z_addl, z_ladd, z_mul, z_mull, z_lmul, z_neg, z_negl, z_in, z_inl, z_ltT, z_ltF, z_eqF, z_10, z_01, z_litne, z_ne0, z_0ne, z_ne1, z_1ne, z_lt64, z_02, z_03, z_04, z_05, z_12, z_13, z_14, z_15, z_20, z_21, z_23, z_24, z_25, z_30, z_31, z_32, z_34, z_35, z_40, z_41, z_42, z_43, z_45, z_50, z_51, z_52, z_53, z_54]
  | inr sa =>
    rw [hr] at R
    obtain ⟨j2, E2, w2, p2, f2⟩ := R
    obtain ⟨b1, b2, b3, b4, -, -⟩ := hP _ sa h1 hr
    refine PO_fr f2 w2 ?_
    have R2 := c_lp203 hF hA hP 400 0 j2 sa (by omega) (Stx_FRc hX f2) (CT_FRc hc f2) p2 b1 (by omega)
    rw [bk_203_0]
    simp (disch := omega) only [E2, z_39, z_390, hF, y_ckd, y_ck2d, y_ond, y_onn, y_oI, y_oIx, y_oJ, y_oV, y_oVx, y_oR, y_oRn, y_oRx, y_b0, y_b1, y_bi, y_bid, y_wIK, y_wIL, y_wII, y_wIJ, y_wIR, y_wIN, y_wIw, y_sI, ↓reduceIte, Nat.reduceEqDiff, eq_self, true_or, or_true, false_or, or_false, and_true, true_and, false_and, and_false, not_true, not_false_eq_true, tf_T, tf_F, y_up1, y_up2, y_xx, y_nx, y_sJ, y_sR, Int32.reduceLT, y_nxK, y_nxL, y_nxR, y_sJK, y_sJL, y_sJR, y_sJN, y_sRK, y_sRL, y_sRN, Nat.add_zero, z_nat, z_lit, z_lit0, z_lit1, z_in0, z_in1, z_addl0, z_lt, z_ltl, z_llt, z_inj, z_injl, z_add, z_addl, z_ladd, z_mul, z_mull, z_lmul, z_neg, z_negl, z_in, z_inl, z_ltT, z_ltF, z_eqF, z_10, z_01, z_litne, z_ne0, z_0ne, z_ne1, z_1ne, z_lt64, z_02, z_03, z_04, z_05, z_12, z_13, z_14, z_15, z_20, z_21, z_23, z_24, z_25, z_30, z_31, z_32, z_34, z_35, z_40, z_41, z_42, z_43, z_45, z_50, z_51, z_52, z_53, z_54]
    exact R2
end ClsC
