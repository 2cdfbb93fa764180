/-! TEXTS ON THE TAPE, the class: all lines. Made by wip/whole/math/933.py. -/
def TO (B : am_A) (i : Nat → Nat → Int32) (x : am_X) (y : (Nat → Nat → Int32) → am_X) : Nat ⊕ (Nat × PS) → Prop
  | .inl f => ∃ j, x = y j ∧ j 65 2 = Int32.ofNat f ∧ FRl i j
  | .inr r => ∃ j, x = y j ∧ j 65 2 = i 65 2 ∧ SC j r.2.2.1 r.2.2.2 ∧ LC j r.1 r.2.2.2 ∧ FRl i j
section ClsG
variable {B : am_A} {i j k : Nat → Nat → Int32} {N : Nat → Nat} {d D L H p b e q n s f c v : Nat} {u u' : Nat → Int32} {st s1 : PS} {x : am_X} {y : (Nat → Nat → Int32) → am_X} {r : Nat ⊕ (Nat × PS)}
theorem TO_fr (hf : FRl i j) (h2 : j 65 2 = i 65 2) (h : TO B j x y r) : TO B i x y r := by
  cases r with
  | inl f =>
    obtain ⟨m, a1, a2, a3⟩ := h
    exact ⟨m, a1, a2, hf.tr a3⟩
  | inr st =>
    obtain ⟨m, a1, a2, a3, a4, a5⟩ := h
    exact ⟨m, a1, a2.trans h2, a3, a4, hf.tr a5⟩
theorem c_end85 (hF : Fc B) {n : Nat} (hn : n ≤ 12) : am_fx am_P (d + 29 + 1) 200 39 [some (.ref 65), some (.int (0)), some (.int (Int32.ofNat (n)))] [] (am_wI B i) = am_fx am_P (d + 29 + 1) 200 94 [some (.ref 65), none, none] [] (am_wI B i) := by
  rw [bk_200_39]
  by_cases g : n < 12
  · simp (disch := omega) only [g, bk_200_85, z_39, z_390, hF, y_ckd, y_ck2d, y_ond, y_onn, y_oI, y_oIx, y_oJ, y_oV, y_oVx, y_oR, y_oRn, y_oRx, y_b0, y_b1, y_bi, y_bid, y_wIK, y_wIL, y_wII, y_wIJ, y_wIR, y_wIN, y_wIw, y_sI, ↓reduceIte, Nat.reduceEqDiff, eq_self, true_or, or_true, false_or, or_false, and_true, true_and, false_and, and_false, not_true, not_false_eq_true, tf_T, tf_F, y_up1, y_up2, y_xx, y_nx, y_sJ, y_sR, Int32.reduceLT, y_nxK, y_nxL, y_nxR, y_sJK, y_sJL, y_sJR, y_sJN, y_sRK, y_sRL, y_sRN, Nat.add_zero, z_nat, z_lit, z_lit0, z_lit1, z_in0, z_in1, z_addl0, z_lt, z_ltl, z_llt, z_inj, z_injl, z_add, z_addl, z_ladd, z_mul, z_mull, z_lmul, z_neg, z_negl, z_in, z_inl, z_ltT, z_ltF, z_eqF, z_10, z_01, z_litne, z_ne0, z_0ne, z_ne1, z_1ne, z_lt64, z_02, z_03, z_04, z_05, z_12, z_13, z_14, z_15, z_20, z_21, z_23, z_24, z_25, z_30, z_31, z_32, z_34, z_35, z_40, z_41, z_42, z_43, z_45, z_50, z_51, z_52, z_53, z_54]
  · simp (disch := omega) only [g, bk_200_85, z_39, z_390, hF, y_ckd, y_ck2d, y_ond, y_onn, y_oI, y_oIx, y_oJ, y_oV, y_oVx, y_oR, y_oRn, y_oRx, y_b0, y_b1, y_bi, y_bid, y_wIK, y_wIL, y_wII, y_wIJ, y_wIR, y_wIN, y_wIw, y_sI, ↓reduceIte, Nat.reduceEqDiff, eq_self, true_or, or_true, false_or, or_false, and_true, true_and, false_and, and_false, not_true, not_false_eq_true, tf_T, tf_F, y_up1, y_up2, y_xx, y_nx, y_sJ, y_sR, Int32.reduceLT, y_nxK, y_nxL, y_nxR, y_sJK, y_sJL, y_sJR, y_sJN, y_sRK, y_sRL, y_sRN, Nat.add_zero, z_nat, z_lit, z_lit0, z_lit1, z_in0, z_in1, z_addl0, z_lt, z_ltl, z_llt, z_inj, z_injl, z_add, z_addl, z_ladd, z_mul, z_mull, z_lmul, z_neg, z_negl, z_in, z_inl, z_ltT, z_ltF, z_eqF, z_10, z_01, z_litne, z_ne0, z_0ne, z_ne1, z_1ne, z_lt64, z_02, z_03, z_04, z_05, z_12, z_13, z_14, z_15, z_20, z_21, z_23, z_24, z_25, z_30, z_31, z_32, z_34, z_35, z_40, z_41, z_42, z_43, z_45, z_50, z_51, z_52, z_53, z_54]
theorem c_lns (hF : Fc B) (m : Nat) : ∀ (n : Nat) (st : PS) (i : Nat → Nat → Int32), n + m = 12 → Stx B i → CT N L i → CPt N L i st → LC i n st.2.2 → st.1 ≤ L → st.2.1 ≤ st.1 → TO B i (am_fx am_P (d + 29 + 1) 200 39 [some (.ref 65), some (.int (1)), some (.int (Int32.ofNat (n)))] [] (am_wI B i)) (fun j => am_fx am_P (d + 29 + 1) 200 94 [some (.ref 65), none, none] [] (am_wI B j)) (lnsS N L m n st) := by
  induction m with
  | zero =>
    intro n st i hn hX hc hp hL h1 h2
    have W := c_wrong (d := d + 29) hF hp.1.2.1
    refine ⟨_, ?_, y_up1 rfl rfl, fun q k _ _ _ _ _ => y_up2 (by omega)⟩
    rw [bk_200_39]
    simp (disch := omega) only [show ¬ n < 12 by omega, bk_200_85, W, z_39, z_390, hF, y_ckd, y_ck2d, y_ond, y_onn, y_oI, y_oIx, y_oJ, y_oV, y_oVx, y_oR, y_oRn, y_oRx, y_b0, y_b1, y_bi, y_bid, y_wIK, y_wIL, y_wII, y_wIJ, y_wIR, y_wIN, y_wIw, y_sI, ↓reduceIte, Nat.reduceEqDiff, eq_self, true_or, or_true, false_or, or_false, and_true, true_and, false_and, and_false, not_true, not_false_eq_true, tf_T, tf_F, y_up1, y_up2, y_xx, y_nx, y_sJ, y_sR, Int32.reduceLT, y_nxK, y_nxL, y_nxR, y_sJK, y_sJL, y_sJR, y_sJN, y_sRK, y_sRL, y_sRN, Nat.add_zero, z_nat, z_lit, z_lit0, z_lit1, z_in0, z_in1, z_addl0, z_lt, z_ltl, z_llt, z_inj, z_injl, z_add, z_addl, z_ladd, z_mul, z_mull, z_lmul, z_neg, z_negl, z_in, z_inl, z_ltT, z_ltF, z_eqF, z_10, z_01, z_litne, z_ne0, z_0ne, z_ne1, z_1ne, z_lt64, z_02, z_03, z_04, z_05, z_12, z_13, z_14, z_15, z_20, z_21, z_23, z_24, z_25, z_30, z_31, z_32, z_34, z_35, z_40, z_41, z_42, z_43, z_45, z_50, z_51, z_52, z_53, z_54]
  | succ m ih =>
    intro n st i hn hX hc hp hL h1 h2
    have R := c_line (d := d) hF hX hc hp hL (by omega) h1 h2
    have bad : ∀ f, lnE N L (lnS N L n st) = .inl f → TO B i (am_fx am_P (d + 29 + 1) 200 39 [some (.ref 65), some (.int (1)), some (.int (Int32.ofNat (n)))] [] (am_wI B i)) (fun j => am_fx am_P (d + 29 + 1) 200 94 [some (.ref 65), none, none] [] (am_wI B j)) (.inl f) := by
      intro f hf
      rw [hf] at R
      obtain ⟨j1, E1, w1, f1⟩ := R
      refine ⟨j1, ?_, w1, f1⟩
      dsimp only
      rw [← c_end85 (d := d) hF (show n + 1 ≤ 12 by omega), bk_200_39]
      simp (disch := omega) only [show n < 12 by omega, E1, bk_200_70, z_39, z_390, hF, y_ckd, y_ck2d, y_ond, y_onn, y_oI, y_oIx, y_oJ, y_oV, y_oVx, y_oR, y_oRn, y_oRx, y_b0, y_b1, y_bi, y_bid, y_wIK, y_wIL, y_wII, y_wIJ, y_wIR, y_wIN, y_wIw, y_sI, ↓reduceIte, Nat.reduceEqDiff, eq_self, true_or, or_true, false_or, or_false, and_true, true_and, false_and, and_false, not_true, not_false_eq_true, tf_T, tf_F, y_up1, y_up2, y_xx, y_nx, y_sJ, y_sR, Int32.reduceLT, y_nxK, y_nxL, y_nxR, y_sJK, y_sJL, y_sJR, y_sJN, y_sRK, y_sRL, y_sRN, Nat.add_zero, z_nat, z_lit, z_lit0, z_lit1, z_in0, z_in1, z_addl0, z_lt, z_ltl, z_llt, z_inj, z_injl, z_add, z_addl, z_ladd, z_mul, z_mull, z_lmul, z_neg, z_negl, z_in, z_inl, z_ltT, z_ltF, z_eqF, z_10, z_01, z_litne, z_ne0, z_0ne, z_ne1, z_1ne, z_lt64, z_02, z_03, z_04, z_05, z_12, z_13, z_14, z_15, z_20, z_21, z_23, z_24, z_25, z_30, z_31, z_32, z_34, z_35, z_40, z_41, z_42, z_43, z_45, z_50, z_51, z_52, z_53, z_54]
    unfold lnsS
    cases hl : lnS N L n st with
    | inl f =>
      exact bad f (by rw [hl]; rfl)
    | inr s1 =>
      dsimp only
      obtain ⟨⟨a1, a2⟩, ⟨a3, a4⟩, -, -⟩ := ln_pr h1 h2 (by omega) hl
      by_cases g0 : tb N L s1.1 < L
      rotate_left
      · rw [if_pos g0]
        rw [hl, show lnE N L (.inr s1) = .inr s1 from if_pos (Or.inl g0)] at R
        obtain ⟨j1, E1, w1, p1, l1, f1⟩ := R
        have S := c_sign (d := d + 29) (c := 59) (n := 59) hF rfl (by omega) (CT_FRl hc f1) p1.1 (by omega)
        rw [if_neg fun q => g0 q.1] at S
        refine ⟨j1, ?_, w1, p1.2, l1, f1⟩
        dsimp only
        rw [← c_end85 (d := d) hF (show n + 1 ≤ 12 by omega), bk_200_39]
        simp (disch := omega) only [show n < 12 by omega, E1, S, bk_200_70, z_39, z_390, hF, y_ckd, y_ck2d, y_ond, y_onn, y_oI, y_oIx, y_oJ, y_oV, y_oVx, y_oR, y_oRn, y_oRx, y_b0, y_b1, y_bi, y_bid, y_wIK, y_wIL, y_wII, y_wIJ, y_wIR, y_wIN, y_wIw, y_sI, ↓reduceIte, Nat.reduceEqDiff, eq_self, true_or, or_true, false_or, or_false, and_true, true_and, false_and, and_false, not_true, not_false_eq_true, tf_T, tf_F, y_up1, y_up2, y_xx, y_nx, y_sJ, y_sR, Int32.reduceLT, y_nxK, y_nxL, y_nxR, y_sJK, y_sJL, y_sJR, y_sJN, y_sRK, y_sRL, y_sRN, Nat.add_zero, z_nat, z_lit, z_lit0, z_lit1, z_in0, z_in1, z_addl0, z_lt, z_ltl, z_llt, z_inj, z_injl, z_add, z_addl, z_ladd, z_mul, z_mull, z_lmul, z_neg, z_negl, z_in, z_inl, z_ltT, z_ltF, z_eqF, z_10, z_01, z_litne, z_ne0, z_0ne, z_ne1, z_1ne, z_lt64, z_02, z_03, z_04, z_05, z_12, z_13, z_14, z_15, z_20, z_21, z_23, z_24, z_25, z_30, z_31, z_32, z_34, z_35, z_40, z_41, z_42, z_43, z_45, z_50, z_51, z_52, z_53, z_54]
      rw [if_neg (Classical.not_not.mpr g0)]
      by_cases g1 : N (tb N L s1.1) = 59
      · rw [if_pos g1]
        rw [hl, show lnE N L (.inr s1) = .inr s1 from if_pos (Or.inr g1)] at R
        obtain ⟨j1, E1, w1, p1, l1, f1⟩ := R
        have c1 := CT_FRl hc f1
        have S := c_sign (d := d + 29) (c := 59) (n := 59) hF rfl (by omega) c1 p1.1 (by omega)
        rw [if_pos ⟨g0, g1⟩] at S
        have e3 : j1 65 3 = Int32.ofNat (tb N L s1.1 + 1) := by rw [p1.1.1, tke_s g0 (by omega) (by omega)]
        obtain ⟨j2, E2, l2, s2, g2, f2⟩ := c_nextP (d := d + 29) hF c1 e3 (by omega) p1.2
        have t1 : s1.1 ≤ tb N L s1.1 := rn_ge
        have R2 := ih (n + 1) (tb N L s1.1 + 1, s1.2) j2 (by omega) (Stx_FRl hX (f1.tr f2.l)) (CT_FRc c1 f2) ⟨l2, s2⟩ (LC_FRc l1 f2) (by show tb N L s1.1 + 1 ≤ L; omega) (by show s1.2.1 ≤ tb N L s1.1 + 1; omega)
        refine TO_fr (f1.tr f2.l) (g2.trans w1) ?_
        have e39 : am_fx am_P (d + 29 + 1) 200 39 [some (.ref 65), some (.int (1)), some (.int (Int32.ofNat (n)))] [] (am_wI B i) = am_fx am_P (d + 29 + 1) 200 39 [some (.ref 65), some (.int (1)), some (.int (Int32.ofNat (n + 1)))] [] (am_wI B j2) := by
          rw [bk_200_39]
          simp (disch := omega) only [show n < 12 by omega, E1, S, E2, bk_200_70, z_39, z_390, hF, y_ckd, y_ck2d, y_ond, y_onn, y_oI, y_oIx, y_oJ, y_oV, y_oVx, y_oR, y_oRn, y_oRx, y_b0, y_b1, y_bi, y_bid, y_wIK, y_wIL, y_wII, y_wIJ, y_wIR, y_wIN, y_wIw, y_sI, ↓reduceIte, Nat.reduceEqDiff, eq_self, true_or, or_true, false_or, or_false, and_true, true_and, false_and, and_false, not_true, not_false_eq_true, tf_T, tf_F, y_up1, y_up2, y_xx, y_nx, y_sJ, y_sR, Int32.reduceLT, y_nxK, y_nxL, y_nxR, y_sJK, y_sJL, y_sJR, y_sJN, y_sRK, y_sRL, y_sRN, Nat.add_zero, z_nat, z_lit, z_lit0, z_lit1, z_in0, z_in1, z_addl0, z_lt, z_ltl, z_llt, z_inj, z_injl, z_add, z_addl, z_ladd, z_mul, z_mull, z_lmul, z_neg, z_negl, z_in, z_inl, z_ltT, z_ltF, z_eqF, z_10, z_01, z_litne, z_ne0, z_0ne, z_ne1, z_1ne, z_lt64, z_02, z_03, z_04, z_05, z_12, z_13, z_14, z_15, z_20, z_21, z_23, z_24, z_25, z_30, z_31, z_32, z_34, z_35, z_40, z_41, z_42, z_43, z_45, z_50, z_51, z_52, z_53, z_54]
        rw [e39]
        exact R2
      · rw [if_neg g1]
        exact bad _ (by rw [hl]; exact if_neg fun q => q.elim (fun q => q g0) g1)
theorem c_read (hF : Fc B) (hX : Stx B i) (hc : CT N L i) : ∃ j0, j0 65 2 = -1 ∧ FRl i j0 ∧ TO B j0 (am_fx am_P (d + 29 + 1) 200 0 [some (.ref 65), none, none] [] (am_wI B i)) (fun j => am_fx am_P (d + 29 + 1) 200 94 [some (.ref 65), none, none] [] (am_wI B j)) (txtS N L u) := by
  generalize ej : am_up2 (am_up2 (am_up2 (am_up2 i 65 3 0) 65 7 0) 65 11 0) 65 2 (-1) = j0
  have f0 : FRl i j0 := fun q k a b c d e => by rw [← ej, y_up2 (by omega), y_up2 (by omega), y_up2 (by omega), y_up2 (by omega)]
  have w0 : j0 65 2 = -1 := by rw [← ej, y_up1 rfl rfl]
  have e3 : j0 65 3 = Int32.ofNat 0 := by rw [← ej, y_up2 (by omega), y_up2 (by omega), y_up2 (by omega), y_up1 rfl rfl]; rfl
  have e7 : j0 65 7 = Int32.ofNat 0 := by rw [← ej, y_up2 (by omega), y_up2 (by omega), y_up1 rfl rfl]; rfl
  have e11 : j0 65 11 = Int32.ofNat 0 := by rw [← ej, y_up2 (by omega), y_up1 rfl rfl]; rfl
  have c0 := CT_FRl hc f0
  have S0 : SC j0 0 u := ⟨e11, fun k hk => absurd hk (Nat.not_lt_zero _)⟩
  obtain ⟨j1, E1, l1, s1, g1, f1⟩ := c_nextP (d := d + 29) hF c0 e3 (Nat.zero_le L) S0
  refine ⟨j0, w0, f0, TO_fr f1.l g1 ?_⟩
  have E0 : am_fx am_P (d + 29 + 1) 200 0 [some (.ref 65), none, none] [] (am_wI B i) = am_fx am_P (d + 29 + 1) 200 20 [some (.ref 65), none, none] [] (am_wI B j0) := by
    rw [bk_200_0]
    simp (disch := omega) only [bk_200_10, hF, y_ckd, y_ck2d, y_ond, y_onn, y_oI, y_oIx, y_oJ, y_oV, y_oVx, y_oR, y_oRn, y_oRx, y_b0, y_b1, y_bi, y_bid, y_wIK, y_wIL, y_wII, y_wIJ, y_wIR, y_wIN, y_wIw, y_sI, ↓reduceIte, Nat.reduceEqDiff, eq_self, true_or, or_true, false_or, or_false, and_true, true_and, false_and, and_false, not_true, not_false_eq_true, tf_T, tf_F, y_up1, y_up2, y_xx, y_nx, y_sJ, y_sR, Int32.reduceLT, y_nxK, y_nxL, y_nxR, y_sJK, y_sJL, y_sJR, y_sJN, y_sRK, y_sRL, y_sRN, Nat.add_zero, z_nat, z_lit, z_lit0, z_lit1, z_in0, z_in1, z_addl0, z_lt, z_ltl, z_llt, z_inj, z_injl, z_add, z_addl, z_ladd, z_mul, z_mull, z_lmul, z_neg, z_negl, z_in, z_inl, z_ltT, z_ltF, z_eqF, z_10, z_01, z_litne, z_ne0, z_0ne, z_ne1, z_1ne, z_lt64, z_02, z_03, z_04, z_05, z_12, z_13, z_14, z_15, z_20, z_21, z_23, z_24, z_25, z_30, z_31, z_32, z_34, z_35, z_40, z_41, z_42, z_43, z_45, z_50, z_51, z_52, z_53, z_54]
    rw [ej]
  have L0 : LC j1 0 u := ⟨(f1 _ _ (by omega) (by omega)).trans e7, fun m hm => absurd hm (Nat.not_lt_zero _)⟩
  rw [E0, bk_200_20]
  unfold txtS
  have e5 := l1.2.2.1
  by_cases g : tb N L 0 < L
  · rw [if_pos g]
    have n0 : ¬ j1 65 5 = 0 := by
      rw [e5]
      unfold tkn
      rw [if_pos g]
      split
      · decide
      · split <;> decide
    have R := c_lns (d := d) hF 12 0 (tb N L 0, 0, u) j1 (by omega) (Stx_FRl hX (f0.tr f1.l)) (CT_FRc c0 f1) ⟨by show LD N L (tb N L (tb N L 0)) j1; rw [tb_tb]; exact l1, s1⟩ L0 (Nat.le_of_lt g) (Nat.zero_le _)
    simp (disch := omega) only [E1, n0, hF, y_ckd, y_ck2d, y_ond, y_onn, y_oI, y_oIx, y_oJ, y_oV, y_oVx, y_oR, y_oRn, y_oRx, y_b0, y_b1, y_bi, y_bid, y_wIK, y_wIL, y_wII, y_wIJ, y_wIR, y_wIN, y_wIw, y_sI, ↓reduceIte, Nat.reduceEqDiff, eq_self, true_or, or_true, false_or, or_false, and_true, true_and, false_and, and_false, not_true, not_false_eq_true, tf_T, tf_F, y_up1, y_up2, y_xx, y_nx, y_sJ, y_sR, Int32.reduceLT, y_nxK, y_nxL, y_nxR, y_sJK, y_sJL, y_sJR, y_sJN, y_sRK, y_sRL, y_sRN, Nat.add_zero, z_nat, z_lit, z_lit0, z_lit1, z_in0, z_in1, z_addl0, z_lt, z_ltl, z_llt, z_inj, z_injl, z_add, z_addl, z_ladd, z_mul, z_mull, z_lmul, z_neg, z_negl, z_in, z_inl, z_ltT, z_ltF, z_eqF, z_10, z_01, z_litne, z_ne0, z_0ne, z_ne1, z_1ne, z_lt64, z_02, z_03, z_04, z_05, z_12, z_13, z_14, z_15, z_20, z_21, z_23, z_24, z_25, z_30, z_31, z_32, z_34, z_35, z_40, z_41, z_42, z_43, z_45, z_50, z_51, z_52, z_53, z_54]
    exact R
  · rw [if_neg g]
    have n0 : j1 65 5 = 0 := by
      rw [e5]
      unfold tkn
      rw [if_neg g]
      rfl
    refine ⟨j1, ?_, rfl, s1, L0, FRl.rf⟩
    simp (disch := omega) only [E1, n0, hF, y_ckd, y_ck2d, y_ond, y_onn, y_oI, y_oIx, y_oJ, y_oV, y_oVx, y_oR, y_oRn, y_oRx, y_b0, y_b1, y_bi, y_bid, y_wIK, y_wIL, y_wII, y_wIJ, y_wIR, y_wIN, y_wIw, y_sI, ↓reduceIte, Nat.reduceEqDiff, eq_self, true_or, or_true, false_or, or_false, and_true, true_and, false_and, and_false, not_true, not_false_eq_true, tf_T, tf_F, y_up1, y_up2, y_xx, y_nx, y_sJ, y_sR, Int32.reduceLT, y_nxK, y_nxL, y_nxR, y_sJK, y_sJL, y_sJR, y_sJN, y_sRK, y_sRL, y_sRN, Nat.add_zero, z_nat, z_lit, z_lit0, z_lit1, z_in0, z_in1, z_addl0, z_lt, z_ltl, z_llt, z_inj, z_injl, z_add, z_addl, z_ladd, z_mul, z_mull, z_lmul, z_neg, z_negl, z_in, z_inl, z_ltT, z_ltF, z_eqF, z_10, z_01, z_litne, z_ne0, z_0ne, z_ne1, z_1ne, z_lt64, z_02, z_03, z_04, z_05, z_12, z_13, z_14, z_15, z_20, z_21, z_23, z_24, z_25, z_30, z_31, z_32, z_34, z_35, z_40, z_41, z_42, z_43, z_45, z_50, z_51, z_52, z_53, z_54]
    exact c_end85 (d := d) (n := 0) hF (by omega)
end ClsG
