/-! TEXTS ON THE TAPE, the class: a condition. Made by wip/whole/math/929.py. -/
section ClsD
variable {B : am_A} {i j k : Nat → Nat → Int32} {N : Nat → Nat} {d D L H p b e q n s f c r : Nat} {u : Nat → Int32} {st : PS} {x : am_X} {qs : List Nat} {A C : PS → PR} {x1 : Int32}
theorem c_neg (hF : Fc B) (hA : CAt B N L (fun i => am_fx am_P (D) 205 0 [some (.ref 65), some (.int (x1)), none, none] [] (am_wI B i)) A) (hP : Pr L H A) (hX : Stx B i) (hc : CT N L i) (hp : CPt N L i st) (h1 : st.1 ≤ L) (h2 : st.2.1 < st.1) : PO B N L i (am_fx am_P (D + 1) 206 0 [some (.ref 65), some (.int x1)] [] (am_wI B i)) (notS (A st)) := by
  have l400 := hc.2.1
  have R := hA i st hX hc hp h1 (Nat.le_of_lt h2)
  dsimp only at R
  cases hr : A st with
  | inl f =>
    rw [hr] at R
    obtain ⟨j2, E2, w2, f2⟩ := R
    refine ⟨j2, ?_, w2, f2⟩
    rw [bk_206_0]
    simp (disch := omega) only [E2, hF, y_ckd, y_ck2d, y_ond, y_onn, y_oI, y_oIx, y_oJ, y_oV, y_oVx, y_oR, y_oRn, y_oRx, y_b0, y_b1, y_bi, y_bid, y_wIK, y_wIL, y_wII, y_wIJ, y_wIR, y_wIN, y_wIw, y_sI, ↓reduceIte, Nat.reduceEqDiff, eq_self, true_or, or_true, false_or, or_false, and_true, true_and, false_and, and_false, not_true, not_false_eq_true, tf_T, tf_F, y_up1, y_up2, y_xx, y_nx, y_sJ, y_sR, Int32.reduceLT, y_nxK, y_nxL, y_nxR, y_sJK, y_sJL, y_sJR, y_sJN, y_sRK, y_sRL, y_sRN, Nat.add_zero, z_nat, z_lit, z_lit0, z_lit1, z_in0, z_in1, z_addl0, z_lt, z_ltl, z_llt, z_inj, z_injl, z_add, z_addl, z_ladd, z_mul, z_mull, z_lmul, z_neg, z_negl, z_in, z_inl, z_ltT, z_ltF, z_eqF, z_10, z_01, z_litne, z_ne0, z_0ne, z_ne1, z_1ne, z_lt64, z_02, z_03, z_04, z_05, z_12, z_13, z_14, z_15, z_20, z_21, z_23, z_24, z_25, z_30, z_31, z_32, z_34, z_35, z_40, z_41, z_42, z_43, z_45, z_50, z_51, z_52, z_53, z_54]
  | inr sa =>
    rw [hr] at R
    obtain ⟨j2, E2, w2, p2, f2⟩ := R
    obtain ⟨b1, b2, b3, b4, -, -⟩ := hP _ sa h1 hr
    obtain ⟨j3, E3, s3, g3, k3, f3⟩ := c_addP (d := D) (i := j2) hF p2.2 (by omega) enc_opc.1
    refine ⟨j3, ?_, g3.trans w2, ⟨LD_fr p2.1 k3, s3⟩, f2.tr f3⟩
    rw [bk_206_0]
    simp (disch := omega) only [E2, bk_176_0, z_39, z_390, hF, y_ckd, y_ck2d, y_ond, y_onn, y_oI, y_oIx, y_oJ, y_oV, y_oVx, y_oR, y_oRn, y_oRx, y_b0, y_b1, y_bi, y_bid, y_wIK, y_wIL, y_wII, y_wIJ, y_wIR, y_wIN, y_wIw, y_sI, ↓reduceIte, Nat.reduceEqDiff, eq_self, true_or, or_true, false_or, or_false, and_true, true_and, false_and, and_false, not_true, not_false_eq_true, tf_T, tf_F, y_up1, y_up2, y_xx, y_nx, y_sJ, y_sR, Int32.reduceLT, y_nxK, y_nxL, y_nxR, y_sJK, y_sJL, y_sJR, y_sJN, y_sRK, y_sRL, y_sRN, Nat.add_zero, z_nat, z_lit, z_lit0, z_lit1, z_in0, z_in1, z_addl0, z_lt, z_ltl, z_llt, z_inj, z_injl, z_add, z_addl, z_ladd, z_mul, z_mull, z_lmul, z_neg, z_negl, z_in, z_inl, z_ltT, z_ltF, z_eqF, z_10, z_01, z_litne, z_ne0, z_0ne, z_ne1, z_1ne, z_lt64, z_02, z_03, z_04, z_05, z_12, z_13, z_14, z_15, z_20, z_21, z_23, z_24, z_25, z_30, z_31, z_32, z_34, z_35, z_40, z_41, z_42, z_43, z_45, z_50, z_51, z_52, z_53, z_54]
    simp (disch := omega) only [E3, hF, y_ckd, y_ck2d, y_ond, y_onn, y_oI, y_oIx, y_oJ, y_oV, y_oVx, y_oR, y_oRn, y_oRx, y_b0, y_b1, y_bi, y_bid, y_wIK, y_wIL, y_wII, y_wIJ, y_wIR, y_wIN, y_wIw, y_sI, ↓reduceIte, Nat.reduceEqDiff, eq_self, true_or, or_true, false_or, or_false, and_true, true_and, false_and, and_false, not_true, not_false_eq_true, tf_T, tf_F, y_up1, y_up2, y_xx, y_nx, y_sJ, y_sR, Int32.reduceLT, y_nxK, y_nxL, y_nxR, y_sJK, y_sJL, y_sJR, y_sJN, y_sRK, y_sRL, y_sRN, Nat.add_zero, z_nat, z_lit, z_lit0, z_lit1, z_in0, z_in1, z_addl0, z_lt, z_ltl, z_llt, z_inj, z_injl, z_add, z_addl, z_ladd, z_mul, z_mull, z_lmul, z_neg, z_negl, z_in, z_inl, z_ltT, z_ltF, z_eqF, z_10, z_01, z_litne, z_ne0, z_0ne, z_ne1, z_1ne, z_lt64, z_02, z_03, z_04, z_05, z_12, z_13, z_14, z_15, z_20, z_21, z_23, z_24, z_25, z_30, z_31, z_32, z_34, z_35, z_40, z_41, z_42, z_43, z_45, z_50, z_51, z_52, z_53, z_54]
theorem c_brk (hF : Fc B) (hC : CAt B N L (fun i => am_fx am_P (D) 203 0 [some (.ref 65), some (.int (x1)), none] [] (am_wI B i)) C) (hP : Pr L H C) (hX : Stx B i) (hc : CT N L i) (hp : CPt N L i st) (h1 : st.1 ≤ L) (h2 : st.2.1 ≤ st.1) : PO B N L i (am_fx am_P (D + 1) 207 0 [some (.ref 65), some (.int x1)] [] (am_wI B i)) (brkS N L (C st)) := by
  have R := hC i st hX hc hp h1 h2
  dsimp only at R
  cases hr : C st with
  | inl f =>
    rw [hr] at R
    obtain ⟨j2, E2, w2, f2⟩ := R
    refine ⟨j2, ?_, w2, f2⟩
    rw [bk_207_0]
    simp (disch := omega) only [E2, hF, y_ckd, y_ck2d, y_ond, y_onn, y_oI, y_oIx, y_oJ, y_oV, y_oVx, y_oR, y_oRn, y_oRx, y_b0, y_b1, y_bi, y_bid, y_wIK, y_wIL, y_wII, y_wIJ, y_wIR, y_wIN, y_wIw, y_sI, ↓reduceIte, Nat.reduceEqDiff, eq_self, true_or, or_true, false_or, or_false, and_true, true_and, false_and, and_false, not_true, not_false_eq_true, tf_T, tf_F, y_up1, y_up2, y_xx, y_nx, y_sJ, y_sR, Int32.reduceLT, y_nxK, y_nxL, y_nxR, y_sJK, y_sJL, y_sJR, y_sJN, y_sRK, y_sRL, y_sRN, Nat.add_zero, z_nat, z_lit, z_lit0, z_lit1, z_in0, z_in1, z_addl0, z_lt, z_ltl, z_llt, z_inj, z_injl, z_add, z_addl, z_ladd, z_mul, z_mull, z_lmul, z_neg, z_negl, z_in, z_inl, z_ltT, z_ltF, z_eqF, z_10, z_01, z_litne, z_ne0, z_0ne, z_ne1, z_1ne, z_lt64, z_02, z_03, z_04, z_05, z_12, z_13, z_14, z_15, z_20, z_21, z_23, z_24, z_25, z_30, z_31, z_32, z_34, z_35, z_40, z_41, z_42, z_43, z_45, z_50, z_51, z_52, z_53, z_54]
  | inr sa =>
    rw [hr] at R
    obtain ⟨j2, E2, w2, p2, f2⟩ := R
    obtain ⟨b1, b2, b3, b4, -, -⟩ := hP _ sa h1 hr
    have c2 := CT_FRc hc f2
    obtain ⟨t1, t2⟩ := tb_bnd (N := N) (L := L) b1
    have S := c_sign (d := D) (c := 41) (n := 41) hF rfl (by omega) c2 p2.1 (by omega)
    unfold brkS
    dsimp only
    by_cases g : tb N L sa.1 < L ∧ N (tb N L sa.1) = 41
    · rw [if_pos g] at S ⊢
      have e3 : j2 65 3 = Int32.ofNat (tb N L sa.1 + 1) := by rw [p2.1.1, tke_s g.1 (by omega) (by omega)]
      obtain ⟨j3, E3, l3, s3, g3, f3⟩ := c_nextP (d := D) hF c2 e3 (by omega) p2.2
      refine ⟨j3, ?_, g3.trans w2, ⟨l3, s3⟩, f2.tr f3⟩
      rw [bk_207_0]
      simp (disch := omega) only [E2, S, E3, z_39, z_390, hF, y_ckd, y_ck2d, y_ond, y_onn, y_oI, y_oIx, y_oJ, y_oV, y_oVx, y_oR, y_oRn, y_oRx, y_b0, y_b1, y_bi, y_bid, y_wIK, y_wIL, y_wII, y_wIJ, y_wIR, y_wIN, y_wIw, y_sI, ↓reduceIte, Nat.reduceEqDiff, eq_self, true_or, or_true, false_or, or_false, and_true, true_and, false_and, and_false, not_true, not_false_eq_true, tf_T, tf_F, y_up1, y_up2, y_xx, y_nx, y_sJ, y_sR, Int32.reduceLT, y_nxK, y_nxL, y_nxR, y_sJK, y_sJL, y_sJR, y_sJN, y_sRK, y_sRL, y_sRN, Nat.add_zero, z_nat, z_lit, z_lit0, z_lit1, z_in0, z_in1, z_addl0, z_lt, z_ltl, z_llt, z_inj, z_injl, z_add, z_addl, z_ladd, z_mul, z_mull, z_lmul, z_neg, z_negl, z_in, z_inl, z_ltT, z_ltF, z_eqF, z_10, z_01, z_litne, z_ne0, z_0ne, z_ne1, z_1ne, z_lt64, z_02, z_03, z_04, z_05, z_12, z_13, z_14, z_15, z_20, z_21, z_23, z_24, z_25, z_30, z_31, z_32, z_34, z_35, z_40, z_41, z_42, z_43, z_45, z_50, z_51, z_52, z_53, z_54]
    · rw [if_neg g] at S ⊢
      have W := c_wrong (d := D) hF p2.1.2.1
      refine PO_fr f2 w2 (PO_bad ?_)
      rw [bk_207_0]
      simp (disch := omega) only [E2, S, W, z_39, z_390, hF, y_ckd, y_ck2d, y_ond, y_onn, y_oI, y_oIx, y_oJ, y_oV, y_oVx, y_oR, y_oRn, y_oRx, y_b0, y_b1, y_bi, y_bid, y_wIK, y_wIL, y_wII, y_wIJ, y_wIR, y_wIN, y_wIw, y_sI, ↓reduceIte, Nat.reduceEqDiff, eq_self, true_or, or_true, false_or, or_false, and_true, true_and, false_and, and_false, not_true, not_false_eq_true, tf_T, tf_F, y_up1, y_up2, y_xx, y_nx, y_sJ, y_sR, Int32.reduceLT, y_nxK, y_nxL, y_nxR, y_sJK, y_sJL, y_sJR, y_sJN, y_sRK, y_sRL, y_sRN, Nat.add_zero, z_nat, z_lit, z_lit0, z_lit1, z_in0, z_in1, z_addl0, z_lt, z_ltl, z_llt, z_inj, z_injl, z_add, z_addl, z_ladd, z_mul, z_mull, z_lmul, z_neg, z_negl, z_in, z_inl, z_ltT, z_ltF, z_eqF, z_10, z_01, z_litne, z_ne0, z_0ne, z_ne1, z_1ne, z_lt64, z_02, z_03, z_04, z_05, z_12, z_13, z_14, z_15, z_20, z_21, z_23, z_24, z_25, z_30, z_31, z_32, z_34, z_35, z_40, z_41, z_42, z_43, z_45, z_50, z_51, z_52, z_53, z_54]
theorem c_atL {A C : Option (PS → PR)} (hF : Fc B) (x : Nat) (hx : x ≤ 6) (h6 : x = 6 → A = none ∧ C = none) (hlt : x < 6 → ∃ A' C' H K, A = some A' ∧ C = some C' ∧ CAt B N L (fun i => am_fx am_P (D) 205 0 [some (.ref 65), some (.int (Int32.ofNat (x + 1))), none, none] [] (am_wI B i)) A' ∧ Pr L H A' ∧ CAt B N L (fun i => am_fx am_P (D) 203 0 [some (.ref 65), some (.int (Int32.ofNat (x + 1))), none] [] (am_wI B i)) C' ∧ Pr L K C') : CAt B N L (fun i => am_fx am_P (D + 1 + 1) 205 0 [some (.ref 65), some (.int (Int32.ofNat x)), none, none] [] (am_wI B i)) (atL N L A C) := by
  intro i st hX hc hp h1 h2
  dsimp only
  have l400 := hc.2.1
  obtain ⟨hl, hs⟩ := id hp
  obtain ⟨t1, t2⟩ := tb_bnd (N := N) (L := L) h1
  have W := c_isW (d := D) hF hX hc hl t2 seg_5 (by decide) (by decide)
  have S := c_sign (d := D + 1) (c := 40) (n := 40) hF rfl (by omega) hc hl (by omega)
  have k5 := (hX 5 (by omega) (by omega)).1
  have k6 := (hX 6 (by omega) (by omega)).1
  have Wr := c_wrong (d := D + 1) hF hl.2.1
  unfold atL
  by_cases g : tb N L st.1 < L ∧ N (tb N L st.1) = 40
  · rw [if_pos g] at S ⊢
    have nw : ¬ isw N (tb N L st.1) (lw N L (tb N L st.1)) (sx 5) := fun q => by
      obtain ⟨l1, -, -⟩ := isw_lt q (by decide) t2
      have := rn_in (N := N) (L := L) (lo := 97) (hi := 122) (Nat.le_refl _) l1
      omega
    rw [if_neg nw] at W
    have e0 : am_fx am_P (D + 1 + 1) 205 0 [some (.ref 65), some (.int (Int32.ofNat x)), none, none] [] (am_wI B i) = am_fx am_P (D + 1 + 1) 205 20 [some (.ref 65), some (.int (Int32.ofNat x)), some (.int 0), none] [] (am_wI B i) := by
      rw [bk_205_0]
      simp (disch := omega) only [k5, W, S, z_39, z_390, hF, y_ckd, y_ck2d, y_ond, y_onn, y_oI, y_oIx, y_oJ, y_oV, y_oVx, y_oR, y_oRn, y_oRx, y_b0, y_b1, y_bi, y_bid, y_wIK, y_wIL, y_wII, y_wIJ, y_wIR, y_wIN, y_wIw, y_sI, ↓reduceIte, Nat.reduceEqDiff, eq_self, true_or, or_true, false_or, or_false, and_true, true_and, false_and, and_false, not_true, not_false_eq_true, tf_T, tf_F, y_up1, y_up2, y_xx, y_nx, y_sJ, y_sR, Int32.reduceLT, y_nxK, y_nxL, y_nxR, y_sJK, y_sJL, y_sJR, y_sJN, y_sRK, y_sRL, y_sRN, Nat.add_zero, z_nat, z_lit, z_lit0, z_lit1, z_in0, z_in1, z_addl0, z_lt, z_ltl, z_llt, z_inj, z_injl, z_add, z_addl, z_ladd, z_mul, z_mull, z_lmul, z_neg, z_negl, z_in, z_inl, z_ltT, z_ltF, z_eqF, z_10, z_01, z_litne, z_ne0, z_0ne, z_ne1, z_1ne, z_lt64, z_02, z_03, z_04, z_05, z_12, z_13, z_14, z_15, z_20, z_21, z_23, z_24, z_25, z_30, z_31, z_32, z_34, z_35, z_40, z_41, z_42, z_43, z_45, z_50, z_51, z_52, z_53, z_54]
    rw [e0, bk_205_20]
    by_cases g6 : x = 6
    · obtain ⟨hA, hC⟩ := h6 g6
      subst hC
      refine PO_bad ?_
      simp (disch := omega) only [show ¬ x < 6 by omega, Wr, hF, y_ckd, y_ck2d, y_ond, y_onn, y_oI, y_oIx, y_oJ, y_oV, y_oVx, y_oR, y_oRn, y_oRx, y_b0, y_b1, y_bi, y_bid, y_wIK, y_wIL, y_wII, y_wIJ, y_wIR, y_wIN, y_wIw, y_sI, ↓reduceIte, Nat.reduceEqDiff, eq_self, true_or, or_true, false_or, or_false, and_true, true_and, false_and, and_false, not_true, not_false_eq_true, tf_T, tf_F, y_up1, y_up2, y_xx, y_nx, y_sJ, y_sR, Int32.reduceLT, y_nxK, y_nxL, y_nxR, y_sJK, y_sJL, y_sJR, y_sJN, y_sRK, y_sRL, y_sRN, Nat.add_zero, z_nat, z_lit, z_lit0, z_lit1, z_in0, z_in1, z_addl0, z_lt, z_ltl, z_llt, z_inj, z_injl, z_add, z_addl, z_ladd, z_mul, z_mull, z_lmul, z_neg, z_negl, z_in, z_inl, z_ltT, z_ltF, z_eqF, z_10, z_01, z_litne, z_ne0, z_0ne, z_ne1, z_1ne, z_lt64, z_02, z_03, z_04, z_05, z_12, z_13, z_14, z_15, z_20, z_21, z_23, z_24, z_25, z_30, z_31, z_32, z_34, z_35, z_40, z_41, z_42, z_43, z_45, z_50, z_51, z_52, z_53, z_54]
    · obtain ⟨A', C', H, K, hA, hC, -, -, cC, pC⟩ := hlt (by omega)
      subst hC
      have e3 : i 65 3 = Int32.ofNat (tb N L st.1 + 1) := by rw [hl.1, tke_s g.1 (by omega) (by omega)]
      obtain ⟨j1, E1, l1, s1, g1, f1⟩ := c_nextP (d := D + 1) hF hc e3 (by omega) hs
      have R := c_brk (st := (tb N L st.1 + 1, st.2)) hF cC pC (Stx_FRc hX f1) (CT_FRc hc f1) ⟨l1, s1⟩ (by show tb N L st.1 + 1 ≤ L; omega) (by show st.2.1 ≤ tb N L st.1 + 1; omega)
      refine PO_fr f1 g1 ?_
      simp (disch := omega) only [show x < 6 by omega, E1, hF, y_ckd, y_ck2d, y_ond, y_onn, y_oI, y_oIx, y_oJ, y_oV, y_oVx, y_oR, y_oRn, y_oRx, y_b0, y_b1, y_bi, y_bid, y_wIK, y_wIL, y_wII, y_wIJ, y_wIR, y_wIN, y_wIw, y_sI, ↓reduceIte, Nat.reduceEqDiff, eq_self, true_or, or_true, false_or, or_false, and_true, true_and, false_and, and_false, not_true, not_false_eq_true, tf_T, tf_F, y_up1, y_up2, y_xx, y_nx, y_sJ, y_sR, Int32.reduceLT, y_nxK, y_nxL, y_nxR, y_sJK, y_sJL, y_sJR, y_sJN, y_sRK, y_sRL, y_sRN, Nat.add_zero, z_nat, z_lit, z_lit0, z_lit1, z_in0, z_in1, z_addl0, z_lt, z_ltl, z_llt, z_inj, z_injl, z_add, z_addl, z_ladd, z_mul, z_mull, z_lmul, z_neg, z_negl, z_in, z_inl, z_ltT, z_ltF, z_eqF, z_10, z_01, z_litne, z_ne0, z_0ne, z_ne1, z_1ne, z_lt64, z_02, z_03, z_04, z_05, z_12, z_13, z_14, z_15, z_20, z_21, z_23, z_24, z_25, z_30, z_31, z_32, z_34, z_35, z_40, z_41, z_42, z_43, z_45, z_50, z_51, z_52, z_53, z_54]
      try dsimp only at R
      cases hb : brkS N L (C' (tb N L st.1 + 1, st.2)) with
      | inl f =>
        rw [hb] at R
        obtain ⟨j2, E2, w2, f2⟩ := R
        refine ⟨j2, ?_, w2, f2⟩
        simp (disch := omega) only [E2, hF, y_ckd, y_ck2d, y_ond, y_onn, y_oI, y_oIx, y_oJ, y_oV, y_oVx, y_oR, y_oRn, y_oRx, y_b0, y_b1, y_bi, y_bid, y_wIK, y_wIL, y_wII, y_wIJ, y_wIR, y_wIN, y_wIw, y_sI, ↓reduceIte, Nat.reduceEqDiff, eq_self, true_or, or_true, false_or, or_false, and_true, true_and, false_and, and_false, not_true, not_false_eq_true, tf_T, tf_F, y_up1, y_up2, y_xx, y_nx, y_sJ, y_sR, Int32.reduceLT, y_nxK, y_nxL, y_nxR, y_sJK, y_sJL, y_sJR, y_sJN, y_sRK, y_sRL, y_sRN, Nat.add_zero, z_nat, z_lit, z_lit0, z_lit1, z_in0, z_in1, z_addl0, z_lt, z_ltl, z_llt, z_inj, z_injl, z_add, z_addl, z_ladd, z_mul, z_mull, z_lmul, z_neg, z_negl, z_in, z_inl, z_ltT, z_ltF, z_eqF, z_10, z_01, z_litne, z_ne0, z_0ne, z_ne1, z_1ne, z_lt64, z_02, z_03, z_04, z_05, z_12, z_13, z_14, z_15, z_20, z_21, z_23, z_24, z_25, z_30, z_31, z_32, z_34, z_35, z_40, z_41, z_42, z_43, z_45, z_50, z_51, z_52, z_53, z_54]
      | inr sa =>
        rw [hb] at R
        obtain ⟨j2, E2, w2, p2, f2⟩ := R
        refine ⟨j2, ?_, w2, p2, f2⟩
        simp (disch := omega) only [E2, hF, y_ckd, y_ck2d, y_ond, y_onn, y_oI, y_oIx, y_oJ, y_oV, y_oVx, y_oR, y_oRn, y_oRx, y_b0, y_b1, y_bi, y_bid, y_wIK, y_wIL, y_wII, y_wIJ, y_wIR, y_wIN, y_wIw, y_sI, ↓reduceIte, Nat.reduceEqDiff, eq_self, true_or, or_true, false_or, or_false, and_true, true_and, false_and, and_false, not_true, not_false_eq_true, tf_T, tf_F, y_up1, y_up2, y_xx, y_nx, y_sJ, y_sR, Int32.reduceLT, y_nxK, y_nxL, y_nxR, y_sJK, y_sJL, y_sJR, y_sJN, y_sRK, y_sRL, y_sRN, Nat.add_zero, z_nat, z_lit, z_lit0, z_lit1, z_in0, z_in1, z_addl0, z_lt, z_ltl, z_llt, z_inj, z_injl, z_add, z_addl, z_ladd, z_mul, z_mull, z_lmul, z_neg, z_negl, z_in, z_inl, z_ltT, z_ltF, z_eqF, z_10, z_01, z_litne, z_ne0, z_0ne, z_ne1, z_1ne, z_lt64, z_02, z_03, z_04, z_05, z_12, z_13, z_14, z_15, z_20, z_21, z_23, z_24, z_25, z_30, z_31, z_32, z_34, z_35, z_40, z_41, z_42, z_43, z_45, z_50, z_51, z_52, z_53, z_54]
  rw [if_neg g] at S ⊢
  by_cases gn : isw N (tb N L st.1) (lw N L (tb N L st.1)) (sx 5)
  · rw [if_pos gn] at W ⊢
    obtain ⟨l1, l2, l3⟩ := isw_lt gn (by decide) t2
    have e0 : am_fx am_P (D + 1 + 1) 205 0 [some (.ref 65), some (.int (Int32.ofNat x)), none, none] [] (am_wI B i) = am_fx am_P (D + 1 + 1) 205 20 [some (.ref 65), some (.int (Int32.ofNat x)), some (.int 1), none] [] (am_wI B i) := by
      rw [bk_205_0]
      simp (disch := omega) only [k5, W, z_39, z_390, hF, y_ckd, y_ck2d, y_ond, y_onn, y_oI, y_oIx, y_oJ, y_oV, y_oVx, y_oR, y_oRn, y_oRx, y_b0, y_b1, y_bi, y_bid, y_wIK, y_wIL, y_wII, y_wIJ, y_wIR, y_wIN, y_wIw, y_sI, ↓reduceIte, Nat.reduceEqDiff, eq_self, true_or, or_true, false_or, or_false, and_true, true_and, false_and, and_false, not_true, not_false_eq_true, tf_T, tf_F, y_up1, y_up2, y_xx, y_nx, y_sJ, y_sR, Int32.reduceLT, y_nxK, y_nxL, y_nxR, y_sJK, y_sJL, y_sJR, y_sJN, y_sRK, y_sRL, y_sRN, Nat.add_zero, z_nat, z_lit, z_lit0, z_lit1, z_in0, z_in1, z_addl0, z_lt, z_ltl, z_llt, z_inj, z_injl, z_add, z_addl, z_ladd, z_mul, z_mull, z_lmul, z_neg, z_negl, z_in, z_inl, z_ltT, z_ltF, z_eqF, z_10, z_01, z_litne, z_ne0, z_0ne, z_ne1, z_1ne, z_lt64, z_02, z_03, z_04, z_05, z_12, z_13, z_14, z_15, z_20, z_21, z_23, z_24, z_25, z_30, z_31, z_32, z_34, z_35, z_40, z_41, z_42, z_43, z_45, z_50, z_51, z_52, z_53, z_54]
    rw [e0, bk_205_20]
    by_cases g6 : x = 6
    · obtain ⟨hA, hC⟩ := h6 g6
      subst hA
      refine PO_bad ?_
      simp (disch := omega) only [show ¬ x < 6 by omega, Wr, hF, y_ckd, y_ck2d, y_ond, y_onn, y_oI, y_oIx, y_oJ, y_oV, y_oVx, y_oR, y_oRn, y_oRx, y_b0, y_b1, y_bi, y_bid, y_wIK, y_wIL, y_wII, y_wIJ, y_wIR, y_wIN, y_wIw, y_sI, ↓reduceIte, Nat.reduceEqDiff, eq_self, true_or, or_true, false_or, or_false, and_true, true_and, false_and, and_false, not_true, not_false_eq_true, tf_T, tf_F, y_up1, y_up2, y_xx, y_nx, y_sJ, y_sR, Int32.reduceLT, y_nxK, y_nxL, y_nxR, y_sJK, y_sJL, y_sJR, y_sJN, y_sRK, y_sRL, y_sRN, Nat.add_zero, z_nat, z_lit, z_lit0, z_lit1, z_in0, z_in1, z_addl0, z_lt, z_ltl, z_llt, z_inj, z_injl, z_add, z_addl, z_ladd, z_mul, z_mull, z_lmul, z_neg, z_negl, z_in, z_inl, z_ltT, z_ltF, z_eqF, z_10, z_01, z_litne, z_ne0, z_0ne, z_ne1, z_1ne, z_lt64, z_02, z_03, z_04, z_05, z_12, z_13, z_14, z_15, z_20, z_21, z_23, z_24, z_25, z_30, z_31, z_32, z_34, z_35, z_40, z_41, z_42, z_43, z_45, z_50, z_51, z_52, z_53, z_54]
    · obtain ⟨A', C', H, K, hA, hC, cA, pA, -, -⟩ := hlt (by omega)
      subst hA
      have e3 : i 65 3 = Int32.ofNat (lw N L (tb N L st.1)) := by rw [hl.1, tke_w l1]
      obtain ⟨j1, E1, ld1, s1, g1, f1⟩ := c_nextP (d := D + 1) hF hc e3 l2 hs
      have R := c_neg (st := (lw N L (tb N L st.1), st.2)) hF cA pA (Stx_FRc hX f1) (CT_FRc hc f1) ⟨ld1, s1⟩ l2 (by show st.2.1 < lw N L (tb N L st.1); omega)
      refine PO_fr f1 g1 ?_
      simp (disch := omega) only [show x < 6 by omega, E1, z_39, z_390, hF, y_ckd, y_ck2d, y_ond, y_onn, y_oI, y_oIx, y_oJ, y_oV, y_oVx, y_oR, y_oRn, y_oRx, y_b0, y_b1, y_bi, y_bid, y_wIK, y_wIL, y_wII, y_wIJ, y_wIR, y_wIN, y_wIw, y_sI, ↓reduceIte, Nat.reduceEqDiff, eq_self, true_or, or_true, false_or, or_false, and_true, true_and, false_and, and_false, not_true, not_false_eq_true, tf_T, tf_F, y_up1, y_up2, y_xx, y_nx, y_sJ, y_sR, Int32.reduceLT, y_nxK, y_nxL, y_nxR, y_sJK, y_sJL, y_sJR, y_sJN, y_sRK, y_sRL, y_sRN, Nat.add_zero, z_nat, z_lit, z_lit0, z_lit1, z_in0, z_in1, z_addl0, z_lt, z_ltl, z_llt, z_inj, z_injl, z_add, z_addl, z_ladd, z_mul, z_mull, z_lmul, z_neg, z_negl, z_in, z_inl, z_ltT, z_ltF, z_eqF, z_10, z_01, z_litne, z_ne0, z_0ne, z_ne1, z_1ne, z_lt64, z_02, z_03, z_04, z_05, z_12, z_13, z_14, z_15, z_20, z_21, z_23, z_24, z_25, z_30, z_31, z_32, z_34, z_35, z_40, z_41, z_42, z_43, z_45, z_50, z_51, z_52, z_53, z_54]
      try dsimp only at R
      cases hb : notS (A' (lw N L (tb N L st.1), st.2)) with
      | inl f =>
        rw [hb] at R
        obtain ⟨j2, E2, w2, f2⟩ := R
        refine ⟨j2, ?_, w2, f2⟩
        simp (disch := omega) only [E2, hF, y_ckd, y_ck2d, y_ond, y_onn, y_oI, y_oIx, y_oJ, y_oV, y_oVx, y_oR, y_oRn, y_oRx, y_b0, y_b1, y_bi, y_bid, y_wIK, y_wIL, y_wII, y_wIJ, y_wIR, y_wIN, y_wIw, y_sI, ↓reduceIte, Nat.reduceEqDiff, eq_self, true_or, or_true, false_or, or_false, and_true, true_and, false_and, and_false, not_true, not_false_eq_true, tf_T, tf_F, y_up1, y_up2, y_xx, y_nx, y_sJ, y_sR, Int32.reduceLT, y_nxK, y_nxL, y_nxR, y_sJK, y_sJL, y_sJR, y_sJN, y_sRK, y_sRL, y_sRN, Nat.add_zero, z_nat, z_lit, z_lit0, z_lit1, z_in0, z_in1, z_addl0, z_lt, z_ltl, z_llt, z_inj, z_injl, z_add, z_addl, z_ladd, z_mul, z_mull, z_lmul, z_neg, z_negl, z_in, z_inl, z_ltT, z_ltF, z_eqF, z_10, z_01, z_litne, z_ne0, z_0ne, z_ne1, z_1ne, z_lt64, z_02, z_03, z_04, z_05, z_12, z_13, z_14, z_15, z_20, z_21, z_23, z_24, z_25, z_30, z_31, z_32, z_34, z_35, z_40, z_41, z_42, z_43, z_45, z_50, z_51, z_52, z_53, z_54]
      | inr sa =>
        rw [hb] at R
        obtain ⟨j2, E2, w2, p2, f2⟩ := R
        refine ⟨j2, ?_, w2, p2, f2⟩
        simp (disch := omega) only [E2, hF, y_ckd, y_ck2d, y_ond, y_onn, y_oI, y_oIx, y_oJ, y_oV, y_oVx, y_oR, y_oRn, y_oRx, y_b0, y_b1, y_bi, y_bid, y_wIK, y_wIL, y_wII, y_wIJ, y_wIR, y_wIN, y_wIw, y_sI, ↓reduceIte, Nat.reduceEqDiff, eq_self, true_or, or_true, false_or, or_false, and_true, true_and, false_and, and_false, not_true, not_false_eq_true, tf_T, tf_F, y_up1, y_up2, y_xx, y_nx, y_sJ, y_sR, Int32.reduceLT, y_nxK, y_nxL, y_nxR, y_sJK, y_sJL, y_sJR, y_sJN, y_sRK, y_sRL, y_sRN, Nat.add_zero, z_nat, z_lit, z_lit0, z_lit1, z_in0, z_in1, z_addl0, z_lt, z_ltl, z_llt, z_inj, z_injl, z_add, z_addl, z_ladd, z_mul, z_mull, z_lmul, z_neg, z_negl, z_in, z_inl, z_ltT, z_ltF, z_eqF, z_10, z_01, z_litne, z_ne0, z_0ne, z_ne1, z_1ne, z_lt64, z_02, z_03, z_04, z_05, z_12, z_13, z_14, z_15, z_20, z_21, z_23, z_24, z_25, z_30, z_31, z_32, z_34, z_35, z_40, z_41, z_42, z_43, z_45, z_50, z_51, z_52, z_53, z_54]
  rw [if_neg gn] at W ⊢
  have W6 := c_among (d := D + 1) hF hX hc hl t2 seg_6 (by decide) (by decide)
  have R := c_fact (d := D) hF hX hc hp h1 h2
  unfold simS
  rw [bk_205_0]
  cases hw : wix N (tb N L st.1) (lw N L (tb N L st.1)) [18, 19, 20, 21, 22] 0 with
  | none =>
    rw [hw] at W6
    dsimp only
    cases hb : fctS N L (tb N L st.1) st with
    | inl f =>
      rw [hb] at R
      obtain ⟨j2, E2, w2, f2⟩ := R
      refine ⟨j2, ?_, w2, f2⟩
      simp (disch := omega) only [k5, k6, W, S, W6, txn, E2, hF, y_ckd, y_ck2d, y_ond, y_onn, y_oI, y_oIx, y_oJ, y_oV, y_oVx, y_oR, y_oRn, y_oRx, y_b0, y_b1, y_bi, y_bid, y_wIK, y_wIL, y_wII, y_wIJ, y_wIR, y_wIN, y_wIw, y_sI, ↓reduceIte, Nat.reduceEqDiff, eq_self, true_or, or_true, false_or, or_false, and_true, true_and, false_and, and_false, not_true, not_false_eq_true, tf_T, tf_F, y_up1, y_up2, y_xx, y_nx, y_sJ, y_sR, Int32.reduceLT, y_nxK, y_nxL, y_nxR, y_sJK, y_sJL, y_sJR, y_sJN, y_sRK, y_sRL, y_sRN, Nat.add_zero, z_nat, z_lit, z_lit0, z_lit1, z_in0, z_in1, z_addl0, z_lt, z_ltl, z_llt, z_inj, z_injl, z_add, z_addl, z_ladd, z_mul, z_mull, z_lmul, z_neg, z_negl, z_in, z_inl, z_ltT, z_ltF, z_eqF, z_10, z_01, z_litne, z_ne0, z_0ne, z_ne1, z_1ne, z_lt64, z_02, z_03, z_04, z_05, z_12, z_13, z_14, z_15, z_20, z_21, z_23, z_24, z_25, z_30, z_31, z_32, z_34, z_35, z_40, z_41, z_42, z_43, z_45, z_50, z_51, z_52, z_53, z_54]
    | inr sa =>
      rw [hb] at R
      obtain ⟨j2, E2, w2, p2, f2⟩ := R
      refine ⟨j2, ?_, w2, p2, f2⟩
      simp (disch := omega) only [k5, k6, W, S, W6, txn, E2, hF, y_ckd, y_ck2d, y_ond, y_onn, y_oI, y_oIx, y_oJ, y_oV, y_oVx, y_oR, y_oRn, y_oRx, y_b0, y_b1, y_bi, y_bid, y_wIK, y_wIL, y_wII, y_wIJ, y_wIR, y_wIN, y_wIw, y_sI, ↓reduceIte, Nat.reduceEqDiff, eq_self, true_or, or_true, false_or, or_false, and_true, true_and, false_and, and_false, not_true, not_false_eq_true, tf_T, tf_F, y_up1, y_up2, y_xx, y_nx, y_sJ, y_sR, Int32.reduceLT, y_nxK, y_nxL, y_nxR, y_sJK, y_sJL, y_sJR, y_sJN, y_sRK, y_sRL, y_sRN, Nat.add_zero, z_nat, z_lit, z_lit0, z_lit1, z_in0, z_in1, z_addl0, z_lt, z_ltl, z_llt, z_inj, z_injl, z_add, z_addl, z_ladd, z_mul, z_mull, z_lmul, z_neg, z_negl, z_in, z_inl, z_ltT, z_ltF, z_eqF, z_10, z_01, z_litne, z_ne0, z_0ne, z_ne1, z_1ne, z_lt64, z_02, z_03, z_04, z_05, z_12, z_13, z_14, z_15, z_20, z_21, z_23, z_24, z_25, z_30, z_31, z_32, z_34, z_35, z_40, z_41, z_42, z_43, z_45, z_50, z_51, z_52, z_53, z_54]
  | some t =>
    rw [hw] at W6
    obtain ⟨a1, a2, a3⟩ := wix_lt (by decide) hw t2
    have a3 : t < 5 := a3
    have m1 := nom1 (f := t) (by omega)
    obtain ⟨j2, E2, s2, g2, k2, f2⟩ := c_addP (d := D + 1) (i := i) hF hs (by omega) (enc_tag t a3)
    have l2 := LD_fr hl k2
    have e23 : j2 65 3 = Int32.ofNat (lw N L (tb N L st.1)) := by rw [l2.1, tke_w a1]
    obtain ⟨j3, E3, l3, s3, g3, f3⟩ := c_nextP (d := D + 1) hF (CT_FRc hc f2) e23 a2 s2
    refine ⟨j3, ?_, g3.trans g2, ⟨l3, s3⟩, f2.tr f3⟩
    simp (disch := omega) only [k5, k6, W, S, W6, m1, txn, bk_176_0, hF, y_ckd, y_ck2d, y_ond, y_onn, y_oI, y_oIx, y_oJ, y_oV, y_oVx, y_oR, y_oRn, y_oRx, y_b0, y_b1, y_bi, y_bid, y_wIK, y_wIL, y_wII, y_wIJ, y_wIR, y_wIN, y_wIw, y_sI, ↓reduceIte, Nat.reduceEqDiff, eq_self, true_or, or_true, false_or, or_false, and_true, true_and, false_and, and_false, not_true, not_false_eq_true, tf_T, tf_F, y_up1, y_up2, y_xx, y_nx, y_sJ, y_sR, Int32.reduceLT, y_nxK, y_nxL, y_nxR, y_sJK, y_sJL, y_sJR, y_sJN, y_sRK, y_sRL, y_sRN, Nat.add_zero, z_nat, z_lit, z_lit0, z_lit1, z_in0, z_in1, z_addl0, z_lt, z_ltl, z_llt, z_inj, z_injl, z_add, z_addl, z_ladd, z_mul, z_mull, z_lmul, z_neg, z_negl, z_in, z_inl, z_ltT, z_ltF, z_eqF, z_10, z_01, z_litne, z_ne0, z_0ne, z_ne1, z_1ne, z_lt64, z_02, z_03, z_04, z_05, z_12, z_13, z_14, z_15, z_20, z_21, z_23, z_24, z_25, z_30, z_31, z_32, z_34, z_35, z_40, z_41, z_42, z_43, z_45, z_50, z_51, z_52, z_53, z_54]
    simp (disch := omega) only [E2, E3, hF, y_ckd, y_ck2d, y_ond, y_onn, y_oI, y_oIx, y_oJ, y_oV, y_oVx, y_oR, y_oRn, y_oRx, y_b0, y_b1, y_bi, y_bid, y_wIK, y_wIL, y_wII, y_wIJ, y_wIR, y_wIN, y_wIw, y_sI, ↓reduceIte, Nat.reduceEqDiff, eq_self, true_or, or_true, false_or, or_false, and_true, true_and, false_and, and_false, not_true, not_false_eq_true, tf_T, tf_F, y_up1, y_up2, y_xx, y_nx, y_sJ, y_sR, Int32.reduceLT, y_nxK, y_nxL, y_nxR, y_sJK, y_sJL, y_sJR, y_sJN, y_sRK, y_sRL, y_sRN, Nat.add_zero, z_nat, z_lit, z_lit0, z_lit1, z_in0, z_in1, z_addl0, z_lt, z_ltl, z_llt, z_inj, z_injl, z_add, z_addl, z_ladd, z_mul, z_mull, z_lmul, z_neg, z_negl, z_in, z_inl, z_ltT, z_ltF, z_eqF, z_10, z_01, z_litne, z_ne0, z_0ne, z_ne1, z_1ne, z_lt64, z_02, z_03, z_04, z_05, z_12, z_13, z_14, z_15, z_20, z_21, z_23, z_24, z_25, z_30, z_31, z_32, z_34, z_35, z_40, z_41, z_42, z_43, z_45, z_50, z_51, z_52, z_53, z_54]
theorem c_atm (hF : Fc B) : ∀ (r d : Nat), r ≤ 6 → CAt B N L (fun i => am_fx am_P (d + 4 * r + 2) 205 0 [some (.ref 65), some (.int (Int32.ofNat (6 - r))), none, none] [] (am_wI B i)) (atm N L r)
  | 0, d, _ => c_atL (D := d) hF 6 (by omega) (fun _ => ⟨rfl, rfl⟩) fun q => absurd q (by omega)
  | r + 1, d, hr => by
    have h := c_atL (B := B) (N := N) (L := L) (D := d + 4 * r + 4) (A := some (atm N L r)) (C := some (cndS N L (atm N L r))) hF (6 - (r + 1)) (by omega) (fun q => absurd q (by omega)) fun _ => by
      have hA := c_atm hF r (d + 2) (by omega)
      have hA2 := c_atm hF r d (by omega)
      rw [show 6 - (r + 1) + 1 = 6 - r by omega]
      refine ⟨_, _, 2 * r + 1, 2 * r + 1 + 2, rfl, rfl, ?_, atm_pr r, ?_, cndS_pr (atm_pr r) (by omega)⟩
      · rw [show d + 4 * r + 4 = d + 2 + 4 * r + 2 by omega]
        exact hA
      · rw [show d + 4 * r + 4 = d + 4 * r + 1 + 1 + 1 + 1 by omega]
        rw [show d + 4 * r + 2 = d + 4 * r + 1 + 1 by omega] at hA2
        exact c_cnd hF (c_all hF hA2 (atm_pr r)) (allS_pr (atm_pr r) (by omega))
    rw [show d + 4 * (r + 1) + 2 = d + 4 * r + 4 + 1 + 1 by omega]
    exact h
/-- the whole condition -/
theorem c_cond (hF : Fc B) : CAt B N L (fun i => am_fx am_P (d + 28) 203 0 [some (.ref 65), some (.int (0)), none] [] (am_wI B i)) (cndS N L (atm N L 6)) := by
  have hA := c_atm (B := B) (N := N) (L := L) hF 6 d (Nat.le_refl _)
  exact c_cnd hF (c_all hF hA (atm_pr 6)) (allS_pr (atm_pr 6) (by omega))
end ClsD
