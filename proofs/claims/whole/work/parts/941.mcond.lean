/-! TEXTS ON THE TAPE, the model: a condition, all of it. Made by wip/whole/math/941.py. -/
section ModD
variable {B : am_A} {i j k : Nat → Nat → Int32} {N : Nat → Nat} {d D L H K y p b e q n s f c : Nat} {u : Nat → Int32} {st : PS} {x : am_X} {r : PR}
theorem m_atL {A C : Option (PS → PR)} (hM : Md B) (hy : y ≤ 6) (hL : L ≤ 400) (h6 : y = 6 → A = none ∧ C = none) (hlt : y < 6 → ∃ A' C' H K, A = some A' ∧ C = some C' ∧ MAt B N L (y + 1) (fun i => am_fx am_P (D + 3) 50 0 [some (.ref 874), none, none, none, none] [] (am_wI B i)) A' ∧ Pr L H A' ∧ MAt B N L (y + 1) (fun i => am_fx am_P (D + 3) 52 0 [some (.ref 874)] [] (am_wI B i)) C' ∧ Pr L K C') : MAt B N L y (fun i => am_fx am_P (D + 3 + 1) 50 0 [some (.ref 874), none, none, none, none] [] (am_wI B i)) (atL N L A C) := by
  intro i st hX hc hp h1 h2 h11
  dsimp only
  obtain ⟨t1, t2⟩ := tb_bnd (N := N) (L := L) h1
  have ttb : tb N L (tb N L st.1) = tb N L st.1 := tb_tb
  obtain ⟨j1, E1, a8, a10, f1⟩ := m_sgn (d := D + 1) (c := 40) (n := 40) hM hc hp.1 h1 rfl (by omega)
  have f1 : Mv i j1 := f1
  have c1 := MT_Mv hc f1
  have x1 := Stx_Mv hX f1
  have g11 : j1 874 11 = Int32.ofNat y := (f1 _ _ (by omega)).trans h11
  unfold atL
  by_cases g : tb N L st.1 < L ∧ N (tb N L st.1) = 40
  · rw [if_pos g] at E1 a8 ⊢
    by_cases g6 : y = 6
    · obtain ⟨hA, hC⟩ := h6 g6
      subst hC
      refine MO_bad (j := j1) ?_ f1 a10
      rw [g6] at g11
      have g11 : j1 874 11 = 6 := g11
      rw [bk_50_0]
      simp (disch := omega) only [E1, g11, z_39, z_390, hM, y_ckd, y_ck2d, y_ond, y_onn, y_oI, y_oIx, y_oJ, y_oV, y_oVx, y_oR, y_oRn, y_oRx, y_b0, y_b1, y_bi, y_bid, y_wIK, y_wIL, y_wII, y_wIJ, y_wIR, y_wIN, y_wIw, y_sI, ↓reduceIte, Nat.reduceEqDiff, eq_self, true_or, or_true, false_or, or_false, and_true, true_and, false_and, and_false, not_true, not_false_eq_true, tf_T, tf_F, y_up1, y_up2, y_xx, y_nx, y_sJ, y_sR, Int32.reduceLT, y_nxK, y_nxL, y_nxR, y_sJK, y_sJL, y_sJR, y_sJN, y_sRK, y_sRL, y_sRN, Nat.add_zero, z_nat, z_lit, z_lit0, z_lit1, z_in0, z_in1, z_addl0, z_lt, z_ltl, z_llt, z_inj, z_injl, z_add, z_addl, z_ladd, z_mul, z_mull, z_lmul, z_neg, z_negl, z_in, z_inl, z_ltT, z_ltF, z_eqF, z_10, z_01, z_litne, z_ne0, z_0ne, z_ne1, z_1ne, z_lt64, z_02, z_03, z_04, z_05, z_12, z_13, z_14, z_15, z_20, z_21, z_23, z_24, z_25, z_30, z_31, z_32, z_34, z_35, z_40, z_41, z_42, z_43, z_45, z_50, z_51, z_52, z_53, z_54]
    · obtain ⟨A', C', H, K, hA, hC, -, -, cC, pC⟩ := hlt (by omega)
      subst hC
      have n6 : ¬ Int32.ofNat y = 6 := fun q => g6 (by rw [z_injl (by omega) (by decide)] at q; exact q)
      refine MO_mv f1 ?_
      have p1 := MP_Mv hp f1 a8
      have p2 : MP (am_up2 j1 874 11 (Int32.ofNat (y + 1))) (tb N L st.1 + 1, st.2) := ⟨(y_up2 (by omega)).trans p1.1, (y_up2 (by omega)).trans p1.2.1, fun z => (y_up2 (by omega)).trans (p1.2.2 z)⟩
      have f2 : FRm j1 (am_up2 j1 874 11 (Int32.ofNat (y + 1))) := fun q k h1 h2 => y_up2 (by omega)
      have R := cC (am_up2 j1 874 11 (Int32.ofNat (y + 1))) (tb N L st.1 + 1, st.2) (Stx_FRm x1 f2) (MT_FRm c1 f2) p2 (by show tb N L st.1 + 1 ≤ L; omega) (by show st.2.1 ≤ tb N L st.1 + 1; omega) (y_up1 rfl rfl)
      dsimp only at R ⊢
      cases hr : C' (tb N L st.1 + 1, st.2) with
      | inl f =>
        rw [hr] at R
        obtain ⟨j3, E3, b10, f3, z3⟩ := R
        refine ⟨j3, ?_, b10, f2.tr f3, fun z hz => (z3 z hz).trans (y_up2 (by omega))⟩
        rw [bk_50_0]
        simp (disch := omega) only [E1, g11, n6, E3, z_39, z_390, hM, y_ckd, y_ck2d, y_ond, y_onn, y_oI, y_oIx, y_oJ, y_oV, y_oVx, y_oR, y_oRn, y_oRx, y_b0, y_b1, y_bi, y_bid, y_wIK, y_wIL, y_wII, y_wIJ, y_wIR, y_wIN, y_wIw, y_sI, ↓reduceIte, Nat.reduceEqDiff, eq_self, true_or, or_true, false_or, or_false, and_true, true_and, false_and, and_false, not_true, not_false_eq_true, tf_T, tf_F, y_up1, y_up2, y_xx, y_nx, y_sJ, y_sR, Int32.reduceLT, y_nxK, y_nxL, y_nxR, y_sJK, y_sJL, y_sJR, y_sJN, y_sRK, y_sRL, y_sRN, Nat.add_zero, z_nat, z_lit, z_lit0, z_lit1, z_in0, z_in1, z_addl0, z_lt, z_ltl, z_llt, z_inj, z_injl, z_add, z_addl, z_ladd, z_mul, z_mull, z_lmul, z_neg, z_negl, z_in, z_inl, z_ltT, z_ltF, z_eqF, z_10, z_01, z_litne, z_ne0, z_0ne, z_ne1, z_1ne, z_lt64, z_02, z_03, z_04, z_05, z_12, z_13, z_14, z_15, z_20, z_21, z_23, z_24, z_25, z_30, z_31, z_32, z_34, z_35, z_40, z_41, z_42, z_43, z_45, z_50, z_51, z_52, z_53, z_54]
      | inr sa =>
        rw [hr] at R
        obtain ⟨j3, E3, p3, b11, f3⟩ := R
        obtain ⟨b1, b2, b3, b4, b5, -⟩ := pC _ sa (by show tb N L st.1 + 1 ≤ L; omega) hr
        dsimp only at b2 b3 b4 b5
        have b11 : j3 874 11 = Int32.ofNat (y + 1) := b11.trans (y_up1 rfl rfl)
        have f4 : FRm j3 (am_up2 j3 874 11 (Int32.ofNat y)) := fun q k h1 h2 => y_up2 (by omega)
        have p4 : MP (am_up2 j3 874 11 (Int32.ofNat y)) sa := ⟨(y_up2 (by omega)).trans p3.1, (y_up2 (by omega)).trans p3.2.1, fun z => (y_up2 (by omega)).trans (p3.2.2 z)⟩
        have fa := (f2.tr f3).tr f4
        obtain ⟨j5, E5, d8, d10, f5⟩ := m_sgn (d := D + 1) (c := 41) (n := 41) hM (MT_FRm c1 fa) p4.1 b1 rfl (by omega)
        have f5 : Mv (am_up2 j3 874 11 (Int32.ofNat y)) j5 := f5
        have ey : Int32.ofNat (y + 1) - 1 = Int32.ofNat y := z_sub (b := 1) (by omega)
        have e50 : am_fx am_P (D + 3 + 1) 50 0 [some (.ref 874), none, none, none, none] [] (am_wI B i) = am_oI (am_fx am_P (D + 3) 44 0 [some (.ref 874), some (.int 41)] [] (am_wI B (am_up2 j3 874 11 (Int32.ofNat y)))) (fun e A => some (.inr e, A)) (fun v A => am_b v (some (.inl (some (.int v)), A))) := by
          rw [bk_50_0]
          simp (disch := omega) only [E1, g11, n6, E3, b11, ey, z_39, z_390, hM, y_ckd, y_ck2d, y_ond, y_onn, y_oI, y_oIx, y_oJ, y_oV, y_oVx, y_oR, y_oRn, y_oRx, y_b0, y_b1, y_bi, y_bid, y_wIK, y_wIL, y_wII, y_wIJ, y_wIR, y_wIN, y_wIw, y_sI, ↓reduceIte, Nat.reduceEqDiff, eq_self, true_or, or_true, false_or, or_false, and_true, true_and, false_and, and_false, not_true, not_false_eq_true, tf_T, tf_F, y_up1, y_up2, y_xx, y_nx, y_sJ, y_sR, Int32.reduceLT, y_nxK, y_nxL, y_nxR, y_sJK, y_sJL, y_sJR, y_sJN, y_sRK, y_sRL, y_sRN, Nat.add_zero, z_nat, z_lit, z_lit0, z_lit1, z_in0, z_in1, z_addl0, z_lt, z_ltl, z_llt, z_inj, z_injl, z_add, z_addl, z_ladd, z_mul, z_mull, z_lmul, z_neg, z_negl, z_in, z_inl, z_ltT, z_ltF, z_eqF, z_10, z_01, z_litne, z_ne0, z_0ne, z_ne1, z_1ne, z_lt64, z_02, z_03, z_04, z_05, z_12, z_13, z_14, z_15, z_20, z_21, z_23, z_24, z_25, z_30, z_31, z_32, z_34, z_35, z_40, z_41, z_42, z_43, z_45, z_50, z_51, z_52, z_53, z_54]
        have lo : ∀ z, z < 12042 → j5 875 z = j1 875 z := fun z hz => by rw [f5 _ _ (by omega), p4.2.2 z, b5 z (by omega), ← p1.2.2 z]
        rw [e50, E5]
        unfold brkS
        dsimp only
        by_cases q : tb N L sa.1 < L ∧ N (tb N L sa.1) = 41
        · rw [if_pos q, if_pos q]
          rw [if_pos q] at d8
          refine ⟨j5, ?_, MP_Mv p4 f5 d8, ?_, fa.tr f5.fr⟩
          · simp (disch := omega) only [y_ckd, y_ck2d, y_ond, y_onn, y_oI, y_oIx, y_oJ, y_oV, y_oVx, y_oR, y_oRn, y_oRx, y_b0, y_b1, y_bi, y_bid, y_wIK, y_wIL, y_wII, y_wIJ, y_wIR, y_wIN, y_wIw, y_sI, ↓reduceIte, Nat.reduceEqDiff, eq_self, true_or, or_true, false_or, or_false, and_true, true_and, false_and, and_false, not_true, not_false_eq_true, tf_T, tf_F, y_up1, y_up2, y_xx, y_nx, y_sJ, y_sR, Int32.reduceLT, y_nxK, y_nxL, y_nxR, y_sJK, y_sJL, y_sJR, y_sJN, y_sRK, y_sRL, y_sRN, Nat.add_zero, z_nat, z_lit, z_lit0, z_lit1, z_in0, z_in1, z_addl0, z_lt, z_ltl, z_llt, z_inj, z_injl, z_add, z_addl, z_ladd, z_mul, z_mull, z_lmul, z_neg, z_negl, z_in, z_inl, z_ltT, z_ltF, z_eqF, z_10, z_01, z_litne, z_ne0, z_0ne, z_ne1, z_1ne, z_lt64, z_02, z_03, z_04, z_05, z_12, z_13, z_14, z_15, z_20, z_21, z_23, z_24, z_25, z_30, z_31, z_32, z_34, z_35, z_40, z_41, z_42, z_43, z_45, z_50, z_51, z_52, z_53, z_54]
          · rw [f5 _ _ (by omega), y_up1 rfl rfl, g11]
        · rw [if_neg q, if_neg q]
          refine ⟨j5, ?_, d10, fa.tr f5.fr, lo⟩
          simp (disch := omega) only [y_ckd, y_ck2d, y_ond, y_onn, y_oI, y_oIx, y_oJ, y_oV, y_oVx, y_oR, y_oRn, y_oRx, y_b0, y_b1, y_bi, y_bid, y_wIK, y_wIL, y_wII, y_wIJ, y_wIR, y_wIN, y_wIw, y_sI, ↓reduceIte, Nat.reduceEqDiff, eq_self, true_or, or_true, false_or, or_false, and_true, true_and, false_and, and_false, not_true, not_false_eq_true, tf_T, tf_F, y_up1, y_up2, y_xx, y_nx, y_sJ, y_sR, Int32.reduceLT, y_nxK, y_nxL, y_nxR, y_sJK, y_sJL, y_sJR, y_sJN, y_sRK, y_sRL, y_sRN, Nat.add_zero, z_nat, z_lit, z_lit0, z_lit1, z_in0, z_in1, z_addl0, z_lt, z_ltl, z_llt, z_inj, z_injl, z_add, z_addl, z_ladd, z_mul, z_mull, z_lmul, z_neg, z_negl, z_in, z_inl, z_ltT, z_ltF, z_eqF, z_10, z_01, z_litne, z_ne0, z_0ne, z_ne1, z_1ne, z_lt64, z_02, z_03, z_04, z_05, z_12, z_13, z_14, z_15, z_20, z_21, z_23, z_24, z_25, z_30, z_31, z_32, z_34, z_35, z_40, z_41, z_42, z_43, z_45, z_50, z_51, z_52, z_53, z_54]
  rw [if_neg g] at E1 a8
  by_cases gn : isw N (tb N L st.1) (lw N L (tb N L st.1)) (sx 5)
  rotate_left
  · rw [if_neg g, if_neg gn]
    exact m_sim (d := D) hM hX hc hp h1 h2 g gn
  rw [if_neg g, if_pos gn]
  obtain ⟨l1, l2, l3⟩ := isw_lt gn (by decide) t2
  obtain ⟨j2, E2, b8, b10, f2⟩ := m_passes (d := D) hM x1 c1 a8 t2 (q := 5) (by omega) (sxs 5 (by omega) (by omega))
  have f2 : Mv j1 j2 := f2
  rw [ttb] at E2 b8 b10
  rw [if_pos gn] at E2 b8
  have f12 := f1.tr f2
  have c2 := MT_Mv hc f12
  have x2 := Stx_Mv hX f12
  have g11 : j2 874 11 = Int32.ofNat y := (f12 _ _ (by omega)).trans h11
  have k5 := (hX 5 (by omega) (by omega)).1
  by_cases g6 : y = 6
  · obtain ⟨hA, hC⟩ := h6 g6
    subst hA
    refine MO_bad (j := j2) ?_ f12 b10
    rw [g6] at g11
    have g11 : j2 874 11 = 6 := g11
    rw [bk_50_0]
    simp (disch := omega) only [k5, E1, E2, g11, z_39, z_390, hM, y_ckd, y_ck2d, y_ond, y_onn, y_oI, y_oIx, y_oJ, y_oV, y_oVx, y_oR, y_oRn, y_oRx, y_b0, y_b1, y_bi, y_bid, y_wIK, y_wIL, y_wII, y_wIJ, y_wIR, y_wIN, y_wIw, y_sI, ↓reduceIte, Nat.reduceEqDiff, eq_self, true_or, or_true, false_or, or_false, and_true, true_and, false_and, and_false, not_true, not_false_eq_true, tf_T, tf_F, y_up1, y_up2, y_xx, y_nx, y_sJ, y_sR, Int32.reduceLT, y_nxK, y_nxL, y_nxR, y_sJK, y_sJL, y_sJR, y_sJN, y_sRK, y_sRL, y_sRN, Nat.add_zero, z_nat, z_lit, z_lit0, z_lit1, z_in0, z_in1, z_addl0, z_lt, z_ltl, z_llt, z_inj, z_injl, z_add, z_addl, z_ladd, z_mul, z_mull, z_lmul, z_neg, z_negl, z_in, z_inl, z_ltT, z_ltF, z_eqF, z_10, z_01, z_litne, z_ne0, z_0ne, z_ne1, z_1ne, z_lt64, z_02, z_03, z_04, z_05, z_12, z_13, z_14, z_15, z_20, z_21, z_23, z_24, z_25, z_30, z_31, z_32, z_34, z_35, z_40, z_41, z_42, z_43, z_45, z_50, z_51, z_52, z_53, z_54]
  · obtain ⟨A', C', H, K, hA, hC, cA, pA, -, -⟩ := hlt (by omega)
    subst hA
    have n6 : ¬ Int32.ofNat y = 6 := fun q => g6 (by rw [z_injl (by omega) (by decide)] at q; exact q)
    refine MO_mv f12 ?_
    have p1 := MP_Mv hp f12 b8
    have p2 : MP (am_up2 j2 874 11 (Int32.ofNat (y + 1))) (lw N L (tb N L st.1), st.2) := ⟨(y_up2 (by omega)).trans p1.1, (y_up2 (by omega)).trans p1.2.1, fun z => (y_up2 (by omega)).trans (p1.2.2 z)⟩
    have f3 : FRm j2 (am_up2 j2 874 11 (Int32.ofNat (y + 1))) := fun q k h1 h2 => y_up2 (by omega)
    have R := cA (am_up2 j2 874 11 (Int32.ofNat (y + 1))) (lw N L (tb N L st.1), st.2) (Stx_FRm x2 f3) (MT_FRm c2 f3) p2 l2 (by show st.2.1 ≤ lw N L (tb N L st.1); omega) (y_up1 rfl rfl)
    dsimp only at R ⊢
    cases hr : A' (lw N L (tb N L st.1), st.2) with
    | inl f =>
      rw [hr] at R
      obtain ⟨j4, E4, d10, f4, z4⟩ := R
      refine ⟨j4, ?_, d10, f3.tr f4, fun z hz => (z4 z hz).trans (y_up2 (by omega))⟩
      rw [bk_50_0]
      simp (disch := omega) only [k5, E1, E2, g11, n6, E4, z_39, z_390, hM, y_ckd, y_ck2d, y_ond, y_onn, y_oI, y_oIx, y_oJ, y_oV, y_oVx, y_oR, y_oRn, y_oRx, y_b0, y_b1, y_bi, y_bid, y_wIK, y_wIL, y_wII, y_wIJ, y_wIR, y_wIN, y_wIw, y_sI, ↓reduceIte, Nat.reduceEqDiff, eq_self, true_or, or_true, false_or, or_false, and_true, true_and, false_and, and_false, not_true, not_false_eq_true, tf_T, tf_F, y_up1, y_up2, y_xx, y_nx, y_sJ, y_sR, Int32.reduceLT, y_nxK, y_nxL, y_nxR, y_sJK, y_sJL, y_sJR, y_sJN, y_sRK, y_sRL, y_sRN, Nat.add_zero, z_nat, z_lit, z_lit0, z_lit1, z_in0, z_in1, z_addl0, z_lt, z_ltl, z_llt, z_inj, z_injl, z_add, z_addl, z_ladd, z_mul, z_mull, z_lmul, z_neg, z_negl, z_in, z_inl, z_ltT, z_ltF, z_eqF, z_10, z_01, z_litne, z_ne0, z_0ne, z_ne1, z_1ne, z_lt64, z_02, z_03, z_04, z_05, z_12, z_13, z_14, z_15, z_20, z_21, z_23, z_24, z_25, z_30, z_31, z_32, z_34, z_35, z_40, z_41, z_42, z_43, z_45, z_50, z_51, z_52, z_53, z_54]
    | inr sa =>
      rw [hr] at R
      obtain ⟨j4, E4, p4, b11, f4⟩ := R
      obtain ⟨b1, b2, b3, b4, b5, -⟩ := pA _ sa l2 hr
      dsimp only at b2 b3 b4 b5
      have b11 : j4 874 11 = Int32.ofNat (y + 1) := b11.trans (y_up1 rfl rfl)
      have f5 : FRm j4 (am_up2 j4 874 11 (Int32.ofNat y)) := fun q k h1 h2 => y_up2 (by omega)
      have p5 : MP (am_up2 j4 874 11 (Int32.ofNat y)) sa := ⟨(y_up2 (by omega)).trans p4.1, (y_up2 (by omega)).trans p4.2.1, fun z => (y_up2 (by omega)).trans (p4.2.2 z)⟩
      obtain ⟨j6, E6, p6, d11, f6⟩ := MO_emit (d := D + 2) (a := 300) (c := 0) hM p5.1 p5.2.1 (by omega) p5.2.2
      have ey : Int32.ofNat (y + 1) - 1 = Int32.ofNat y := z_sub (b := 1) (by omega)
      refine ⟨j6, ?_, p6, ?_, ((f3.tr f4).tr f5).tr f6⟩
      · rw [bk_50_0]
        simp (disch := omega) only [k5, E1, E2, g11, n6, E4, b11, ey, E6, z_39, z_390, hM, y_ckd, y_ck2d, y_ond, y_onn, y_oI, y_oIx, y_oJ, y_oV, y_oVx, y_oR, y_oRn, y_oRx, y_b0, y_b1, y_bi, y_bid, y_wIK, y_wIL, y_wII, y_wIJ, y_wIR, y_wIN, y_wIw, y_sI, ↓reduceIte, Nat.reduceEqDiff, eq_self, true_or, or_true, false_or, or_false, and_true, true_and, false_and, and_false, not_true, not_false_eq_true, tf_T, tf_F, y_up1, y_up2, y_xx, y_nx, y_sJ, y_sR, Int32.reduceLT, y_nxK, y_nxL, y_nxR, y_sJK, y_sJL, y_sJR, y_sJN, y_sRK, y_sRL, y_sRN, Nat.add_zero, z_nat, z_lit, z_lit0, z_lit1, z_in0, z_in1, z_addl0, z_lt, z_ltl, z_llt, z_inj, z_injl, z_add, z_addl, z_ladd, z_mul, z_mull, z_lmul, z_neg, z_negl, z_in, z_inl, z_ltT, z_ltF, z_eqF, z_10, z_01, z_litne, z_ne0, z_0ne, z_ne1, z_1ne, z_lt64, z_02, z_03, z_04, z_05, z_12, z_13, z_14, z_15, z_20, z_21, z_23, z_24, z_25, z_30, z_31, z_32, z_34, z_35, z_40, z_41, z_42, z_43, z_45, z_50, z_51, z_52, z_53, z_54]
      · rw [d11, y_up1 rfl rfl, g11]
theorem m_atm (hM : Md B) (hL : L ≤ 400) : ∀ (r d : Nat), r ≤ 6 → MAt B N L (6 - r) (fun i => am_fx am_P (d + 3 * r + 3 + 1) 50 0 [some (.ref 874), none, none, none, none] [] (am_wI B i)) (atm N L r)
  | 0, d, _ => m_atL (D := d) hM (by omega) hL (fun _ => ⟨rfl, rfl⟩) fun q => absurd q (by omega)
  | r + 1, d, hr => by
    have h := m_atL (B := B) (N := N) (L := L) (D := d + 3 * r + 3) (y := 6 - (r + 1)) (A := some (atm N L r)) (C := some (cndS N L (atm N L r))) hM (by omega) hL (fun q => absurd q (by omega)) fun _ => by
      have hA := m_atm hM hL r (d + 2) (by omega)
      have hA2 := m_atm hM hL r d (by omega)
      rw [show 6 - (r + 1) + 1 = 6 - r by omega]
      refine ⟨_, _, 2 * r + 1, 2 * r + 1 + 2, rfl, rfl, ?_, atm_pr r, ?_, cndS_pr (atm_pr r) (by omega)⟩
      · rw [show d + 3 * r + 3 + 3 = d + 2 + 3 * r + 3 + 1 by omega]
        exact hA
      · rw [show d + 3 * r + 3 + 3 = d + 3 * r + 2 + 3 + 1 by omega]
        rw [show d + 3 * r + 3 + 1 = d + 3 * r + 1 + 3 by omega] at hA2
        have hB := m_hd51 (D := d + 3 * r + 1) hM hA2 (atm_pr r) hL
        rw [show d + 3 * r + 1 + 3 + 1 = d + 3 * r + 2 + 3 by omega] at hB
        exact m_hd52 (D := d + 3 * r + 2) hM hB (allS_pr (atm_pr r) (by omega)) hL
    rw [show d + 3 * (r + 1) + 3 + 1 = d + 3 * r + 3 + 3 + 1 by omega]
    exact h
/-- the whole condition -/
theorem m_cond (hM : Md B) (hL : L ≤ 400) : MAt B N L 0 (fun i => am_fx am_P (d + 20 + 3 + 1) 52 0 [some (.ref 874)] [] (am_wI B i)) (cndS N L (atm N L 6)) := by
  have hA2 := m_atm (B := B) (N := N) (L := L) hM hL 6 d (Nat.le_refl _)
  rw [show d + 3 * 6 + 3 + 1 = d + 19 + 3 by omega] at hA2
  have hB := m_hd51 (D := d + 19) hM hA2 (atm_pr 6) hL
  rw [show d + 19 + 3 + 1 = d + 20 + 3 by omega] at hB
  exact m_hd52 (D := d + 20) hM hB (allS_pr (atm_pr 6) (by omega)) hL
end ModD
