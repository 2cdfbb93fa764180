/-! TEXTS ON THE TAPE, the model: the end of an atom. Made by wip/whole/math/939.py. -/
section ModB
variable {B : am_A} {i j k : Nat → Nat → Int32} {N : Nat → Nat} {d L p b e q n s f c : Nat} {u : Nat → Int32} {st : PS} {x : am_X} {r : PR} {qs : List Nat}
theorem m_fac306 {x3 : Int32} (hM : Md B) (hc : MT N L i) (e8 : i 874 8 = Int32.ofNat (b + 1)) (hb : b < L) (hs : i 874 14 = Int32.ofNat st.2.1) (hu : ∀ z, i 875 z = st.2.2 z) (h4 : st.2.1 < 400) (hx : (x3 = 0 ∧ c = 200) ∨ (x3 = 1 ∧ c = 100)) (hf : f < 6) : MO B i (am_fx am_P (d + 3 + 1) 50 306 [some (.ref 874), none, some (.int (Int32.ofNat f)), some (.int x3), none] [] (am_wI B i)) (facS N L c f b st) := by
  obtain ⟨j1, E1, a8, a10, m1⟩ := m_num (d := d + 1) (c := 99999) (hi := 99999) hM hc e8 (by omega) rfl (by omega)
  have f1 : Mv i j1 := m1
  unfold facS
  rw [bk_50_306]
  cases hn : num N L (tb N L (b + 1)) 99999 with
  | none =>
    rw [hn] at E1
    refine MO_bad (j := j1) ?_ f1 a10
    have nn : (-1 : Int32) < 0 := by decide
    simp (disch := omega) only [E1, txn, nn, hM, y_ckd, y_ck2d, y_ond, y_onn, y_oI, y_oIx, y_oJ, y_oV, y_oVx, y_oR, y_oRn, y_oRx, y_b0, y_b1, y_bi, y_bid, y_wIK, y_wIL, y_wII, y_wIJ, y_wIR, y_wIN, y_wIw, y_sI, ↓reduceIte, Nat.reduceEqDiff, eq_self, true_or, or_true, false_or, or_false, and_true, true_and, false_and, and_false, not_true, not_false_eq_true, tf_T, tf_F, y_up1, y_up2, y_xx, y_nx, y_sJ, y_sR, Int32.reduceLT, y_nxK, y_nxL, y_nxR, y_sJK, y_sJL, y_sJR, y_sJN, y_sRK, y_sRL, y_sRN, Nat.add_zero, z_nat, z_lit, z_lit0, z_lit1, z_in0, z_in1, z_addl0, z_lt, z_ltl, z_llt, z_inj, z_injl, z_add, z_addl, z_ladd, z_mul, z_mull, z_lmul, z_neg, z_negl, z_in, z_inl, z_ltT, z_ltF, z_eqF, z_10, z_01, z_litne, z_ne0, z_0ne, z_ne1, z_1ne, z_lt64, z_02, z_03, z_04, z_05, z_12, z_13, z_14, z_15, z_20, z_21, z_23, z_24, z_25, z_30, z_31, z_32, z_34, z_35, z_40, z_41, z_42, z_43, z_45, z_50, z_51, z_52, z_53, z_54]
  | some v =>
    rw [hn] at E1
    obtain ⟨n1, n2, n3⟩ := num_ok hn (rn_le (by omega : b + 1 ≤ L))
    refine MO_mv f1 ?_
    obtain ⟨j2, E2, p2, g2, f2⟩ := MO_emit (d := d + 2) (a := Int32.ofNat (c + f)) (c := Int32.ofNat v) (u := st.2.2) (s := st.2.1) hM a8 ((f1 _ _ (by omega)).trans hs) h4 (fun z => (f1 _ _ (by omega)).trans (hu z))
    refine ⟨j2, ?_, p2, g2, f2⟩
    rcases hx with ⟨h0, h1⟩ | ⟨h0, h1⟩
    · subst h0
      subst h1
      simp (disch := omega) only [E1, txn, bk_50_334, E2, hM, y_ckd, y_ck2d, y_ond, y_onn, y_oI, y_oIx, y_oJ, y_oV, y_oVx, y_oR, y_oRn, y_oRx, y_b0, y_b1, y_bi, y_bid, y_wIK, y_wIL, y_wII, y_wIJ, y_wIR, y_wIN, y_wIw, y_sI, ↓reduceIte, Nat.reduceEqDiff, eq_self, true_or, or_true, false_or, or_false, and_true, true_and, false_and, and_false, not_true, not_false_eq_true, tf_T, tf_F, y_up1, y_up2, y_xx, y_nx, y_sJ, y_sR, Int32.reduceLT, y_nxK, y_nxL, y_nxR, y_sJK, y_sJL, y_sJR, y_sJN, y_sRK, y_sRL, y_sRN, Nat.add_zero, z_nat, z_lit, z_lit0, z_lit1, z_in0, z_in1, z_addl0, z_lt, z_ltl, z_llt, z_inj, z_injl, z_add, z_addl, z_ladd, z_mul, z_mull, z_lmul, z_neg, z_negl, z_in, z_inl, z_ltT, z_ltF, z_eqF, z_10, z_01, z_litne, z_ne0, z_0ne, z_ne1, z_1ne, z_lt64, z_02, z_03, z_04, z_05, z_12, z_13, z_14, z_15, z_20, z_21, z_23, z_24, z_25, z_30, z_31, z_32, z_34, z_35, z_40, z_41, z_42, z_43, z_45, z_50, z_51, z_52, z_53, z_54]
    · subst h0
      subst h1
      simp (disch := omega) only [E1, txn, bk_50_334, z_39, z_390, E2, hM, y_ckd, y_ck2d, y_ond, y_onn, y_oI, y_oIx, y_oJ, y_oV, y_oVx, y_oR, y_oRn, y_oRx, y_b0, y_b1, y_bi, y_bid, y_wIK, y_wIL, y_wII, y_wIJ, y_wIR, y_wIN, y_wIw, y_sI, ↓reduceIte, Nat.reduceEqDiff, eq_self, true_or, or_true, false_or, or_false, and_true, true_and, false_and, and_false, not_true, not_false_eq_true, tf_T, tf_F, y_up1, y_up2, y_xx, y_nx, y_sJ, y_sR, Int32.reduceLT, y_nxK, y_nxL, y_nxR, y_sJK, y_sJL, y_sJR, y_sJN, y_sRK, y_sRL, y_sRN, Nat.add_zero, z_nat, z_lit, z_lit0, z_lit1, z_in0, z_in1, z_addl0, z_lt, z_ltl, z_llt, z_inj, z_injl, z_add, z_addl, z_ladd, z_mul, z_mull, z_lmul, z_neg, z_negl, z_in, z_inl, z_ltT, z_ltF, z_eqF, z_10, z_01, z_litne, z_ne0, z_0ne, z_ne1, z_1ne, z_lt64, z_02, z_03, z_04, z_05, z_12, z_13, z_14, z_15, z_20, z_21, z_23, z_24, z_25, z_30, z_31, z_32, z_34, z_35, z_40, z_41, z_42, z_43, z_45, z_50, z_51, z_52, z_53, z_54]
theorem m_sim (hM : Md B) (hX : Stx B i) (hc : MT N L i) (hp : MP i st) (h1 : st.1 ≤ L) (h2 : st.2.1 ≤ st.1) (g1 : ¬ (tb N L st.1 < L ∧ N (tb N L st.1) = 40)) (g2 : ¬ isw N (tb N L st.1) (lw N L (tb N L st.1)) (sx 5)) : MO B i (am_fx am_P (d + 3 + 1) 50 0 [some (.ref 874), none, none, none, none] [] (am_wI B i)) (simS N L (tb N L st.1) st) := by
  have l400 := hc.2.1
  obtain ⟨e8, e14, eu⟩ := hp
  obtain ⟨t1, t2⟩ := tb_bnd (N := N) (L := L) h1
  have ttb : tb N L (tb N L st.1) = tb N L st.1 := tb_tb
  obtain ⟨j1, E1, a8, a10, f1⟩ := m_sgn (d := d + 1) (c := 40) (n := 40) hM hc e8 h1 rfl (by omega)
  have f1 : Mv i j1 := f1
  rw [if_neg g1] at E1 a8
  have c1 := MT_Mv hc f1
  have x1 := Stx_Mv hX f1
  obtain ⟨j2, E2, b8, b10, f2⟩ := m_passes (d := d) hM x1 c1 a8 t2 (q := 5) (by omega) (sxs 5 (by omega) (by omega))
  have f2 : Mv j1 j2 := f2
  rw [ttb] at E2 b8 b10
  rw [if_neg g2] at E2 b8
  have c2 := MT_Mv c1 f2
  have x2 := Stx_Mv x1 f2
  obtain ⟨j3, E3, d8, d10, f3⟩ := m_word (d := d + 1) hM c2 b8 t2
  have f3 : Mv j2 j3 := f3
  rw [ttb] at d8 d10
  have c3 := MT_Mv c2 f3
  have x3 := Stx_Mv x2 f3
  have fa := (f1.tr f2).tr f3
  have le : lw N L (tb N L st.1) ≤ L := rn_le t2
  have T := m_tags (d := d) hM x3 c3 d8 d10 rn_ge le E1 E2 E3 (hX 5 (by omega) (by omega)).1
  refine MO_mv fa ?_
  rw [T]
  unfold simS
  have s14 : j3 874 14 = Int32.ofNat st.2.1 := (fa _ _ (by omega)).trans e14
  have su : ∀ z, j3 875 z = st.2.2 z := fun z => (fa _ _ (by omega)).trans (eu z)
  cases hw : wix N (tb N L st.1) (lw N L (tb N L st.1)) [18, 19, 20, 21, 22] 0 with
  | some t =>
    obtain ⟨w1, w2, w3⟩ := wix_lt (by decide) hw t2
    have w3 : t < 5 := w3
    obtain ⟨j4, E4, p4, g4, f4⟩ := MO_emit (d := d + 2) (a := Int32.ofNat t) (c := 0) hM d8 s14 (by omega) su
    refine ⟨j4, ?_, p4, g4, f4⟩
    rw [bk_50_185]
    simp (disch := omega) only [txn, E4, hM, y_ckd, y_ck2d, y_ond, y_onn, y_oI, y_oIx, y_oJ, y_oV, y_oVx, y_oR, y_oRn, y_oRx, y_b0, y_b1, y_bi, y_bid, y_wIK, y_wIL, y_wII, y_wIJ, y_wIR, y_wIN, y_wIw, y_sI, ↓reduceIte, Nat.reduceEqDiff, eq_self, true_or, or_true, false_or, or_false, and_true, true_and, false_and, and_false, not_true, not_false_eq_true, tf_T, tf_F, y_up1, y_up2, y_xx, y_nx, y_sJ, y_sR, Int32.reduceLT, y_nxK, y_nxL, y_nxR, y_sJK, y_sJL, y_sJR, y_sJN, y_sRK, y_sRL, y_sRN, Nat.add_zero, z_nat, z_lit, z_lit0, z_lit1, z_in0, z_in1, z_addl0, z_lt, z_ltl, z_llt, z_inj, z_injl, z_add, z_addl, z_ladd, z_mul, z_mull, z_lmul, z_neg, z_negl, z_in, z_inl, z_ltT, z_ltF, z_eqF, z_10, z_01, z_litne, z_ne0, z_0ne, z_ne1, z_1ne, z_lt64, z_02, z_03, z_04, z_05, z_12, z_13, z_14, z_15, z_20, z_21, z_23, z_24, z_25, z_30, z_31, z_32, z_34, z_35, z_40, z_41, z_42, z_43, z_45, z_50, z_51, z_52, z_53, z_54]
  | none =>
    have Fc := m_facts (d := d) hM x3 c3 d8 d10 rn_ge le
    rw [show txn none = -1 from rfl, Fc]
    dsimp only
    unfold fctS
    rw [bk_50_277]
    cases hw2 : wix N (tb N L st.1) (lw N L (tb N L st.1)) [23, 24, 25, 26, 27, 28] 0 with
    | none =>
      have nn : (-1 : Int32) < 0 := by decide
      refine MO_bad (j := j3) ?_ (fun _ _ _ => rfl) d10
      simp (disch := omega) only [txn, nn, hM, y_ckd, y_ck2d, y_ond, y_onn, y_oI, y_oIx, y_oJ, y_oV, y_oVx, y_oR, y_oRn, y_oRx, y_b0, y_b1, y_bi, y_bid, y_wIK, y_wIL, y_wII, y_wIJ, y_wIR, y_wIN, y_wIw, y_sI, ↓reduceIte, Nat.reduceEqDiff, eq_self, true_or, or_true, false_or, or_false, and_true, true_and, false_and, and_false, not_true, not_false_eq_true, tf_T, tf_F, y_up1, y_up2, y_xx, y_nx, y_sJ, y_sR, Int32.reduceLT, y_nxK, y_nxL, y_nxR, y_sJK, y_sJL, y_sJR, y_sJN, y_sRK, y_sRL, y_sRN, Nat.add_zero, z_nat, z_lit, z_lit0, z_lit1, z_in0, z_in1, z_addl0, z_lt, z_ltl, z_llt, z_inj, z_injl, z_add, z_addl, z_ladd, z_mul, z_mull, z_lmul, z_neg, z_negl, z_in, z_inl, z_ltT, z_ltF, z_eqF, z_10, z_01, z_litne, z_ne0, z_0ne, z_ne1, z_1ne, z_lt64, z_02, z_03, z_04, z_05, z_12, z_13, z_14, z_15, z_20, z_21, z_23, z_24, z_25, z_30, z_31, z_32, z_34, z_35, z_40, z_41, z_42, z_43, z_45, z_50, z_51, z_52, z_53, z_54]
    | some f =>
      obtain ⟨w1, w2, w3⟩ := wix_lt (by decide) hw2 t2
      have w3 : f < 6 := w3
      dsimp only
      obtain ⟨t3, t4⟩ := tb_bnd (N := N) le
      have ttb2 : tb N L (tb N L (lw N L (tb N L st.1))) = tb N L (lw N L (tb N L st.1)) := tb_tb
      obtain ⟨j4, E4, k8, k10, f4⟩ := m_sgn (d := d + 1) (c := 60) (n := 60) hM c3 d8 le rfl (by omega)
      have f4 : Mv j3 j4 := f4
      have c4 := MT_Mv c3 f4
      by_cases q1 : tb N L (lw N L (tb N L st.1)) < L ∧ N (tb N L (lw N L (tb N L st.1))) = 60
      · rw [if_pos q1] at E4 k8 ⊢
        have R := m_fac306 (d := d) (x3 := 1) (c := 100) (f := f) (st := st) hM c4 k8 q1.1 ((f4 _ _ (by omega)).trans s14) (fun z => (f4 _ _ (by omega)).trans (su z)) (by omega) (Or.inr ⟨rfl, rfl⟩) w3
        refine MO_mv f4 ?_
        simp (disch := omega) only [txn, E4, z_39, z_390, hM, y_ckd, y_ck2d, y_ond, y_onn, y_oI, y_oIx, y_oJ, y_oV, y_oVx, y_oR, y_oRn, y_oRx, y_b0, y_b1, y_bi, y_bid, y_wIK, y_wIL, y_wII, y_wIJ, y_wIR, y_wIN, y_wIw, y_sI, ↓reduceIte, Nat.reduceEqDiff, eq_self, true_or, or_true, false_or, or_false, and_true, true_and, false_and, and_false, not_true, not_false_eq_true, tf_T, tf_F, y_up1, y_up2, y_xx, y_nx, y_sJ, y_sR, Int32.reduceLT, y_nxK, y_nxL, y_nxR, y_sJK, y_sJL, y_sJR, y_sJN, y_sRK, y_sRL, y_sRN, Nat.add_zero, z_nat, z_lit, z_lit0, z_lit1, z_in0, z_in1, z_addl0, z_lt, z_ltl, z_llt, z_inj, z_injl, z_add, z_addl, z_ladd, z_mul, z_mull, z_lmul, z_neg, z_negl, z_in, z_inl, z_ltT, z_ltF, z_eqF, z_10, z_01, z_litne, z_ne0, z_0ne, z_ne1, z_1ne, z_lt64, z_02, z_03, z_04, z_05, z_12, z_13, z_14, z_15, z_20, z_21, z_23, z_24, z_25, z_30, z_31, z_32, z_34, z_35, z_40, z_41, z_42, z_43, z_45, z_50, z_51, z_52, z_53, z_54]
        exact R
      · rw [if_neg q1] at E4 k8 ⊢
        obtain ⟨j5, E5, l8, l10, f5⟩ := m_sgn (d := d + 1) (c := 62) (n := 62) hM c4 k8 t4 rfl (by omega)
        have f5 : Mv j4 j5 := f5
        rw [ttb2] at E5 l8 l10
        have c5 := MT_Mv c4 f5
        have f45 := f4.tr f5
        by_cases q2 : tb N L (lw N L (tb N L st.1)) < L ∧ N (tb N L (lw N L (tb N L st.1))) = 62
        · rw [if_pos q2] at E5 l8 ⊢
          have R := m_fac306 (d := d) (x3 := 0) (c := 200) (f := f) (st := st) hM c5 l8 q2.1 ((f45 _ _ (by omega)).trans s14) (fun z => (f45 _ _ (by omega)).trans (su z)) (by omega) (Or.inl ⟨rfl, rfl⟩) w3
          refine MO_mv f45 ?_
          simp (disch := omega) only [txn, E4, E5, z_39, z_390, hM, y_ckd, y_ck2d, y_ond, y_onn, y_oI, y_oIx, y_oJ, y_oV, y_oVx, y_oR, y_oRn, y_oRx, y_b0, y_b1, y_bi, y_bid, y_wIK, y_wIL, y_wII, y_wIJ, y_wIR, y_wIN, y_wIw, y_sI, ↓reduceIte, Nat.reduceEqDiff, eq_self, true_or, or_true, false_or, or_false, and_true, true_and, false_and, and_false, not_true, not_false_eq_true, tf_T, tf_F, y_up1, y_up2, y_xx, y_nx, y_sJ, y_sR, Int32.reduceLT, y_nxK, y_nxL, y_nxR, y_sJK, y_sJL, y_sJR, y_sJN, y_sRK, y_sRL, y_sRN, Nat.add_zero, z_nat, z_lit, z_lit0, z_lit1, z_in0, z_in1, z_addl0, z_lt, z_ltl, z_llt, z_inj, z_injl, z_add, z_addl, z_ladd, z_mul, z_mull, z_lmul, z_neg, z_negl, z_in, z_inl, z_ltT, z_ltF, z_eqF, z_10, z_01, z_litne, z_ne0, z_0ne, z_ne1, z_1ne, z_lt64, z_02, z_03, z_04, z_05, z_12, z_13, z_14, z_15, z_20, z_21, z_23, z_24, z_25, z_30, z_31, z_32, z_34, z_35, z_40, z_41, z_42, z_43, z_45, z_50, z_51, z_52, z_53, z_54]
          exact R
        · rw [if_neg q2] at E5 l8 ⊢
          refine MO_bad (j := j5) ?_ f45 l10
          simp (disch := omega) only [txn, E4, E5, hM, y_ckd, y_ck2d, y_ond, y_onn, y_oI, y_oIx, y_oJ, y_oV, y_oVx, y_oR, y_oRn, y_oRx, y_b0, y_b1, y_bi, y_bid, y_wIK, y_wIL, y_wII, y_wIJ, y_wIR, y_wIN, y_wIw, y_sI, ↓reduceIte, Nat.reduceEqDiff, eq_self, true_or, or_true, false_or, or_false, and_true, true_and, false_and, and_false, not_true, not_false_eq_true, tf_T, tf_F, y_up1, y_up2, y_xx, y_nx, y_sJ, y_sR, Int32.reduceLT, y_nxK, y_nxL, y_nxR, y_sJK, y_sJL, y_sJR, y_sJN, y_sRK, y_sRL, y_sRN, Nat.add_zero, z_nat, z_lit, z_lit0, z_lit1, z_in0, z_in1, z_addl0, z_lt, z_ltl, z_llt, z_inj, z_injl, z_add, z_addl, z_ladd, z_mul, z_mull, z_lmul, z_neg, z_negl, z_in, z_inl, z_ltT, z_ltF, z_eqF, z_10, z_01, z_litne, z_ne0, z_0ne, z_ne1, z_1ne, z_lt64, z_02, z_03, z_04, z_05, z_12, z_13, z_14, z_15, z_20, z_21, z_23, z_24, z_25, z_30, z_31, z_32, z_34, z_35, z_40, z_41, z_42, z_43, z_45, z_50, z_51, z_52, z_53, z_54]
end ModB
