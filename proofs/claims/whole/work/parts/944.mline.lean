/-! TEXTS ON THE TAPE, the model: a line as the spec has it. Made by wip/whole/math/944.py. -/
section ModG
variable {B : am_A} {i j k i' : Nat → Nat → Int32} {N : Nat → Nat} {d D L p b e q n s f c v K y : Nat} {u : Nat → Int32} {st : PS} {x : am_X} {r : PR}
/-- from the number on -/
theorem m_line219 (hM : Md B) (hX : Stx B i) (hc : MT N L i) (hp : MP i (p, s, u)) (h1 : p ≤ L) (h2 : s ≤ p) (hv : v < 4) (hn : n < 12) (hy : u (12044 + 4 * n + 1) = Int32.ofNat y) (h99 : y < 100000) : ML B i (am_fx am_P (d + 24 + 1) 53 219 [some (.ref 874), none, some (.int (Int32.ofNat (12044 + 4 * n))), some (.int (Int32.ofNat v))] [] (am_wI B i)) (ifS N L n v p s u) := by
  have l400 := hc.2.1
  obtain ⟨e8, e14, eu⟩ := id hp
  dsimp only at e8 e14 eu
  have ky : i 875 (12044 + 4 * n + 1) = Int32.ofNat y := (eu _).trans hy
  have ny : ¬ Int32.ofNat y < 0 := by rw [z_neg (by omega)]; exact id
  unfold ifS
  by_cases g3 : v = 3
  · rw [if_pos g3]
    refine ⟨i, ?_, hp, FRm.rf, fun _ _ => rfl⟩
    subst g3
    have w3 : Int32.ofNat 3 = 3 := rfl
    rw [bk_53_219]
    simp (disch := omega) only [ky, ny, w3, hM, y_ckd, y_ck2d, y_ond, y_onn, y_oI, y_oIx, y_oJ, y_oV, y_oVx, y_oR, y_oRn, y_oRx, y_b0, y_b1, y_bi, y_bid, y_wIK, y_wIL, y_wII, y_wIJ, y_wIR, y_wIN, y_wIw, y_sI, ↓reduceIte, Nat.reduceEqDiff, eq_self, true_or, or_true, false_or, or_false, and_true, true_and, false_and, and_false, not_true, not_false_eq_true, tf_T, tf_F, y_up1, y_up2, y_xx, y_nx, y_sJ, y_sR, Int32.reduceLT, y_nxK, y_nxL, y_nxR, y_sJK, y_sJL, y_sJR, y_sJN, y_sRK, y_sRL, y_sRN, Nat.add_zero, z_nat, z_lit, z_lit0, z_lit1, z_in0, z_in1, z_addl0, z_lt, z_ltl, z_llt, z_inj, z_injl, z_add, z_addl, z_ladd, z_mul, z_mull, z_lmul, z_neg, z_negl, z_in, z_inl, z_ltT, z_ltF, z_eqF, z_10, z_01, z_litne, z_ne0, z_0ne, z_ne1, z_1ne, z_lt64, z_02, z_03, z_04, z_05, z_12, z_13, z_14, z_15, z_20, z_21, z_23, z_24, z_25, z_30, z_31, z_32, z_34, z_35, z_40, z_41, z_42, z_43, z_45, z_50, z_51, z_52, z_53, z_54]
  rw [if_neg g3]
  have n3 : ¬ Int32.ofNat v = 3 := fun q => g3 (by rw [z_injl (by omega) (by decide)] at q; exact q)
  obtain ⟨j1, E1, a8, a10, f1⟩ := m_passes (d := d + 21) hM hX hc e8 h1 (q := 4) (by omega) (sxs 4 (by omega) (by omega))
  have f1 : Mv i j1 := f1
  have k4 := (hX 4 (by omega) (by omega)).1
  by_cases gi : isw N (tb N L p) (lw N L (tb N L p)) (sx 4)
  rotate_left
  · rw [if_neg gi] at E1 a8 ⊢
    refine ⟨j1, ?_, MP_Mv hp f1 a8, f1.fr, fun z _ => f1 _ _ (by omega)⟩
    rw [bk_53_219]
    simp (disch := omega) only [ky, ny, n3, k4, E1, hM, y_ckd, y_ck2d, y_ond, y_onn, y_oI, y_oIx, y_oJ, y_oV, y_oVx, y_oR, y_oRn, y_oRx, y_b0, y_b1, y_bi, y_bid, y_wIK, y_wIL, y_wII, y_wIJ, y_wIR, y_wIN, y_wIw, y_sI, ↓reduceIte, Nat.reduceEqDiff, eq_self, true_or, or_true, false_or, or_false, and_true, true_and, false_and, and_false, not_true, not_false_eq_true, tf_T, tf_F, y_up1, y_up2, y_xx, y_nx, y_sJ, y_sR, Int32.reduceLT, y_nxK, y_nxL, y_nxR, y_sJK, y_sJL, y_sJR, y_sJN, y_sRK, y_sRL, y_sRN, Nat.add_zero, z_nat, z_lit, z_lit0, z_lit1, z_in0, z_in1, z_addl0, z_lt, z_ltl, z_llt, z_inj, z_injl, z_add, z_addl, z_ladd, z_mul, z_mull, z_lmul, z_neg, z_negl, z_in, z_inl, z_ltT, z_ltF, z_eqF, z_10, z_01, z_litne, z_ne0, z_0ne, z_ne1, z_1ne, z_lt64, z_02, z_03, z_04, z_05, z_12, z_13, z_14, z_15, z_20, z_21, z_23, z_24, z_25, z_30, z_31, z_32, z_34, z_35, z_40, z_41, z_42, z_43, z_45, z_50, z_51, z_52, z_53, z_54]
  rw [if_pos gi] at E1 a8 ⊢
  obtain ⟨t1, t2⟩ := tb_bnd (N := N) (L := L) h1
  obtain ⟨i1, i2, -⟩ := isw_lt gi (by decide) t2
  have p1 := MP_Mv hp f1 a8
  have f2 : FRm j1 (am_up2 j1 874 11 0) := fun q k h1 h2 => y_up2 (by omega)
  have p2 : MP (am_up2 j1 874 11 0) (lw N L (tb N L p), s, u) := ⟨(y_up2 (by omega)).trans p1.1, (y_up2 (by omega)).trans p1.2.1, fun z => (y_up2 (by omega)).trans (p1.2.2 z)⟩
  have R := m_cond (B := B) (N := N) (L := L) (d := d) hM l400 (am_up2 j1 874 11 0) (lw N L (tb N L p), s, u) (Stx_FRm (Stx_Mv hX f1) f2) (MT_FRm (MT_Mv hc f1) f2) p2 i2 (by show s ≤ lw N L (tb N L p); omega) (y_up1 rfl rfl)
  refine ML_fr f1.fr (fun z _ => f1 _ _ (by omega)) ?_
  have R : MO B (am_up2 j1 874 11 0) (am_fx am_P (d + 24) 52 0 [some (.ref 874)] [] (am_wI B (am_up2 j1 874 11 0))) (cndS N L (atm N L 6) (lw N L (tb N L p), s, u)) := R
  cases hr : cndS N L (atm N L 6) (lw N L (tb N L p), s, u) with
  | inl f =>
    rw [hr] at R
    obtain ⟨j3, E3, b10, f3, z3⟩ := R
    refine ⟨j3, ?_, b10, f2.tr f3, fun z hz => (z3 z hz).trans (y_up2 (by omega))⟩
    rw [bk_53_219]
    simp (disch := omega) only [ky, ny, n3, k4, E1, E3, z_39, z_390, hM, y_ckd, y_ck2d, y_ond, y_onn, y_oI, y_oIx, y_oJ, y_oV, y_oVx, y_oR, y_oRn, y_oRx, y_b0, y_b1, y_bi, y_bid, y_wIK, y_wIL, y_wII, y_wIJ, y_wIR, y_wIN, y_wIw, y_sI, ↓reduceIte, Nat.reduceEqDiff, eq_self, true_or, or_true, false_or, or_false, and_true, true_and, false_and, and_false, not_true, not_false_eq_true, tf_T, tf_F, y_up1, y_up2, y_xx, y_nx, y_sJ, y_sR, Int32.reduceLT, y_nxK, y_nxL, y_nxR, y_sJK, y_sJL, y_sJR, y_sJN, y_sRK, y_sRL, y_sRN, Nat.add_zero, z_nat, z_lit, z_lit0, z_lit1, z_in0, z_in1, z_addl0, z_lt, z_ltl, z_llt, z_inj, z_injl, z_add, z_addl, z_ladd, z_mul, z_mull, z_lmul, z_neg, z_negl, z_in, z_inl, z_ltT, z_ltF, z_eqF, z_10, z_01, z_litne, z_ne0, z_0ne, z_ne1, z_1ne, z_lt64, z_02, z_03, z_04, z_05, z_12, z_13, z_14, z_15, z_20, z_21, z_23, z_24, z_25, z_30, z_31, z_32, z_34, z_35, z_40, z_41, z_42, z_43, z_45, z_50, z_51, z_52, z_53, z_54]
  | inr sa =>
    rw [hr] at R
    obtain ⟨j3, E3, p3, b11, f3⟩ := R
    obtain ⟨b1, b2, b3, b4, b5, b6⟩ := cndS_pr (atm_pr 6) (by omega) _ sa i2 hr
    dsimp only at b2 b3 b4 b5
    have k14 := p3.2.1
    refine ⟨am_up2 j3 875 (12044 + 4 * n + 3) (Int32.ofNat sa.2.1), ?_, ⟨(y_up2 (by omega)).trans p3.1, (y_up2 (by omega)).trans p3.2.1, upw p3.2.2⟩, (f2.tr f3).tr fun q k h1 h2 => y_up2 (by omega), fun z hz => ?_⟩
    · rw [bk_53_219]
      simp (disch := omega) only [ky, ny, n3, k4, E1, E3, k14, z_39, z_390, hM, y_ckd, y_ck2d, y_ond, y_onn, y_oI, y_oIx, y_oJ, y_oV, y_oVx, y_oR, y_oRn, y_oRx, y_b0, y_b1, y_bi, y_bid, y_wIK, y_wIL, y_wII, y_wIJ, y_wIR, y_wIN, y_wIw, y_sI, ↓reduceIte, Nat.reduceEqDiff, eq_self, true_or, or_true, false_or, or_false, and_true, true_and, false_and, and_false, not_true, not_false_eq_true, tf_T, tf_F, y_up1, y_up2, y_xx, y_nx, y_sJ, y_sR, Int32.reduceLT, y_nxK, y_nxL, y_nxR, y_sJK, y_sJL, y_sJR, y_sJN, y_sRK, y_sRL, y_sRN, Nat.add_zero, z_nat, z_lit, z_lit0, z_lit1, z_in0, z_in1, z_addl0, z_lt, z_ltl, z_llt, z_inj, z_injl, z_add, z_addl, z_ladd, z_mul, z_mull, z_lmul, z_neg, z_negl, z_in, z_inl, z_ltT, z_ltF, z_eqF, z_10, z_01, z_litne, z_ne0, z_0ne, z_ne1, z_1ne, z_lt64, z_02, z_03, z_04, z_05, z_12, z_13, z_14, z_15, z_20, z_21, z_23, z_24, z_25, z_30, z_31, z_32, z_34, z_35, z_40, z_41, z_42, z_43, z_45, z_50, z_51, z_52, z_53, z_54]
    · rw [y_up2 (by omega), p3.2.2 z, b5 z (by omega), p1.2.2 z]
theorem m_line (hM : Md B) (hX : Stx B i) (hc : MT N L i) (hp : MP i st) (h1 : st.1 ≤ L) (h2 : st.2.1 ≤ st.1) (hn : n < 12) : ML B i (am_fx am_P (d + 24 + 1) 53 0 [some (.ref 874), some (.int (Int32.ofNat n)), none, none] [] (am_wI B i)) (lnS N L n st) := by
  have l400 := hc.2.1
  obtain ⟨e8, e14, eu⟩ := id hp
  obtain ⟨t1, t2⟩ := tb_bnd (N := N) (L := L) h1
  obtain ⟨j1, E1, a8, a10, f1⟩ := m_word (d := d + 22) hM hc e8 h1
  have f1 : Mv i j1 := f1
  have c1 := MT_Mv hc f1
  have x1 := Stx_Mv hX f1
  have k14 : j1 874 14 = Int32.ofNat st.2.1 := (f1 _ _ (by omega)).trans e14
  have T := m_sorts (D := d + 21) hM x1 c1 a8 a10 rn_ge (rn_le t2) E1 hn
  refine ML_fr f1.fr (fun z _ => f1 _ _ (by omega)) ?_
  rw [show d + 24 + 1 = d + 21 + 3 + 1 by omega, T]
  unfold lnS
  have E72 : ∀ z : Int32, am_fx am_P (d + 21 + 3 + 1) 53 72 [some (.ref 874), none, some (.int (Int32.ofNat (12044 + 4 * n))), none] [.int z] (am_wI B j1) = am_fx am_P (d + 21 + 3 + 1) 53 92 [some (.ref 874), none, some (.int (Int32.ofNat (12044 + 4 * n))), some (.int z)] [] (am_wI B (am_up2 (am_up2 j1 875 (12044 + 4 * n) z) 875 (12044 + 4 * n + 2) (Int32.ofNat st.2.1))) := fun z => by
    rw [bk_53_72]
    simp (disch := omega) only [k14, hM, y_ckd, y_ck2d, y_ond, y_onn, y_oI, y_oIx, y_oJ, y_oV, y_oVx, y_oR, y_oRn, y_oRx, y_b0, y_b1, y_bi, y_bid, y_wIK, y_wIL, y_wII, y_wIJ, y_wIR, y_wIN, y_wIw, y_sI, ↓reduceIte, Nat.reduceEqDiff, eq_self, true_or, or_true, false_or, or_false, and_true, true_and, false_and, and_false, not_true, not_false_eq_true, tf_T, tf_F, y_up1, y_up2, y_xx, y_nx, y_sJ, y_sR, Int32.reduceLT, y_nxK, y_nxL, y_nxR, y_sJK, y_sJL, y_sJR, y_sJN, y_sRK, y_sRL, y_sRN, Nat.add_zero, z_nat, z_lit, z_lit0, z_lit1, z_in0, z_in1, z_addl0, z_lt, z_ltl, z_llt, z_inj, z_injl, z_add, z_addl, z_ladd, z_mul, z_mull, z_lmul, z_neg, z_negl, z_in, z_inl, z_ltT, z_ltF, z_eqF, z_10, z_01, z_litne, z_ne0, z_0ne, z_ne1, z_1ne, z_lt64, z_02, z_03, z_04, z_05, z_12, z_13, z_14, z_15, z_20, z_21, z_23, z_24, z_25, z_30, z_31, z_32, z_34, z_35, z_40, z_41, z_42, z_43, z_45, z_50, z_51, z_52, z_53, z_54]
  cases hw : wix N (tb N L st.1) (lw N L (tb N L st.1)) [10, 11, 12, 13] 0 with
  | none =>
    rw [E72]
    dsimp only
    refine ⟨am_up2 (am_up2 (am_up2 j1 875 (12044 + 4 * n) (-1)) 875 (12044 + 4 * n + 2) (Int32.ofNat st.2.1)) 875 (12044 + 4 * n + 3) (Int32.ofNat st.2.1), ?_, by rw [y_up2 (by omega), y_up2 (by omega), y_up2 (by omega)]; exact a10, fun q k h1 h2 => by rw [y_up2 (by omega), y_up2 (by omega), y_up2 (by omega)], fun z hz => by rw [y_up2 (by omega), y_up2 (by omega), y_up2 (by omega)]⟩
    have nn : (-1 : Int32) < 0 := by decide
    rw [bk_53_92]
    simp (disch := omega) only [txn, k14, nn, hM, y_ckd, y_ck2d, y_ond, y_onn, y_oI, y_oIx, y_oJ, y_oV, y_oVx, y_oR, y_oRn, y_oRx, y_b0, y_b1, y_bi, y_bid, y_wIK, y_wIL, y_wII, y_wIJ, y_wIR, y_wIN, y_wIw, y_sI, ↓reduceIte, Nat.reduceEqDiff, eq_self, true_or, or_true, false_or, or_false, and_true, true_and, false_and, and_false, not_true, not_false_eq_true, tf_T, tf_F, y_up1, y_up2, y_xx, y_nx, y_sJ, y_sR, Int32.reduceLT, y_nxK, y_nxL, y_nxR, y_sJK, y_sJL, y_sJR, y_sJN, y_sRK, y_sRL, y_sRN, Nat.add_zero, z_nat, z_lit, z_lit0, z_lit1, z_in0, z_in1, z_addl0, z_lt, z_ltl, z_llt, z_inj, z_injl, z_add, z_addl, z_ladd, z_mul, z_mull, z_lmul, z_neg, z_negl, z_in, z_inl, z_ltT, z_ltF, z_eqF, z_10, z_01, z_litne, z_ne0, z_0ne, z_ne1, z_1ne, z_lt64, z_02, z_03, z_04, z_05, z_12, z_13, z_14, z_15, z_20, z_21, z_23, z_24, z_25, z_30, z_31, z_32, z_34, z_35, z_40, z_41, z_42, z_43, z_45, z_50, z_51, z_52, z_53, z_54]
  | some v =>
    obtain ⟨w1, w2, w3⟩ := wix_lt (by decide) hw t2
    have w3 : v < 4 := w3
    rw [E72]
    dsimp only [txn]
    generalize eh2 : am_up2 (am_up2 j1 875 (12044 + 4 * n) (Int32.ofNat v)) 875 (12044 + 4 * n + 2) (Int32.ofNat st.2.1) = h2'
    have f2 : FRm j1 h2' := fun q k a b => by rw [← eh2, y_up2 (by omega), y_up2 (by omega)]
    have m14 : h2' 874 14 = Int32.ofNat st.2.1 := by rw [← eh2, y_up2 (by omega), y_up2 (by omega)]; exact k14
    have x2 := Stx_FRm x1 f2
    have c2 := MT_FRm c1 f2
    have b8 : h2' 874 8 = Int32.ofNat (lw N L (tb N L st.1)) := by rw [← eh2, y_up2 (by omega), y_up2 (by omega)]; exact a8
    have u2 : ∀ z, h2' 875 z = wu (wu st.2.2 (12044 + 4 * n) (Int32.ofNat v)) (12044 + 4 * n + 2) (Int32.ofNat st.2.1) z := by
      rw [← eh2]
      exact upw (upw fun z => (f1 _ _ (by omega)).trans (eu z))
    obtain ⟨j3, y, E3, f3, d10, V⟩ := m_val (D := d + 21) (K := 12044 + 4 * n) hM x2 c2 b8 w2 (by omega) w3
    rw [m14] at f3
    have u3 : ∀ z, j3 875 z = wu (wu (wu st.2.2 (12044 + 4 * n) (Int32.ofNat v)) (12044 + 4 * n + 2) (Int32.ofNat st.2.1)) (12044 + 4 * n + 3) (Int32.ofNat st.2.1) z := fun z => (f3 _ _ (by omega)).trans (upw u2 z)
    have f4 : FRm j1 (am_up2 j3 875 (12044 + 4 * n + 1) y) := fun q k a b => by rw [y_up2 (by omega), f3 q k (by omega), y_up2 (by omega)]; exact f2 q k a b
    have lo : ∀ z, z < 12042 → am_up2 j3 875 (12044 + 4 * n + 1) y 875 z = j1 875 z := fun z hz => by rw [y_up2 (by omega), f3 _ _ (by omega), y_up2 (by omega), ← eh2, y_up2 (by omega), y_up2 (by omega)]
    have s14 : j3 874 14 = Int32.ofNat st.2.1 := by rw [f3 _ _ (by omega), y_up2 (by omega)]; exact m14
    rw [E3]
    cases hv : valS N L v (lw N L (tb N L st.1)) with
    | inl f =>
      rw [hv] at V
      obtain ⟨V1, V2⟩ := V
      subst V1
      subst V2
      refine ⟨am_up2 j3 875 (12044 + 4 * n + 1) (-1), ?_, (y_up2 (by omega)).trans d10, f4, lo⟩
      have nn : (-1 : Int32) < 0 := by decide
      rw [bk_53_219]
      simp (disch := omega) only [nn, hM, y_ckd, y_ck2d, y_ond, y_onn, y_oI, y_oIx, y_oJ, y_oV, y_oVx, y_oR, y_oRn, y_oRx, y_b0, y_b1, y_bi, y_bid, y_wIK, y_wIL, y_wII, y_wIJ, y_wIR, y_wIN, y_wIw, y_sI, ↓reduceIte, Nat.reduceEqDiff, eq_self, true_or, or_true, false_or, or_false, and_true, true_and, false_and, and_false, not_true, not_false_eq_true, tf_T, tf_F, y_up1, y_up2, y_xx, y_nx, y_sJ, y_sR, Int32.reduceLT, y_nxK, y_nxL, y_nxR, y_sJK, y_sJL, y_sJR, y_sJN, y_sRK, y_sRL, y_sRN, Nat.add_zero, z_nat, z_lit, z_lit0, z_lit1, z_in0, z_in1, z_addl0, z_lt, z_ltl, z_llt, z_inj, z_injl, z_add, z_addl, z_ladd, z_mul, z_mull, z_lmul, z_neg, z_negl, z_in, z_inl, z_ltT, z_ltF, z_eqF, z_10, z_01, z_litne, z_ne0, z_0ne, z_ne1, z_1ne, z_lt64, z_02, z_03, z_04, z_05, z_12, z_13, z_14, z_15, z_20, z_21, z_23, z_24, z_25, z_30, z_31, z_32, z_34, z_35, z_40, z_41, z_42, z_43, z_45, z_50, z_51, z_52, z_53, z_54]
    | inr a =>
      rw [hv] at V
      obtain ⟨V1, V2⟩ := V
      subst V1
      obtain ⟨v1, v2, v3⟩ := valS_ok hv w2 w3
      have p4 : MP (am_up2 j3 875 (12044 + 4 * n + 1) (Int32.ofNat a.1)) (a.2, st.2.1, lin st.2.2 n v a.1 st.2.1) := ⟨(y_up2 (by omega)).trans V2, (y_up2 (by omega)).trans s14, upw u3⟩
      have R := m_line219 (d := d) (n := n) (v := v) (y := a.1) hM (Stx_FRm x1 f4) (MT_FRm c1 f4) p4 v2 (by omega) w3 hn lin_1 v3
      exact ML_fr f4 lo R
end ModG
