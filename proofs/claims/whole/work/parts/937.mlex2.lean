/-! TEXTS ON THE TAPE, the model: words, signs, numbers, steps. Made by wip/whole/math/937.py. -/
section MLex2
variable {B : am_A} {i : Nat → Nat → Int32} {N : Nat → Nat} {d L p b e q n lo hi s : Nat} {u : Nat → Int32}
theorem m_isWord (hM : Md B) (hX : Stx B i) (hc : MT N L i) (e8 : i 874 8 = Int32.ofNat e) (e10 : i 874 10 = Int32.ofNat b) (hbe : b ≤ e) (heL : e ≤ L) (hq : 2 ≤ q ∧ q ≤ 28) (hn : (sx q).length < 100 ∧ ∀ m, m < (sx q).length → (sx q).getD m 0 < 128) : am_fx am_P (d) 42 0 [some (.ref 874), some (.ref q), none, none] [] (am_wI B i) = some (.inl (some (.int (if isw N b e (sx q) then 1 else 0))), am_wI B i) := by
  obtain ⟨k1, k2, k3⟩ := hX q hq.1 hq.2
  have l400 := hc.2.1
  have es : Int32.ofNat e - Int32.ofNat b = Int32.ofNat (e - b) := z_sub hbe
  have lp : ∀ m k, k + m = (sx q).length → e - b = (sx q).length → (∀ m, m < k → N (b + m) = (sx q).getD m 0) → am_fx am_P (d) 42 24 [some (.ref 874), some (.ref q), some (.int (1)), some (.int (Int32.ofNat (k)))] [] (am_wI B i) = some (.inl (some (.int (if isw N b e (sx q) then 1 else 0))), am_wI B i) := by
    intro m
    induction m with
    | zero =>
      intro k hk hl hm
      have hk : k = (sx q).length := by omega
      subst hk
      rw [if_pos (show isw N b e (sx q) from ⟨hl, hm⟩), bk_42_24]
      simp (disch := omega) only [k1, k2, Nat.lt_irrefl, z_39, z_390, hM, y_ckd, y_ck2d, y_ond, y_onn, y_oI, y_oIx, y_oJ, y_oV, y_oVx, y_oR, y_oRn, y_oRx, y_b0, y_b1, y_bi, y_bid, y_wIK, y_wIL, y_wII, y_wIJ, y_wIR, y_wIN, y_wIw, y_sI, ↓reduceIte, Nat.reduceEqDiff, eq_self, true_or, or_true, false_or, or_false, and_true, true_and, false_and, and_false, not_true, not_false_eq_true, tf_T, tf_F, y_up1, y_up2, y_xx, y_nx, y_sJ, y_sR, Int32.reduceLT, y_nxK, y_nxL, y_nxR, y_sJK, y_sJL, y_sJR, y_sJN, y_sRK, y_sRL, y_sRN, Nat.add_zero, z_nat, z_lit, z_lit0, z_lit1, z_in0, z_in1, z_addl0, z_lt, z_ltl, z_llt, z_inj, z_injl, z_add, z_addl, z_ladd, z_mul, z_mull, z_lmul, z_neg, z_negl, z_in, z_inl, z_ltT, z_ltF, z_eqF, z_10, z_01, z_litne, z_ne0, z_0ne, z_ne1, z_1ne, z_lt64, z_02, z_03, z_04, z_05, z_12, z_13, z_14, z_15, z_20, z_21, z_23, z_24, z_25, z_30, z_31, z_32, z_34, z_35, z_40, z_41, z_42, z_43, z_45, z_50, z_51, z_52, z_53, z_54]
    | succ m ih =>
      intro k hk hl hm
      have kl : k < (sx q).length := by omega
      obtain ⟨b1, b2⟩ := hc.2.2 (b + k) (by omega)
      have sk := k3 k kl
      have x1 := nby_eq b1 (hn.2 k kl)
      rw [b2] at x1
      by_cases g : N (b + k) = (sx q).getD k 0
      · have g' := (iff_of_eq x1).mpr g
        have R := ih (k + 1) (by omega) hl fun m' hm' => by
          by_cases qq : m' = k
          · rw [qq]
            exact g
          · exact hm m' (by omega)
        have E : am_fx am_P (d) 42 24 [some (.ref 874), some (.ref q), some (.int (1)), some (.int (Int32.ofNat (k)))] [] (am_wI B i) = am_fx am_P (d) 42 24 [some (.ref 874), some (.ref q), some (.int (1)), some (.int (Int32.ofNat (k + 1)))] [] (am_wI B i) := by
          rw [bk_42_24]
          simp (disch := omega) only [k1, k2, kl, e10, sk, g', z_39, z_390, hM, y_ckd, y_ck2d, y_ond, y_onn, y_oI, y_oIx, y_oJ, y_oV, y_oVx, y_oR, y_oRn, y_oRx, y_b0, y_b1, y_bi, y_bid, y_wIK, y_wIL, y_wII, y_wIJ, y_wIR, y_wIN, y_wIw, y_sI, ↓reduceIte, Nat.reduceEqDiff, eq_self, true_or, or_true, false_or, or_false, and_true, true_and, false_and, and_false, not_true, not_false_eq_true, tf_T, tf_F, y_up1, y_up2, y_xx, y_nx, y_sJ, y_sR, Int32.reduceLT, y_nxK, y_nxL, y_nxR, y_sJK, y_sJL, y_sJR, y_sJN, y_sRK, y_sRL, y_sRN, Nat.add_zero, z_nat, z_lit, z_lit0, z_lit1, z_in0, z_in1, z_addl0, z_lt, z_ltl, z_llt, z_inj, z_injl, z_add, z_addl, z_ladd, z_mul, z_mull, z_lmul, z_neg, z_negl, z_in, z_inl, z_ltT, z_ltF, z_eqF, z_10, z_01, z_litne, z_ne0, z_0ne, z_ne1, z_1ne, z_lt64, z_02, z_03, z_04, z_05, z_12, z_13, z_14, z_15, z_20, z_21, z_23, z_24, z_25, z_30, z_31, z_32, z_34, z_35, z_40, z_41, z_42, z_43, z_45, z_50, z_51, z_52, z_53, z_54]
        rw [E]
        exact R
      · have g' : ¬ i 878 (b + k) = Int32.ofNat ((sx q).getD k 0) := fun qq => g ((iff_of_eq x1).mp qq)
        rw [if_neg (show ¬ isw N b e (sx q) from fun qq => g (qq.2 k kl))]
        have E : am_fx am_P (d) 42 24 [some (.ref 874), some (.ref q), some (.int (1)), some (.int (Int32.ofNat (k)))] [] (am_wI B i) = am_fx am_P (d) 42 24 [some (.ref 874), some (.ref q), some (.int (0)), some (.int (Int32.ofNat (k + 1)))] [] (am_wI B i) := by
          rw [bk_42_24]
          simp (disch := omega) only [k1, k2, kl, e10, sk, g', z_39, z_390, hM, y_ckd, y_ck2d, y_ond, y_onn, y_oI, y_oIx, y_oJ, y_oV, y_oVx, y_oR, y_oRn, y_oRx, y_b0, y_b1, y_bi, y_bid, y_wIK, y_wIL, y_wII, y_wIJ, y_wIR, y_wIN, y_wIw, y_sI, ↓reduceIte, Nat.reduceEqDiff, eq_self, true_or, or_true, false_or, or_false, and_true, true_and, false_and, and_false, not_true, not_false_eq_true, tf_T, tf_F, y_up1, y_up2, y_xx, y_nx, y_sJ, y_sR, Int32.reduceLT, y_nxK, y_nxL, y_nxR, y_sJK, y_sJL, y_sJR, y_sJN, y_sRK, y_sRL, y_sRN, Nat.add_zero, z_nat, z_lit, z_lit0, z_lit1, z_in0, z_in1, z_addl0, z_lt, z_ltl, z_llt, z_inj, z_injl, z_add, z_addl, z_ladd, z_mul, z_mull, z_lmul, z_neg, z_negl, z_in, z_inl, z_ltT, z_ltF, z_eqF, z_10, z_01, z_litne, z_ne0, z_0ne, z_ne1, z_1ne, z_lt64, z_02, z_03, z_04, z_05, z_12, z_13, z_14, z_15, z_20, z_21, z_23, z_24, z_25, z_30, z_31, z_32, z_34, z_35, z_40, z_41, z_42, z_43, z_45, z_50, z_51, z_52, z_53, z_54]
        rw [E, bk_42_24]
        simp (disch := omega) only [hM, y_ckd, y_ck2d, y_ond, y_onn, y_oI, y_oIx, y_oJ, y_oV, y_oVx, y_oR, y_oRn, y_oRx, y_b0, y_b1, y_bi, y_bid, y_wIK, y_wIL, y_wII, y_wIJ, y_wIR, y_wIN, y_wIw, y_sI, ↓reduceIte, Nat.reduceEqDiff, eq_self, true_or, or_true, false_or, or_false, and_true, true_and, false_and, and_false, not_true, not_false_eq_true, tf_T, tf_F, y_up1, y_up2, y_xx, y_nx, y_sJ, y_sR, Int32.reduceLT, y_nxK, y_nxL, y_nxR, y_sJK, y_sJL, y_sJR, y_sJN, y_sRK, y_sRL, y_sRN, Nat.add_zero, z_nat, z_lit, z_lit0, z_lit1, z_in0, z_in1, z_addl0, z_lt, z_ltl, z_llt, z_inj, z_injl, z_add, z_addl, z_ladd, z_mul, z_mull, z_lmul, z_neg, z_negl, z_in, z_inl, z_ltT, z_ltF, z_eqF, z_10, z_01, z_litne, z_ne0, z_0ne, z_ne1, z_1ne, z_lt64, z_02, z_03, z_04, z_05, z_12, z_13, z_14, z_15, z_20, z_21, z_23, z_24, z_25, z_30, z_31, z_32, z_34, z_35, z_40, z_41, z_42, z_43, z_45, z_50, z_51, z_52, z_53, z_54]
  rw [bk_42_0]
  by_cases g : e - b = (sx q).length
  · have R := lp (sx q).length 0 (Nat.zero_add _) g fun m hm => absurd hm (Nat.not_lt_zero m)
    simp (disch := omega) only [k1, k2, e8, e10, es, g, hM, y_ckd, y_ck2d, y_ond, y_onn, y_oI, y_oIx, y_oJ, y_oV, y_oVx, y_oR, y_oRn, y_oRx, y_b0, y_b1, y_bi, y_bid, y_wIK, y_wIL, y_wII, y_wIJ, y_wIR, y_wIN, y_wIw, y_sI, ↓reduceIte, Nat.reduceEqDiff, eq_self, true_or, or_true, false_or, or_false, and_true, true_and, false_and, and_false, not_true, not_false_eq_true, tf_T, tf_F, y_up1, y_up2, y_xx, y_nx, y_sJ, y_sR, Int32.reduceLT, y_nxK, y_nxL, y_nxR, y_sJK, y_sJL, y_sJR, y_sJN, y_sRK, y_sRL, y_sRN, Nat.add_zero, z_nat, z_lit, z_lit0, z_lit1, z_in0, z_in1, z_addl0, z_lt, z_ltl, z_llt, z_inj, z_injl, z_add, z_addl, z_ladd, z_mul, z_mull, z_lmul, z_neg, z_negl, z_in, z_inl, z_ltT, z_ltF, z_eqF, z_10, z_01, z_litne, z_ne0, z_0ne, z_ne1, z_1ne, z_lt64, z_02, z_03, z_04, z_05, z_12, z_13, z_14, z_15, z_20, z_21, z_23, z_24, z_25, z_30, z_31, z_32, z_34, z_35, z_40, z_41, z_42, z_43, z_45, z_50, z_51, z_52, z_53, z_54]
    exact R
  · rw [if_neg (show ¬ isw N b e (sx q) from fun qq => g qq.1)]
    simp (disch := omega) only [k1, k2, e8, e10, es, g, bk_42_24, hM, y_ckd, y_ck2d, y_ond, y_onn, y_oI, y_oIx, y_oJ, y_oV, y_oVx, y_oR, y_oRn, y_oRx, y_b0, y_b1, y_bi, y_bid, y_wIK, y_wIL, y_wII, y_wIJ, y_wIR, y_wIN, y_wIw, y_sI, ↓reduceIte, Nat.reduceEqDiff, eq_self, true_or, or_true, false_or, or_false, and_true, true_and, false_and, and_false, not_true, not_false_eq_true, tf_T, tf_F, y_up1, y_up2, y_xx, y_nx, y_sJ, y_sR, Int32.reduceLT, y_nxK, y_nxL, y_nxR, y_sJK, y_sJL, y_sJR, y_sJN, y_sRK, y_sRL, y_sRN, Nat.add_zero, z_nat, z_lit, z_lit0, z_lit1, z_in0, z_in1, z_addl0, z_lt, z_ltl, z_llt, z_inj, z_injl, z_add, z_addl, z_ladd, z_mul, z_mull, z_lmul, z_neg, z_negl, z_in, z_inl, z_ltT, z_ltF, z_eqF, z_10, z_01, z_litne, z_ne0, z_0ne, z_ne1, z_1ne, z_lt64, z_02, z_03, z_04, z_05, z_12, z_13, z_14, z_15, z_20, z_21, z_23, z_24, z_25, z_30, z_31, z_32, z_34, z_35, z_40, z_41, z_42, z_43, z_45, z_50, z_51, z_52, z_53, z_54]
theorem m_passes (hM : Md B) (hX : Stx B i) (hc : MT N L i) (e8 : i 874 8 = Int32.ofNat p) (hp : p ≤ L) (hq : 2 ≤ q ∧ q ≤ 28) (hn : (sx q).length < 100 ∧ ∀ m, m < (sx q).length → (sx q).getD m 0 < 128) : ∃ j, am_fx am_P (d + 3) 43 0 [some (.ref 874), some (.ref q)] [] (am_wI B i) = some (.inl (some (.int (if isw N (tb N L p) (lw N L (tb N L p)) (sx q) then 1 else 0))), am_wI B j) ∧ j 874 8 = Int32.ofNat (if isw N (tb N L p) (lw N L (tb N L p)) (sx q) then lw N L (tb N L p) else tb N L p) ∧ j 874 10 = Int32.ofNat (tb N L p) ∧ (∀ q k, (q = 874 → k ≠ 8 ∧ k ≠ 10) → j q k = i q k) := by
  have l400 := hc.2.1
  obtain ⟨j, E, a8, a10, f⟩ := m_word (d := d) hM hc e8 hp
  have hX1 : Stx B j := fun q h1 h2 => ⟨(hX q h1 h2).1, (hX q h1 h2).2.1, fun k hk => (f _ _ (by omega)).trans ((hX q h1 h2).2.2 k hk)⟩
  have c1 : MT N L j := MT_fr hc (f _ _ (by omega)) fun k => f _ _ (by omega)
  have W := m_isWord (d := d + 2) hM hX1 c1 a8 a10 rn_ge (rn_le (rn_le hp)) hq hn
  by_cases g : isw N (tb N L p) (lw N L (tb N L p)) (sx q)
  · rw [if_pos g] at W ⊢
    rw [if_pos g]
    refine ⟨j, ?_, a8, a10, f⟩
    rw [bk_43_0]
    simp (disch := omega) only [E, W, z_39, z_390, hM, y_ckd, y_ck2d, y_ond, y_onn, y_oI, y_oIx, y_oJ, y_oV, y_oVx, y_oR, y_oRn, y_oRx, y_b0, y_b1, y_bi, y_bid, y_wIK, y_wIL, y_wII, y_wIJ, y_wIR, y_wIN, y_wIw, y_sI, ↓reduceIte, Nat.reduceEqDiff, eq_self, true_or, or_true, false_or, or_false, and_true, true_and, false_and, and_false, not_true, not_false_eq_true, tf_T, tf_F, y_up1, y_up2, y_xx, y_nx, y_sJ, y_sR, Int32.reduceLT, y_nxK, y_nxL, y_nxR, y_sJK, y_sJL, y_sJR, y_sJN, y_sRK, y_sRL, y_sRN, Nat.add_zero, z_nat, z_lit, z_lit0, z_lit1, z_in0, z_in1, z_addl0, z_lt, z_ltl, z_llt, z_inj, z_injl, z_add, z_addl, z_ladd, z_mul, z_mull, z_lmul, z_neg, z_negl, z_in, z_inl, z_ltT, z_ltF, z_eqF, z_10, z_01, z_litne, z_ne0, z_0ne, z_ne1, z_1ne, z_lt64, z_02, z_03, z_04, z_05, z_12, z_13, z_14, z_15, z_20, z_21, z_23, z_24, z_25, z_30, z_31, z_32, z_34, z_35, z_40, z_41, z_42, z_43, z_45, z_50, z_51, z_52, z_53, z_54]
  · rw [if_neg g] at W ⊢
    rw [if_neg g]
    refine ⟨am_up2 j 874 8 (Int32.ofNat (tb N L p)), ?_, y_up1 rfl rfl, (y_up2 (by omega)).trans a10, fun q k h => (y_up2 (by omega)).trans (f q k h)⟩
    rw [bk_43_0]
    simp (disch := omega) only [E, W, a10, hM, y_ckd, y_ck2d, y_ond, y_onn, y_oI, y_oIx, y_oJ, y_oV, y_oVx, y_oR, y_oRn, y_oRx, y_b0, y_b1, y_bi, y_bid, y_wIK, y_wIL, y_wII, y_wIJ, y_wIR, y_wIN, y_wIw, y_sI, ↓reduceIte, Nat.reduceEqDiff, eq_self, true_or, or_true, false_or, or_false, and_true, true_and, false_and, and_false, not_true, not_false_eq_true, tf_T, tf_F, y_up1, y_up2, y_xx, y_nx, y_sJ, y_sR, Int32.reduceLT, y_nxK, y_nxL, y_nxR, y_sJK, y_sJL, y_sJR, y_sJN, y_sRK, y_sRL, y_sRN, Nat.add_zero, z_nat, z_lit, z_lit0, z_lit1, z_in0, z_in1, z_addl0, z_lt, z_ltl, z_llt, z_inj, z_injl, z_add, z_addl, z_ladd, z_mul, z_mull, z_lmul, z_neg, z_negl, z_in, z_inl, z_ltT, z_ltF, z_eqF, z_10, z_01, z_litne, z_ne0, z_0ne, z_ne1, z_1ne, z_lt64, z_02, z_03, z_04, z_05, z_12, z_13, z_14, z_15, z_20, z_21, z_23, z_24, z_25, z_30, z_31, z_32, z_34, z_35, z_40, z_41, z_42, z_43, z_45, z_50, z_51, z_52, z_53, z_54]
theorem m_sgn {c : Int32} (hM : Md B) (hc : MT N L i) (e8 : i 874 8 = Int32.ofNat p) (hp : p ≤ L) (hcn : c = Int32.ofNat n) (h128 : n < 128) : ∃ j, am_fx am_P (d + 2) 44 0 [some (.ref 874), some (.int (c))] [] (am_wI B i) = some (.inl (some (.int (if tb N L p < L ∧ N (tb N L p) = n then 1 else 0))), am_wI B j) ∧ j 874 8 = Int32.ofNat (if tb N L p < L ∧ N (tb N L p) = n then tb N L p + 1 else tb N L p) ∧ j 874 10 = Int32.ofNat (tb N L p) ∧ (∀ q k, (q = 874 → k ≠ 8 ∧ k ≠ 10) → j q k = i q k) := by
  have l400 := hc.2.1
  obtain ⟨j, E, a8, a10, f⟩ := m_blanks (d := d) hM (L - p) p i (Nat.le_refl _) hp hc e8
  have c1 : MT N L j := MT_fr hc (f _ _ (by omega)) fun k => f _ _ (by omega)
  have tl : tb N L p ≤ L := rn_le hp
  have A := m_isAt (d := d + 1) hM c1 a8 tl hcn hcn h128 h128
  by_cases g : tb N L p < L ∧ N (tb N L p) = n
  · rw [if_pos (by omega)] at A
    rw [if_pos g, if_pos g]
    refine ⟨am_up2 j 874 8 (Int32.ofNat (tb N L p + 1)), ?_, y_up1 rfl rfl, (y_up2 (by omega)).trans a10, fun q k h => (y_up2 (by omega)).trans (f q k h)⟩
    rw [bk_44_0]
    simp (disch := omega) only [E, A, a8, z_39, z_390, hM, y_ckd, y_ck2d, y_ond, y_onn, y_oI, y_oIx, y_oJ, y_oV, y_oVx, y_oR, y_oRn, y_oRx, y_b0, y_b1, y_bi, y_bid, y_wIK, y_wIL, y_wII, y_wIJ, y_wIR, y_wIN, y_wIw, y_sI, ↓reduceIte, Nat.reduceEqDiff, eq_self, true_or, or_true, false_or, or_false, and_true, true_and, false_and, and_false, not_true, not_false_eq_true, tf_T, tf_F, y_up1, y_up2, y_xx, y_nx, y_sJ, y_sR, Int32.reduceLT, y_nxK, y_nxL, y_nxR, y_sJK, y_sJL, y_sJR, y_sJN, y_sRK, y_sRL, y_sRN, Nat.add_zero, z_nat, z_lit, z_lit0, z_lit1, z_in0, z_in1, z_addl0, z_lt, z_ltl, z_llt, z_inj, z_injl, z_add, z_addl, z_ladd, z_mul, z_mull, z_lmul, z_neg, z_negl, z_in, z_inl, z_ltT, z_ltF, z_eqF, z_10, z_01, z_litne, z_ne0, z_0ne, z_ne1, z_1ne, z_lt64, z_02, z_03, z_04, z_05, z_12, z_13, z_14, z_15, z_20, z_21, z_23, z_24, z_25, z_30, z_31, z_32, z_34, z_35, z_40, z_41, z_42, z_43, z_45, z_50, z_51, z_52, z_53, z_54]
  · rw [if_neg (by omega)] at A
    rw [if_neg g, if_neg g]
    refine ⟨j, ?_, a8, a10, f⟩
    rw [bk_44_0]
    simp (disch := omega) only [E, A, hM, y_ckd, y_ck2d, y_ond, y_onn, y_oI, y_oIx, y_oJ, y_oV, y_oVx, y_oR, y_oRn, y_oRx, y_b0, y_b1, y_bi, y_bid, y_wIK, y_wIL, y_wII, y_wIJ, y_wIR, y_wIN, y_wIw, y_sI, ↓reduceIte, Nat.reduceEqDiff, eq_self, true_or, or_true, false_or, or_false, and_true, true_and, false_and, and_false, not_true, not_false_eq_true, tf_T, tf_F, y_up1, y_up2, y_xx, y_nx, y_sJ, y_sR, Int32.reduceLT, y_nxK, y_nxL, y_nxR, y_sJK, y_sJL, y_sJR, y_sJN, y_sRK, y_sRL, y_sRN, Nat.add_zero, z_nat, z_lit, z_lit0, z_lit1, z_in0, z_in1, z_addl0, z_lt, z_ltl, z_llt, z_inj, z_injl, z_add, z_addl, z_ladd, z_mul, z_mull, z_lmul, z_neg, z_negl, z_in, z_inl, z_ltT, z_ltF, z_eqF, z_10, z_01, z_litne, z_ne0, z_0ne, z_ne1, z_1ne, z_lt64, z_02, z_03, z_04, z_05, z_12, z_13, z_14, z_15, z_20, z_21, z_23, z_24, z_25, z_30, z_31, z_32, z_34, z_35, z_40, z_41, z_42, z_43, z_45, z_50, z_51, z_52, z_53, z_54]
theorem m_digits (hM : Md B) (h99 : hi < 100000) (m : Nat) : ∀ (k : Nat) (i : Nat → Nat → Int32), L - (b + k) ≤ m → b + k ≤ L → MT N L i → i 874 8 = Int32.ofNat (b + k) → i 874 10 = Int32.ofNat b → (∀ m, m < k → 48 ≤ N (b + m) ∧ N (b + m) ≤ 57) → rn N L 48 57 b = rn N L 48 57 (b + k) → ∃ j, am_fx am_P (d + 1) 45 6 [some (.ref 874), some (.int (Int32.ofNat hi)), some (.int (Int32.ofNat (dgv N b (min (k) 5))))] [] (am_wI B i) = some (.inl (some (.int (txn (num N L b hi)))), am_wI B j) ∧ j 874 8 = Int32.ofNat (rn N L 48 57 b) ∧ (∀ q k, (q = 874 → k ≠ 8) → j q k = i q k) := by
  have go : ∀ (k : Nat) (i : Nat → Nat → Int32), b + k ≤ L → MT N L i → i 874 8 = Int32.ofNat (b + k) → i 874 10 = Int32.ofNat b → (∀ m, m < k → 48 ≤ N (b + m) ∧ N (b + m) ≤ 57) → rn N L 48 57 b = rn N L 48 57 (b + k) → ¬ (b + k < L ∧ 48 ≤ N (b + k) ∧ N (b + k) ≤ 57) → ∃ j, am_fx am_P (d + 1) 45 6 [some (.ref 874), some (.int (Int32.ofNat hi)), some (.int (Int32.ofNat (dgv N b (min (k) 5))))] [] (am_wI B i) = some (.inl (some (.int (txn (num N L b hi)))), am_wI B j) ∧ j 874 8 = Int32.ofNat (rn N L 48 57 b) ∧ (∀ q k, (q = 874 → k ≠ 8) → j q k = i q k) := by
    intro k i hp hc e8 e10 hd hr g
    have l400 := hc.2.1
    have A := m_isAt (d := d) (l := 48) (h := 57) (lo := 48) (hi := 57) hM hc e8 hp rfl rfl (by omega) (by omega)
    rw [if_neg g] at A
    rw [rn_0 g] at hr
    have es : Int32.ofNat (b + k) - Int32.ofNat b = Int32.ofNat k := by rw [z_sub (by omega), Nat.add_sub_cancel_left]
    refine ⟨i, ?_, by rw [hr]; exact e8, fun _ _ _ => rfl⟩
    unfold num
    rw [hr, Nat.add_sub_cancel_left]
    rw [bk_45_6]
    by_cases k0 : k = 0
    · subst k0
      have c0 : b + 0 = b ∨ 5 < 0 ∨ hi < dgv N b 0 := Or.inl rfl
      rw [if_pos c0]
      simp (disch := omega) only [A, e8, e10, Nat.add_zero, hM, y_ckd, y_ck2d, y_ond, y_onn, y_oI, y_oIx, y_oJ, y_oV, y_oVx, y_oR, y_oRn, y_oRx, y_b0, y_b1, y_bi, y_bid, y_wIK, y_wIL, y_wII, y_wIJ, y_wIR, y_wIN, y_wIw, y_sI, ↓reduceIte, Nat.reduceEqDiff, eq_self, true_or, or_true, false_or, or_false, and_true, true_and, false_and, and_false, not_true, not_false_eq_true, tf_T, tf_F, y_up1, y_up2, y_xx, y_nx, y_sJ, y_sR, Int32.reduceLT, y_nxK, y_nxL, y_nxR, y_sJK, y_sJL, y_sJR, y_sJN, y_sRK, y_sRL, y_sRN, Nat.add_zero, z_nat, z_lit, z_lit0, z_lit1, z_in0, z_in1, z_addl0, z_lt, z_ltl, z_llt, z_inj, z_injl, z_add, z_addl, z_ladd, z_mul, z_mull, z_lmul, z_neg, z_negl, z_in, z_inl, z_ltT, z_ltF, z_eqF, z_10, z_01, z_litne, z_ne0, z_0ne, z_ne1, z_1ne, z_lt64, z_02, z_03, z_04, z_05, z_12, z_13, z_14, z_15, z_20, z_21, z_23, z_24, z_25, z_30, z_31, z_32, z_34, z_35, z_40, z_41, z_42, z_43, z_45, z_50, z_51, z_52, z_53, z_54]
      rfl
    · have n0 : ¬ b + k = b := by omega
      by_cases k5 : 5 < k
      · have c0 : b + k = b ∨ 5 < k ∨ hi < dgv N b k := Or.inr (Or.inl k5)
        rw [if_pos c0]
        simp (disch := omega) only [A, e8, e10, n0, es, k5, hM, y_ckd, y_ck2d, y_ond, y_onn, y_oI, y_oIx, y_oJ, y_oV, y_oVx, y_oR, y_oRn, y_oRx, y_b0, y_b1, y_bi, y_bid, y_wIK, y_wIL, y_wII, y_wIJ, y_wIR, y_wIN, y_wIw, y_sI, ↓reduceIte, Nat.reduceEqDiff, eq_self, true_or, or_true, false_or, or_false, and_true, true_and, false_and, and_false, not_true, not_false_eq_true, tf_T, tf_F, y_up1, y_up2, y_xx, y_nx, y_sJ, y_sR, Int32.reduceLT, y_nxK, y_nxL, y_nxR, y_sJK, y_sJL, y_sJR, y_sJN, y_sRK, y_sRL, y_sRN, Nat.add_zero, z_nat, z_lit, z_lit0, z_lit1, z_in0, z_in1, z_addl0, z_lt, z_ltl, z_llt, z_inj, z_injl, z_add, z_addl, z_ladd, z_mul, z_mull, z_lmul, z_neg, z_negl, z_in, z_inl, z_ltT, z_ltF, z_eqF, z_10, z_01, z_litne, z_ne0, z_0ne, z_ne1, z_1ne, z_lt64, z_02, z_03, z_04, z_05, z_12, z_13, z_14, z_15, z_20, z_21, z_23, z_24, z_25, z_30, z_31, z_32, z_34, z_35, z_40, z_41, z_42, z_43, z_45, z_50, z_51, z_52, z_53, z_54]
        rfl
      · have lt := dgv_lt hd
        have p5 : 10 ^ k ≤ 10 ^ 5 := Nat.pow_le_pow_right (by omega) (by omega)
        have em : min k 5 = k := by omega
        rw [em]
        by_cases kh : hi < dgv N b k
        · have c0 : b + k = b ∨ 5 < k ∨ hi < dgv N b k := Or.inr (Or.inr kh)
          rw [if_pos c0]
          simp (disch := omega) only [A, e8, e10, n0, es, k5, kh, hM, y_ckd, y_ck2d, y_ond, y_onn, y_oI, y_oIx, y_oJ, y_oV, y_oVx, y_oR, y_oRn, y_oRx, y_b0, y_b1, y_bi, y_bid, y_wIK, y_wIL, y_wII, y_wIJ, y_wIR, y_wIN, y_wIw, y_sI, ↓reduceIte, Nat.reduceEqDiff, eq_self, true_or, or_true, false_or, or_false, and_true, true_and, false_and, and_false, not_true, not_false_eq_true, tf_T, tf_F, y_up1, y_up2, y_xx, y_nx, y_sJ, y_sR, Int32.reduceLT, y_nxK, y_nxL, y_nxR, y_sJK, y_sJL, y_sJR, y_sJN, y_sRK, y_sRL, y_sRN, Nat.add_zero, z_nat, z_lit, z_lit0, z_lit1, z_in0, z_in1, z_addl0, z_lt, z_ltl, z_llt, z_inj, z_injl, z_add, z_addl, z_ladd, z_mul, z_mull, z_lmul, z_neg, z_negl, z_in, z_inl, z_ltT, z_ltF, z_eqF, z_10, z_01, z_litne, z_ne0, z_0ne, z_ne1, z_1ne, z_lt64, z_02, z_03, z_04, z_05, z_12, z_13, z_14, z_15, z_20, z_21, z_23, z_24, z_25, z_30, z_31, z_32, z_34, z_35, z_40, z_41, z_42, z_43, z_45, z_50, z_51, z_52, z_53, z_54]
          rfl
        · have c0 : ¬ (b + k = b ∨ 5 < k ∨ hi < dgv N b k) := by omega
          rw [if_neg c0]
          simp (disch := omega) only [A, e8, e10, n0, es, k5, kh, hM, y_ckd, y_ck2d, y_ond, y_onn, y_oI, y_oIx, y_oJ, y_oV, y_oVx, y_oR, y_oRn, y_oRx, y_b0, y_b1, y_bi, y_bid, y_wIK, y_wIL, y_wII, y_wIJ, y_wIR, y_wIN, y_wIw, y_sI, ↓reduceIte, Nat.reduceEqDiff, eq_self, true_or, or_true, false_or, or_false, and_true, true_and, false_and, and_false, not_true, not_false_eq_true, tf_T, tf_F, y_up1, y_up2, y_xx, y_nx, y_sJ, y_sR, Int32.reduceLT, y_nxK, y_nxL, y_nxR, y_sJK, y_sJL, y_sJR, y_sJN, y_sRK, y_sRL, y_sRN, Nat.add_zero, z_nat, z_lit, z_lit0, z_lit1, z_in0, z_in1, z_addl0, z_lt, z_ltl, z_llt, z_inj, z_injl, z_add, z_addl, z_ladd, z_mul, z_mull, z_lmul, z_neg, z_negl, z_in, z_inl, z_ltT, z_ltF, z_eqF, z_10, z_01, z_litne, z_ne0, z_0ne, z_ne1, z_1ne, z_lt64, z_02, z_03, z_04, z_05, z_12, z_13, z_14, z_15, z_20, z_21, z_23, z_24, z_25, z_30, z_31, z_32, z_34, z_35, z_40, z_41, z_42, z_43, z_45, z_50, z_51, z_52, z_53, z_54]
          rfl
  induction m with
  | zero => exact fun k i hm hp hc e8 e10 hd hr => go k i hp hc e8 e10 hd hr fun q => by omega
  | succ m ih =>
    intro k i hm hp hc e8 e10 hd hr
    by_cases g : b + k < L ∧ 48 ≤ N (b + k) ∧ N (b + k) ≤ 57
    · have l400 := hc.2.1
      have A := m_isAt (d := d) (l := 48) (h := 57) (lo := 48) (hi := 57) hM hc e8 hp rfl rfl (by omega) (by omega)
      rw [if_pos g] at A
      obtain ⟨g1, g2, g3⟩ := g
      obtain ⟨b1, b2⟩ := hc.2.2 (b + k) g1
      have bx : i 878 (b + k) = Int32.ofNat (N (b + k)) := by
        obtain ⟨-, -, ⟨e, l⟩ | ⟨e, l⟩⟩ := nby_ok b1
        · rw [b2] at e
          exact e
        · rw [b2] at l
          omega
      have es : Int32.ofNat (b + k) - Int32.ofNat b = Int32.ofNat k := by rw [z_sub (by omega), Nat.add_sub_cancel_left]
      obtain ⟨j, E, j3, fj⟩ := ih (k + 1) (am_up2 i 874 8 (Int32.ofNat (b + k + 1))) (by omega) (by omega) (MT_fr hc (y_up2 (by omega)) fun k => y_up2 (by omega)) (y_up1 rfl rfl) ((y_up2 (by omega)).trans e10) (fun m hm => by
        by_cases q : m = k
        · rw [q]
          exact ⟨g2, g3⟩
        · exact hd m (by omega)) (hr.trans (rn_s ⟨g1, g2, g3⟩))
      refine ⟨j, ?_, j3, fun q k hq => (fj q k hq).trans (y_up2 (by omega))⟩
      rw [← E]
      clear E
      have E2 : ∀ x, x = am_fx am_P (d + 1) 45 6 [some (.ref 874), some (.int (Int32.ofNat hi)), some (.int (Int32.ofNat (dgv N b (min (k + 1) 5))))] [] (am_wI B (am_up2 i 874 8 (Int32.ofNat (b + k + 1)))) → am_fx am_P (d + 1) 45 6 [some (.ref 874), some (.int (Int32.ofNat hi)), some (.int (Int32.ofNat (dgv N b (min (k) 5))))] [] (am_wI B i) = x := by
        intro x hx
        rw [bk_45_6]
        by_cases k5 : k < 5
        · have lt := dgv_lt hd
          have p5 : 10 ^ k ≤ 10 ^ 5 := Nat.pow_le_pow_right (by omega) (by omega)
          have em : min k 5 = k := by omega
          have em2 : min (k + 1) 5 = k + 1 := by omega
          have vs : 10 * dgv N b k + N (b + k) - 48 = dgv N b (k + 1) := by
            show _ = 10 * dgv N b k + (N (b + k) - 48)
            omega
          rw [em2] at hx
          rw [em]
          simp (disch := omega) only [A, e8, e10, es, k5, bx, z_subl, vs, bk_45_51, z_39, z_390, hM, y_ckd, y_ck2d, y_ond, y_onn, y_oI, y_oIx, y_oJ, y_oV, y_oVx, y_oR, y_oRn, y_oRx, y_b0, y_b1, y_bi, y_bid, y_wIK, y_wIL, y_wII, y_wIJ, y_wIR, y_wIN, y_wIw, y_sI, ↓reduceIte, Nat.reduceEqDiff, eq_self, true_or, or_true, false_or, or_false, and_true, true_and, false_and, and_false, not_true, not_false_eq_true, tf_T, tf_F, y_up1, y_up2, y_xx, y_nx, y_sJ, y_sR, Int32.reduceLT, y_nxK, y_nxL, y_nxR, y_sJK, y_sJL, y_sJR, y_sJN, y_sRK, y_sRL, y_sRN, Nat.add_zero, z_nat, z_lit, z_lit0, z_lit1, z_in0, z_in1, z_addl0, z_lt, z_ltl, z_llt, z_inj, z_injl, z_add, z_addl, z_ladd, z_mul, z_mull, z_lmul, z_neg, z_negl, z_in, z_inl, z_ltT, z_ltF, z_eqF, z_10, z_01, z_litne, z_ne0, z_0ne, z_ne1, z_1ne, z_lt64, z_02, z_03, z_04, z_05, z_12, z_13, z_14, z_15, z_20, z_21, z_23, z_24, z_25, z_30, z_31, z_32, z_34, z_35, z_40, z_41, z_42, z_43, z_45, z_50, z_51, z_52, z_53, z_54]
          rw [hx]
        · have em : min k 5 = 5 := by omega
          have em2 : min (k + 1) 5 = 5 := by omega
          rw [em2] at hx
          rw [em]
          simp (disch := omega) only [A, e8, e10, es, k5, bk_45_51, z_39, z_390, hM, y_ckd, y_ck2d, y_ond, y_onn, y_oI, y_oIx, y_oJ, y_oV, y_oVx, y_oR, y_oRn, y_oRx, y_b0, y_b1, y_bi, y_bid, y_wIK, y_wIL, y_wII, y_wIJ, y_wIR, y_wIN, y_wIw, y_sI, ↓reduceIte, Nat.reduceEqDiff, eq_self, true_or, or_true, false_or, or_false, and_true, true_and, false_and, and_false, not_true, not_false_eq_true, tf_T, tf_F, y_up1, y_up2, y_xx, y_nx, y_sJ, y_sR, Int32.reduceLT, y_nxK, y_nxL, y_nxR, y_sJK, y_sJL, y_sJR, y_sJN, y_sRK, y_sRL, y_sRN, Nat.add_zero, z_nat, z_lit, z_lit0, z_lit1, z_in0, z_in1, z_addl0, z_lt, z_ltl, z_llt, z_inj, z_injl, z_add, z_addl, z_ladd, z_mul, z_mull, z_lmul, z_neg, z_negl, z_in, z_inl, z_ltT, z_ltF, z_eqF, z_10, z_01, z_litne, z_ne0, z_0ne, z_ne1, z_1ne, z_lt64, z_02, z_03, z_04, z_05, z_12, z_13, z_14, z_15, z_20, z_21, z_23, z_24, z_25, z_30, z_31, z_32, z_34, z_35, z_40, z_41, z_42, z_43, z_45, z_50, z_51, z_52, z_53, z_54]
          rw [hx]
      exact E2 _ rfl
    · exact go k i hp hc e8 e10 hd hr g
theorem m_num {c : Int32} (hM : Md B) (hc : MT N L i) (e8 : i 874 8 = Int32.ofNat p) (hp : p ≤ L) (hcn : c = Int32.ofNat hi) (h99 : hi < 100000) : ∃ j, am_fx am_P (d + 2) 45 0 [some (.ref 874), some (.int (c)), none] [] (am_wI B i) = some (.inl (some (.int (txn (num N L (tb N L p) hi)))), am_wI B j) ∧ j 874 8 = Int32.ofNat (rn N L 48 57 (tb N L p)) ∧ j 874 10 = Int32.ofNat (tb N L p) ∧ (∀ q k, (q = 874 → k ≠ 8 ∧ k ≠ 10) → j q k = i q k) := by
  subst hcn
  obtain ⟨j, E, a8, a10, f⟩ := m_blanks (d := d) hM (L - p) p i (Nat.le_refl _) hp hc e8
  have c1 : MT N L j := MT_fr hc (f _ _ (by omega)) fun k => f _ _ (by omega)
  obtain ⟨j2, E2, b8, f2⟩ := m_digits (d := d + 1) (b := tb N L p) hM h99 (L - (tb N L p + 0)) 0 j (Nat.le_refl _) (rn_le hp) c1 a8 a10 (fun m hm => absurd hm (Nat.not_lt_zero m)) rfl
  refine ⟨j2, ?_, b8, (f2 _ _ (by omega)).trans a10, fun q k h => (f2 q k (by omega)).trans (f q k h)⟩
  rw [bk_45_0]
  simp (disch := omega) only [E, hM, y_ckd, y_ck2d, y_ond, y_onn, y_oI, y_oIx, y_oJ, y_oV, y_oVx, y_oR, y_oRn, y_oRx, y_b0, y_b1, y_bi, y_bid, y_wIK, y_wIL, y_wII, y_wIJ, y_wIR, y_wIN, y_wIw, y_sI, ↓reduceIte, Nat.reduceEqDiff, eq_self, true_or, or_true, false_or, or_false, and_true, true_and, false_and, and_false, not_true, not_false_eq_true, tf_T, tf_F, y_up1, y_up2, y_xx, y_nx, y_sJ, y_sR, Int32.reduceLT, y_nxK, y_nxL, y_nxR, y_sJK, y_sJL, y_sJR, y_sJN, y_sRK, y_sRL, y_sRN, Nat.add_zero, z_nat, z_lit, z_lit0, z_lit1, z_in0, z_in1, z_addl0, z_lt, z_ltl, z_llt, z_inj, z_injl, z_add, z_addl, z_ladd, z_mul, z_mull, z_lmul, z_neg, z_negl, z_in, z_inl, z_ltT, z_ltF, z_eqF, z_10, z_01, z_litne, z_ne0, z_0ne, z_ne1, z_1ne, z_lt64, z_02, z_03, z_04, z_05, z_12, z_13, z_14, z_15, z_20, z_21, z_23, z_24, z_25, z_30, z_31, z_32, z_34, z_35, z_40, z_41, z_42, z_43, z_45, z_50, z_51, z_52, z_53, z_54]
  exact E2
theorem m_emit {a c : Int32} (hM : Md B) (e14 : i 874 14 = Int32.ofNat s) (h4 : s < 400) (hu : ∀ z, i 875 z = u z) : ∃ j, am_fx am_P (d + 1) 49 0 [some (.ref 874), some (.int (a)), some (.int (c)), none] [] (am_wI B i) = some (.inl none, am_wI B j) ∧ j 874 14 = Int32.ofNat (s + 1) ∧ (∀ z, j 875 z = emt u s a c z) ∧ ∀ q k, q ≠ 875 → (q = 874 → k ≠ 14) → j q k = i q k := by
  refine ⟨am_up2 (am_up2 (am_up2 i 875 (12092 + 2 * s) a) 875 (12092 + 2 * s + 1) c) 874 14 (Int32.ofNat (s + 1)), ?_, y_up1 rfl rfl, fun z => ?_, fun q k h1 h2 => by rw [y_up2 (by omega), y_up2 (by omega), y_up2 (by omega)]⟩
  · have em : (3542 + 850 * 10 + 50 : Int32) = Int32.ofNat 12092 := by decide
    rw [bk_49_0]
    simp (disch := omega) only [bk_47_0, bk_49_32, e14, em, hM, y_ckd, y_ck2d, y_ond, y_onn, y_oI, y_oIx, y_oJ, y_oV, y_oVx, y_oR, y_oRn, y_oRx, y_b0, y_b1, y_bi, y_bid, y_wIK, y_wIL, y_wII, y_wIJ, y_wIR, y_wIN, y_wIw, y_sI, ↓reduceIte, Nat.reduceEqDiff, eq_self, true_or, or_true, false_or, or_false, and_true, true_and, false_and, and_false, not_true, not_false_eq_true, tf_T, tf_F, y_up1, y_up2, y_xx, y_nx, y_sJ, y_sR, Int32.reduceLT, y_nxK, y_nxL, y_nxR, y_sJK, y_sJL, y_sJR, y_sJN, y_sRK, y_sRL, y_sRN, Nat.add_zero, z_nat, z_lit, z_lit0, z_lit1, z_in0, z_in1, z_addl0, z_lt, z_ltl, z_llt, z_inj, z_injl, z_add, z_addl, z_ladd, z_mul, z_mull, z_lmul, z_neg, z_negl, z_in, z_inl, z_ltT, z_ltF, z_eqF, z_10, z_01, z_litne, z_ne0, z_0ne, z_ne1, z_1ne, z_lt64, z_02, z_03, z_04, z_05, z_12, z_13, z_14, z_15, z_20, z_21, z_23, z_24, z_25, z_30, z_31, z_32, z_34, z_35, z_40, z_41, z_42, z_43, z_45, z_50, z_51, z_52, z_53, z_54]
  · rw [y_up2 (by omega)]
    unfold emt
    by_cases h1 : z = 12092 + 2 * s + 1
    · rw [h1, y_up1 rfl rfl, wu_at rfl]
    · rw [y_up2 (by omega), wu_ne h1]
      by_cases h2 : z = 12092 + 2 * s
      · rw [h2, y_up1 rfl rfl, wu_at rfl]
      · rw [y_up2 (by omega), wu_ne h2]
        exact hu z
end MLex2
