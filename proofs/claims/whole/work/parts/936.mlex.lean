/-! TEXTS ON THE TAPE, the model: bytes, words, numbers. Made by wip/whole/math/936.py. -/
/-- the model's tape -/
def MT (N : Nat → Nat) (L : Nat) (i : Nat → Nat → Int32) : Prop := i 874 9 = Int32.ofNat L ∧ L ≤ 400 ∧ ∀ k, k < L → (¬ i 878 k < -128 ∧ i 878 k < 128) ∧ nby (i 878 k) = N k
section MLex
variable {B : am_A} {i : Nat → Nat → Int32} {N : Nat → Nat} {d L p b e q n lo hi s : Nat} {u : Nat → Int32}
theorem MT_fr {j : Nat → Nat → Int32} (h : MT N L i) (h1 : j 874 9 = i 874 9) (h2 : ∀ k, j 878 k = i 878 k) : MT N L j := ⟨h1.trans h.1, h.2.1, fun k hk => by rw [h2 k]; exact h.2.2 k hk⟩
theorem m_isAt {l h : Int32} (hM : Md B) (hc : MT N L i) (e8 : i 874 8 = Int32.ofNat p) (hp : p ≤ L) (hl : l = Int32.ofNat lo) (hh : h = Int32.ofNat hi) (l128 : lo < 128) (h128 : hi < 128) : am_fx am_P (d) 39 0 [some (.ref 874), some (.int (l)), some (.int (h))] [] (am_wI B i) = some (.inl (some (.int (if p < L ∧ lo ≤ N p ∧ N p ≤ hi then 1 else 0))), am_wI B i) := by
  obtain ⟨c9, l400, cb⟩ := hc
  have y0 : ¬ (p < L ∧ lo ≤ N p ∧ N p ≤ hi) → (if p < L ∧ lo ≤ N p ∧ N p ≤ hi then (1 : Int32) else 0) = 0 := fun q => if_neg q
  have y1 : (p < L ∧ lo ≤ N p ∧ N p ≤ hi) → (if p < L ∧ lo ≤ N p ∧ N p ≤ hi then (1 : Int32) else 0) = 1 := fun q => if_pos q
  rw [bk_39_0]
  by_cases g : p < L
  rotate_left
  · rw [y0 fun q => g q.1]
    simp (disch := omega) only [c9, e8, g, hM, y_ckd, y_ck2d, y_ond, y_onn, y_oI, y_oIx, y_oJ, y_oV, y_oVx, y_oR, y_oRn, y_oRx, y_b0, y_b1, y_bi, y_bid, y_wIK, y_wIL, y_wII, y_wIJ, y_wIR, y_wIN, y_wIw, y_sI, ↓reduceIte, Nat.reduceEqDiff, eq_self, true_or, or_true, false_or, or_false, and_true, true_and, false_and, and_false, not_true, not_false_eq_true, tf_T, tf_F, y_up1, y_up2, y_xx, y_nx, y_sJ, y_sR, Int32.reduceLT, y_nxK, y_nxL, y_nxR, y_sJK, y_sJL, y_sJR, y_sJN, y_sRK, y_sRL, y_sRN, Nat.add_zero, z_nat, z_lit, z_lit0, z_lit1, z_in0, z_in1, z_addl0, z_lt, z_ltl, z_llt, z_inj, z_injl, z_add, z_addl, z_ladd, z_mul, z_mull, z_lmul, z_neg, z_negl, z_in, z_inl, z_ltT, z_ltF, z_eqF, z_10, z_01, z_litne, z_ne0, z_0ne, z_ne1, z_1ne, z_lt64, z_02, z_03, z_04, z_05, z_12, z_13, z_14, z_15, z_20, z_21, z_23, z_24, z_25, z_30, z_31, z_32, z_34, z_35, z_40, z_41, z_42, z_43, z_45, z_50, z_51, z_52, z_53, z_54]
  obtain ⟨b1, b2⟩ := cb p g
  have x1 := nby_lt b1 l128
  have x2 := nby_gt b1 h128
  rw [b2] at x1 x2
  rw [← hl] at x1
  rw [← hh] at x2
  by_cases g1 : i 878 p < l
  · have := (iff_of_eq x1).mp g1
    rw [y0 fun q => by omega]
    simp (disch := omega) only [c9, e8, g, g1, hM, y_ckd, y_ck2d, y_ond, y_onn, y_oI, y_oIx, y_oJ, y_oV, y_oVx, y_oR, y_oRn, y_oRx, y_b0, y_b1, y_bi, y_bid, y_wIK, y_wIL, y_wII, y_wIJ, y_wIR, y_wIN, y_wIw, y_sI, ↓reduceIte, Nat.reduceEqDiff, eq_self, true_or, or_true, false_or, or_false, and_true, true_and, false_and, and_false, not_true, not_false_eq_true, tf_T, tf_F, y_up1, y_up2, y_xx, y_nx, y_sJ, y_sR, Int32.reduceLT, y_nxK, y_nxL, y_nxR, y_sJK, y_sJL, y_sJR, y_sJN, y_sRK, y_sRL, y_sRN, Nat.add_zero, z_nat, z_lit, z_lit0, z_lit1, z_in0, z_in1, z_addl0, z_lt, z_ltl, z_llt, z_inj, z_injl, z_add, z_addl, z_ladd, z_mul, z_mull, z_lmul, z_neg, z_negl, z_in, z_inl, z_ltT, z_ltF, z_eqF, z_10, z_01, z_litne, z_ne0, z_0ne, z_ne1, z_1ne, z_lt64, z_02, z_03, z_04, z_05, z_12, z_13, z_14, z_15, z_20, z_21, z_23, z_24, z_25, z_30, z_31, z_32, z_34, z_35, z_40, z_41, z_42, z_43, z_45, z_50, z_51, z_52, z_53, z_54]
  · have n1 : ¬ (N p < lo ∨ 128 ≤ N p) := fun q => g1 ((iff_of_eq x1).mpr q)
    by_cases g2 : h < i 878 p
    · have := (iff_of_eq x2).mp g2
      rw [y0 fun q => by omega]
      simp (disch := omega) only [c9, e8, g, g1, g2, hM, y_ckd, y_ck2d, y_ond, y_onn, y_oI, y_oIx, y_oJ, y_oV, y_oVx, y_oR, y_oRn, y_oRx, y_b0, y_b1, y_bi, y_bid, y_wIK, y_wIL, y_wII, y_wIJ, y_wIR, y_wIN, y_wIw, y_sI, ↓reduceIte, Nat.reduceEqDiff, eq_self, true_or, or_true, false_or, or_false, and_true, true_and, false_and, and_false, not_true, not_false_eq_true, tf_T, tf_F, y_up1, y_up2, y_xx, y_nx, y_sJ, y_sR, Int32.reduceLT, y_nxK, y_nxL, y_nxR, y_sJK, y_sJL, y_sJR, y_sJN, y_sRK, y_sRL, y_sRN, Nat.add_zero, z_nat, z_lit, z_lit0, z_lit1, z_in0, z_in1, z_addl0, z_lt, z_ltl, z_llt, z_inj, z_injl, z_add, z_addl, z_ladd, z_mul, z_mull, z_lmul, z_neg, z_negl, z_in, z_inl, z_ltT, z_ltF, z_eqF, z_10, z_01, z_litne, z_ne0, z_0ne, z_ne1, z_1ne, z_lt64, z_02, z_03, z_04, z_05, z_12, z_13, z_14, z_15, z_20, z_21, z_23, z_24, z_25, z_30, z_31, z_32, z_34, z_35, z_40, z_41, z_42, z_43, z_45, z_50, z_51, z_52, z_53, z_54]
    · have n2 : ¬ (hi < N p ∧ N p < 128) := fun q => g2 ((iff_of_eq x2).mpr q)
      rw [y1 (by omega)]
      simp (disch := omega) only [c9, e8, g, g1, g2, hM, y_ckd, y_ck2d, y_ond, y_onn, y_oI, y_oIx, y_oJ, y_oV, y_oVx, y_oR, y_oRn, y_oRx, y_b0, y_b1, y_bi, y_bid, y_wIK, y_wIL, y_wII, y_wIJ, y_wIR, y_wIN, y_wIw, y_sI, ↓reduceIte, Nat.reduceEqDiff, eq_self, true_or, or_true, false_or, or_false, and_true, true_and, false_and, and_false, not_true, not_false_eq_true, tf_T, tf_F, y_up1, y_up2, y_xx, y_nx, y_sJ, y_sR, Int32.reduceLT, y_nxK, y_nxL, y_nxR, y_sJK, y_sJL, y_sJR, y_sJN, y_sRK, y_sRL, y_sRN, Nat.add_zero, z_nat, z_lit, z_lit0, z_lit1, z_in0, z_in1, z_addl0, z_lt, z_ltl, z_llt, z_inj, z_injl, z_add, z_addl, z_ladd, z_mul, z_mull, z_lmul, z_neg, z_negl, z_in, z_inl, z_ltT, z_ltF, z_eqF, z_10, z_01, z_litne, z_ne0, z_0ne, z_ne1, z_1ne, z_lt64, z_02, z_03, z_04, z_05, z_12, z_13, z_14, z_15, z_20, z_21, z_23, z_24, z_25, z_30, z_31, z_32, z_34, z_35, z_40, z_41, z_42, z_43, z_45, z_50, z_51, z_52, z_53, z_54]
theorem m_blanks (hM : Md B) (m : Nat) : ∀ (p : Nat) (i : Nat → Nat → Int32), L - p ≤ m → p ≤ L → MT N L i → i 874 8 = Int32.ofNat p → ∃ j, am_fx am_P (d + 1) 40 0 [some (.ref 874)] [] (am_wI B i) = some (.inl none, am_wI B j) ∧ j 874 8 = Int32.ofNat (tb N L p) ∧ j 874 10 = Int32.ofNat (tb N L p) ∧ (∀ q k, (q = 874 → k ≠ 8 ∧ k ≠ 10) → j q k = i q k) := by
  have go : ∀ (p : Nat) (i : Nat → Nat → Int32), p ≤ L → MT N L i → i 874 8 = Int32.ofNat p → ¬ (p < L ∧ 32 ≤ N p ∧ N p ≤ 32) → ∃ j, am_fx am_P (d + 1) 40 0 [some (.ref 874)] [] (am_wI B i) = some (.inl none, am_wI B j) ∧ j 874 8 = Int32.ofNat (tb N L p) ∧ j 874 10 = Int32.ofNat (tb N L p) ∧ (∀ q k, (q = 874 → k ≠ 8 ∧ k ≠ 10) → j q k = i q k) := by
    intro p i hp hc e8 g
    have A := m_isAt (d := d) (l := 32) (h := 32) (lo := 32) (hi := 32) hM hc e8 hp rfl rfl (by omega) (by omega)
    rw [if_neg g] at A
    have l400 := hc.2.1
    refine ⟨am_up2 i 874 10 (Int32.ofNat p), ?_, ?_, ?_, fun q k h => y_up2 (by omega)⟩
    · rw [bk_40_0]
      simp (disch := omega) only [A, e8, hM, y_ckd, y_ck2d, y_ond, y_onn, y_oI, y_oIx, y_oJ, y_oV, y_oVx, y_oR, y_oRn, y_oRx, y_b0, y_b1, y_bi, y_bid, y_wIK, y_wIL, y_wII, y_wIJ, y_wIR, y_wIN, y_wIw, y_sI, ↓reduceIte, Nat.reduceEqDiff, eq_self, true_or, or_true, false_or, or_false, and_true, true_and, false_and, and_false, not_true, not_false_eq_true, tf_T, tf_F, y_up1, y_up2, y_xx, y_nx, y_sJ, y_sR, Int32.reduceLT, y_nxK, y_nxL, y_nxR, y_sJK, y_sJL, y_sJR, y_sJN, y_sRK, y_sRL, y_sRN, Nat.add_zero, z_nat, z_lit, z_lit0, z_lit1, z_in0, z_in1, z_addl0, z_lt, z_ltl, z_llt, z_inj, z_injl, z_add, z_addl, z_ladd, z_mul, z_mull, z_lmul, z_neg, z_negl, z_in, z_inl, z_ltT, z_ltF, z_eqF, z_10, z_01, z_litne, z_ne0, z_0ne, z_ne1, z_1ne, z_lt64, z_02, z_03, z_04, z_05, z_12, z_13, z_14, z_15, z_20, z_21, z_23, z_24, z_25, z_30, z_31, z_32, z_34, z_35, z_40, z_41, z_42, z_43, z_45, z_50, z_51, z_52, z_53, z_54]
    · rw [show tb N L p = p from rn_0 g, y_up2 (by omega)]
      exact e8
    · rw [show tb N L p = p from rn_0 g, y_up1 rfl rfl]
  induction m with
  | zero => exact fun p i hm hp hc e8 => go p i hp hc e8 fun q => by omega
  | succ m ih =>
    intro p i hm hp hc e8
    by_cases g : p < L ∧ 32 ≤ N p ∧ N p ≤ 32
    · have l400 := hc.2.1
      have A := m_isAt (d := d) (l := 32) (h := 32) (lo := 32) (hi := 32) hM hc e8 hp rfl rfl (by omega) (by omega)
      rw [if_pos g] at A
      obtain ⟨j, E, j3, j4, fj⟩ := ih (p + 1) (am_up2 i 874 8 (Int32.ofNat (p + 1))) (by omega) (by omega) (MT_fr hc (y_up2 (by omega)) fun k => y_up2 (by omega)) (y_up1 rfl rfl)
      have er : tb N L p = tb N L (p + 1) := rn_s g
      refine ⟨j, ?_, by rw [er]; exact j3, by rw [er]; exact j4, fun q k hq => (fj q k hq).trans (y_up2 (by omega))⟩
      rw [← E]
      clear E
      have E2 : ∀ x, x = am_fx am_P (d + 1) 40 0 [some (.ref 874)] [] (am_wI B (am_up2 i 874 8 (Int32.ofNat (p + 1)))) → am_fx am_P (d + 1) 40 0 [some (.ref 874)] [] (am_wI B i) = x := by
        intro x hx
        rw [bk_40_0]
        simp (disch := omega) only [A, e8, z_39, z_390, hM, y_ckd, y_ck2d, y_ond, y_onn, y_oI, y_oIx, y_oJ, y_oV, y_oVx, y_oR, y_oRn, y_oRx, y_b0, y_b1, y_bi, y_bid, y_wIK, y_wIL, y_wII, y_wIJ, y_wIR, y_wIN, y_wIw, y_sI, ↓reduceIte, Nat.reduceEqDiff, eq_self, true_or, or_true, false_or, or_false, and_true, true_and, false_and, and_false, not_true, not_false_eq_true, tf_T, tf_F, y_up1, y_up2, y_xx, y_nx, y_sJ, y_sR, Int32.reduceLT, y_nxK, y_nxL, y_nxR, y_sJK, y_sJL, y_sJR, y_sJN, y_sRK, y_sRL, y_sRN, Nat.add_zero, z_nat, z_lit, z_lit0, z_lit1, z_in0, z_in1, z_addl0, z_lt, z_ltl, z_llt, z_inj, z_injl, z_add, z_addl, z_ladd, z_mul, z_mull, z_lmul, z_neg, z_negl, z_in, z_inl, z_ltT, z_ltF, z_eqF, z_10, z_01, z_litne, z_ne0, z_0ne, z_ne1, z_1ne, z_lt64, z_02, z_03, z_04, z_05, z_12, z_13, z_14, z_15, z_20, z_21, z_23, z_24, z_25, z_30, z_31, z_32, z_34, z_35, z_40, z_41, z_42, z_43, z_45, z_50, z_51, z_52, z_53, z_54]
        rw [hx]
      exact E2 _ rfl
    · exact go p i hp hc e8 g
theorem m_letters (hM : Md B) (m : Nat) : ∀ (p : Nat) (i : Nat → Nat → Int32), L - p ≤ m → p ≤ L → MT N L i → i 874 8 = Int32.ofNat p → ∃ j, am_fx am_P (d + 1) 41 4 [some (.ref 874)] [] (am_wI B i) = some (.inl none, am_wI B j) ∧ j 874 8 = Int32.ofNat (lw N L p) ∧ (∀ q k, (q = 874 → k ≠ 8) → j q k = i q k) := by
  have go : ∀ (p : Nat) (i : Nat → Nat → Int32), p ≤ L → MT N L i → i 874 8 = Int32.ofNat p → ¬ (p < L ∧ 97 ≤ N p ∧ N p ≤ 122) → ∃ j, am_fx am_P (d + 1) 41 4 [some (.ref 874)] [] (am_wI B i) = some (.inl none, am_wI B j) ∧ j 874 8 = Int32.ofNat (lw N L p) ∧ (∀ q k, (q = 874 → k ≠ 8) → j q k = i q k) := by
    intro p i hp hc e8 g
    have A := m_isAt (d := d) (l := 97) (h := 122) (lo := 97) (hi := 122) hM hc e8 hp rfl rfl (by omega) (by omega)
    rw [if_neg g] at A
    refine ⟨i, ?_, ?_, fun q k h => rfl⟩
    · rw [bk_41_4]
      simp (disch := omega) only [A, e8, hM, y_ckd, y_ck2d, y_ond, y_onn, y_oI, y_oIx, y_oJ, y_oV, y_oVx, y_oR, y_oRn, y_oRx, y_b0, y_b1, y_bi, y_bid, y_wIK, y_wIL, y_wII, y_wIJ, y_wIR, y_wIN, y_wIw, y_sI, ↓reduceIte, Nat.reduceEqDiff, eq_self, true_or, or_true, false_or, or_false, and_true, true_and, false_and, and_false, not_true, not_false_eq_true, tf_T, tf_F, y_up1, y_up2, y_xx, y_nx, y_sJ, y_sR, Int32.reduceLT, y_nxK, y_nxL, y_nxR, y_sJK, y_sJL, y_sJR, y_sJN, y_sRK, y_sRL, y_sRN, Nat.add_zero, z_nat, z_lit, z_lit0, z_lit1, z_in0, z_in1, z_addl0, z_lt, z_ltl, z_llt, z_inj, z_injl, z_add, z_addl, z_ladd, z_mul, z_mull, z_lmul, z_neg, z_negl, z_in, z_inl, z_ltT, z_ltF, z_eqF, z_10, z_01, z_litne, z_ne0, z_0ne, z_ne1, z_1ne, z_lt64, z_02, z_03, z_04, z_05, z_12, z_13, z_14, z_15, z_20, z_21, z_23, z_24, z_25, z_30, z_31, z_32, z_34, z_35, z_40, z_41, z_42, z_43, z_45, z_50, z_51, z_52, z_53, z_54]
    · rw [show lw N L p = p from rn_0 g]
      exact e8
  induction m with
  | zero => exact fun p i hm hp hc e8 => go p i hp hc e8 fun q => by omega
  | succ m ih =>
    intro p i hm hp hc e8
    by_cases g : p < L ∧ 97 ≤ N p ∧ N p ≤ 122
    · have l400 := hc.2.1
      have A := m_isAt (d := d) (l := 97) (h := 122) (lo := 97) (hi := 122) hM hc e8 hp rfl rfl (by omega) (by omega)
      rw [if_pos g] at A
      obtain ⟨j, E, j3, fj⟩ := ih (p + 1) (am_up2 i 874 8 (Int32.ofNat (p + 1))) (by omega) (by omega) (MT_fr hc (y_up2 (by omega)) fun k => y_up2 (by omega)) (y_up1 rfl rfl)
      have er : lw N L p = lw N L (p + 1) := rn_s g
      refine ⟨j, ?_, by rw [er]; exact j3, fun q k hq => (fj q k hq).trans (y_up2 (by omega))⟩
      rw [← E]
      clear E
      have E2 : ∀ x, x = am_fx am_P (d + 1) 41 4 [some (.ref 874)] [] (am_wI B (am_up2 i 874 8 (Int32.ofNat (p + 1)))) → am_fx am_P (d + 1) 41 4 [some (.ref 874)] [] (am_wI B i) = x := by
        intro x hx
        rw [bk_41_4]
        simp (disch := omega) only [A, e8, z_39, z_390, hM, y_ckd, y_ck2d, y_ond, y_onn, y_oI, y_oIx, y_oJ, y_oV, y_oVx, y_oR, y_oRn, y_oRx, y_b0, y_b1, y_bi, y_bid, y_wIK, y_wIL, y_wII, y_wIJ, y_wIR, y_wIN, y_wIw, y_sI, ↓reduceIte, Nat.reduceEqDiff, eq_self, true_or, or_true, false_or, or_false, and_true, true_and, false_and, and_false, not_true, not_false_eq_true, tf_T, tf_F, y_up1, y_up2, y_xx, y_nx, y_sJ, y_sR, Int32.reduceLT, y_nxK, y_nxL, y_nxR, y_sJK, y_sJL, y_sJR, y_sJN, y_sRK, y_sRL, y_sRN, Nat.add_zero, z_nat, z_lit, z_lit0, z_lit1, z_in0, z_in1, z_addl0, z_lt, z_ltl, z_llt, z_inj, z_injl, z_add, z_addl, z_ladd, z_mul, z_mull, z_lmul, z_neg, z_negl, z_in, z_inl, z_ltT, z_ltF, z_eqF, z_10, z_01, z_litne, z_ne0, z_0ne, z_ne1, z_1ne, z_lt64, z_02, z_03, z_04, z_05, z_12, z_13, z_14, z_15, z_20, z_21, z_23, z_24, z_25, z_30, z_31, z_32, z_34, z_35, z_40, z_41, z_42, z_43, z_45, z_50, z_51, z_52, z_53, z_54]
        rw [hx]
      exact E2 _ rfl
    · exact go p i hp hc e8 g
theorem m_word (hM : Md B) (hc : MT N L i) (e8 : i 874 8 = Int32.ofNat p) (hp : p ≤ L) : ∃ j, am_fx am_P (d + 2) 41 0 [some (.ref 874)] [] (am_wI B i) = some (.inl none, am_wI B j) ∧ j 874 8 = Int32.ofNat (lw N L (tb N L p)) ∧ j 874 10 = Int32.ofNat (tb N L p) ∧ (∀ q k, (q = 874 → k ≠ 8 ∧ k ≠ 10) → j q k = i q k) := by
  obtain ⟨j1, E1, a1, a2, f1⟩ := m_blanks (d := d) hM (L - p) p i (Nat.le_refl _) hp hc e8
  have c1 : MT N L j1 := MT_fr hc (f1 _ _ (by omega)) fun k => f1 _ _ (by omega)
  obtain ⟨j2, E2, b1, f2⟩ := m_letters (d := d + 1) hM (L - tb N L p) (tb N L p) j1 (Nat.le_refl _) (rn_le hp) c1 a1
  refine ⟨j2, ?_, b1, (f2 _ _ (by omega)).trans a2, fun q k hq => (f2 q k (by omega)).trans (f1 q k hq)⟩
  rw [bk_41_0]
  simp (disch := omega) only [E1, hM, y_ckd, y_ck2d, y_ond, y_onn, y_oI, y_oIx, y_oJ, y_oV, y_oVx, y_oR, y_oRn, y_oRx, y_b0, y_b1, y_bi, y_bid, y_wIK, y_wIL, y_wII, y_wIJ, y_wIR, y_wIN, y_wIw, y_sI, ↓reduceIte, Nat.reduceEqDiff, eq_self, true_or, or_true, false_or, or_false, and_true, true_and, false_and, and_false, not_true, not_false_eq_true, tf_T, tf_F, y_up1, y_up2, y_xx, y_nx, y_sJ, y_sR, Int32.reduceLT, y_nxK, y_nxL, y_nxR, y_sJK, y_sJL, y_sJR, y_sJN, y_sRK, y_sRL, y_sRN, Nat.add_zero, z_nat, z_lit, z_lit0, z_lit1, z_in0, z_in1, z_addl0, z_lt, z_ltl, z_llt, z_inj, z_injl, z_add, z_addl, z_ladd, z_mul, z_mull, z_lmul, z_neg, z_negl, z_in, z_inl, z_ltT, z_ltF, z_eqF, z_10, z_01, z_litne, z_ne0, z_0ne, z_ne1, z_1ne, z_lt64, z_02, z_03, z_04, z_05, z_12, z_13, z_14, z_15, z_20, z_21, z_23, z_24, z_25, z_30, z_31, z_32, z_34, z_35, z_40, z_41, z_42, z_43, z_45, z_50, z_51, z_52, z_53, z_54]
  exact E2
end MLex
