/-! BESIDE: pieces that one text lets and the other does not, the class. Made by wip/whole/math/952.py. -/
/-- the world, and behind it the text that was read -/
def wpl (w v : Nat → Int32) : Nat → Int32 := fun z => if z < 12042 then w z else if z = 12042 then 0 else v z
/-- how many pieces in the sheds the first lets, and the second does not -/
def bes (w : Nat → Int32) (a b : Nat → Int32) (n : Nat) : Nat := itr (fun p c => if w (461 + 18 * p + 1) = 2 ∧ ¬ a p = -1 ∧ b p = -1 then c + 1 else c) n 0
/-- the facts of the warrants alone have changed -/
def FrL (i j : Nat → Nat → Int32) : Prop := ∀ q k, (q = 101 → k ≠ 3) → q ≠ 104 → j q k = i q k
section Besd
variable {B : am_A} {i j k : Nat → Nat → Int32} {w v : Nat → Int32} {d n a q q2 : Nat} {s : Int32} {z1 z2 : Nat → Int32}
theorem FrL.rf : FrL i i := fun _ _ _ _ => rfl
theorem FrL.tr (h1 : FrL i j) (h2 : FrL j k) : FrL i k := fun q l a b => (h2 q l a b).trans (h1 q l a b)
theorem wpl_lo {z : Nat} (h : z < 12042) : wpl w v z = w z := if_pos h
theorem wpl_hi {z : Nat} (h : 12042 < z) : wpl w v z = v z := by
  unfold wpl
  rw [if_neg (by omega), if_neg (by omega)]
theorem wpl_0 : wpl w v 12042 = 0 := by
  unfold wpl
  rw [if_neg (by omega), if_pos rfl]
theorem Wd_pl (h : Wd w) : Wd (wpl w v) := by
  obtain ⟨hC, hR, hT, hP, hS, hG, hE, hM, hX, hZ, hI⟩ := h
  have l460 := hC.2.2.1.2
  exact ⟨WdC_fr hC fun s hs => wpl_lo (by omega), WdR_fr hR fun s hs => wpl_lo (by omega), WdT_fr hT fun s hs => wpl_lo (by omega), WdP_fr hP l460 fun s hs => wpl_lo (by omega), WdS_fr hS fun s hs => wpl_lo (by omega), WdG_fr hG fun s hs => wpl_lo (by omega), WdE_fr hE fun s hs => wpl_lo (by omega), WdM_fr hM fun s hs => wpl_lo (by omega), WdX_fr hX fun s hs => wpl_lo (by omega), WdZ_fr hZ fun s hs => wpl_lo (by omega), WdI_fr hI fun s hs => wpl_lo (by omega)⟩
theorem bes_le : bes w z1 z2 n ≤ n := by
  unfold bes
  induction n with
  | zero => exact Nat.le_refl 0
  | succ n ih =>
    show (if w (461 + 18 * n + 1) = 2 ∧ ¬ z1 n = -1 ∧ z2 n = -1 then itr _ n 0 + 1 else itr _ n 0) ≤ n + 1
    split <;> omega
theorem bes_s : bes w z1 z2 (n + 1) = if w (461 + 18 * n + 1) = 2 ∧ ¬ z1 n = -1 ∧ z2 n = -1 then bes w z1 z2 n + 1 else bes w z1 z2 n := rfl
theorem c_moreA (hY : Yd B 94) (n120 : n ≤ 120) (h5 : i 94 5 = Int32.ofNat n) (h9 : ∀ p, p < n → i (94 + 92 + p) 9 = w (461 + 18 * p + 1)) (H1 : ∀ i', FrL i i' → ∀ p, p < n → ∃ i'', am_fx am_P d 250 0 [some (.ref 94), some (.ref q), some (.ref (94 + 92 + p)), some (.int s)] [] (am_wI B i') = some (.inl (some (.int (z1 p))), am_wI B i'') ∧ FrL i' i'') (H2 : ∀ i', FrL i i' → ∀ p, p < n → ∃ i'', am_fx am_P d 250 0 [some (.ref 94), some .null, some (.ref (94 + 92 + p)), some (.int s)] [] (am_wI B i') = some (.inl (some (.int (z2 p))), am_wI B i'') ∧ FrL i' i'') : ∃ j, am_fx am_P (d + 1) 251 0 [some (.ref 94), some (.ref q), some .null, some (.int s), none, none, none] [] (am_wI B i) = some (.inl (some (.int (Int32.ofNat (bes w z1 z2 n)))), am_wI B j) ∧ FrL i j := by
  obtain ⟨⟨a, j⟩, E, ea, fj⟩ := lp_inv (fun k (t : Nat × (Nat → Nat → Int32)) => am_fx am_P (d + 1) 251 6 [some (.ref 94), some (.ref q), some .null, some (.int s), some (.int (Int32.ofNat (t.1))), some (.int (Int32.ofNat (k))), none] [] (am_wI B t.2)) (fun k t => t.1 = bes w z1 z2 k ∧ FrL i t.2) n (fun k t hk hI => by
    obtain ⟨a, j⟩ := t
    obtain ⟨ea, fj⟩ := hI
    dsimp only at ea fj
    have j5 : j 94 5 = Int32.ofNat n := (fj _ _ (by omega) (by omega)).trans h5
    have j9 : j (94 + 92 + k) 9 = w (461 + 18 * k + 1) := (fj _ _ (by omega) (by omega)).trans (h9 k hk)
    by_cases g : w (461 + 18 * k + 1) = 2
    rotate_left
    · refine ⟨(a, j), ?_, by rw [bes_s, if_neg fun q => g q.1]; exact ea, fj⟩
      dsimp only
      rw [bk_251_6]
      simp (disch := omega) only [bk_251_34, j5, j9, g, hk, hY, y_ckd, y_ck2d, y_ond, y_onn, y_oI, y_oIx, y_oJ, y_oV, y_oVx, y_oR, y_oRn, y_oRx, y_b0, y_b1, y_bi, y_bid, y_wIK, y_wIL, y_wII, y_wIJ, y_wIR, y_wIN, y_wIw, y_sI, ↓reduceIte, Nat.reduceEqDiff, eq_self, true_or, or_true, false_or, or_false, and_true, true_and, false_and, and_false, not_true, not_false_eq_true, tf_T, tf_F, y_up1, y_up2, y_xx, y_nx, y_sJ, y_sR, Int32.reduceLT, y_nxK, y_nxL, y_nxR, y_sJK, y_sJL, y_sJR, y_sJN, y_sRK, y_sRL, y_sRN, Nat.add_zero, z_nat, z_lit, z_lit0, z_lit1, z_in0, z_in1, z_addl0, z_lt, z_ltl, z_llt, z_inj, z_injl, z_add, z_addl, z_ladd, z_mul, z_mull, z_lmul, z_neg, z_negl, z_in, z_inl, z_ltT, z_ltF, z_eqF, z_10, z_01, z_litne, z_ne0, z_0ne, z_ne1, z_1ne, z_lt64, z_02, z_03, z_04, z_05, z_12, z_13, z_14, z_15, z_20, z_21, z_23, z_24, z_25, z_30, z_31, z_32, z_34, z_35, z_40, z_41, z_42, z_43, z_45, z_50, z_51, z_52, z_53, z_54]
    · rw [g] at j9
      have E34 : am_fx am_P (d + 1) 251 6 [some (.ref 94), some (.ref q), some .null, some (.int s), some (.int (Int32.ofNat (a))), some (.int (Int32.ofNat (k))), none] [] (am_wI B j) = am_fx am_P (d + 1) 251 34 [some (.ref 94), some (.ref q), some .null, some (.int s), some (.int (Int32.ofNat (a))), some (.int (Int32.ofNat (k))), none] [.int 1] (am_wI B j) := by
        rw [bk_251_6]
        simp (disch := omega) only [j5, j9, hk, hY, y_ckd, y_ck2d, y_ond, y_onn, y_oI, y_oIx, y_oJ, y_oV, y_oVx, y_oR, y_oRn, y_oRx, y_b0, y_b1, y_bi, y_bid, y_wIK, y_wIL, y_wII, y_wIJ, y_wIR, y_wIN, y_wIw, y_sI, ↓reduceIte, Nat.reduceEqDiff, eq_self, true_or, or_true, false_or, or_false, and_true, true_and, false_and, and_false, not_true, not_false_eq_true, tf_T, tf_F, y_up1, y_up2, y_xx, y_nx, y_sJ, y_sR, Int32.reduceLT, y_nxK, y_nxL, y_nxR, y_sJK, y_sJL, y_sJR, y_sJN, y_sRK, y_sRL, y_sRN, Nat.add_zero, z_nat, z_lit, z_lit0, z_lit1, z_in0, z_in1, z_addl0, z_lt, z_ltl, z_llt, z_inj, z_injl, z_add, z_addl, z_ladd, z_mul, z_mull, z_lmul, z_neg, z_negl, z_in, z_inl, z_ltT, z_ltF, z_eqF, z_10, z_01, z_litne, z_ne0, z_0ne, z_ne1, z_1ne, z_lt64, z_02, z_03, z_04, z_05, z_12, z_13, z_14, z_15, z_20, z_21, z_23, z_24, z_25, z_30, z_31, z_32, z_34, z_35, z_40, z_41, z_42, z_43, z_45, z_50, z_51, z_52, z_53, z_54]
      obtain ⟨j1, E1, f1⟩ := H1 j fj k hk
      by_cases g1 : z1 k = -1
      · refine ⟨(a, j1), ?_, by rw [bes_s, if_neg fun q => q.2.1 g1]; exact ea, fj.tr f1⟩
        dsimp only
        rw [g1] at E1
        rw [E34, bk_251_34]
        simp (disch := omega) only [E1, z_39, z_390, hk, hY, y_ckd, y_ck2d, y_ond, y_onn, y_oI, y_oIx, y_oJ, y_oV, y_oVx, y_oR, y_oRn, y_oRx, y_b0, y_b1, y_bi, y_bid, y_wIK, y_wIL, y_wII, y_wIJ, y_wIR, y_wIN, y_wIw, y_sI, ↓reduceIte, Nat.reduceEqDiff, eq_self, true_or, or_true, false_or, or_false, and_true, true_and, false_and, and_false, not_true, not_false_eq_true, tf_T, tf_F, y_up1, y_up2, y_xx, y_nx, y_sJ, y_sR, Int32.reduceLT, y_nxK, y_nxL, y_nxR, y_sJK, y_sJL, y_sJR, y_sJN, y_sRK, y_sRL, y_sRN, Nat.add_zero, z_nat, z_lit, z_lit0, z_lit1, z_in0, z_in1, z_addl0, z_lt, z_ltl, z_llt, z_inj, z_injl, z_add, z_addl, z_ladd, z_mul, z_mull, z_lmul, z_neg, z_negl, z_in, z_inl, z_ltT, z_ltF, z_eqF, z_10, z_01, z_litne, z_ne0, z_0ne, z_ne1, z_1ne, z_lt64, z_02, z_03, z_04, z_05, z_12, z_13, z_14, z_15, z_20, z_21, z_23, z_24, z_25, z_30, z_31, z_32, z_34, z_35, z_40, z_41, z_42, z_43, z_45, z_50, z_51, z_52, z_53, z_54]
      · obtain ⟨j2, E2, f2⟩ := H2 j1 (fj.tr f1) k hk
        by_cases g2 : z2 k = -1
        · refine ⟨(a + 1, j2), ?_, by rw [bes_s, if_pos ⟨g, g1, g2⟩, ← ea], (fj.tr f1).tr f2⟩
          dsimp only
          rw [g2] at E2
          rw [E34, bk_251_34]
          simp (disch := omega) only [E1, E2, g1, z_39, z_390, hk, hY, y_ckd, y_ck2d, y_ond, y_onn, y_oI, y_oIx, y_oJ, y_oV, y_oVx, y_oR, y_oRn, y_oRx, y_b0, y_b1, y_bi, y_bid, y_wIK, y_wIL, y_wII, y_wIJ, y_wIR, y_wIN, y_wIw, y_sI, ↓reduceIte, Nat.reduceEqDiff, eq_self, true_or, or_true, false_or, or_false, and_true, true_and, false_and, and_false, not_true, not_false_eq_true, tf_T, tf_F, y_up1, y_up2, y_xx, y_nx, y_sJ, y_sR, Int32.reduceLT, y_nxK, y_nxL, y_nxR, y_sJK, y_sJL, y_sJR, y_sJN, y_sRK, y_sRL, y_sRN, Nat.add_zero, z_nat, z_lit, z_lit0, z_lit1, z_in0, z_in1, z_addl0, z_lt, z_ltl, z_llt, z_inj, z_injl, z_add, z_addl, z_ladd, z_mul, z_mull, z_lmul, z_neg, z_negl, z_in, z_inl, z_ltT, z_ltF, z_eqF, z_10, z_01, z_litne, z_ne0, z_0ne, z_ne1, z_1ne, z_lt64, z_02, z_03, z_04, z_05, z_12, z_13, z_14, z_15, z_20, z_21, z_23, z_24, z_25, z_30, z_31, z_32, z_34, z_35, z_40, z_41, z_42, z_43, z_45, z_50, z_51, z_52, z_53, z_54]
        · refine ⟨(a, j2), ?_, by rw [bes_s, if_neg fun q => g2 q.2.2]; exact ea, (fj.tr f1).tr f2⟩
          dsimp only
          rw [E34, bk_251_34]
          simp (disch := omega) only [E1, E2, g1, g2, z_39, z_390, hk, hY, y_ckd, y_ck2d, y_ond, y_onn, y_oI, y_oIx, y_oJ, y_oV, y_oVx, y_oR, y_oRn, y_oRx, y_b0, y_b1, y_bi, y_bid, y_wIK, y_wIL, y_wII, y_wIJ, y_wIR, y_wIN, y_wIw, y_sI, ↓reduceIte, Nat.reduceEqDiff, eq_self, true_or, or_true, false_or, or_false, and_true, true_and, false_and, and_false, not_true, not_false_eq_true, tf_T, tf_F, y_up1, y_up2, y_xx, y_nx, y_sJ, y_sR, Int32.reduceLT, y_nxK, y_nxL, y_nxR, y_sJK, y_sJL, y_sJR, y_sJN, y_sRK, y_sRL, y_sRN, Nat.add_zero, z_nat, z_lit, z_lit0, z_lit1, z_in0, z_in1, z_addl0, z_lt, z_ltl, z_llt, z_inj, z_injl, z_add, z_addl, z_ladd, z_mul, z_mull, z_lmul, z_neg, z_negl, z_in, z_inl, z_ltT, z_ltF, z_eqF, z_10, z_01, z_litne, z_ne0, z_0ne, z_ne1, z_1ne, z_lt64, z_02, z_03, z_04, z_05, z_12, z_13, z_14, z_15, z_20, z_21, z_23, z_24, z_25, z_30, z_31, z_32, z_34, z_35, z_40, z_41, z_42, z_43, z_45, z_50, z_51, z_52, z_53, z_54]) (0, i) ⟨rfl, FrL.rf⟩
  dsimp only at E ea fj
  have j5 : j 94 5 = Int32.ofNat n := (fj _ _ (by omega) (by omega)).trans h5
  refine ⟨j, ?_, fj⟩
  rw [bk_251_0]
  refine E.trans ?_
  rw [bk_251_6]
  simp (disch := omega) only [j5, Nat.lt_irrefl, hY, y_ckd, y_ck2d, y_ond, y_onn, y_oI, y_oIx, y_oJ, y_oV, y_oVx, y_oR, y_oRn, y_oRx, y_b0, y_b1, y_bi, y_bid, y_wIK, y_wIL, y_wII, y_wIJ, y_wIR, y_wIN, y_wIw, y_sI, ↓reduceIte, Nat.reduceEqDiff, eq_self, true_or, or_true, false_or, or_false, and_true, true_and, false_and, and_false, not_true, not_false_eq_true, tf_T, tf_F, y_up1, y_up2, y_xx, y_nx, y_sJ, y_sR, Int32.reduceLT, y_nxK, y_nxL, y_nxR, y_sJK, y_sJL, y_sJR, y_sJN, y_sRK, y_sRL, y_sRN, Nat.add_zero, z_nat, z_lit, z_lit0, z_lit1, z_in0, z_in1, z_addl0, z_lt, z_ltl, z_llt, z_inj, z_injl, z_add, z_addl, z_ladd, z_mul, z_mull, z_lmul, z_neg, z_negl, z_in, z_inl, z_ltT, z_ltF, z_eqF, z_10, z_01, z_litne, z_ne0, z_0ne, z_ne1, z_1ne, z_lt64, z_02, z_03, z_04, z_05, z_12, z_13, z_14, z_15, z_20, z_21, z_23, z_24, z_25, z_30, z_31, z_32, z_34, z_35, z_40, z_41, z_42, z_43, z_45, z_50, z_51, z_52, z_53, z_54]
  rw [ea]
theorem c_moreB (hY : Yd B 94) (n120 : n ≤ 120) (h5 : i 94 5 = Int32.ofNat n) (h9 : ∀ p, p < n → i (94 + 92 + p) 9 = w (461 + 18 * p + 1)) (H1 : ∀ i', FrL i i' → ∀ p, p < n → ∃ i'', am_fx am_P d 250 0 [some (.ref 94), some .null, some (.ref (94 + 92 + p)), some (.int s)] [] (am_wI B i') = some (.inl (some (.int (z1 p))), am_wI B i'') ∧ FrL i' i'') (H2 : ∀ i', FrL i i' → ∀ p, p < n → ∃ i'', am_fx am_P d 250 0 [some (.ref 94), some (.ref q2), some (.ref (94 + 92 + p)), some (.int s)] [] (am_wI B i') = some (.inl (some (.int (z2 p))), am_wI B i'') ∧ FrL i' i'') : ∃ j, am_fx am_P (d + 1) 251 0 [some (.ref 94), some .null, some (.ref q2), some (.int s), none, none, none] [] (am_wI B i) = some (.inl (some (.int (Int32.ofNat (bes w z1 z2 n)))), am_wI B j) ∧ FrL i j := by
  obtain ⟨⟨a, j⟩, E, ea, fj⟩ := lp_inv (fun k (t : Nat × (Nat → Nat → Int32)) => am_fx am_P (d + 1) 251 6 [some (.ref 94), some .null, some (.ref q2), some (.int s), some (.int (Int32.ofNat (t.1))), some (.int (Int32.ofNat (k))), none] [] (am_wI B t.2)) (fun k t => t.1 = bes w z1 z2 k ∧ FrL i t.2) n (fun k t hk hI => by
    obtain ⟨a, j⟩ := t
    obtain ⟨ea, fj⟩ := hI
    dsimp only at ea fj
    have j5 : j 94 5 = Int32.ofNat n := (fj _ _ (by omega) (by omega)).trans h5
    have j9 : j (94 + 92 + k) 9 = w (461 + 18 * k + 1) := (fj _ _ (by omega) (by omega)).trans (h9 k hk)
    by_cases g : w (461 + 18 * k + 1) = 2
    rotate_left
    · refine ⟨(a, j), ?_, by rw [bes_s, if_neg fun q => g q.1]; exact ea, fj⟩
      dsimp only
      rw [bk_251_6_RNRIII_]
      simp (disch := omega) only [bk_251_34_RNRIII_I, j5, j9, g, hk, hY, y_ckd, y_ck2d, y_ond, y_onn, y_oI, y_oIx, y_oJ, y_oV, y_oVx, y_oR, y_oRn, y_oRx, y_b0, y_b1, y_bi, y_bid, y_wIK, y_wIL, y_wII, y_wIJ, y_wIR, y_wIN, y_wIw, y_sI, ↓reduceIte, Nat.reduceEqDiff, eq_self, true_or, or_true, false_or, or_false, and_true, true_and, false_and, and_false, not_true, not_false_eq_true, tf_T, tf_F, y_up1, y_up2, y_xx, y_nx, y_sJ, y_sR, Int32.reduceLT, y_nxK, y_nxL, y_nxR, y_sJK, y_sJL, y_sJR, y_sJN, y_sRK, y_sRL, y_sRN, Nat.add_zero, z_nat, z_lit, z_lit0, z_lit1, z_in0, z_in1, z_addl0, z_lt, z_ltl, z_llt, z_inj, z_injl, z_add, z_addl, z_ladd, z_mul, z_mull, z_lmul, z_neg, z_negl, z_in, z_inl, z_ltT, z_ltF, z_eqF, z_10, z_01, z_litne, z_ne0, z_0ne, z_ne1, z_1ne, z_lt64, z_02, z_03, z_04, z_05, z_12, z_13, z_14, z_15, z_20, z_21, z_23, z_24, z_25, z_30, z_31, z_32, z_34, z_35, z_40, z_41, z_42, z_43, z_45, z_50, z_51, z_52, z_53, z_54]
    · rw [g] at j9
      have E34 : am_fx am_P (d + 1) 251 6 [some (.ref 94), some .null, some (.ref q2), some (.int s), some (.int (Int32.ofNat (a))), some (.int (Int32.ofNat (k))), none] [] (am_wI B j) = am_fx am_P (d + 1) 251 34 [some (.ref 94), some .null, some (.ref q2), some (.int s), some (.int (Int32.ofNat (a))), some (.int (Int32.ofNat (k))), none] [.int 1] (am_wI B j) := by
        rw [bk_251_6_RNRIII_]
        simp (disch := omega) only [j5, j9, hk, hY, y_ckd, y_ck2d, y_ond, y_onn, y_oI, y_oIx, y_oJ, y_oV, y_oVx, y_oR, y_oRn, y_oRx, y_b0, y_b1, y_bi, y_bid, y_wIK, y_wIL, y_wII, y_wIJ, y_wIR, y_wIN, y_wIw, y_sI, ↓reduceIte, Nat.reduceEqDiff, eq_self, true_or, or_true, false_or, or_false, and_true, true_and, false_and, and_false, not_true, not_false_eq_true, tf_T, tf_F, y_up1, y_up2, y_xx, y_nx, y_sJ, y_sR, Int32.reduceLT, y_nxK, y_nxL, y_nxR, y_sJK, y_sJL, y_sJR, y_sJN, y_sRK, y_sRL, y_sRN, Nat.add_zero, z_nat, z_lit, z_lit0, z_lit1, z_in0, z_in1, z_addl0, z_lt, z_ltl, z_llt, z_inj, z_injl, z_add, z_addl, z_ladd, z_mul, z_mull, z_lmul, z_neg, z_negl, z_in, z_inl, z_ltT, z_ltF, z_eqF, z_10, z_01, z_litne, z_ne0, z_0ne, z_ne1, z_1ne, z_lt64, z_02, z_03, z_04, z_05, z_12, z_13, z_14, z_15, z_20, z_21, z_23, z_24, z_25, z_30, z_31, z_32, z_34, z_35, z_40, z_41, z_42, z_43, z_45, z_50, z_51, z_52, z_53, z_54]
      obtain ⟨j1, E1, f1⟩ := H1 j fj k hk
      by_cases g1 : z1 k = -1
      · refine ⟨(a, j1), ?_, by rw [bes_s, if_neg fun q => q.2.1 g1]; exact ea, fj.tr f1⟩
        dsimp only
        rw [g1] at E1
        rw [E34, bk_251_34_RNRIII_I]
        simp (disch := omega) only [E1, z_39, z_390, hk, hY, y_ckd, y_ck2d, y_ond, y_onn, y_oI, y_oIx, y_oJ, y_oV, y_oVx, y_oR, y_oRn, y_oRx, y_b0, y_b1, y_bi, y_bid, y_wIK, y_wIL, y_wII, y_wIJ, y_wIR, y_wIN, y_wIw, y_sI, ↓reduceIte, Nat.reduceEqDiff, eq_self, true_or, or_true, false_or, or_false, and_true, true_and, false_and, and_false, not_true, not_false_eq_true, tf_T, tf_F, y_up1, y_up2, y_xx, y_nx, y_sJ, y_sR, Int32.reduceLT, y_nxK, y_nxL, y_nxR, y_sJK, y_sJL, y_sJR, y_sJN, y_sRK, y_sRL, y_sRN, Nat.add_zero, z_nat, z_lit, z_lit0, z_lit1, z_in0, z_in1, z_addl0, z_lt, z_ltl, z_llt, z_inj, z_injl, z_add, z_addl, z_ladd, z_mul, z_mull, z_lmul, z_neg, z_negl, z_in, z_inl, z_ltT, z_ltF, z_eqF, z_10, z_01, z_litne, z_ne0, z_0ne, z_ne1, z_1ne, z_lt64, z_02, z_03, z_04, z_05, z_12, z_13, z_14, z_15, z_20, z_21, z_23, z_24, z_25, z_30, z_31, z_32, z_34, z_35, z_40, z_41, z_42, z_43, z_45, z_50, z_51, z_52, z_53, z_54]
      · obtain ⟨j2, E2, f2⟩ := H2 j1 (fj.tr f1) k hk
        by_cases g2 : z2 k = -1
        · refine ⟨(a + 1, j2), ?_, by rw [bes_s, if_pos ⟨g, g1, g2⟩, ← ea], (fj.tr f1).tr f2⟩
          dsimp only
          rw [g2] at E2
          rw [E34, bk_251_34_RNRIII_I]
          simp (disch := omega) only [E1, E2, g1, z_39, z_390, hk, hY, y_ckd, y_ck2d, y_ond, y_onn, y_oI, y_oIx, y_oJ, y_oV, y_oVx, y_oR, y_oRn, y_oRx, y_b0, y_b1, y_bi, y_bid, y_wIK, y_wIL, y_wII, y_wIJ, y_wIR, y_wIN, y_wIw, y_sI, ↓reduceIte, Nat.reduceEqDiff, eq_self, true_or, or_true, false_or, or_false, and_true, true_and, false_and, and_false, not_true, not_false_eq_true, tf_T, tf_F, y_up1, y_up2, y_xx, y_nx, y_sJ, y_sR, Int32.reduceLT, y_nxK, y_nxL, y_nxR, y_sJK, y_sJL, y_sJR, y_sJN, y_sRK, y_sRL, y_sRN, Nat.add_zero, z_nat, z_lit, z_lit0, z_lit1, z_in0, z_in1, z_addl0, z_lt, z_ltl, z_llt, z_inj, z_injl, z_add, z_addl, z_ladd, z_mul, z_mull, z_lmul, z_neg, z_negl, z_in, z_inl, z_ltT, z_ltF, z_eqF, z_10, z_01, z_litne, z_ne0, z_0ne, z_ne1, z_1ne, z_lt64, z_02, z_03, z_04, z_05, z_12, z_13, z_14, z_15, z_20, z_21, z_23, z_24, z_25, z_30, z_31, z_32, z_34, z_35, z_40, z_41, z_42, z_43, z_45, z_50, z_51, z_52, z_53, z_54]
        · refine ⟨(a, j2), ?_, by rw [bes_s, if_neg fun q => g2 q.2.2]; exact ea, (fj.tr f1).tr f2⟩
          dsimp only
          rw [E34, bk_251_34_RNRIII_I]
          simp (disch := omega) only [E1, E2, g1, g2, z_39, z_390, hk, hY, y_ckd, y_ck2d, y_ond, y_onn, y_oI, y_oIx, y_oJ, y_oV, y_oVx, y_oR, y_oRn, y_oRx, y_b0, y_b1, y_bi, y_bid, y_wIK, y_wIL, y_wII, y_wIJ, y_wIR, y_wIN, y_wIw, y_sI, ↓reduceIte, Nat.reduceEqDiff, eq_self, true_or, or_true, false_or, or_false, and_true, true_and, false_and, and_false, not_true, not_false_eq_true, tf_T, tf_F, y_up1, y_up2, y_xx, y_nx, y_sJ, y_sR, Int32.reduceLT, y_nxK, y_nxL, y_nxR, y_sJK, y_sJL, y_sJR, y_sJN, y_sRK, y_sRL, y_sRN, Nat.add_zero, z_nat, z_lit, z_lit0, z_lit1, z_in0, z_in1, z_addl0, z_lt, z_ltl, z_llt, z_inj, z_injl, z_add, z_addl, z_ladd, z_mul, z_mull, z_lmul, z_neg, z_negl, z_in, z_inl, z_ltT, z_ltF, z_eqF, z_10, z_01, z_litne, z_ne0, z_0ne, z_ne1, z_1ne, z_lt64, z_02, z_03, z_04, z_05, z_12, z_13, z_14, z_15, z_20, z_21, z_23, z_24, z_25, z_30, z_31, z_32, z_34, z_35, z_40, z_41, z_42, z_43, z_45, z_50, z_51, z_52, z_53, z_54]) (0, i) ⟨rfl, FrL.rf⟩
  dsimp only at E ea fj
  have j5 : j 94 5 = Int32.ofNat n := (fj _ _ (by omega) (by omega)).trans h5
  refine ⟨j, ?_, fj⟩
  rw [bk_251_0_RNRI__]
  refine E.trans ?_
  rw [bk_251_6_RNRIII_]
  simp (disch := omega) only [j5, Nat.lt_irrefl, hY, y_ckd, y_ck2d, y_ond, y_onn, y_oI, y_oIx, y_oJ, y_oV, y_oVx, y_oR, y_oRn, y_oRx, y_b0, y_b1, y_bi, y_bid, y_wIK, y_wIL, y_wII, y_wIJ, y_wIR, y_wIN, y_wIw, y_sI, ↓reduceIte, Nat.reduceEqDiff, eq_self, true_or, or_true, false_or, or_false, and_true, true_and, false_and, and_false, not_true, not_false_eq_true, tf_T, tf_F, y_up1, y_up2, y_xx, y_nx, y_sJ, y_sR, Int32.reduceLT, y_nxK, y_nxL, y_nxR, y_sJK, y_sJL, y_sJR, y_sJN, y_sRK, y_sRL, y_sRN, Nat.add_zero, z_nat, z_lit, z_lit0, z_lit1, z_in0, z_in1, z_addl0, z_lt, z_ltl, z_llt, z_inj, z_injl, z_add, z_addl, z_ladd, z_mul, z_mull, z_lmul, z_neg, z_negl, z_in, z_inl, z_ltT, z_ltF, z_eqF, z_10, z_01, z_litne, z_ne0, z_0ne, z_ne1, z_1ne, z_lt64, z_02, z_03, z_04, z_05, z_12, z_13, z_14, z_15, z_20, z_21, z_23, z_24, z_25, z_30, z_31, z_32, z_34, z_35, z_40, z_41, z_42, z_43, z_45, z_50, z_51, z_52, z_53, z_54]
  rw [ea]
theorem c_moreC (hY : Yd B 94) (n120 : n ≤ 120) (h5 : i 94 5 = Int32.ofNat n) (h9 : ∀ p, p < n → i (94 + 92 + p) 9 = w (461 + 18 * p + 1)) (H1 : ∀ i', FrL i i' → ∀ p, p < n → ∃ i'', am_fx am_P d 250 0 [some (.ref 94), some (.ref q), some (.ref (94 + 92 + p)), some (.int s)] [] (am_wI B i') = some (.inl (some (.int (z1 p))), am_wI B i'') ∧ FrL i' i'') (H2 : ∀ i', FrL i i' → ∀ p, p < n → ∃ i'', am_fx am_P d 250 0 [some (.ref 94), some (.ref q2), some (.ref (94 + 92 + p)), some (.int s)] [] (am_wI B i') = some (.inl (some (.int (z2 p))), am_wI B i'') ∧ FrL i' i'') : ∃ j, am_fx am_P (d + 1) 251 0 [some (.ref 94), some (.ref q), some (.ref q2), some (.int s), none, none, none] [] (am_wI B i) = some (.inl (some (.int (Int32.ofNat (bes w z1 z2 n)))), am_wI B j) ∧ FrL i j := by
  obtain ⟨⟨a, j⟩, E, ea, fj⟩ := lp_inv (fun k (t : Nat × (Nat → Nat → Int32)) => am_fx am_P (d + 1) 251 6 [some (.ref 94), some (.ref q), some (.ref q2), some (.int s), some (.int (Int32.ofNat (t.1))), some (.int (Int32.ofNat (k))), none] [] (am_wI B t.2)) (fun k t => t.1 = bes w z1 z2 k ∧ FrL i t.2) n (fun k t hk hI => by
    obtain ⟨a, j⟩ := t
    obtain ⟨ea, fj⟩ := hI
    dsimp only at ea fj
    have j5 : j 94 5 = Int32.ofNat n := (fj _ _ (by omega) (by omega)).trans h5
    have j9 : j (94 + 92 + k) 9 = w (461 + 18 * k + 1) := (fj _ _ (by omega) (by omega)).trans (h9 k hk)
    by_cases g : w (461 + 18 * k + 1) = 2
    rotate_left
    · refine ⟨(a, j), ?_, by rw [bes_s, if_neg fun q => g q.1]; exact ea, fj⟩
      dsimp only
      rw [bk_251_6_RRRIII_]
      simp (disch := omega) only [bk_251_34_RRRIII_I, j5, j9, g, hk, hY, y_ckd, y_ck2d, y_ond, y_onn, y_oI, y_oIx, y_oJ, y_oV, y_oVx, y_oR, y_oRn, y_oRx, y_b0, y_b1, y_bi, y_bid, y_wIK, y_wIL, y_wII, y_wIJ, y_wIR, y_wIN, y_wIw, y_sI, ↓reduceIte, Nat.reduceEqDiff, eq_self, true_or, or_true, false_or, or_false, and_true, true_and, false_and, and_false, not_true, not_false_eq_true, tf_T, tf_F, y_up1, y_up2, y_xx, y_nx, y_sJ, y_sR, Int32.reduceLT, y_nxK, y_nxL, y_nxR, y_sJK, y_sJL, y_sJR, y_sJN, y_sRK, y_sRL, y_sRN, Nat.add_zero, z_nat, z_lit, z_lit0, z_lit1, z_in0, z_in1, z_addl0, z_lt, z_ltl, z_llt, z_inj, z_injl, z_add, z_addl, z_ladd, z_mul, z_mull, z_lmul, z_neg, z_negl, z_in, z_inl, z_ltT, z_ltF, z_eqF, z_10, z_01, z_litne, z_ne0, z_0ne, z_ne1, z_1ne, z_lt64, z_02, z_03, z_04, z_05, z_12, z_13, z_14, z_15, z_20, z_21, z_23, z_24, z_25, z_30, z_31, z_32, z_34, z_35, z_40, z_41, z_42, z_43, z_45, z_50, z_51, z_52, z_53, z_54]
    · rw [g] at j9
      have E34 : am_fx am_P (d + 1) 251 6 [some (.ref 94), some (.ref q), some (.ref q2), some (.int s), some (.int (Int32.ofNat (a))), some (.int (Int32.ofNat (k))), none] [] (am_wI B j) = am_fx am_P (d + 1) 251 34 [some (.ref 94), some (.ref q), some (.ref q2), some (.int s), some (.int (Int32.ofNat (a))), some (.int (Int32.ofNat (k))), none] [.int 1] (am_wI B j) := by
        rw [bk_251_6_RRRIII_]
        simp (disch := omega) only [j5, j9, hk, hY, y_ckd, y_ck2d, y_ond, y_onn, y_oI, y_oIx, y_oJ, y_oV, y_oVx, y_oR, y_oRn, y_oRx, y_b0, y_b1, y_bi, y_bid, y_wIK, y_wIL, y_wII, y_wIJ, y_wIR, y_wIN, y_wIw, y_sI, ↓reduceIte, Nat.reduceEqDiff, eq_self, true_or, or_true, false_or, or_false, and_true, true_and, false_and, and_false, not_true, not_false_eq_true, tf_T, tf_F, y_up1, y_up2, y_xx, y_nx, y_sJ, y_sR, Int32.reduceLT, y_nxK, y_nxL, y_nxR, y_sJK, y_sJL, y_sJR, y_sJN, y_sRK, y_sRL, y_sRN, Nat.add_zero, z_nat, z_lit, z_lit0, z_lit1, z_in0, z_in1, z_addl0, z_lt, z_ltl, z_llt, z_inj, z_injl, z_add, z_addl, z_ladd, z_mul, z_mull, z_lmul, z_neg, z_negl, z_in, z_inl, z_ltT, z_ltF, z_eqF, z_10, z_01, z_litne, z_ne0, z_0ne, z_ne1, z_1ne, z_lt64, z_02, z_03, z_04, z_05, z_12, z_13, z_14, z_15, z_20, z_21, z_23, z_24, z_25, z_30, z_31, z_32, z_34, z_35, z_40, z_41, z_42, z_43, z_45, z_50, z_51, z_52, z_53, z_54]
      obtain ⟨j1, E1, f1⟩ := H1 j fj k hk
      by_cases g1 : z1 k = -1
      · refine ⟨(a, j1), ?_, by rw [bes_s, if_neg fun q => q.2.1 g1]; exact ea, fj.tr f1⟩
        dsimp only
        rw [g1] at E1
        rw [E34, bk_251_34_RRRIII_I]
        simp (disch := omega) only [E1, z_39, z_390, hk, hY, y_ckd, y_ck2d, y_ond, y_onn, y_oI, y_oIx, y_oJ, y_oV, y_oVx, y_oR, y_oRn, y_oRx, y_b0, y_b1, y_bi, y_bid, y_wIK, y_wIL, y_wII, y_wIJ, y_wIR, y_wIN, y_wIw, y_sI, ↓reduceIte, Nat.reduceEqDiff, eq_self, true_or, or_true, false_or, or_false, and_true, true_and, false_and, and_false, not_true, not_false_eq_true, tf_T, tf_F, y_up1, y_up2, y_xx, y_nx, y_sJ, y_sR, Int32.reduceLT, y_nxK, y_nxL, y_nxR, y_sJK, y_sJL, y_sJR, y_sJN, y_sRK, y_sRL, y_sRN, Nat.add_zero, z_nat, z_lit, z_lit0, z_lit1, z_in0, z_in1, z_addl0, z_lt, z_ltl, z_llt, z_inj, z_injl, z_add, z_addl, z_ladd, z_mul, z_mull, z_lmul, z_neg, z_negl, z_in, z_inl, z_ltT, z_ltF, z_eqF, z_10, z_01, z_litne, z_ne0, z_0ne, z_ne1, z_1ne, z_lt64, z_02, z_03, z_04, z_05, z_12, z_13, z_14, z_15, z_20, z_21, z_23, z_24, z_25, z_30, z_31, z_32, z_34, z_35, z_40, z_41, z_42, z_43, z_45, z_50, z_51, z_52, z_53, z_54]
      · obtain ⟨j2, E2, f2⟩ := H2 j1 (fj.tr f1) k hk
        by_cases g2 : z2 k = -1
        · refine ⟨(a + 1, j2), ?_, by rw [bes_s, if_pos ⟨g, g1, g2⟩, ← ea], (fj.tr f1).tr f2⟩
          dsimp only
          rw [g2] at E2
          rw [E34, bk_251_34_RRRIII_I]
          simp (disch := omega) only [E1, E2, g1, z_39, z_390, hk, hY, y_ckd, y_ck2d, y_ond, y_onn, y_oI, y_oIx, y_oJ, y_oV, y_oVx, y_oR, y_oRn, y_oRx, y_b0, y_b1, y_bi, y_bid, y_wIK, y_wIL, y_wII, y_wIJ, y_wIR, y_wIN, y_wIw, y_sI, ↓reduceIte, Nat.reduceEqDiff, eq_self, true_or, or_true, false_or, or_false, and_true, true_and, false_and, and_false, not_true, not_false_eq_true, tf_T, tf_F, y_up1, y_up2, y_xx, y_nx, y_sJ, y_sR, Int32.reduceLT, y_nxK, y_nxL, y_nxR, y_sJK, y_sJL, y_sJR, y_sJN, y_sRK, y_sRL, y_sRN, Nat.add_zero, z_nat, z_lit, z_lit0, z_lit1, z_in0, z_in1, z_addl0, z_lt, z_ltl, z_llt, z_inj, z_injl, z_add, z_addl, z_ladd, z_mul, z_mull, z_lmul, z_neg, z_negl, z_in, z_inl, z_ltT, z_ltF, z_eqF, z_10, z_01, z_litne, z_ne0, z_0ne, z_ne1, z_1ne, z_lt64, z_02, z_03, z_04, z_05, z_12, z_13, z_14, z_15, z_20, z_21, z_23, z_24, z_25, z_30, z_31, z_32, z_34, z_35, z_40, z_41, z_42, z_43, z_45, z_50, z_51, z_52, z_53, z_54]
        · refine ⟨(a, j2), ?_, by rw [bes_s, if_neg fun q => g2 q.2.2]; exact ea, (fj.tr f1).tr f2⟩
          dsimp only
          rw [E34, bk_251_34_RRRIII_I]
          simp (disch := omega) only [E1, E2, g1, g2, z_39, z_390, hk, hY, y_ckd, y_ck2d, y_ond, y_onn, y_oI, y_oIx, y_oJ, y_oV, y_oVx, y_oR, y_oRn, y_oRx, y_b0, y_b1, y_bi, y_bid, y_wIK, y_wIL, y_wII, y_wIJ, y_wIR, y_wIN, y_wIw, y_sI, ↓reduceIte, Nat.reduceEqDiff, eq_self, true_or, or_true, false_or, or_false, and_true, true_and, false_and, and_false, not_true, not_false_eq_true, tf_T, tf_F, y_up1, y_up2, y_xx, y_nx, y_sJ, y_sR, Int32.reduceLT, y_nxK, y_nxL, y_nxR, y_sJK, y_sJL, y_sJR, y_sJN, y_sRK, y_sRL, y_sRN, Nat.add_zero, z_nat, z_lit, z_lit0, z_lit1, z_in0, z_in1, z_addl0, z_lt, z_ltl, z_llt, z_inj, z_injl, z_add, z_addl, z_ladd, z_mul, z_mull, z_lmul, z_neg, z_negl, z_in, z_inl, z_ltT, z_ltF, z_eqF, z_10, z_01, z_litne, z_ne0, z_0ne, z_ne1, z_1ne, z_lt64, z_02, z_03, z_04, z_05, z_12, z_13, z_14, z_15, z_20, z_21, z_23, z_24, z_25, z_30, z_31, z_32, z_34, z_35, z_40, z_41, z_42, z_43, z_45, z_50, z_51, z_52, z_53, z_54]) (0, i) ⟨rfl, FrL.rf⟩
  dsimp only at E ea fj
  have j5 : j 94 5 = Int32.ofNat n := (fj _ _ (by omega) (by omega)).trans h5
  refine ⟨j, ?_, fj⟩
  rw [bk_251_0_RRRI__]
  refine E.trans ?_
  rw [bk_251_6_RRRIII_]
  simp (disch := omega) only [j5, Nat.lt_irrefl, hY, y_ckd, y_ck2d, y_ond, y_onn, y_oI, y_oIx, y_oJ, y_oV, y_oVx, y_oR, y_oRn, y_oRx, y_b0, y_b1, y_bi, y_bid, y_wIK, y_wIL, y_wII, y_wIJ, y_wIR, y_wIN, y_wIw, y_sI, ↓reduceIte, Nat.reduceEqDiff, eq_self, true_or, or_true, false_or, or_false, and_true, true_and, false_and, and_false, not_true, not_false_eq_true, tf_T, tf_F, y_up1, y_up2, y_xx, y_nx, y_sJ, y_sR, Int32.reduceLT, y_nxK, y_nxL, y_nxR, y_sJK, y_sJL, y_sJR, y_sJN, y_sRK, y_sRL, y_sRN, Nat.add_zero, z_nat, z_lit, z_lit0, z_lit1, z_in0, z_in1, z_addl0, z_lt, z_ltl, z_llt, z_inj, z_injl, z_add, z_addl, z_ladd, z_mul, z_mull, z_lmul, z_neg, z_negl, z_in, z_inl, z_ltT, z_ltF, z_eqF, z_10, z_01, z_litne, z_ne0, z_0ne, z_ne1, z_1ne, z_lt64, z_02, z_03, z_04, z_05, z_12, z_13, z_14, z_15, z_20, z_21, z_23, z_24, z_25, z_30, z_31, z_32, z_34, z_35, z_40, z_41, z_42, z_43, z_45, z_50, z_51, z_52, z_53, z_54]
  rw [ea]
end Besd
