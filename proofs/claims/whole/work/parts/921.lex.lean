/-! TEXTS ON THE TAPE, the class: the next thing. Made by wip/whole/math/921.py. -/
/-- the class's tape -/
def CT (N : Nat → Nat) (L : Nat) (i : Nat → Nat → Int32) : Prop := i 65 1 = Int32.ofNat L ∧ L ≤ 400 ∧ (∀ k, k < L → i 66 k = Int32.ofNat (N k)) ∧ ∀ k, k < L → N k < 256
def vcl (N : Nat → Nat) (b k : Nat) : Nat := if k ≤ 5 then dgv N b k else 100000
def tkn (N : Nat → Nat) (L b : Nat) : Nat := if b < L then (if 97 ≤ N b ∧ N b ≤ 122 then 1 else if 48 ≤ N b ∧ N b ≤ 57 then 2 else 3) else 0
def tke (N : Nat → Nat) (L b : Nat) : Nat := if b < L then (if 97 ≤ N b ∧ N b ≤ 122 then lw N L b else if 48 ≤ N b ∧ N b ≤ 57 then rn N L 48 57 b else b + 1) else b
def tkv (N : Nat → Nat) (L b : Nat) : Nat := if b < L then (if 97 ≤ N b ∧ N b ≤ 122 then 0 else if 48 ≤ N b ∧ N b ≤ 57 then vcl N b (rn N L 48 57 b - b) else N b) else 0
section Lex
variable {B : am_A} {i : Nat → Nat → Int32} {N : Nat → Nat} {d L p b : Nat}
theorem CT_fr {j : Nat → Nat → Int32} (h : CT N L i) (h1 : j 65 1 = i 65 1) (h2 : ∀ k, j 66 k = i 66 k) : CT N L j := ⟨h1.trans h.1, h.2.1, fun k hk => (h2 k).trans (h.2.2.1 k hk), h.2.2.2⟩
theorem c_nx0 (hF : Fc B) (m : Nat) : ∀ (p : Nat) (i : Nat → Nat → Int32), L - p ≤ m → p ≤ L → CT N L i → i 65 3 = Int32.ofNat p → ∃ j, am_fx am_P d 211 0 [some (.ref 65)] [] (am_wI B i) = am_fx am_P d 211 38 [some (.ref 65)] [] (am_wI B j) ∧ j 65 3 = Int32.ofNat (tb N L p) ∧ (∀ q k, (q = 65 → k ≠ 3) → j q k = i q k) := by
  have go : ∀ (p : Nat) (i : Nat → Nat → Int32), p ≤ L → CT N L i → i 65 3 = Int32.ofNat p → ¬ (p < L ∧ 32 ≤ N p ∧ N p ≤ 32) → ∃ j, am_fx am_P d 211 0 [some (.ref 65)] [] (am_wI B i) = am_fx am_P d 211 38 [some (.ref 65)] [] (am_wI B j) ∧ j 65 3 = Int32.ofNat (tb N L p) ∧ (∀ q k, (q = 65 → k ≠ 3) → j q k = i q k) := by
    intro p i hp hc e3 g
    refine ⟨i, ?_, by rw [show tb N L p = p from rn_0 g]; exact e3, fun _ _ _ => rfl⟩
    have e1 := hc.1
    have l400 := hc.2.1
    rw [bk_211_0]
    by_cases g1 : p < L
    · have e66 := hc.2.2.1 p g1
      have n256 := hc.2.2.2 p g1
      have g2 : ¬ N p = 32 := fun q => g ⟨g1, by omega, by omega⟩
      simp (disch := omega) only [e1, e3, e66, g1, g2, hF, y_ckd, y_ck2d, y_ond, y_onn, y_oI, y_oIx, y_oJ, y_oV, y_oVx, y_oR, y_oRn, y_oRx, y_b0, y_b1, y_bi, y_bid, y_wIK, y_wIL, y_wII, y_wIJ, y_wIR, y_wIN, y_wIw, y_sI, ↓reduceIte, Nat.reduceEqDiff, eq_self, true_or, or_true, false_or, or_false, and_true, true_and, false_and, and_false, not_true, not_false_eq_true, tf_T, tf_F, y_up1, y_up2, y_xx, y_nx, y_sJ, y_sR, Int32.reduceLT, y_nxK, y_nxL, y_nxR, y_sJK, y_sJL, y_sJR, y_sJN, y_sRK, y_sRL, y_sRN, Nat.add_zero, z_nat, z_lit, z_lit0, z_lit1, z_in0, z_in1, z_addl0, z_lt, z_ltl, z_llt, z_inj, z_injl, z_add, z_addl, z_ladd, z_mul, z_mull, z_lmul, z_neg, z_negl, z_in, z_inl, z_ltT, z_ltF, z_eqF, z_10, z_01, z_litne, z_ne0, z_0ne, z_ne1, z_1ne, z_lt64, z_02, z_03, z_04, z_05, z_12, z_13, z_14, z_15, z_20, z_21, z_23, z_24, z_25, z_30, z_31, z_32, z_34, z_35, z_40, z_41, z_42, z_43, z_45, z_50, z_51, z_52, z_53, z_54]
    · simp (disch := omega) only [e1, e3, g1, hF, y_ckd, y_ck2d, y_ond, y_onn, y_oI, y_oIx, y_oJ, y_oV, y_oVx, y_oR, y_oRn, y_oRx, y_b0, y_b1, y_bi, y_bid, y_wIK, y_wIL, y_wII, y_wIJ, y_wIR, y_wIN, y_wIw, y_sI, ↓reduceIte, Nat.reduceEqDiff, eq_self, true_or, or_true, false_or, or_false, and_true, true_and, false_and, and_false, not_true, not_false_eq_true, tf_T, tf_F, y_up1, y_up2, y_xx, y_nx, y_sJ, y_sR, Int32.reduceLT, y_nxK, y_nxL, y_nxR, y_sJK, y_sJL, y_sJR, y_sJN, y_sRK, y_sRL, y_sRN, Nat.add_zero, z_nat, z_lit, z_lit0, z_lit1, z_in0, z_in1, z_addl0, z_lt, z_ltl, z_llt, z_inj, z_injl, z_add, z_addl, z_ladd, z_mul, z_mull, z_lmul, z_neg, z_negl, z_in, z_inl, z_ltT, z_ltF, z_eqF, z_10, z_01, z_litne, z_ne0, z_0ne, z_ne1, z_1ne, z_lt64, z_02, z_03, z_04, z_05, z_12, z_13, z_14, z_15, z_20, z_21, z_23, z_24, z_25, z_30, z_31, z_32, z_34, z_35, z_40, z_41, z_42, z_43, z_45, z_50, z_51, z_52, z_53, z_54]
  induction m with
  | zero => exact fun p i hm hp hc e3 => go p i hp hc e3 fun q => by omega
  | succ m ih =>
    intro p i hm hp hc e3
    by_cases g : p < L ∧ 32 ≤ N p ∧ N p ≤ 32
    · have e1 := hc.1
      have l400 := hc.2.1
      have e66 := hc.2.2.1 p g.1
      have g2 : N p = 32 := by omega
      rw [g2] at e66
      have g1 := g.1
      obtain ⟨j, E, j3, fj⟩ := ih (p + 1) (am_up2 i 65 3 (Int32.ofNat (p + 1))) (by omega) (by omega) (CT_fr hc (y_up2 (by omega)) fun k => y_up2 (by omega)) (y_up1 rfl rfl)
      refine ⟨j, ?_, by rw [show tb N L p = tb N L (p + 1) from rn_s g]; exact j3, fun q k hq => (fj q k hq).trans (y_up2 (by omega))⟩
      rw [← E]
      clear E
      have E2 : ∀ x, x = am_fx am_P d 211 0 [some (.ref 65)] [] (am_wI B (am_up2 i 65 3 (Int32.ofNat (p + 1)))) → am_fx am_P d 211 0 [some (.ref 65)] [] (am_wI B i) = x := by
        intro x hx
        rw [bk_211_0]
        simp (disch := omega) only [e1, e3, e66, g1, hF, y_ckd, y_ck2d, y_ond, y_onn, y_oI, y_oIx, y_oJ, y_oV, y_oVx, y_oR, y_oRn, y_oRx, y_b0, y_b1, y_bi, y_bid, y_wIK, y_wIL, y_wII, y_wIJ, y_wIR, y_wIN, y_wIw, y_sI, ↓reduceIte, Nat.reduceEqDiff, eq_self, true_or, or_true, false_or, or_false, and_true, true_and, false_and, and_false, not_true, not_false_eq_true, tf_T, tf_F, y_up1, y_up2, y_xx, y_nx, y_sJ, y_sR, Int32.reduceLT, y_nxK, y_nxL, y_nxR, y_sJK, y_sJL, y_sJR, y_sJN, y_sRK, y_sRL, y_sRN, Nat.add_zero, z_nat, z_lit, z_lit0, z_lit1, z_in0, z_in1, z_addl0, z_lt, z_ltl, z_llt, z_inj, z_injl, z_add, z_addl, z_ladd, z_mul, z_mull, z_lmul, z_neg, z_negl, z_in, z_inl, z_ltT, z_ltF, z_eqF, z_10, z_01, z_litne, z_ne0, z_0ne, z_ne1, z_1ne, z_lt64, z_02, z_03, z_04, z_05, z_12, z_13, z_14, z_15, z_20, z_21, z_23, z_24, z_25, z_30, z_31, z_32, z_34, z_35, z_40, z_41, z_42, z_43, z_45, z_50, z_51, z_52, z_53, z_54]
        rw [hx]
      exact E2 _ rfl
    · exact go p i hp hc e3 g
theorem c_nx56 (hF : Fc B) (m : Nat) : ∀ (p : Nat) (i : Nat → Nat → Int32), L - p ≤ m → p ≤ L → CT N L i → i 65 3 = Int32.ofNat p → ∃ j, am_fx am_P d 211 56 [some (.ref 65)] [] (am_wI B i) = am_fx am_P d 211 113 [some (.ref 65)] [] (am_wI B j) ∧ j 65 3 = Int32.ofNat (lw N L p) ∧ (p < lw N L p → j 65 5 = 1) ∧ (lw N L p = p → j 65 5 = i 65 5) ∧ (∀ q k, (q = 65 → k ≠ 3 ∧ k ≠ 5) → j q k = i q k) := by
  have go : ∀ (p : Nat) (i : Nat → Nat → Int32), p ≤ L → CT N L i → i 65 3 = Int32.ofNat p → ¬ (p < L ∧ 97 ≤ N p ∧ N p ≤ 122) → ∃ j, am_fx am_P d 211 56 [some (.ref 65)] [] (am_wI B i) = am_fx am_P d 211 113 [some (.ref 65)] [] (am_wI B j) ∧ j 65 3 = Int32.ofNat (lw N L p) ∧ (p < lw N L p → j 65 5 = 1) ∧ (lw N L p = p → j 65 5 = i 65 5) ∧ (∀ q k, (q = 65 → k ≠ 3 ∧ k ≠ 5) → j q k = i q k) := by
    intro p i hp hc e3 g
    have er : lw N L p = p := rn_0 g
    refine ⟨i, ?_, by rw [er]; exact e3, fun q => by omega, fun _ => rfl, fun _ _ _ => rfl⟩
    have e1 := hc.1
    have l400 := hc.2.1
    rw [bk_211_56]
    by_cases g1 : p < L
    · have e66 := hc.2.2.1 p g1
      have n256 := hc.2.2.2 p g1
      by_cases g2 : N p < 97
      · simp (disch := omega) only [e1, e3, e66, g1, g2, hF, y_ckd, y_ck2d, y_ond, y_onn, y_oI, y_oIx, y_oJ, y_oV, y_oVx, y_oR, y_oRn, y_oRx, y_b0, y_b1, y_bi, y_bid, y_wIK, y_wIL, y_wII, y_wIJ, y_wIR, y_wIN, y_wIw, y_sI, ↓reduceIte, Nat.reduceEqDiff, eq_self, true_or, or_true, false_or, or_false, and_true, true_and, false_and, and_false, not_true, not_false_eq_true, tf_T, tf_F, y_up1, y_up2, y_xx, y_nx, y_sJ, y_sR, Int32.reduceLT, y_nxK, y_nxL, y_nxR, y_sJK, y_sJL, y_sJR, y_sJN, y_sRK, y_sRL, y_sRN, Nat.add_zero, z_nat, z_lit, z_lit0, z_lit1, z_in0, z_in1, z_addl0, z_lt, z_ltl, z_llt, z_inj, z_injl, z_add, z_addl, z_ladd, z_mul, z_mull, z_lmul, z_neg, z_negl, z_in, z_inl, z_ltT, z_ltF, z_eqF, z_10, z_01, z_litne, z_ne0, z_0ne, z_ne1, z_1ne, z_lt64, z_02, z_03, z_04, z_05, z_12, z_13, z_14, z_15, z_20, z_21, z_23, z_24, z_25, z_30, z_31, z_32, z_34, z_35, z_40, z_41, z_42, z_43, z_45, z_50, z_51, z_52, z_53, z_54]
      · have g3 : 122 < N p := by omega
        simp (disch := omega) only [e1, e3, e66, g1, g2, g3, hF, y_ckd, y_ck2d, y_ond, y_onn, y_oI, y_oIx, y_oJ, y_oV, y_oVx, y_oR, y_oRn, y_oRx, y_b0, y_b1, y_bi, y_bid, y_wIK, y_wIL, y_wII, y_wIJ, y_wIR, y_wIN, y_wIw, y_sI, ↓reduceIte, Nat.reduceEqDiff, eq_self, true_or, or_true, false_or, or_false, and_true, true_and, false_and, and_false, not_true, not_false_eq_true, tf_T, tf_F, y_up1, y_up2, y_xx, y_nx, y_sJ, y_sR, Int32.reduceLT, y_nxK, y_nxL, y_nxR, y_sJK, y_sJL, y_sJR, y_sJN, y_sRK, y_sRL, y_sRN, Nat.add_zero, z_nat, z_lit, z_lit0, z_lit1, z_in0, z_in1, z_addl0, z_lt, z_ltl, z_llt, z_inj, z_injl, z_add, z_addl, z_ladd, z_mul, z_mull, z_lmul, z_neg, z_negl, z_in, z_inl, z_ltT, z_ltF, z_eqF, z_10, z_01, z_litne, z_ne0, z_0ne, z_ne1, z_1ne, z_lt64, z_02, z_03, z_04, z_05, z_12, z_13, z_14, z_15, z_20, z_21, z_23, z_24, z_25, z_30, z_31, z_32, z_34, z_35, z_40, z_41, z_42, z_43, z_45, z_50, z_51, z_52, z_53, z_54]
    · simp (disch := omega) only [e1, e3, g1, hF, y_ckd, y_ck2d, y_ond, y_onn, y_oI, y_oIx, y_oJ, y_oV, y_oVx, y_oR, y_oRn, y_oRx, y_b0, y_b1, y_bi, y_bid, y_wIK, y_wIL, y_wII, y_wIJ, y_wIR, y_wIN, y_wIw, y_sI, ↓reduceIte, Nat.reduceEqDiff, eq_self, true_or, or_true, false_or, or_false, and_true, true_and, false_and, and_false, not_true, not_false_eq_true, tf_T, tf_F, y_up1, y_up2, y_xx, y_nx, y_sJ, y_sR, Int32.reduceLT, y_nxK, y_nxL, y_nxR, y_sJK, y_sJL, y_sJR, y_sJN, y_sRK, y_sRL, y_sRN, Nat.add_zero, z_nat, z_lit, z_lit0, z_lit1, z_in0, z_in1, z_addl0, z_lt, z_ltl, z_llt, z_inj, z_injl, z_add, z_addl, z_ladd, z_mul, z_mull, z_lmul, z_neg, z_negl, z_in, z_inl, z_ltT, z_ltF, z_eqF, z_10, z_01, z_litne, z_ne0, z_0ne, z_ne1, z_1ne, z_lt64, z_02, z_03, z_04, z_05, z_12, z_13, z_14, z_15, z_20, z_21, z_23, z_24, z_25, z_30, z_31, z_32, z_34, z_35, z_40, z_41, z_42, z_43, z_45, z_50, z_51, z_52, z_53, z_54]
  induction m with
  | zero => exact fun p i hm hp hc e3 => go p i hp hc e3 fun q => by omega
  | succ m ih =>
    intro p i hm hp hc e3
    by_cases g : p < L ∧ 97 ≤ N p ∧ N p ≤ 122
    · have e1 := hc.1
      have l400 := hc.2.1
      obtain ⟨g1, g2, g3⟩ := g
      have e66 := hc.2.2.1 p g1
      have n2 : ¬ N p < 97 := by omega
      have n3 : ¬ 122 < N p := by omega
      obtain ⟨j, E, j3, j5, j6, fj⟩ := ih (p + 1) (am_up2 (am_up2 i 65 5 1) 65 3 (Int32.ofNat (p + 1))) (by omega) (by omega) (CT_fr hc (by rw [y_up2 (by omega), y_up2 (by omega)]) fun k => by rw [y_up2 (by omega), y_up2 (by omega)]) (y_up1 rfl rfl)
      have er : lw N L p = lw N L (p + 1) := rn_s ⟨g1, g2, g3⟩
      have ge : p + 1 ≤ lw N L (p + 1) := rn_ge
      refine ⟨j, ?_, by rw [er]; exact j3, fun _ => ?_, fun q => by omega, fun q k hq => (fj q k hq).trans (by rw [y_up2 (by omega), y_up2 (by omega)])⟩
      · rw [← E]
        clear E
        have E2 : ∀ x, x = am_fx am_P d 211 56 [some (.ref 65)] [] (am_wI B (am_up2 (am_up2 i 65 5 1) 65 3 (Int32.ofNat (p + 1)))) → am_fx am_P d 211 56 [some (.ref 65)] [] (am_wI B i) = x := by
          intro x hx
          rw [bk_211_56]
          simp (disch := omega) only [e1, e3, e66, g1, n2, n3, bk_211_110, hF, y_ckd, y_ck2d, y_ond, y_onn, y_oI, y_oIx, y_oJ, y_oV, y_oVx, y_oR, y_oRn, y_oRx, y_b0, y_b1, y_bi, y_bid, y_wIK, y_wIL, y_wII, y_wIJ, y_wIR, y_wIN, y_wIw, y_sI, ↓reduceIte, Nat.reduceEqDiff, eq_self, true_or, or_true, false_or, or_false, and_true, true_and, false_and, and_false, not_true, not_false_eq_true, tf_T, tf_F, y_up1, y_up2, y_xx, y_nx, y_sJ, y_sR, Int32.reduceLT, y_nxK, y_nxL, y_nxR, y_sJK, y_sJL, y_sJR, y_sJN, y_sRK, y_sRL, y_sRN, Nat.add_zero, z_nat, z_lit, z_lit0, z_lit1, z_in0, z_in1, z_addl0, z_lt, z_ltl, z_llt, z_inj, z_injl, z_add, z_addl, z_ladd, z_mul, z_mull, z_lmul, z_neg, z_negl, z_in, z_inl, z_ltT, z_ltF, z_eqF, z_10, z_01, z_litne, z_ne0, z_0ne, z_ne1, z_1ne, z_lt64, z_02, z_03, z_04, z_05, z_12, z_13, z_14, z_15, z_20, z_21, z_23, z_24, z_25, z_30, z_31, z_32, z_34, z_35, z_40, z_41, z_42, z_43, z_45, z_50, z_51, z_52, z_53, z_54]
          rw [hx]
        exact E2 _ rfl
      · by_cases q : p + 1 < lw N L (p + 1)
        · exact j5 q
        · rw [j6 (by omega), y_up2 (by omega), y_up1 rfl rfl]
    · exact go p i hp hc e3 g
theorem vcl_s {k : Nat} (g : 48 ≤ N (b + k) ∧ N (b + k) ≤ 57) (hk : k < 5) : vcl N b k * 10 + N (b + k) - 48 = vcl N b (k + 1) := by
  unfold vcl
  rw [if_pos (by omega), if_pos (by omega)]
  show _ = 10 * dgv N b k + (N (b + k) - 48)
  omega
theorem c_nx113 (hF : Fc B) (m : Nat) : ∀ (k : Nat) (i : Nat → Nat → Int32), L - (b + k) ≤ m → b + k ≤ L → CT N L i → i 65 3 = Int32.ofNat (b + k) → i 65 4 = Int32.ofNat b → i 65 5 = (if k = 0 then 0 else 2) → i 65 6 = Int32.ofNat (vcl N b k) → (∀ m, m < k → 48 ≤ N (b + m) ∧ N (b + m) ≤ 57) → ∃ j, am_fx am_P d 211 113 [some (.ref 65)] [] (am_wI B i) = am_fx am_P d 211 220 [some (.ref 65)] [] (am_wI B j) ∧ j 65 3 = Int32.ofNat (rn N L 48 57 (b + k)) ∧ j 65 5 = (if rn N L 48 57 (b + k) = b then 0 else 2) ∧ j 65 6 = Int32.ofNat (vcl N b (rn N L 48 57 (b + k) - b)) ∧ (∀ q k, (q = 65 → k ≠ 3 ∧ k ≠ 5 ∧ k ≠ 6) → j q k = i q k) := by
  have go : ∀ (k : Nat) (i : Nat → Nat → Int32), b + k ≤ L → CT N L i → i 65 3 = Int32.ofNat (b + k) → i 65 5 = (if k = 0 then 0 else 2) → i 65 6 = Int32.ofNat (vcl N b k) → ¬ (b + k < L ∧ 48 ≤ N (b + k) ∧ N (b + k) ≤ 57) → ∃ j, am_fx am_P d 211 113 [some (.ref 65)] [] (am_wI B i) = am_fx am_P d 211 220 [some (.ref 65)] [] (am_wI B j) ∧ j 65 3 = Int32.ofNat (rn N L 48 57 (b + k)) ∧ j 65 5 = (if rn N L 48 57 (b + k) = b then 0 else 2) ∧ j 65 6 = Int32.ofNat (vcl N b (rn N L 48 57 (b + k) - b)) ∧ (∀ q k, (q = 65 → k ≠ 3 ∧ k ≠ 5 ∧ k ≠ 6) → j q k = i q k) := by
    intro k i hp hc e3 e5 e6 g
    have er : rn N L 48 57 (b + k) = b + k := rn_0 g
    refine ⟨i, ?_, by rw [er]; exact e3, ?_, by rw [er, Nat.add_sub_cancel_left]; exact e6, fun _ _ _ => rfl⟩
    · have e1 := hc.1
      have l400 := hc.2.1
      have t1 : ¬ i 65 5 = 1 := by
        rw [e5]
        split <;> decide
      rw [bk_211_113]
      by_cases g1 : b + k < L
      · have e66 := hc.2.2.1 _ g1
        have n256 := hc.2.2.2 _ g1
        by_cases g2 : N (b + k) < 48
        · simp (disch := omega) only [e1, e3, e66, t1, g1, g2, hF, y_ckd, y_ck2d, y_ond, y_onn, y_oI, y_oIx, y_oJ, y_oV, y_oVx, y_oR, y_oRn, y_oRx, y_b0, y_b1, y_bi, y_bid, y_wIK, y_wIL, y_wII, y_wIJ, y_wIR, y_wIN, y_wIw, y_sI, ↓reduceIte, Nat.reduceEqDiff, eq_self, true_or, or_true, false_or, or_false, and_true, true_and, false_and, and_false, not_true, not_false_eq_true, tf_T, tf_F, y_up1, y_up2, y_xx, y_nx, y_sJ, y_sR, Int32.reduceLT, y_nxK, y_nxL, y_nxR, y_sJK, y_sJL, y_sJR, y_sJN, y_sRK, y_sRL, y_sRN, Nat.add_zero, z_nat, z_lit, z_lit0, z_lit1, z_in0, z_in1, z_addl0, z_lt, z_ltl, z_llt, z_inj, z_injl, z_add, z_addl, z_ladd, z_mul, z_mull, z_lmul, z_neg, z_negl, z_in, z_inl, z_ltT, z_ltF, z_eqF, z_10, z_01, z_litne, z_ne0, z_0ne, z_ne1, z_1ne, z_lt64, z_02, z_03, z_04, z_05, z_12, z_13, z_14, z_15, z_20, z_21, z_23, z_24, z_25, z_30, z_31, z_32, z_34, z_35, z_40, z_41, z_42, z_43, z_45, z_50, z_51, z_52, z_53, z_54]
        · have g3 : 57 < N (b + k) := by omega
          simp (disch := omega) only [e1, e3, e66, t1, g1, g2, g3, hF, y_ckd, y_ck2d, y_ond, y_onn, y_oI, y_oIx, y_oJ, y_oV, y_oVx, y_oR, y_oRn, y_oRx, y_b0, y_b1, y_bi, y_bid, y_wIK, y_wIL, y_wII, y_wIJ, y_wIR, y_wIN, y_wIw, y_sI, ↓reduceIte, Nat.reduceEqDiff, eq_self, true_or, or_true, false_or, or_false, and_true, true_and, false_and, and_false, not_true, not_false_eq_true, tf_T, tf_F, y_up1, y_up2, y_xx, y_nx, y_sJ, y_sR, Int32.reduceLT, y_nxK, y_nxL, y_nxR, y_sJK, y_sJL, y_sJR, y_sJN, y_sRK, y_sRL, y_sRN, Nat.add_zero, z_nat, z_lit, z_lit0, z_lit1, z_in0, z_in1, z_addl0, z_lt, z_ltl, z_llt, z_inj, z_injl, z_add, z_addl, z_ladd, z_mul, z_mull, z_lmul, z_neg, z_negl, z_in, z_inl, z_ltT, z_ltF, z_eqF, z_10, z_01, z_litne, z_ne0, z_0ne, z_ne1, z_1ne, z_lt64, z_02, z_03, z_04, z_05, z_12, z_13, z_14, z_15, z_20, z_21, z_23, z_24, z_25, z_30, z_31, z_32, z_34, z_35, z_40, z_41, z_42, z_43, z_45, z_50, z_51, z_52, z_53, z_54]
      · simp (disch := omega) only [e1, e3, g1, hF, y_ckd, y_ck2d, y_ond, y_onn, y_oI, y_oIx, y_oJ, y_oV, y_oVx, y_oR, y_oRn, y_oRx, y_b0, y_b1, y_bi, y_bid, y_wIK, y_wIL, y_wII, y_wIJ, y_wIR, y_wIN, y_wIw, y_sI, ↓reduceIte, Nat.reduceEqDiff, eq_self, true_or, or_true, false_or, or_false, and_true, true_and, false_and, and_false, not_true, not_false_eq_true, tf_T, tf_F, y_up1, y_up2, y_xx, y_nx, y_sJ, y_sR, Int32.reduceLT, y_nxK, y_nxL, y_nxR, y_sJK, y_sJL, y_sJR, y_sJN, y_sRK, y_sRL, y_sRN, Nat.add_zero, z_nat, z_lit, z_lit0, z_lit1, z_in0, z_in1, z_addl0, z_lt, z_ltl, z_llt, z_inj, z_injl, z_add, z_addl, z_ladd, z_mul, z_mull, z_lmul, z_neg, z_negl, z_in, z_inl, z_ltT, z_ltF, z_eqF, z_10, z_01, z_litne, z_ne0, z_0ne, z_ne1, z_1ne, z_lt64, z_02, z_03, z_04, z_05, z_12, z_13, z_14, z_15, z_20, z_21, z_23, z_24, z_25, z_30, z_31, z_32, z_34, z_35, z_40, z_41, z_42, z_43, z_45, z_50, z_51, z_52, z_53, z_54]
    · rw [er, e5]
      by_cases k0 : k = 0
      · rw [if_pos k0, if_pos (by omega)]
      · rw [if_neg k0, if_neg (by omega)]
  induction m with
  | zero => exact fun k i hm hp hc e3 e4 e5 e6 hd => go k i hp hc e3 e5 e6 fun q => by omega
  | succ m ih =>
    intro k i hm hp hc e3 e4 e5 e6 hd
    by_cases g : b + k < L ∧ 48 ≤ N (b + k) ∧ N (b + k) ≤ 57
    · have e1 := hc.1
      have l400 := hc.2.1
      obtain ⟨g1, g2, g3⟩ := g
      have e66 := hc.2.2.1 _ g1
      have n2 : ¬ N (b + k) < 48 := by omega
      have n3 : ¬ 57 < N (b + k) := by omega
      have t1 : ¬ i 65 5 = 1 := by
        rw [e5]
        split <;> decide
      obtain ⟨j, E, j3, j5, j6, fj⟩ := ih (k + 1) (am_up2 (am_up2 (am_up2 i 65 5 2) 65 6 (Int32.ofNat (vcl N b (k + 1)))) 65 3 (Int32.ofNat (b + k + 1))) (by omega) (by omega) (CT_fr hc (by rw [y_up2 (by omega), y_up2 (by omega), y_up2 (by omega)]) fun k => by rw [y_up2 (by omega), y_up2 (by omega), y_up2 (by omega)]) (y_up1 rfl rfl) (by rw [y_up2 (by omega), y_up2 (by omega), y_up2 (by omega)]; exact e4) (by rw [y_up2 (by omega), y_up2 (by omega), y_up1 rfl rfl, if_neg (by omega)]) (by rw [y_up2 (by omega), y_up1 rfl rfl]) (fun m hm => by
        by_cases q : m = k
        · rw [q]
          exact ⟨g2, g3⟩
        · exact hd m (by omega))
      have er : rn N L 48 57 (b + k) = rn N L 48 57 (b + (k + 1)) := rn_s ⟨g1, g2, g3⟩
      rw [er]
      refine ⟨j, ?_, j3, j5, j6, fun q k hq => (fj q k hq).trans (by rw [y_up2 (by omega), y_up2 (by omega), y_up2 (by omega)])⟩
      rw [← E]
      clear E
      have E2 : ∀ x, x = am_fx am_P d 211 113 [some (.ref 65)] [] (am_wI B (am_up2 (am_up2 (am_up2 i 65 5 2) 65 6 (Int32.ofNat (vcl N b (k + 1)))) 65 3 (Int32.ofNat (b + k + 1)))) → am_fx am_P d 211 113 [some (.ref 65)] [] (am_wI B i) = x := by
        intro x hx
        rw [bk_211_113]
        by_cases k5 : k < 5
        · have vs := vcl_s ⟨g2, g3⟩ k5
          have vl : vcl N b k < 100000 := by
            have := dgv_lt hd
            have p5 : 10 ^ k ≤ 10 ^ 5 := Nat.pow_le_pow_right (by omega) (by omega)
            unfold vcl
            rw [if_pos (by omega)]
            omega
          have es : Int32.ofNat (b + k) - Int32.ofNat b = Int32.ofNat k := by rw [z_sub (by omega), Nat.add_sub_cancel_left]
          simp (disch := omega) only [e1, e3, e4, e6, e66, t1, g1, n2, n3, es, k5, z_subl, vs, bk_211_204, bk_211_217, hF, y_ckd, y_ck2d, y_ond, y_onn, y_oI, y_oIx, y_oJ, y_oV, y_oVx, y_oR, y_oRn, y_oRx, y_b0, y_b1, y_bi, y_bid, y_wIK, y_wIL, y_wII, y_wIJ, y_wIR, y_wIN, y_wIw, y_sI, ↓reduceIte, Nat.reduceEqDiff, eq_self, true_or, or_true, false_or, or_false, and_true, true_and, false_and, and_false, not_true, not_false_eq_true, tf_T, tf_F, y_up1, y_up2, y_xx, y_nx, y_sJ, y_sR, Int32.reduceLT, y_nxK, y_nxL, y_nxR, y_sJK, y_sJL, y_sJR, y_sJN, y_sRK, y_sRL, y_sRN, Nat.add_zero, z_nat, z_lit, z_lit0, z_lit1, z_in0, z_in1, z_addl0, z_lt, z_ltl, z_llt, z_inj, z_injl, z_add, z_addl, z_ladd, z_mul, z_mull, z_lmul, z_neg, z_negl, z_in, z_inl, z_ltT, z_ltF, z_eqF, z_10, z_01, z_litne, z_ne0, z_0ne, z_ne1, z_1ne, z_lt64, z_02, z_03, z_04, z_05, z_12, z_13, z_14, z_15, z_20, z_21, z_23, z_24, z_25, z_30, z_31, z_32, z_34, z_35, z_40, z_41, z_42, z_43, z_45, z_50, z_51, z_52, z_53, z_54]
          rw [hx]
        · have es : Int32.ofNat (b + k) - Int32.ofNat b = Int32.ofNat k := by rw [z_sub (by omega), Nat.add_sub_cancel_left]
          have ev : (100000 : Int32) = Int32.ofNat (vcl N b (k + 1)) := by
            unfold vcl
            rw [if_neg (by omega)]
            rfl
          simp (disch := omega) only [e1, e3, e4, e6, e66, t1, g1, n2, n3, es, k5, bk_211_204, bk_211_217, hF, y_ckd, y_ck2d, y_ond, y_onn, y_oI, y_oIx, y_oJ, y_oV, y_oVx, y_oR, y_oRn, y_oRx, y_b0, y_b1, y_bi, y_bid, y_wIK, y_wIL, y_wII, y_wIJ, y_wIR, y_wIN, y_wIw, y_sI, ↓reduceIte, Nat.reduceEqDiff, eq_self, true_or, or_true, false_or, or_false, and_true, true_and, false_and, and_false, not_true, not_false_eq_true, tf_T, tf_F, y_up1, y_up2, y_xx, y_nx, y_sJ, y_sR, Int32.reduceLT, y_nxK, y_nxL, y_nxR, y_sJK, y_sJL, y_sJR, y_sJN, y_sRK, y_sRL, y_sRN, Nat.add_zero, z_nat, z_lit, z_lit0, z_lit1, z_in0, z_in1, z_addl0, z_lt, z_ltl, z_llt, z_inj, z_injl, z_add, z_addl, z_ladd, z_mul, z_mull, z_lmul, z_neg, z_negl, z_in, z_inl, z_ltT, z_ltF, z_eqF, z_10, z_01, z_litne, z_ne0, z_0ne, z_ne1, z_1ne, z_lt64, z_02, z_03, z_04, z_05, z_12, z_13, z_14, z_15, z_20, z_21, z_23, z_24, z_25, z_30, z_31, z_32, z_34, z_35, z_40, z_41, z_42, z_43, z_45, z_50, z_51, z_52, z_53, z_54]
          rw [hx, ← ev]
      exact E2 _ rfl
    · exact go k i hp hc e3 e5 e6 g
end Lex
