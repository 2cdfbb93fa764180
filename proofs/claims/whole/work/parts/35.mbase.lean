/-! THE MODEL'S SMALL METHODS. The heap is am_wI B i: B stays, i are the ints. -/
theorem z_toInt {n : Nat} (h : n < 2147483648) : (Int32.ofNat n).toInt = (n : Int) := Int32.toInt_ofNat_of_lt h
theorem z_pred {x c : Int32} {n : Nat} (hc : c = Int32.ofNat n) (hn : n < 2147483648) : (c - 1 < x) = ¬ x < c := by
  subst hc
  cases n with
  | zero =>
    refine propext ⟨fun h q => ?_, fun h => ?_⟩
    · rw [Int32.lt_iff_toInt_lt] at h q
      have e1 : (Int32.ofNat 0 - 1).toInt = -1 := by decide
      have e2 : (Int32.ofNat 0).toInt = 0 := by decide
      omega
    · rw [Int32.lt_iff_toInt_lt] at h ⊢
      have e1 : (Int32.ofNat 0 - 1).toInt = -1 := by decide
      have e2 : (Int32.ofNat 0).toInt = 0 := by decide
      omega
  | succ n =>
    have e : Int32.ofNat (n + 1) - 1 = Int32.ofNat n := z_sub (a := n + 1) (b := 1) (by omega)
    rw [e]
    refine propext ⟨fun h q => ?_, fun h => ?_⟩
    · rw [Int32.lt_iff_toInt_lt, z_toInt (by omega)] at h q
      omega
    · rw [Int32.lt_iff_toInt_lt, z_toInt (by omega)] at h ⊢
      omega
theorem tf_T {d : Decidable True} : @tf True d = 1 := by unfold tf; simp
theorem tf_F {d : Decidable False} : @tf False d = 0 := by unfold tf; simp
section MBase
variable {B : am_A} {i : Nat → Nat → Int32}
theorem m_in {x a c : Int32} {d : Nat} {A : am_A} : am_fx am_P d 11 0 [some (.int x), some (.int a), some (.int c)] [] A = some (.inl (some (.int (tf (¬ x < a ∧ ¬ c < x)))), A) := by
  rw [bk_11_0]
  by_cases h1 : x < a <;> by_cases h2 : c < x <;> simp [h1, h2, tf, y_b0, y_b1]
theorem m_thr0 {d : Nat} {c : Int32} {A : am_A} : am_fx am_P d 10 0 [some (.ref 874), some (.int 0), some (.int c)] [] A = some (.inl (some (.int 0)), A) := by
  rw [bk_10_0]
  rfl
theorem m_thr1 (hM : Md B) {d : Nat} {c : Int32} : am_fx am_P d 10 0 [some (.ref 874), some (.int 1), some (.int c)] [] (am_wI B i) = some (.inl (some (.int 1)), am_wI B (am_up2 i 874 0 c)) := by
  rw [bk_10_0]
  simp (disch := omega) only [hM, y_ckd, y_ck2d, y_ond, y_onn, y_oI, y_oIx, y_oJ, y_oV, y_oVx, y_oR, y_oRn, y_oRx, y_b0, y_b1, y_bi, y_bid, y_wIK, y_wIL, y_wII, y_wIJ, y_wIR, y_wIN, y_wIw, y_sI, ↓reduceIte, Nat.reduceEqDiff, eq_self, true_or, or_true, false_or, or_false, and_true, true_and, false_and, and_false, not_true, not_false_eq_true, tf_T, tf_F, y_up1, y_up2, y_xx, y_nx, y_sJ, y_sR, Int32.reduceLT, y_nxK, y_nxL, y_nxR, y_sJK, y_sJL, y_sJR, y_sJN, y_sRK, y_sRL, y_sRN]
  rfl
theorem m_today (hM : Md B) {d : Nat} : am_fx am_P d 13 0 [some (.ref 874)] [] (am_wI B i) = some (.inl (some (.int (i 875 0))), am_wI B i) := by
  rw [bk_13_0]
  simp (disch := omega) only [hM, y_ckd, y_ck2d, y_ond, y_onn, y_oI, y_oIx, y_oJ, y_oV, y_oVx, y_oR, y_oRn, y_oRx, y_b0, y_b1, y_bi, y_bid, y_wIK, y_wIL, y_wII, y_wIJ, y_wIR, y_wIN, y_wIw, y_sI, ↓reduceIte, Nat.reduceEqDiff, eq_self, true_or, or_true, false_or, or_false, and_true, true_and, false_and, and_false, not_true, not_false_eq_true, tf_T, tf_F, y_up1, y_up2, y_xx, y_nx, y_sJ, y_sR, Int32.reduceLT, y_nxK, y_nxL, y_nxR, y_sJK, y_sJL, y_sJR, y_sJN, y_sRK, y_sRL, y_sRN, z_nat, z_lit, z_lit0, z_lit1, z_in0, z_in1, z_addl0, z_lt, z_ltl, z_llt, z_inj, z_injl, z_add, z_addl, z_ladd, z_mul, z_mull, z_lmul, z_neg, z_negl, z_in, z_inl, z_ltT, z_ltF, z_eqF, z_10, z_01, z_litne, z_ne0, z_0ne, z_ne1, z_1ne, z_lt64, z_02, z_03, z_04, z_05, z_12, z_13, z_14, z_15, z_20, z_21, z_23, z_24, z_25, z_30, z_31, z_32, z_34, z_35, z_40, z_41, z_42, z_43, z_45, z_50, z_51, z_52, z_53, z_54]
theorem m_of (hM : Md B) {d p k : Nat} (hp : p < 120) (hk : OfNat.ofNat k < 18) : am_fx am_P (d + 1) 24 0 [some (.ref 874), some (.int (Int32.ofNat p)), some (.int (no_index (OfNat.ofNat k)))] [] (am_wI B i) = some (.inl (some (.int (i 875 (461 + 18 * p + OfNat.ofNat k)))), am_wI B i) := by
  rw [bk_24_0]
  simp (disch := omega) only [bk_23_0, hM, y_ckd, y_ck2d, y_ond, y_onn, y_oI, y_oIx, y_oJ, y_oV, y_oVx, y_oR, y_oRn, y_oRx, y_b0, y_b1, y_bi, y_bid, y_wIK, y_wIL, y_wII, y_wIJ, y_wIR, y_wIN, y_wIw, y_sI, ↓reduceIte, Nat.reduceEqDiff, eq_self, true_or, or_true, false_or, or_false, and_true, true_and, false_and, and_false, not_true, not_false_eq_true, tf_T, tf_F, y_up1, y_up2, y_xx, y_nx, y_sJ, y_sR, Int32.reduceLT, y_nxK, y_nxL, y_nxR, y_sJK, y_sJL, y_sJR, y_sJN, y_sRK, y_sRL, y_sRN, z_nat, z_lit, z_lit0, z_lit1, z_in0, z_in1, z_addl0, z_lt, z_ltl, z_llt, z_inj, z_injl, z_add, z_addl, z_ladd, z_mul, z_mull, z_lmul, z_neg, z_negl, z_in, z_inl, z_ltT, z_ltF, z_eqF, z_10, z_01, z_litne, z_ne0, z_0ne, z_ne1, z_1ne, z_lt64, z_02, z_03, z_04, z_05, z_12, z_13, z_14, z_15, z_20, z_21, z_23, z_24, z_25, z_30, z_31, z_32, z_34, z_35, z_40, z_41, z_42, z_43, z_45, z_50, z_51, z_52, z_53, z_54]
theorem m_sets (hM : Md B) {d p k : Nat} {v : Int32} (hp : p < 120) (hk : OfNat.ofNat k < 18) : am_fx am_P (d + 1) 25 0 [some (.ref 874), some (.int (Int32.ofNat p)), some (.int (no_index (OfNat.ofNat k))), some (.int v)] [] (am_wI B i) = some (.inl none, am_wI B (am_up2 i 875 (461 + 18 * p + OfNat.ofNat k) v)) := by
  rw [bk_25_0]
  simp (disch := omega) only [bk_23_0, hM, y_ckd, y_ck2d, y_ond, y_onn, y_oI, y_oIx, y_oJ, y_oV, y_oVx, y_oR, y_oRn, y_oRx, y_b0, y_b1, y_bi, y_bid, y_wIK, y_wIL, y_wII, y_wIJ, y_wIR, y_wIN, y_wIw, y_sI, ↓reduceIte, Nat.reduceEqDiff, eq_self, true_or, or_true, false_or, or_false, and_true, true_and, false_and, and_false, not_true, not_false_eq_true, tf_T, tf_F, y_up1, y_up2, y_xx, y_nx, y_sJ, y_sR, Int32.reduceLT, y_nxK, y_nxL, y_nxR, y_sJK, y_sJL, y_sJR, y_sJN, y_sRK, y_sRL, y_sRN, z_nat, z_lit, z_lit0, z_lit1, z_in0, z_in1, z_addl0, z_lt, z_ltl, z_llt, z_inj, z_injl, z_add, z_addl, z_ladd, z_mul, z_mull, z_lmul, z_neg, z_negl, z_in, z_inl, z_ltT, z_ltF, z_eqF, z_10, z_01, z_litne, z_ne0, z_0ne, z_ne1, z_1ne, z_lt64, z_02, z_03, z_04, z_05, z_12, z_13, z_14, z_15, z_20, z_21, z_23, z_24, z_25, z_30, z_31, z_32, z_34, z_35, z_40, z_41, z_42, z_43, z_45, z_50, z_51, z_52, z_53, z_54]
theorem m_treeOf (hM : Md B) {d p k : Nat} (hp : p < 60) (hk : OfNat.ofNat k < 7) : am_fx am_P d 20 0 [some (.ref 874), some (.int (Int32.ofNat p)), some (.int (no_index (OfNat.ofNat k)))] [] (am_wI B i) = some (.inl (some (.int (i 875 (40 + 7 * p + OfNat.ofNat k)))), am_wI B i) := by
  rw [bk_20_0]
  simp (disch := omega) only [hM, y_ckd, y_ck2d, y_ond, y_onn, y_oI, y_oIx, y_oJ, y_oV, y_oVx, y_oR, y_oRn, y_oRx, y_b0, y_b1, y_bi, y_bid, y_wIK, y_wIL, y_wII, y_wIJ, y_wIR, y_wIN, y_wIw, y_sI, ↓reduceIte, Nat.reduceEqDiff, eq_self, true_or, or_true, false_or, or_false, and_true, true_and, false_and, and_false, not_true, not_false_eq_true, tf_T, tf_F, y_up1, y_up2, y_xx, y_nx, y_sJ, y_sR, Int32.reduceLT, y_nxK, y_nxL, y_nxR, y_sJK, y_sJL, y_sJR, y_sJN, y_sRK, y_sRL, y_sRN, z_nat, z_lit, z_lit0, z_lit1, z_in0, z_in1, z_addl0, z_lt, z_ltl, z_llt, z_inj, z_injl, z_add, z_addl, z_ladd, z_mul, z_mull, z_lmul, z_neg, z_negl, z_in, z_inl, z_ltT, z_ltF, z_eqF, z_10, z_01, z_litne, z_ne0, z_0ne, z_ne1, z_1ne, z_lt64, z_02, z_03, z_04, z_05, z_12, z_13, z_14, z_15, z_20, z_21, z_23, z_24, z_25, z_30, z_31, z_32, z_34, z_35, z_40, z_41, z_42, z_43, z_45, z_50, z_51, z_52, z_53, z_54]
end MBase
section CBase
variable {B : am_A} {i : Nat → Nat → Int32}
theorem c_within {x a c : Int32} {d : Nat} {A : am_A} : am_fx am_P d 352 0 [some (.int x), some (.int a), some (.int c)] [] A = some (.inl (some (.int (tf (¬ x < a ∧ ¬ c < x)))), A) := by
  rw [bk_352_0]
  by_cases h1 : x < a <;> by_cases h2 : c < x <;> simp [h1, h2, tf, y_b0, y_b1]
theorem c_ckN1 {d : Nat} {A : am_A} : am_fx am_P d 350 0 [some (.int 1)] [] A = some (.inl none, A) := by
  rw [bk_350_0]
  rfl
theorem c_ckN0 {d : Nat} {A : am_A} : am_fx am_P d 350 0 [some (.int 0)] [] A = some (.inr 2, am_xx A 1 6) := by
  rw [bk_350_0]
  rfl
end CBase
/-- the script, and how far it is read -/
def Sc (B : am_A) (i : Nat → Nat → Int32) (L : Nat) (j : Nat) : Prop := am_K B 0 = 41 ∧ am_L B 0 = L ∧ j + 7 ≤ L ∧ L ≤ 3584
