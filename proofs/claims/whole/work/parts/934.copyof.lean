/-! TEXTS ON THE TAPE, the class: a copy of a row. Made by wip/whole/math/934.py. -/
/-- one row more -/
def Nw1 (B B1 : am_A) (n : Nat) : Prop := am_N B1 = am_N B + 1 ∧ am_C B1 = am_C B + 1 ∧ am_S B1 = am_S B + n ∧ (∀ q, q ≠ am_N B → am_J B1 q = am_J B q) ∧ (am_K B1 (am_N B) = 21 ∧ am_L B1 (am_N B) = n) ∧ ∀ q, q ≠ am_N B → am_K B1 q = am_K B q ∧ am_L B1 q = am_L B q ∧ am_R B1 q = am_R B q
section CopyOf
variable {B : am_A} {i : Nat → Nat → Int32} {d a n m q t sl : Nat}
theorem y_nw : am_nw (am_wI B i) t n sl = am_wI (am_nw B t n sl) (am_up1 i (am_N B) fun _ => 0) := rfl
theorem y_cl : am_cl (am_wI B i) a = am_wI (am_cl B a) (am_up1 i (am_N B) (i a)) := rfl
theorem y_nwN : am_N (am_nw B t n sl) = am_N B + 1 := rfl
theorem y_clN : am_N (am_cl B a) = am_N B + 1 := rfl
theorem y_nwK (h : q ≠ am_N B) : am_K (am_nw B t n sl) q = am_K B q := if_neg h
theorem y_nwL (h : q ≠ am_N B) : am_L (am_nw B t n sl) q = am_L B q := if_neg h
theorem y_nwR (h : q ≠ am_N B) : am_R (am_nw B t n sl) q = am_R B q := if_neg h
theorem y_nwK0 : am_K (am_nw B t n sl) (am_N B) = t := if_pos rfl
theorem y_nwL0 : am_L (am_nw B t n sl) (am_N B) = n := if_pos rfl
theorem y_clK (h : q ≠ am_N B) : am_K (am_cl B a) q = am_K B q := if_neg h
theorem y_clK0 : am_K (am_cl B a) (am_N B) = 21 := if_pos rfl
theorem y_clL0 : am_L (am_cl B a) (am_N B) = am_L B a := if_pos rfl
theorem y_u1 {α : Type} {f : Nat → α} {v : α} (h : q ≠ a) : am_up1 f a v q = f q := if_neg h
theorem y_u10 {α : Type} {f : Nat → α} {v : α} : am_up1 f a v a = v := if_pos rfl
theorem c_copyOf (hK : am_K B a = 21) (hL : am_L B a = m) (hn : n ≤ m) (hm : m < 1000) (ha : a < am_N B) : ∃ B1 i1, am_fx am_P (d + 1) 8 0 [some (.ref a), some (.int (Int32.ofNat n)), none] [] (am_wI B i) = some (.inl (some (.ref (am_N B))), am_wI B1 i1) ∧ Nw1 B B1 n ∧ (∀ k, k < n → i1 (am_N B) k = i a k) ∧ ∀ q k, q ≠ am_N B → i1 q k = i q k := by
  rw [bk_8_0]
  by_cases g : n = m
  · subst g
    refine ⟨am_cl B a, am_up1 i (am_N B) (i a), ?_, ⟨rfl, rfl, ?_, fun q hq => if_neg hq, ⟨if_pos rfl, ?_⟩, fun q hq => ⟨if_neg hq, if_neg hq, if_neg hq⟩⟩, fun k hk => ?_, fun q k hq => ?_⟩
    · simp (disch := omega) only [y_cl, y_clK, y_clK0, y_clN, hK, hL, Nat.reduceLeDiff, Nat.le_refl, y_ckd, y_ck2d, y_ond, y_onn, y_oI, y_oIx, y_oJ, y_oV, y_oVx, y_oR, y_oRn, y_oRx, y_b0, y_b1, y_bi, y_bid, y_wIK, y_wIL, y_wII, y_wIJ, y_wIR, y_wIN, y_wIw, y_sI, ↓reduceIte, Nat.reduceEqDiff, eq_self, true_or, or_true, false_or, or_false, and_true, true_and, false_and, and_false, not_true, not_false_eq_true, tf_T, tf_F, y_up1, y_up2, y_xx, y_nx, y_sJ, y_sR, Int32.reduceLT, y_nxK, y_nxL, y_nxR, y_sJK, y_sJL, y_sJR, y_sJN, y_sRK, y_sRL, y_sRN, Nat.add_zero, z_nat, z_lit, z_lit0, z_lit1, z_in0, z_in1, z_addl0, z_lt, z_ltl, z_llt, z_inj, z_injl, z_add, z_addl, z_ladd, z_mul, z_mull, z_lmul, z_neg, z_negl, z_in, z_inl, z_ltT, z_ltF, z_eqF, z_10, z_01, z_litne, z_ne0, z_0ne, z_ne1, z_1ne, z_lt64, z_02, z_03, z_04, z_05, z_12, z_13, z_14, z_15, z_20, z_21, z_23, z_24, z_25, z_30, z_31, z_32, z_34, z_35, z_40, z_41, z_42, z_43, z_45, z_50, z_51, z_52, z_53, z_54]
    · show am_S B + am_L B a = _
      rw [hL]
    · rw [← hL]
      exact if_pos rfl
    · rw [y_u10]
    · rw [y_u1 hq]
  · refine ⟨am_nw B 21 n n, cpf (am_up1 i (am_N B) fun _ => 0) a (am_N B) n, ?_, ⟨rfl, rfl, rfl, fun q hq => if_neg hq, ⟨if_pos rfl, if_pos rfl⟩, fun q hq => ⟨if_neg hq, if_neg hq, if_neg hq⟩⟩, fun k hk => ?_, fun q k hq => ?_⟩
    · have aN : a ≠ am_N B := by omega
      have e0 : am_fx am_P d 0 0 [some (.int (Int32.ofNat m)), some (.int (Int32.ofNat n))] [] (am_wI (am_nw B 21 n n) (am_up1 i (am_N B) fun _ => 0)) = some (.inl (some (.int (Int32.ofNat n))), am_wI (am_nw B 21 n n) (am_up1 i (am_N B) fun _ => 0)) := by
        rw [bk_0_0]
        simp (disch := omega) only [show ¬ m ≤ n by omega, y_ckd, y_ck2d, y_ond, y_onn, y_oI, y_oIx, y_oJ, y_oV, y_oVx, y_oR, y_oRn, y_oRx, y_b0, y_b1, y_bi, y_bid, y_wIK, y_wIL, y_wII, y_wIJ, y_wIR, y_wIN, y_wIw, y_sI, ↓reduceIte, Nat.reduceEqDiff, eq_self, true_or, or_true, false_or, or_false, and_true, true_and, false_and, and_false, not_true, not_false_eq_true, tf_T, tf_F, y_up1, y_up2, y_xx, y_nx, y_sJ, y_sR, Int32.reduceLT, y_nxK, y_nxL, y_nxR, y_sJK, y_sJL, y_sJR, y_sJN, y_sRK, y_sRL, y_sRN, Nat.add_zero, z_nat, z_lit, z_lit0, z_lit1, z_in0, z_in1, z_addl0, z_lt, z_ltl, z_llt, z_inj, z_injl, z_add, z_addl, z_ladd, z_mul, z_mull, z_lmul, z_neg, z_negl, z_in, z_inl, z_ltT, z_ltF, z_eqF, z_10, z_01, z_litne, z_ne0, z_0ne, z_ne1, z_1ne, z_lt64, z_02, z_03, z_04, z_05, z_12, z_13, z_14, z_15, z_20, z_21, z_23, z_24, z_25, z_30, z_31, z_32, z_34, z_35, z_40, z_41, z_42, z_43, z_45, z_50, z_51, z_52, z_53, z_54]
      simp (disch := omega) only [y_nw, y_nwK aN, y_nwK0, y_nwL aN, y_nwL0, y_nwN, hK, hL, g, e0, y_cp0, z_80n, Nat.reduceLeDiff, Nat.le_refl, y_ckd, y_ck2d, y_ond, y_onn, y_oI, y_oIx, y_oJ, y_oV, y_oVx, y_oR, y_oRn, y_oRx, y_b0, y_b1, y_bi, y_bid, y_wIK, y_wIL, y_wII, y_wIJ, y_wIR, y_wIN, y_wIw, y_sI, ↓reduceIte, Nat.reduceEqDiff, eq_self, true_or, or_true, false_or, or_false, and_true, true_and, false_and, and_false, not_true, not_false_eq_true, tf_T, tf_F, y_up1, y_up2, y_xx, y_nx, y_sJ, y_sR, Int32.reduceLT, y_nxK, y_nxL, y_nxR, y_sJK, y_sJL, y_sJR, y_sJN, y_sRK, y_sRL, y_sRN, Nat.add_zero, z_nat, z_lit, z_lit0, z_lit1, z_in0, z_in1, z_addl0, z_lt, z_ltl, z_llt, z_inj, z_injl, z_add, z_addl, z_ladd, z_mul, z_mull, z_lmul, z_neg, z_negl, z_in, z_inl, z_ltT, z_ltF, z_eqF, z_10, z_01, z_litne, z_ne0, z_0ne, z_ne1, z_1ne, z_lt64, z_02, z_03, z_04, z_05, z_12, z_13, z_14, z_15, z_20, z_21, z_23, z_24, z_25, z_30, z_31, z_32, z_34, z_35, z_40, z_41, z_42, z_43, z_45, z_50, z_51, z_52, z_53, z_54]
    · exact (if_pos ⟨rfl, hk⟩).trans (by rw [y_u1 (by omega)])
    · exact (if_neg fun x => hq x.1).trans (by rw [y_u1 hq])
end CopyOf
