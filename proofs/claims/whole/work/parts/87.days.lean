/-! GANGS: the days of a way. Made by wip/whole/math/87.py. -/
section Gangs3
variable {B B1 : am_A} {i i1 : Nat → Nat → Int32} {σ σ' : Sg} {w : Nat → Int32} {L j d b : Nat} {x y z : Int32} {u r : Nat → Int32}
/-- the days of a way: -1 where a ship has no gang -/
abbrev dyw (u r : Nat → Int32) (k : Nat) (a : Int32) : Int32 := if a = -1 then -1 else if u k = 0 then -1 else mx a ((r k + u k - 1) / u k)
def dys (u r : Nat → Int32) (c : Nat) : Int32 := itr (dyw u r) c 0
theorem dys_s {c : Nat} : dys u r (c + 1) = dyw u r c (dys u r c) := rfl
theorem mx_nn {a c : Int32} (h : ¬ a < 0) : ¬ mx a c < 0 := by
  by_cases g : a < c
  · rw [show mx a c = c from if_pos g]
    exact fun q => h (Int32.lt_trans g q)
  · rw [show mx a c = a from if_neg g]
    exact h
theorem nn_n1 {a : Int32} (h : ¬ a < 0) : ¬ a = -1 := fun q => h (by rw [q]; decide)
theorem dys_nn : ∀ c, dys u r c = -1 ∨ ¬ dys u r c < 0
  | 0 => Or.inr (by show ¬ (0 : Int32) < 0; decide)
  | c + 1 => by
    rw [dys_s]
    rcases dys_nn c with e | e
    · exact Or.inl (if_pos e)
    · by_cases g : u c = 0
      · exact Or.inl (by unfold dyw; rw [if_neg (nn_n1 e), if_pos g])
      · exact Or.inr (by unfold dyw; rw [if_neg (nn_n1 e), if_neg g]; exact mx_nn e)
theorem c_days {c : Nat} (hF : Fc B) (c4 : c ≤ 4) (hu : ∀ m, m < c → i 78 m = u m) (hr : ∀ m, m < c → i 77 m = r m) (hp : ∀ m, m < c → ¬ u m = 0 → 0 < u m) : am_fx am_P (d + 1) 283 64 [some (.ref 71), none, none, none, some (.int (Int32.ofNat c)), none, some (.int 0), some (.int (Int32.ofNat 0))] [] (am_wI B i) = some (.inl (some (.int (dys u r c))), am_wI B i) := by
  refine (lp_itr (fun k (_ : Unit) => if dys u r k = -1 then some (.inl (some (.int (-1))), am_wI B i) else am_fx am_P (d + 1) 283 64 [some (.ref 71), none, none, none, some (.int (Int32.ofNat c)), none, some (.int (dys u r k)), some (.int (Int32.ofNat k))] [] (am_wI B i)) (fun _ v => v) c (fun k v hk => ?_) ()).trans ?_
  · have e1 := hu k hk
    have e2 := hr k hk
    rw [dys_s]
    rcases dys_nn (u := u) (r := r) k with e | e
    · rw [if_pos e, if_pos (show dyw u r k (dys u r k) = -1 from if_pos e)]
    · rw [if_neg (nn_n1 e)]
      by_cases g : u k = 0
      · rw [if_pos (show dyw u r k (dys u r k) = -1 by unfold dyw; rw [if_neg (nn_n1 e), if_pos g])]
        generalize dys u r k = a at *
        rw [bk_283_64]
        simp (maxSteps := 1000000) (disch := omega) only [e1, e2, g, Int32.lt_irrefl, hF, y_ckd, y_ck2d, y_ond, y_onn, y_oI, y_oIx, y_oJ, y_oV, y_oVx, y_oR, y_oRn, y_oRx, y_b0, y_b1, y_bi, y_bid, y_wIK, y_wIL, y_wII, y_wIJ, y_wIR, y_wIN, y_wIw, y_sI, ↓reduceIte, Nat.reduceEqDiff, eq_self, true_or, or_true, false_or, or_false, and_true, true_and, false_and, and_false, not_true, not_false_eq_true, tf_T, tf_F, y_up1, y_up2, y_xx, y_nx, y_sJ, y_sR, Int32.reduceLT, y_nxK, y_nxL, y_nxR, y_sJK, y_sJL, y_sJR, y_sJN, y_sRK, y_sRL, y_sRN, Nat.add_zero, z_nat, z_lit, z_lit0, z_lit1, z_in0, z_in1, z_addl0, z_lt, z_ltl, z_llt, z_inj, z_injl, z_add, z_addl, z_ladd, z_mul, z_mull, z_lmul, z_neg, z_negl, z_in, z_inl, z_ltT, z_ltF, z_eqF, z_10, z_01, z_litne, z_ne0, z_0ne, z_ne1, z_1ne, z_lt64, z_02, z_03, z_04, z_05, z_12, z_13, z_14, z_15, z_20, z_21, z_23, z_24, z_25, z_30, z_31, z_32, z_34, z_35, z_40, z_41, z_42, z_43, z_45, z_50, z_51, z_52, z_53, z_54]
      · have g0 := hp k hk g
        have ev : dyw u r k (dys u r k) = mx (dys u r k) ((r k + u k - 1) / u k) := by unfold dyw; rw [if_neg (nn_n1 e), if_neg g]
        rw [ev, if_neg (nn_n1 (mx_nn e))]
        generalize dys u r k = a at *
        rw [bk_283_64]
        simp (maxSteps := 1000000) (disch := omega) only [e1, e2, g0, y_nz g, c_max, hF, y_ckd, y_ck2d, y_ond, y_onn, y_oI, y_oIx, y_oJ, y_oV, y_oVx, y_oR, y_oRn, y_oRx, y_b0, y_b1, y_bi, y_bid, y_wIK, y_wIL, y_wII, y_wIJ, y_wIR, y_wIN, y_wIw, y_sI, ↓reduceIte, Nat.reduceEqDiff, eq_self, true_or, or_true, false_or, or_false, and_true, true_and, false_and, and_false, not_true, not_false_eq_true, tf_T, tf_F, y_up1, y_up2, y_xx, y_nx, y_sJ, y_sR, Int32.reduceLT, y_nxK, y_nxL, y_nxR, y_sJK, y_sJL, y_sJR, y_sJN, y_sRK, y_sRL, y_sRN, Nat.add_zero, z_nat, z_lit, z_lit0, z_lit1, z_in0, z_in1, z_addl0, z_lt, z_ltl, z_llt, z_inj, z_injl, z_add, z_addl, z_ladd, z_mul, z_mull, z_lmul, z_neg, z_negl, z_in, z_inl, z_ltT, z_ltF, z_eqF, z_10, z_01, z_litne, z_ne0, z_0ne, z_ne1, z_1ne, z_lt64, z_02, z_03, z_04, z_05, z_12, z_13, z_14, z_15, z_20, z_21, z_23, z_24, z_25, z_30, z_31, z_32, z_34, z_35, z_40, z_41, z_42, z_43, z_45, z_50, z_51, z_52, z_53, z_54]
  · rcases dys_nn (u := u) (r := r) c with e | e
    · rw [if_pos e, e]
    · rw [if_neg (nn_n1 e)]
      generalize dys u r c = a at *
      rw [bk_283_64]
      simp (maxSteps := 1000000) (disch := omega) only [hF, y_ckd, y_ck2d, y_ond, y_onn, y_oI, y_oIx, y_oJ, y_oV, y_oVx, y_oR, y_oRn, y_oRx, y_b0, y_b1, y_bi, y_bid, y_wIK, y_wIL, y_wII, y_wIJ, y_wIR, y_wIN, y_wIw, y_sI, ↓reduceIte, Nat.reduceEqDiff, eq_self, true_or, or_true, false_or, or_false, and_true, true_and, false_and, and_false, not_true, not_false_eq_true, tf_T, tf_F, y_up1, y_up2, y_xx, y_nx, y_sJ, y_sR, Int32.reduceLT, y_nxK, y_nxL, y_nxR, y_sJK, y_sJL, y_sJR, y_sJN, y_sRK, y_sRL, y_sRN, Nat.add_zero, z_nat, z_lit, z_lit0, z_lit1, z_in0, z_in1, z_addl0, z_lt, z_ltl, z_llt, z_inj, z_injl, z_add, z_addl, z_ladd, z_mul, z_mull, z_lmul, z_neg, z_negl, z_in, z_inl, z_ltT, z_ltF, z_eqF, z_10, z_01, z_litne, z_ne0, z_0ne, z_ne1, z_1ne, z_lt64, z_02, z_03, z_04, z_05, z_12, z_13, z_14, z_15, z_20, z_21, z_23, z_24, z_25, z_30, z_31, z_32, z_34, z_35, z_40, z_41, z_42, z_43, z_45, z_50, z_51, z_52, z_53, z_54]
theorem m_days {c t : Nat} (hM : Md B) (c4 : c ≤ 4) (hu : ∀ m, m < c → i 888 m = u m) (hr : ∀ m, m < c → i 887 m = r m) : am_fx am_P (d + 1) 114 204 [some (.ref 874), some (.int (Int32.ofNat c)), some (.int x), some (.int y), some (.int z), some (.int (Int32.ofNat t)), none, some (.int 0), some (.int (Int32.ofNat 0))] [] (am_wI B i) = am_fx am_P (d + 1) 114 267 [some (.ref 874), some (.int (Int32.ofNat c)), some (.int x), some (.int y), some (.int z), some (.int (Int32.ofNat t)), none, some (.int (dys u r c)), none] [] (am_wI B i) := by
  refine (lp_itr (fun k (_ : Unit) => if dys u r k = -1 then am_fx am_P (d + 1) 114 267 [some (.ref 874), some (.int (Int32.ofNat c)), some (.int x), some (.int y), some (.int z), some (.int (Int32.ofNat t)), none, some (.int (-1)), none] [] (am_wI B i) else am_fx am_P (d + 1) 114 204 [some (.ref 874), some (.int (Int32.ofNat c)), some (.int x), some (.int y), some (.int z), some (.int (Int32.ofNat t)), none, some (.int (dys u r k)), some (.int (Int32.ofNat k))] [] (am_wI B i)) (fun _ v => v) c (fun k v hk => ?_) ()).trans ?_
  · have e1 := hu k hk
    have e2 := hr k hk
    rw [dys_s]
    rcases dys_nn (u := u) (r := r) k with e | e
    · rw [if_pos e, if_pos (show dyw u r k (dys u r k) = -1 from if_pos e)]
    · rw [if_neg (nn_n1 e)]
      by_cases g : u k = 0
      · rw [if_pos (show dyw u r k (dys u r k) = -1 by unfold dyw; rw [if_neg (nn_n1 e), if_pos g])]
        generalize dys u r k = a at *
        rw [bk_114_204]
        simp (maxSteps := 1000000) (disch := omega) only [e1, e2, e, g, hM, y_ckd, y_ck2d, y_ond, y_onn, y_oI, y_oIx, y_oJ, y_oV, y_oVx, y_oR, y_oRn, y_oRx, y_b0, y_b1, y_bi, y_bid, y_wIK, y_wIL, y_wII, y_wIJ, y_wIR, y_wIN, y_wIw, y_sI, ↓reduceIte, Nat.reduceEqDiff, eq_self, true_or, or_true, false_or, or_false, and_true, true_and, false_and, and_false, not_true, not_false_eq_true, tf_T, tf_F, y_up1, y_up2, y_xx, y_nx, y_sJ, y_sR, Int32.reduceLT, y_nxK, y_nxL, y_nxR, y_sJK, y_sJL, y_sJR, y_sJN, y_sRK, y_sRL, y_sRN, Nat.add_zero, z_nat, z_lit, z_lit0, z_lit1, z_in0, z_in1, z_addl0, z_lt, z_ltl, z_llt, z_inj, z_injl, z_add, z_addl, z_ladd, z_mul, z_mull, z_lmul, z_neg, z_negl, z_in, z_inl, z_ltT, z_ltF, z_eqF, z_10, z_01, z_litne, z_ne0, z_0ne, z_ne1, z_1ne, z_lt64, z_02, z_03, z_04, z_05, z_12, z_13, z_14, z_15, z_20, z_21, z_23, z_24, z_25, z_30, z_31, z_32, z_34, z_35, z_40, z_41, z_42, z_43, z_45, z_50, z_51, z_52, z_53, z_54]
        rw [bk_114_204]
        by_cases q : k + 1 < c
        · simp (maxSteps := 1000000) (disch := omega) only [q, z_lm1, hM, y_ckd, y_ck2d, y_ond, y_onn, y_oI, y_oIx, y_oJ, y_oV, y_oVx, y_oR, y_oRn, y_oRx, y_b0, y_b1, y_bi, y_bid, y_wIK, y_wIL, y_wII, y_wIJ, y_wIR, y_wIN, y_wIw, y_sI, ↓reduceIte, Nat.reduceEqDiff, eq_self, true_or, or_true, false_or, or_false, and_true, true_and, false_and, and_false, not_true, not_false_eq_true, tf_T, tf_F, y_up1, y_up2, y_xx, y_nx, y_sJ, y_sR, Int32.reduceLT, y_nxK, y_nxL, y_nxR, y_sJK, y_sJL, y_sJR, y_sJN, y_sRK, y_sRL, y_sRN, Nat.add_zero, z_nat, z_lit, z_lit0, z_lit1, z_in0, z_in1, z_addl0, z_lt, z_ltl, z_llt, z_inj, z_injl, z_add, z_addl, z_ladd, z_mul, z_mull, z_lmul, z_neg, z_negl, z_in, z_inl, z_ltT, z_ltF, z_eqF, z_10, z_01, z_litne, z_ne0, z_0ne, z_ne1, z_1ne, z_lt64, z_02, z_03, z_04, z_05, z_12, z_13, z_14, z_15, z_20, z_21, z_23, z_24, z_25, z_30, z_31, z_32, z_34, z_35, z_40, z_41, z_42, z_43, z_45, z_50, z_51, z_52, z_53, z_54]
        · simp (maxSteps := 1000000) (disch := omega) only [q, hM, y_ckd, y_ck2d, y_ond, y_onn, y_oI, y_oIx, y_oJ, y_oV, y_oVx, y_oR, y_oRn, y_oRx, y_b0, y_b1, y_bi, y_bid, y_wIK, y_wIL, y_wII, y_wIJ, y_wIR, y_wIN, y_wIw, y_sI, ↓reduceIte, Nat.reduceEqDiff, eq_self, true_or, or_true, false_or, or_false, and_true, true_and, false_and, and_false, not_true, not_false_eq_true, tf_T, tf_F, y_up1, y_up2, y_xx, y_nx, y_sJ, y_sR, Int32.reduceLT, y_nxK, y_nxL, y_nxR, y_sJK, y_sJL, y_sJR, y_sJN, y_sRK, y_sRL, y_sRN, Nat.add_zero, z_nat, z_lit, z_lit0, z_lit1, z_in0, z_in1, z_addl0, z_lt, z_ltl, z_llt, z_inj, z_injl, z_add, z_addl, z_ladd, z_mul, z_mull, z_lmul, z_neg, z_negl, z_in, z_inl, z_ltT, z_ltF, z_eqF, z_10, z_01, z_litne, z_ne0, z_0ne, z_ne1, z_1ne, z_lt64, z_02, z_03, z_04, z_05, z_12, z_13, z_14, z_15, z_20, z_21, z_23, z_24, z_25, z_30, z_31, z_32, z_34, z_35, z_40, z_41, z_42, z_43, z_45, z_50, z_51, z_52, z_53, z_54]
      · have ev : dyw u r k (dys u r k) = mx (dys u r k) ((r k + u k - 1) / u k) := by unfold dyw; rw [if_neg (nn_n1 e), if_neg g]
        rw [ev, if_neg (nn_n1 (mx_nn e))]
        generalize dys u r k = a at *
        rw [bk_114_204]
        simp (maxSteps := 1000000) (disch := omega) only [e1, e2, e, g, y_nz g, c_max, hM, y_ckd, y_ck2d, y_ond, y_onn, y_oI, y_oIx, y_oJ, y_oV, y_oVx, y_oR, y_oRn, y_oRx, y_b0, y_b1, y_bi, y_bid, y_wIK, y_wIL, y_wII, y_wIJ, y_wIR, y_wIN, y_wIw, y_sI, ↓reduceIte, Nat.reduceEqDiff, eq_self, true_or, or_true, false_or, or_false, and_true, true_and, false_and, and_false, not_true, not_false_eq_true, tf_T, tf_F, y_up1, y_up2, y_xx, y_nx, y_sJ, y_sR, Int32.reduceLT, y_nxK, y_nxL, y_nxR, y_sJK, y_sJL, y_sJR, y_sJN, y_sRK, y_sRL, y_sRN, Nat.add_zero, z_nat, z_lit, z_lit0, z_lit1, z_in0, z_in1, z_addl0, z_lt, z_ltl, z_llt, z_inj, z_injl, z_add, z_addl, z_ladd, z_mul, z_mull, z_lmul, z_neg, z_negl, z_in, z_inl, z_ltT, z_ltF, z_eqF, z_10, z_01, z_litne, z_ne0, z_0ne, z_ne1, z_1ne, z_lt64, z_02, z_03, z_04, z_05, z_12, z_13, z_14, z_15, z_20, z_21, z_23, z_24, z_25, z_30, z_31, z_32, z_34, z_35, z_40, z_41, z_42, z_43, z_45, z_50, z_51, z_52, z_53, z_54]
  · rcases dys_nn (u := u) (r := r) c with e | e
    · rw [if_pos e, e]
    · rw [if_neg (nn_n1 e)]
      generalize dys u r c = a at *
      rw [bk_114_204]
      simp (maxSteps := 1000000) (disch := omega) only [hM, y_ckd, y_ck2d, y_ond, y_onn, y_oI, y_oIx, y_oJ, y_oV, y_oVx, y_oR, y_oRn, y_oRx, y_b0, y_b1, y_bi, y_bid, y_wIK, y_wIL, y_wII, y_wIJ, y_wIR, y_wIN, y_wIw, y_sI, ↓reduceIte, Nat.reduceEqDiff, eq_self, true_or, or_true, false_or, or_false, and_true, true_and, false_and, and_false, not_true, not_false_eq_true, tf_T, tf_F, y_up1, y_up2, y_xx, y_nx, y_sJ, y_sR, Int32.reduceLT, y_nxK, y_nxL, y_nxR, y_sJK, y_sJL, y_sJR, y_sJN, y_sRK, y_sRL, y_sRN, Nat.add_zero, z_nat, z_lit, z_lit0, z_lit1, z_in0, z_in1, z_addl0, z_lt, z_ltl, z_llt, z_inj, z_injl, z_add, z_addl, z_ladd, z_mul, z_mull, z_lmul, z_neg, z_negl, z_in, z_inl, z_ltT, z_ltF, z_eqF, z_10, z_01, z_litne, z_ne0, z_0ne, z_ne1, z_1ne, z_lt64, z_02, z_03, z_04, z_05, z_12, z_13, z_14, z_15, z_20, z_21, z_23, z_24, z_25, z_30, z_31, z_32, z_34, z_35, z_40, z_41, z_42, z_43, z_45, z_50, z_51, z_52, z_53, z_54]
end Gangs3
