/-! MOOR: made by wip/whole/math/80.py. -/
section Moor
variable {B B1 : am_A} {i i1 : Nat → Nat → Int32} {σ σ' : Sg} {w : Nat → Int32} {L j d b : Nat} {x y z : Int32}
def Tk (w : Nat → Int32) (q : Nat) : Prop := ∃ s, s < cn w 2621 ∧ w (2622 + 49 * s + 4) = Int32.ofNat q
theorem c_free0 {q : Nat} (hY : Yd B b) (hS : RS i b w) (hc : isc w 2621 8) (g : Tk w q) : am_fx am_P d 260 0 [some (.ref b), some (.int (Int32.ofNat q)), none] [] (am_wI B i) = some (.inl (some (.int 0)), am_wI B i) := by
  have h2 := hc.2
  have e5 : i b 8 = Int32.ofNat (cn w 2621) := hS.1.trans hc.1
  rw [bk_260_0]
  have := lp_fst (fun k => am_fx am_P d 260 2 [some (.ref b), some (.int (Int32.ofNat q)), some (.int (Int32.ofNat k))] [] (am_wI B i)) (fun k => decide (w (2622 + 49 * k + 4) = Int32.ofNat q)) (fun _ => some (.inl (some (.int 0)), am_wI B i)) (cn w 2621) (fun k hk => by
    have e4 := (hS.2 k hk (by omega)).2.2.2.2.1
    rw [bk_260_2]
    by_cases g : w (2622 + 49 * k + 4) = Int32.ofNat q
    · simp (maxSteps := 1000000) (disch := omega) only [e5, e4, g, decide_true, hY, y_ckd, y_ck2d, y_ond, y_onn, y_oI, y_oIx, y_oJ, y_oV, y_oVx, y_oR, y_oRn, y_oRx, y_b0, y_b1, y_bi, y_bid, y_wIK, y_wIL, y_wII, y_wIJ, y_wIR, y_wIN, y_wIw, y_sI, ↓reduceIte, Nat.reduceEqDiff, eq_self, true_or, or_true, false_or, or_false, and_true, true_and, false_and, and_false, not_true, not_false_eq_true, tf_T, tf_F, y_up1, y_up2, y_xx, y_nx, y_sJ, y_sR, Int32.reduceLT, y_nxK, y_nxL, y_nxR, y_sJK, y_sJL, y_sJR, y_sJN, y_sRK, y_sRL, y_sRN, Nat.add_zero, z_nat, z_lit, z_lit0, z_lit1, z_in0, z_in1, z_addl0, z_lt, z_ltl, z_llt, z_inj, z_injl, z_add, z_addl, z_ladd, z_mul, z_mull, z_lmul, z_neg, z_negl, z_in, z_inl, z_ltT, z_ltF, z_eqF, z_10, z_01, z_litne, z_ne0, z_0ne, z_ne1, z_1ne, z_lt64, z_02, z_03, z_04, z_05, z_12, z_13, z_14, z_15, z_20, z_21, z_23, z_24, z_25, z_30, z_31, z_32, z_34, z_35, z_40, z_41, z_42, z_43, z_45, z_50, z_51, z_52, z_53, z_54]
    · simp (maxSteps := 1000000) (disch := omega) only [e5, e4, g, decide_false, Bool.false_eq_true, hY, y_ckd, y_ck2d, y_ond, y_onn, y_oI, y_oIx, y_oJ, y_oV, y_oVx, y_oR, y_oRn, y_oRx, y_b0, y_b1, y_bi, y_bid, y_wIK, y_wIL, y_wII, y_wIJ, y_wIR, y_wIN, y_wIw, y_sI, ↓reduceIte, Nat.reduceEqDiff, eq_self, true_or, or_true, false_or, or_false, and_true, true_and, false_and, and_false, not_true, not_false_eq_true, tf_T, tf_F, y_up1, y_up2, y_xx, y_nx, y_sJ, y_sR, Int32.reduceLT, y_nxK, y_nxL, y_nxR, y_sJK, y_sJL, y_sJR, y_sJN, y_sRK, y_sRL, y_sRN, Nat.add_zero, z_nat, z_lit, z_lit0, z_lit1, z_in0, z_in1, z_addl0, z_lt, z_ltl, z_llt, z_inj, z_injl, z_add, z_addl, z_ladd, z_mul, z_mull, z_lmul, z_neg, z_negl, z_in, z_inl, z_ltT, z_ltF, z_eqF, z_10, z_01, z_litne, z_ne0, z_0ne, z_ne1, z_1ne, z_lt64, z_02, z_03, z_04, z_05, z_12, z_13, z_14, z_15, z_20, z_21, z_23, z_24, z_25, z_30, z_31, z_32, z_34, z_35, z_40, z_41, z_42, z_43, z_45, z_50, z_51, z_52, z_53, z_54])
  refine this.trans ?_
  cases e : fst0 (fun k => decide (w (2622 + 49 * k + 4) = Int32.ofNat q)) (cn w 2621) with
  | none =>
    obtain ⟨s, h1, h3⟩ := g
    have := fst0_none.mp e s h1
    exact absurd h3 (of_decide_eq_false this)
  | some k => rfl
theorem c_free1 {q : Nat} (hY : Yd B b) (hS : RS i b w) (hc : isc w 2621 8) (g : ¬ Tk w q) : am_fx am_P d 260 0 [some (.ref b), some (.int (Int32.ofNat q)), none] [] (am_wI B i) = some (.inl (some (.int 1)), am_wI B i) := by
  have h2 := hc.2
  have e5 : i b 8 = Int32.ofNat (cn w 2621) := hS.1.trans hc.1
  rw [bk_260_0]
  refine (lp_itr (fun k (_ : Unit) => am_fx am_P d 260 2 [some (.ref b), some (.int (Int32.ofNat q)), some (.int (Int32.ofNat k))] [] (am_wI B i)) (fun _ u => u) (cn w 2621) (fun k u hk => ?_) ()).trans ?_
  · have e4 := (hS.2 k hk (by omega)).2.2.2.2.1
    have g' : ¬ w (2622 + 49 * k + 4) = Int32.ofNat q := fun q => g ⟨k, hk, q⟩
    rw [bk_260_2]
    simp (maxSteps := 1000000) (disch := omega) only [e5, e4, g', hY, y_ckd, y_ck2d, y_ond, y_onn, y_oI, y_oIx, y_oJ, y_oV, y_oVx, y_oR, y_oRn, y_oRx, y_b0, y_b1, y_bi, y_bid, y_wIK, y_wIL, y_wII, y_wIJ, y_wIR, y_wIN, y_wIw, y_sI, ↓reduceIte, Nat.reduceEqDiff, eq_self, true_or, or_true, false_or, or_false, and_true, true_and, false_and, and_false, not_true, not_false_eq_true, tf_T, tf_F, y_up1, y_up2, y_xx, y_nx, y_sJ, y_sR, Int32.reduceLT, y_nxK, y_nxL, y_nxR, y_sJK, y_sJL, y_sJR, y_sJN, y_sRK, y_sRL, y_sRN, Nat.add_zero, z_nat, z_lit, z_lit0, z_lit1, z_in0, z_in1, z_addl0, z_lt, z_ltl, z_llt, z_inj, z_injl, z_add, z_addl, z_ladd, z_mul, z_mull, z_lmul, z_neg, z_negl, z_in, z_inl, z_ltT, z_ltF, z_eqF, z_10, z_01, z_litne, z_ne0, z_0ne, z_ne1, z_1ne, z_lt64, z_02, z_03, z_04, z_05, z_12, z_13, z_14, z_15, z_20, z_21, z_23, z_24, z_25, z_30, z_31, z_32, z_34, z_35, z_40, z_41, z_42, z_43, z_45, z_50, z_51, z_52, z_53, z_54]
  · rw [bk_260_2]
    simp (maxSteps := 1000000) (disch := omega) only [e5, hY, y_ckd, y_ck2d, y_ond, y_onn, y_oI, y_oIx, y_oJ, y_oV, y_oVx, y_oR, y_oRn, y_oRx, y_b0, y_b1, y_bi, y_bid, y_wIK, y_wIL, y_wII, y_wIJ, y_wIR, y_wIN, y_wIw, y_sI, ↓reduceIte, Nat.reduceEqDiff, eq_self, true_or, or_true, false_or, or_false, and_true, true_and, false_and, and_false, not_true, not_false_eq_true, tf_T, tf_F, y_up1, y_up2, y_xx, y_nx, y_sJ, y_sR, Int32.reduceLT, y_nxK, y_nxL, y_nxR, y_sJK, y_sJL, y_sJR, y_sJN, y_sRK, y_sRL, y_sRN, Nat.add_zero, z_nat, z_lit, z_lit0, z_lit1, z_in0, z_in1, z_addl0, z_lt, z_ltl, z_llt, z_inj, z_injl, z_add, z_addl, z_ladd, z_mul, z_mull, z_lmul, z_neg, z_negl, z_in, z_inl, z_ltT, z_ltF, z_eqF, z_10, z_01, z_litne, z_ne0, z_0ne, z_ne1, z_1ne, z_lt64, z_02, z_03, z_04, z_05, z_12, z_13, z_14, z_15, z_20, z_21, z_23, z_24, z_25, z_30, z_31, z_32, z_34, z_35, z_40, z_41, z_42, z_43, z_45, z_50, z_51, z_52, z_53, z_54]
def tkb (w : Nat → Int32) (q n : Nat) : Int32 := itr (fun s a => if a = 0 then (if w (2622 + 49 * s + 4) = Int32.ofNat q then 1 else 0) else 1) n 0
theorem tkb_s {q n : Nat} : tkb w q (n + 1) = if tkb w q n = 0 then (if w (2622 + 49 * n + 4) = Int32.ofNat q then 1 else 0) else 1 := rfl
theorem tkb_ok {q : Nat} : ∀ n, (tkb w q n = 0 ∧ ∀ s, s < n → ¬ w (2622 + 49 * s + 4) = Int32.ofNat q) ∨ (tkb w q n = 1 ∧ ∃ s, s < n ∧ w (2622 + 49 * s + 4) = Int32.ofNat q)
  | 0 => Or.inl ⟨rfl, fun s h => absurd h (by omega)⟩
  | n + 1 => by
    rw [tkb_s]
    rcases tkb_ok (q := q) n with ⟨e, h⟩ | ⟨e, s, h1, h2⟩
    · rw [if_pos e]
      by_cases g : w (2622 + 49 * n + 4) = Int32.ofNat q
      · exact Or.inr ⟨if_pos g, n, by omega, g⟩
      · refine Or.inl ⟨if_neg g, fun s hs => ?_⟩
        by_cases c : s = n
        · rw [c]
          exact g
        · exact h s (by omega)
    · rw [if_neg (by rw [e]; decide)]
      exact Or.inr ⟨rfl, s, by omega, h2⟩
theorem m_taken {q : Nat} (hM : Md B) (hw : ∀ s, s < 12042 → i 875 s = w s) (hW : Wd w) (hq : q < 4) : am_fx am_P (d + 3) 100 0 [some (.ref 874), some (.int (Int32.ofNat q)), none, none] [] (am_wI B i) = some (.inl (some (.int (tkb w q (cn w 2621)))), am_wI B i) := by
  have hc := hW.1.2.2.2.1
  have h2 := hc.2
  have e5 : i 875 2621 = Int32.ofNat (cn w 2621) := (hw _ (by omega)).trans hc.1
  rw [bk_100_0]
  refine (lp_itr (fun k (_ : Unit) => am_fx am_P (d + 3) 100 4 [some (.ref 874), some (.int (Int32.ofNat q)), some (.int (tkb w q k)), some (.int (Int32.ofNat k))] [] (am_wI B i)) (fun _ u => u) (cn w 2621) (fun k u hk => ?_) ()).trans ?_
  · have e0 := hw (2622 + 49 * k) (by omega)
    have e4 := hw (2622 + 49 * k + 4) (by omega)
    have s5 := (hW.2.2.2.2.1.1 k hk (by omega)).2.2.2.2.1
    rw [bk_100_4, tkb_s]
    rcases tkb_ok (w := w) (q := q) k with ⟨e, -⟩ | ⟨e, -⟩
    · rw [e, if_pos rfl]
      by_cases g : w (2622 + 49 * k) = 3
      · by_cases g4 : w (2622 + 49 * k + 4) = Int32.ofNat q
        · rw [if_pos g4]
          simp (maxSteps := 1000000) (disch := omega) only [(fun d x0 x1 x2 B i => bk_67_0 d x0 x1 x2 (am_wI B i)), (fun d x0 x1 B i => bk_66_0 d x0 x1 (am_wI B i)), (fun d x0 x1 x3 B i => bk_100_40 d x0 x1 x3 (am_wI B i)), e5, e0, e4, g, g4, hM, y_ckd, y_ck2d, y_ond, y_onn, y_oI, y_oIx, y_oJ, y_oV, y_oVx, y_oR, y_oRn, y_oRx, y_b0, y_b1, y_bi, y_bid, y_wIK, y_wIL, y_wII, y_wIJ, y_wIR, y_wIN, y_wIw, y_sI, ↓reduceIte, Nat.reduceEqDiff, eq_self, true_or, or_true, false_or, or_false, and_true, true_and, false_and, and_false, not_true, not_false_eq_true, tf_T, tf_F, y_up1, y_up2, y_xx, y_nx, y_sJ, y_sR, Int32.reduceLT, y_nxK, y_nxL, y_nxR, y_sJK, y_sJL, y_sJR, y_sJN, y_sRK, y_sRL, y_sRN, Nat.add_zero, z_nat, z_lit, z_lit0, z_lit1, z_in0, z_in1, z_addl0, z_lt, z_ltl, z_llt, z_inj, z_injl, z_add, z_addl, z_ladd, z_mul, z_mull, z_lmul, z_neg, z_negl, z_in, z_inl, z_ltT, z_ltF, z_eqF, z_10, z_01, z_litne, z_ne0, z_0ne, z_ne1, z_1ne, z_lt64, z_02, z_03, z_04, z_05, z_12, z_13, z_14, z_15, z_20, z_21, z_23, z_24, z_25, z_30, z_31, z_32, z_34, z_35, z_40, z_41, z_42, z_43, z_45, z_50, z_51, z_52, z_53, z_54]
        · rw [if_neg g4]
          simp (maxSteps := 1000000) (disch := omega) only [(fun d x0 x1 x2 B i => bk_67_0 d x0 x1 x2 (am_wI B i)), (fun d x0 x1 B i => bk_66_0 d x0 x1 (am_wI B i)), (fun d x0 x1 x3 B i => bk_100_44 d x0 x1 x3 (am_wI B i)), e5, e0, e4, g, g4, hM, y_ckd, y_ck2d, y_ond, y_onn, y_oI, y_oIx, y_oJ, y_oV, y_oVx, y_oR, y_oRn, y_oRx, y_b0, y_b1, y_bi, y_bid, y_wIK, y_wIL, y_wII, y_wIJ, y_wIR, y_wIN, y_wIw, y_sI, ↓reduceIte, Nat.reduceEqDiff, eq_self, true_or, or_true, false_or, or_false, and_true, true_and, false_and, and_false, not_true, not_false_eq_true, tf_T, tf_F, y_up1, y_up2, y_xx, y_nx, y_sJ, y_sR, Int32.reduceLT, y_nxK, y_nxL, y_nxR, y_sJK, y_sJL, y_sJR, y_sJN, y_sRK, y_sRL, y_sRN, Nat.add_zero, z_nat, z_lit, z_lit0, z_lit1, z_in0, z_in1, z_addl0, z_lt, z_ltl, z_llt, z_inj, z_injl, z_add, z_addl, z_ladd, z_mul, z_mull, z_lmul, z_neg, z_negl, z_in, z_inl, z_ltT, z_ltF, z_eqF, z_10, z_01, z_litne, z_ne0, z_0ne, z_ne1, z_1ne, z_lt64, z_02, z_03, z_04, z_05, z_12, z_13, z_14, z_15, z_20, z_21, z_23, z_24, z_25, z_30, z_31, z_32, z_34, z_35, z_40, z_41, z_42, z_43, z_45, z_50, z_51, z_52, z_53, z_54]
      · have g4 : ¬ w (2622 + 49 * k + 4) = Int32.ofNat q := by
          rw [s5 g]
          exact fun r => z_nm1 (by omega) r.symm
        rw [if_neg g4]
        simp (maxSteps := 1000000) (disch := omega) only [(fun d x0 x1 x2 B i => bk_67_0 d x0 x1 x2 (am_wI B i)), (fun d x0 x1 B i => bk_66_0 d x0 x1 (am_wI B i)), (fun d x0 x1 x3 B i => bk_100_44 d x0 x1 x3 (am_wI B i)), e5, e0, g, hM, y_ckd, y_ck2d, y_ond, y_onn, y_oI, y_oIx, y_oJ, y_oV, y_oVx, y_oR, y_oRn, y_oRx, y_b0, y_b1, y_bi, y_bid, y_wIK, y_wIL, y_wII, y_wIJ, y_wIR, y_wIN, y_wIw, y_sI, ↓reduceIte, Nat.reduceEqDiff, eq_self, true_or, or_true, false_or, or_false, and_true, true_and, false_and, and_false, not_true, not_false_eq_true, tf_T, tf_F, y_up1, y_up2, y_xx, y_nx, y_sJ, y_sR, Int32.reduceLT, y_nxK, y_nxL, y_nxR, y_sJK, y_sJL, y_sJR, y_sJN, y_sRK, y_sRL, y_sRN, Nat.add_zero, z_nat, z_lit, z_lit0, z_lit1, z_in0, z_in1, z_addl0, z_lt, z_ltl, z_llt, z_inj, z_injl, z_add, z_addl, z_ladd, z_mul, z_mull, z_lmul, z_neg, z_negl, z_in, z_inl, z_ltT, z_ltF, z_eqF, z_10, z_01, z_litne, z_ne0, z_0ne, z_ne1, z_1ne, z_lt64, z_02, z_03, z_04, z_05, z_12, z_13, z_14, z_15, z_20, z_21, z_23, z_24, z_25, z_30, z_31, z_32, z_34, z_35, z_40, z_41, z_42, z_43, z_45, z_50, z_51, z_52, z_53, z_54]
    · rw [e, if_neg (by decide)]
      simp (maxSteps := 1000000) (disch := omega) only [(fun d x0 x1 x3 B i => bk_100_40 d x0 x1 x3 (am_wI B i)), e5, hM, y_ckd, y_ck2d, y_ond, y_onn, y_oI, y_oIx, y_oJ, y_oV, y_oVx, y_oR, y_oRn, y_oRx, y_b0, y_b1, y_bi, y_bid, y_wIK, y_wIL, y_wII, y_wIJ, y_wIR, y_wIN, y_wIw, y_sI, ↓reduceIte, Nat.reduceEqDiff, eq_self, true_or, or_true, false_or, or_false, and_true, true_and, false_and, and_false, not_true, not_false_eq_true, tf_T, tf_F, y_up1, y_up2, y_xx, y_nx, y_sJ, y_sR, Int32.reduceLT, y_nxK, y_nxL, y_nxR, y_sJK, y_sJL, y_sJR, y_sJN, y_sRK, y_sRL, y_sRN, Nat.add_zero, z_nat, z_lit, z_lit0, z_lit1, z_in0, z_in1, z_addl0, z_lt, z_ltl, z_llt, z_inj, z_injl, z_add, z_addl, z_ladd, z_mul, z_mull, z_lmul, z_neg, z_negl, z_in, z_inl, z_ltT, z_ltF, z_eqF, z_10, z_01, z_litne, z_ne0, z_0ne, z_ne1, z_1ne, z_lt64, z_02, z_03, z_04, z_05, z_12, z_13, z_14, z_15, z_20, z_21, z_23, z_24, z_25, z_30, z_31, z_32, z_34, z_35, z_40, z_41, z_42, z_43, z_45, z_50, z_51, z_52, z_53, z_54]
  · rw [bk_100_4]
    rcases tkb_ok (w := w) (q := q) (cn w 2621) with ⟨e, -⟩ | ⟨e, -⟩
    · rw [e]
      simp (maxSteps := 1000000) (disch := omega) only [e5, hM, y_ckd, y_ck2d, y_ond, y_onn, y_oI, y_oIx, y_oJ, y_oV, y_oVx, y_oR, y_oRn, y_oRx, y_b0, y_b1, y_bi, y_bid, y_wIK, y_wIL, y_wII, y_wIJ, y_wIR, y_wIN, y_wIw, y_sI, ↓reduceIte, Nat.reduceEqDiff, eq_self, true_or, or_true, false_or, or_false, and_true, true_and, false_and, and_false, not_true, not_false_eq_true, tf_T, tf_F, y_up1, y_up2, y_xx, y_nx, y_sJ, y_sR, Int32.reduceLT, y_nxK, y_nxL, y_nxR, y_sJK, y_sJL, y_sJR, y_sJN, y_sRK, y_sRL, y_sRN, Nat.add_zero, z_nat, z_lit, z_lit0, z_lit1, z_in0, z_in1, z_addl0, z_lt, z_ltl, z_llt, z_inj, z_injl, z_add, z_addl, z_ladd, z_mul, z_mull, z_lmul, z_neg, z_negl, z_in, z_inl, z_ltT, z_ltF, z_eqF, z_10, z_01, z_litne, z_ne0, z_0ne, z_ne1, z_1ne, z_lt64, z_02, z_03, z_04, z_05, z_12, z_13, z_14, z_15, z_20, z_21, z_23, z_24, z_25, z_30, z_31, z_32, z_34, z_35, z_40, z_41, z_42, z_43, z_45, z_50, z_51, z_52, z_53, z_54]
    · rw [e]
      simp (maxSteps := 1000000) (disch := omega) only [e5, hM, y_ckd, y_ck2d, y_ond, y_onn, y_oI, y_oIx, y_oJ, y_oV, y_oVx, y_oR, y_oRn, y_oRx, y_b0, y_b1, y_bi, y_bid, y_wIK, y_wIL, y_wII, y_wIJ, y_wIR, y_wIN, y_wIw, y_sI, ↓reduceIte, Nat.reduceEqDiff, eq_self, true_or, or_true, false_or, or_false, and_true, true_and, false_and, and_false, not_true, not_false_eq_true, tf_T, tf_F, y_up1, y_up2, y_xx, y_nx, y_sJ, y_sR, Int32.reduceLT, y_nxK, y_nxL, y_nxR, y_sJK, y_sJL, y_sJR, y_sJN, y_sRK, y_sRL, y_sRN, Nat.add_zero, z_nat, z_lit, z_lit0, z_lit1, z_in0, z_in1, z_addl0, z_lt, z_ltl, z_llt, z_inj, z_injl, z_add, z_addl, z_ladd, z_mul, z_mull, z_lmul, z_neg, z_negl, z_in, z_inl, z_ltT, z_ltF, z_eqF, z_10, z_01, z_litne, z_ne0, z_0ne, z_ne1, z_1ne, z_lt64, z_02, z_03, z_04, z_05, z_12, z_13, z_14, z_15, z_20, z_21, z_23, z_24, z_25, z_30, z_31, z_32, z_34, z_35, z_40, z_41, z_42, z_43, z_45, z_50, z_51, z_52, z_53, z_54]
theorem f_moor_x0 {x y z : Int32} (h : CR B i σ) (g : ¬ (¬ x < 0 ∧ x < σ.1 2621)) : FRs B i σ (am_fx am_P (d + 150) 319 0 [some (.ref 64), some (.int x), some (.int y), some (.int z), none, none] [] (am_wI B i)) (.inr 1) := by
  refine FRs_x h ?_
  have hF : Fc B := h.1.1
  have hY : Yd B 94 := h.1.2.1
  rw [bk_319_0]
  simp (disch := omega) only [c_shN0 hF hY h.2.1.2.2.2.1.1 g, hF, hY, y_ckd, y_ck2d, y_ond, y_onn, y_oI, y_oIx, y_oJ, y_oV, y_oVx, y_oR, y_oRn, y_oRx, y_b0, y_b1, y_bi, y_bid, y_wIK, y_wIL, y_wII, y_wIJ, y_wIR, y_wIN, y_wIw, y_sI, ↓reduceIte, Nat.reduceEqDiff, eq_self, true_or, or_true, false_or, or_false, and_true, true_and, false_and, and_false, not_true, not_false_eq_true, tf_T, tf_F, y_up1, y_up2, y_xx, y_nx, y_sJ, y_sR, Int32.reduceLT, y_nxK, y_nxL, y_nxR, y_sJK, y_sJL, y_sJR, y_sJN, y_sRK, y_sRL, y_sRN, Nat.add_zero, z_nat, z_lit, z_lit0, z_lit1, z_in0, z_in1, z_addl0, z_lt, z_ltl, z_llt, z_inj, z_injl, z_add, z_addl, z_ladd, z_mul, z_mull, z_lmul, z_neg, z_negl, z_in, z_inl, z_ltT, z_ltF, z_eqF, z_10, z_01, z_litne, z_ne0, z_0ne, z_ne1, z_1ne, z_lt64, z_02, z_03, z_04, z_05, z_12, z_13, z_14, z_15, z_20, z_21, z_23, z_24, z_25, z_30, z_31, z_32, z_34, z_35, z_40, z_41, z_42, z_43, z_45, z_50, z_51, z_52, z_53, z_54]
theorem m_moor_x0 {x y z : Int32} (h : MR B i σ) (hc : isc σ.1 2621 8) (g : ¬ (¬ x < 0 ∧ x < σ.1 2621)) : MRs B i σ (am_fx am_P (d + 150) 101 0 [some (.ref 874), some (.int x), some (.int y), some (.int z), none] [] (am_wI B i)) (some (.int 0)) 1 := by
  refine MRs_x h ?_
  have hM : Md B := h.1.1
  have e5 := h.2.1 2621 (by omega)
  rw [bk_101_0]
  simp (maxSteps := 2000000) (disch := omega) only [(fun d x0 x1 x2 x3 s0 s1 B i => bk_101_27 d x0 x1 x2 x3 s0 s1 (am_wI B i)), (fun d x0 x1 B i => bk_69_0 d x0 x1 (am_wI B i)), m_in, z_pred hc.1, Classical.not_not, g, m_thr1 hM, e5, hM, y_ckd, y_ck2d, y_ond, y_onn, y_oI, y_oIx, y_oJ, y_oV, y_oVx, y_oR, y_oRn, y_oRx, y_b0, y_b1, y_bi, y_bid, y_wIK, y_wIL, y_wII, y_wIJ, y_wIR, y_wIN, y_wIw, y_sI, ↓reduceIte, Nat.reduceEqDiff, eq_self, true_or, or_true, false_or, or_false, and_true, true_and, false_and, and_false, not_true, not_false_eq_true, tf_T, tf_F, y_up1, y_up2, y_xx, y_nx, y_sJ, y_sR, Int32.reduceLT, y_nxK, y_nxL, y_nxR, y_sJK, y_sJL, y_sJR, y_sJN, y_sRK, y_sRL, y_sRN, Nat.add_zero, z_nat, z_lit, z_lit0, z_lit1, z_in0, z_in1, z_addl0, z_lt, z_ltl, z_llt, z_inj, z_injl, z_add, z_addl, z_ladd, z_mul, z_mull, z_lmul, z_neg, z_negl, z_in, z_inl, z_ltT, z_ltF, z_eqF, z_10, z_01, z_litne, z_ne0, z_0ne, z_ne1, z_1ne, z_lt64, z_02, z_03, z_04, z_05, z_12, z_13, z_14, z_15, z_20, z_21, z_23, z_24, z_25, z_30, z_31, z_32, z_34, z_35, z_40, z_41, z_42, z_43, z_45, z_50, z_51, z_52, z_53, z_54]
theorem f_moor_x1 {p : Nat} (h : CR B i σ) (hc : isc σ.1 2621 8) (hp : p < cn σ.1 2621) (g : ¬ (¬ y < 0 ∧ y < σ.1 3014)) : FRs B i σ (am_fx am_P (d + 150) 319 0 [some (.ref 64), some (.int (Int32.ofNat p)), some (.int y), some (.int z), none, none] [] (am_wI B i)) (.inr 1) := by
  refine FRs_x h ?_
  have hF : Fc B := h.1.1
  have hY : Yd B 94 := h.1.2.1
  have h8 := hc.2
  have t1 : (Int32.ofNat p < 0) = False := z_neg (by omega)
  have t2 := eq_true (ck_nat hc (by omega) hp).2
  have r1 := h.2.1.1.2.2.2.2.2.2.2.1
  rw [bk_319_0]
  simp (maxSteps := 1000000) (disch := omega) only [c_shN hF hY h.2.1.2.2.2.1.1 hc hp, r1, c_ckI0 g, hF, hY, y_ckd, y_ck2d, y_ond, y_onn, y_oI, y_oIx, y_oJ, y_oV, y_oVx, y_oR, y_oRn, y_oRx, y_b0, y_b1, y_bi, y_bid, y_wIK, y_wIL, y_wII, y_wIJ, y_wIR, y_wIN, y_wIw, y_sI, ↓reduceIte, Nat.reduceEqDiff, eq_self, true_or, or_true, false_or, or_false, and_true, true_and, false_and, and_false, not_true, not_false_eq_true, tf_T, tf_F, y_up1, y_up2, y_xx, y_nx, y_sJ, y_sR, Int32.reduceLT, y_nxK, y_nxL, y_nxR, y_sJK, y_sJL, y_sJR, y_sJN, y_sRK, y_sRL, y_sRN, Nat.add_zero, z_nat, z_lit, z_lit0, z_lit1, z_in0, z_in1, z_addl0, z_lt, z_ltl, z_llt, z_inj, z_injl, z_add, z_addl, z_ladd, z_mul, z_mull, z_lmul, z_neg, z_negl, z_in, z_inl, z_ltT, z_ltF, z_eqF, z_10, z_01, z_litne, z_ne0, z_0ne, z_ne1, z_1ne, z_lt64, z_02, z_03, z_04, z_05, z_12, z_13, z_14, z_15, z_20, z_21, z_23, z_24, z_25, z_30, z_31, z_32, z_34, z_35, z_40, z_41, z_42, z_43, z_45, z_50, z_51, z_52, z_53, z_54]
theorem m_moor_x1 {p : Nat} (h : MR B i σ) (hc : isc σ.1 2621 8) (hp : p < cn σ.1 2621) (hd : isc σ.1 3014 4) (g : ¬ (¬ y < 0 ∧ y < σ.1 3014)) : MRs B i σ (am_fx am_P (d + 150) 101 0 [some (.ref 874), some (.int (Int32.ofNat p)), some (.int y), some (.int z), none] [] (am_wI B i)) (some (.int 0)) 1 := by
  refine MRs_x h ?_
  have hM : Md B := h.1.1
  have h8 := hc.2
  have t1 : (Int32.ofNat p < 0) = False := z_neg (by omega)
  have t2 := eq_true (ck_nat hc (by omega) hp).2
  have e5 := h.2.1 2621 (by omega)
  have e6 := h.2.1 3014 (by omega)
  rw [bk_101_0]
  simp (maxSteps := 1000000) (disch := omega) only [(fun d x0 x1 B i => bk_69_0 d x0 x1 (am_wI B i)), m_in, z_pred hc.1, Classical.not_not, (fun d x0 x1 B i => bk_96_0 d x0 x1 (am_wI B i)), z_pred hd.1, (fun d x0 x1 x2 x3 s0 s1 B i => bk_101_27 d x0 x1 x2 x3 s0 s1 (am_wI B i)), t1, t2, g, e5, e6, m_thr1 hM, hM, y_ckd, y_ck2d, y_ond, y_onn, y_oI, y_oIx, y_oJ, y_oV, y_oVx, y_oR, y_oRn, y_oRx, y_b0, y_b1, y_bi, y_bid, y_wIK, y_wIL, y_wII, y_wIJ, y_wIR, y_wIN, y_wIw, y_sI, ↓reduceIte, Nat.reduceEqDiff, eq_self, true_or, or_true, false_or, or_false, and_true, true_and, false_and, and_false, not_true, not_false_eq_true, tf_T, tf_F, y_up1, y_up2, y_xx, y_nx, y_sJ, y_sR, Int32.reduceLT, y_nxK, y_nxL, y_nxR, y_sJK, y_sJL, y_sJR, y_sJN, y_sRK, y_sRL, y_sRN, Nat.add_zero, z_nat, z_lit, z_lit0, z_lit1, z_in0, z_in1, z_addl0, z_lt, z_ltl, z_llt, z_inj, z_injl, z_add, z_addl, z_ladd, z_mul, z_mull, z_lmul, z_neg, z_negl, z_in, z_inl, z_ltT, z_ltF, z_eqF, z_10, z_01, z_litne, z_ne0, z_0ne, z_ne1, z_1ne, z_lt64, z_02, z_03, z_04, z_05, z_12, z_13, z_14, z_15, z_20, z_21, z_23, z_24, z_25, z_30, z_31, z_32, z_34, z_35, z_40, z_41, z_42, z_43, z_45, z_50, z_51, z_52, z_53, z_54]
theorem f_moorN {p q : Nat} (h : CR B i σ) (hW : Wd σ.1) (hc : isc σ.1 2621 8) (hp : p < cn σ.1 2621) (hd : isc σ.1 3014 4) (hq : q < cn σ.1 3014) (g : ¬ (((z = 0 ∧ σ.1 (2622 + 49 * p + 4) = Int32.ofNat q) ∨ (¬ z = 0 ∧ σ.1 (2622 + 49 * p) = 2 ∧ ¬ Tk σ.1 q)) ∧ (lts σ.1 q (σ.1 (2622 + 49 * p + 2)) (cn σ.1 0)))) : FRs B i σ (am_fx am_P (d + 150) 319 0 [some (.ref 64), some (.int (Int32.ofNat p)), some (.int (Int32.ofNat q)), some (.int z), none, none] [] (am_wI B i)) (.inl (some (.int 0))) := by
  refine FRs_0 h ?_
  have hF : Fc B := h.1.1
  have hY : Yd B 94 := h.1.2.1
  have h8 := hc.2
  have t1 : (Int32.ofNat p < 0) = False := z_neg (by omega)
  have t2 := eq_true (ck_nat hc (by omega) hp).2
  have h4 := hd.2
  have t3 : (Int32.ofNat q < 0) = False := z_neg (by omega)
  have t4 := eq_true (ck_nat hd (by omega) hq).2
  obtain ⟨a1, a2, a3, a4, a5, a6, a7, a8, a9, a10⟩ := h.2.1.2.2.2.1.2 p hp (by omega)
  have hz := hW.1.1
  have z4 := hz.2
  have r1 := h.2.1.1.2.2.2.2.2.2.2.1
  have e0 : i 94 0 = Int32.ofNat (cn σ.1 0) := h.2.1.1.1.trans hz.1
  rw [bk_319_0]
  by_cases gz : z = 0
  · by_cases g1 : σ.1 (2622 + 49 * p + 4) = Int32.ofNat q
    · have gl : ¬ (lts σ.1 q (σ.1 (2622 + 49 * p + 2)) (cn σ.1 0)) := fun r => g ⟨Or.inl ⟨gz, g1⟩, r⟩
      simp (maxSteps := 1000000) (disch := omega) only [c_shN hF hY h.2.1.2.2.2.1.1 hc hp, r1, c_ckI1 (ck_nat hd (by omega) hq), a1, a3, a5, e0, gz, g1, (fun d x0 x2 x3 x4 s0 B i => bk_319_67 d x0 x2 x3 x4 s0 (am_wI B i)), c_lets0 (d := d + 147) hY h.2.1.1 hd hq (by omega) gl, hF, hY, y_ckd, y_ck2d, y_ond, y_onn, y_oI, y_oIx, y_oJ, y_oV, y_oVx, y_oR, y_oRn, y_oRx, y_b0, y_b1, y_bi, y_bid, y_wIK, y_wIL, y_wII, y_wIJ, y_wIR, y_wIN, y_wIw, y_sI, ↓reduceIte, Nat.reduceEqDiff, eq_self, true_or, or_true, false_or, or_false, and_true, true_and, false_and, and_false, not_true, not_false_eq_true, tf_T, tf_F, y_up1, y_up2, y_xx, y_nx, y_sJ, y_sR, Int32.reduceLT, y_nxK, y_nxL, y_nxR, y_sJK, y_sJL, y_sJR, y_sJN, y_sRK, y_sRL, y_sRN, Nat.add_zero, z_nat, z_lit, z_lit0, z_lit1, z_in0, z_in1, z_addl0, z_lt, z_ltl, z_llt, z_inj, z_injl, z_add, z_addl, z_ladd, z_mul, z_mull, z_lmul, z_neg, z_negl, z_in, z_inl, z_ltT, z_ltF, z_eqF, z_10, z_01, z_litne, z_ne0, z_0ne, z_ne1, z_1ne, z_lt64, z_02, z_03, z_04, z_05, z_12, z_13, z_14, z_15, z_20, z_21, z_23, z_24, z_25, z_30, z_31, z_32, z_34, z_35, z_40, z_41, z_42, z_43, z_45, z_50, z_51, z_52, z_53, z_54]
    · simp (maxSteps := 1000000) (disch := omega) only [c_shN hF hY h.2.1.2.2.2.1.1 hc hp, r1, c_ckI1 (ck_nat hd (by omega) hq), a1, a3, a5, e0, gz, g1, (fun d x0 x2 x3 x4 s0 B i => bk_319_67 d x0 x2 x3 x4 s0 (am_wI B i)), hF, hY, y_ckd, y_ck2d, y_ond, y_onn, y_oI, y_oIx, y_oJ, y_oV, y_oVx, y_oR, y_oRn, y_oRx, y_b0, y_b1, y_bi, y_bid, y_wIK, y_wIL, y_wII, y_wIJ, y_wIR, y_wIN, y_wIw, y_sI, ↓reduceIte, Nat.reduceEqDiff, eq_self, true_or, or_true, false_or, or_false, and_true, true_and, false_and, and_false, not_true, not_false_eq_true, tf_T, tf_F, y_up1, y_up2, y_xx, y_nx, y_sJ, y_sR, Int32.reduceLT, y_nxK, y_nxL, y_nxR, y_sJK, y_sJL, y_sJR, y_sJN, y_sRK, y_sRL, y_sRN, Nat.add_zero, z_nat, z_lit, z_lit0, z_lit1, z_in0, z_in1, z_addl0, z_lt, z_ltl, z_llt, z_inj, z_injl, z_add, z_addl, z_ladd, z_mul, z_mull, z_lmul, z_neg, z_negl, z_in, z_inl, z_ltT, z_ltF, z_eqF, z_10, z_01, z_litne, z_ne0, z_0ne, z_ne1, z_1ne, z_lt64, z_02, z_03, z_04, z_05, z_12, z_13, z_14, z_15, z_20, z_21, z_23, z_24, z_25, z_30, z_31, z_32, z_34, z_35, z_40, z_41, z_42, z_43, z_45, z_50, z_51, z_52, z_53, z_54]
  · by_cases g1 : σ.1 (2622 + 49 * p) = 2
    · by_cases g2 : Tk σ.1 q
      · simp (maxSteps := 1000000) (disch := omega) only [c_shN hF hY h.2.1.2.2.2.1.1 hc hp, r1, c_ckI1 (ck_nat hd (by omega) hq), a1, a3, a5, e0, gz, g1, c_free0 (d := d + 149) hY h.2.1.2.2.2.1 hc g2, (fun d x0 x2 x3 x4 s0 B i => bk_319_67 d x0 x2 x3 x4 s0 (am_wI B i)), hF, hY, y_ckd, y_ck2d, y_ond, y_onn, y_oI, y_oIx, y_oJ, y_oV, y_oVx, y_oR, y_oRn, y_oRx, y_b0, y_b1, y_bi, y_bid, y_wIK, y_wIL, y_wII, y_wIJ, y_wIR, y_wIN, y_wIw, y_sI, ↓reduceIte, Nat.reduceEqDiff, eq_self, true_or, or_true, false_or, or_false, and_true, true_and, false_and, and_false, not_true, not_false_eq_true, tf_T, tf_F, y_up1, y_up2, y_xx, y_nx, y_sJ, y_sR, Int32.reduceLT, y_nxK, y_nxL, y_nxR, y_sJK, y_sJL, y_sJR, y_sJN, y_sRK, y_sRL, y_sRN, Nat.add_zero, z_nat, z_lit, z_lit0, z_lit1, z_in0, z_in1, z_addl0, z_lt, z_ltl, z_llt, z_inj, z_injl, z_add, z_addl, z_ladd, z_mul, z_mull, z_lmul, z_neg, z_negl, z_in, z_inl, z_ltT, z_ltF, z_eqF, z_10, z_01, z_litne, z_ne0, z_0ne, z_ne1, z_1ne, z_lt64, z_02, z_03, z_04, z_05, z_12, z_13, z_14, z_15, z_20, z_21, z_23, z_24, z_25, z_30, z_31, z_32, z_34, z_35, z_40, z_41, z_42, z_43, z_45, z_50, z_51, z_52, z_53, z_54]
      · have gl : ¬ (lts σ.1 q (σ.1 (2622 + 49 * p + 2)) (cn σ.1 0)) := fun r => g ⟨Or.inr ⟨gz, g1, g2⟩, r⟩
        simp (maxSteps := 1000000) (disch := omega) only [c_shN hF hY h.2.1.2.2.2.1.1 hc hp, r1, c_ckI1 (ck_nat hd (by omega) hq), a1, a3, a5, e0, gz, g1, c_free1 (d := d + 149) hY h.2.1.2.2.2.1 hc g2, c_lets0 (d := d + 147) hY h.2.1.1 hd hq (by omega) gl, (fun d x0 x2 x3 x4 s0 B i => bk_319_67 d x0 x2 x3 x4 s0 (am_wI B i)), hF, hY, y_ckd, y_ck2d, y_ond, y_onn, y_oI, y_oIx, y_oJ, y_oV, y_oVx, y_oR, y_oRn, y_oRx, y_b0, y_b1, y_bi, y_bid, y_wIK, y_wIL, y_wII, y_wIJ, y_wIR, y_wIN, y_wIw, y_sI, ↓reduceIte, Nat.reduceEqDiff, eq_self, true_or, or_true, false_or, or_false, and_true, true_and, false_and, and_false, not_true, not_false_eq_true, tf_T, tf_F, y_up1, y_up2, y_xx, y_nx, y_sJ, y_sR, Int32.reduceLT, y_nxK, y_nxL, y_nxR, y_sJK, y_sJL, y_sJR, y_sJN, y_sRK, y_sRL, y_sRN, Nat.add_zero, z_nat, z_lit, z_lit0, z_lit1, z_in0, z_in1, z_addl0, z_lt, z_ltl, z_llt, z_inj, z_injl, z_add, z_addl, z_ladd, z_mul, z_mull, z_lmul, z_neg, z_negl, z_in, z_inl, z_ltT, z_ltF, z_eqF, z_10, z_01, z_litne, z_ne0, z_0ne, z_ne1, z_1ne, z_lt64, z_02, z_03, z_04, z_05, z_12, z_13, z_14, z_15, z_20, z_21, z_23, z_24, z_25, z_30, z_31, z_32, z_34, z_35, z_40, z_41, z_42, z_43, z_45, z_50, z_51, z_52, z_53, z_54]
    · simp (maxSteps := 1000000) (disch := omega) only [c_shN hF hY h.2.1.2.2.2.1.1 hc hp, r1, c_ckI1 (ck_nat hd (by omega) hq), a1, a3, a5, e0, gz, g1, (fun d x0 x2 x3 x4 s0 B i => bk_319_67 d x0 x2 x3 x4 s0 (am_wI B i)), hF, hY, y_ckd, y_ck2d, y_ond, y_onn, y_oI, y_oIx, y_oJ, y_oV, y_oVx, y_oR, y_oRn, y_oRx, y_b0, y_b1, y_bi, y_bid, y_wIK, y_wIL, y_wII, y_wIJ, y_wIR, y_wIN, y_wIw, y_sI, ↓reduceIte, Nat.reduceEqDiff, eq_self, true_or, or_true, false_or, or_false, and_true, true_and, false_and, and_false, not_true, not_false_eq_true, tf_T, tf_F, y_up1, y_up2, y_xx, y_nx, y_sJ, y_sR, Int32.reduceLT, y_nxK, y_nxL, y_nxR, y_sJK, y_sJL, y_sJR, y_sJN, y_sRK, y_sRL, y_sRN, Nat.add_zero, z_nat, z_lit, z_lit0, z_lit1, z_in0, z_in1, z_addl0, z_lt, z_ltl, z_llt, z_inj, z_injl, z_add, z_addl, z_ladd, z_mul, z_mull, z_lmul, z_neg, z_negl, z_in, z_inl, z_ltT, z_ltF, z_eqF, z_10, z_01, z_litne, z_ne0, z_0ne, z_ne1, z_1ne, z_lt64, z_02, z_03, z_04, z_05, z_12, z_13, z_14, z_15, z_20, z_21, z_23, z_24, z_25, z_30, z_31, z_32, z_34, z_35, z_40, z_41, z_42, z_43, z_45, z_50, z_51, z_52, z_53, z_54]
theorem m_moorN {p q : Nat} (h : MR B i σ) (hW : Wd σ.1) (hc : isc σ.1 2621 8) (hp : p < cn σ.1 2621) (hd : isc σ.1 3014 4) (hq : q < cn σ.1 3014) (g : ¬ (((z = 0 ∧ σ.1 (2622 + 49 * p + 4) = Int32.ofNat q) ∨ (¬ z = 0 ∧ σ.1 (2622 + 49 * p) = 2 ∧ ¬ Tk σ.1 q)) ∧ (lts σ.1 q (σ.1 (2622 + 49 * p + 2)) (cn σ.1 0)))) : MRs B i σ (am_fx am_P (d + 150) 101 0 [some (.ref 874), some (.int (Int32.ofNat p)), some (.int (Int32.ofNat q)), some (.int z), none] [] (am_wI B i)) (some (.int 0)) 0 := by
  refine MRs_0 h ?_
  have hM : Md B := h.1.1
  have h8 := hc.2
  have t1 : (Int32.ofNat p < 0) = False := z_neg (by omega)
  have t2 := eq_true (ck_nat hc (by omega) hp).2
  have h4 := hd.2
  have t3 : (Int32.ofNat q < 0) = False := z_neg (by omega)
  have t4 := eq_true (ck_nat hd (by omega) hq).2
  have hz := hW.1.1
  have z4 := hz.2
  have hw := up_o (q := 874) (k := 0) (v := 0) (by omega) h.2.1
  have e5 := h.2.1 2621 (by omega)
  have e6 := h.2.1 3014 (by omega)
  have e0 : i 875 0 = Int32.ofNat (cn σ.1 0) := (h.2.1 0 (by omega)).trans hz.1
  have q0 := h.2.1 (2622 + 49 * p) (by omega)
  have q4 := h.2.1 (2622 + 49 * p + 4) (by omega)
  have s5 := (hW.2.2.2.2.1.1 p hp (by omega)).2.2.2.2.1
  have eT := m_taken (q := q) (d := d + 146) hM hw hW (by omega)
  rw [bk_101_0]
  by_cases gl : (lts σ.1 q (σ.1 (2622 + 49 * p + 2)) (cn σ.1 0))
  rotate_left
  · simp (maxSteps := 1000000) (disch := omega) only [(fun d x0 x1 B i => bk_69_0 d x0 x1 (am_wI B i)), m_in, z_pred hc.1, Classical.not_not, (fun d x0 x1 B i => bk_96_0 d x0 x1 (am_wI B i)), z_pred hd.1, (fun d x0 x1 x2 x3 s0 s1 B i => bk_101_27 d x0 x1 x2 x3 s0 s1 (am_wI B i)), (fun d x0 x1 x2 B i => bk_67_0 d x0 x1 x2 (am_wI B i)), (fun d x0 x1 B i => bk_66_0 d x0 x1 (am_wI B i)), (fun d x0 x1 x2 x3 B i => bk_68_0 d x0 x1 x2 x3 (am_wI B i)), (fun d x0 B i => bk_13_0 d x0 (am_wI B i)), m_thr0, t1, t2, t3, t4, e5, e6, e0, q0, q4, hM, m_pass0 (d := d + 147) hM hw (by omega) (by omega) (by omega) gl, y_ckd, y_ck2d, y_ond, y_onn, y_oI, y_oIx, y_oJ, y_oV, y_oVx, y_oR, y_oRn, y_oRx, y_b0, y_b1, y_bi, y_bid, y_wIK, y_wIL, y_wII, y_wIJ, y_wIR, y_wIN, y_wIw, y_sI, ↓reduceIte, Nat.reduceEqDiff, eq_self, true_or, or_true, false_or, or_false, and_true, true_and, false_and, and_false, not_true, not_false_eq_true, tf_T, tf_F, y_up1, y_up2, y_xx, y_nx, y_sJ, y_sR, Int32.reduceLT, y_nxK, y_nxL, y_nxR, y_sJK, y_sJL, y_sJR, y_sJN, y_sRK, y_sRL, y_sRN, Nat.add_zero, z_nat, z_lit, z_lit0, z_lit1, z_in0, z_in1, z_addl0, z_lt, z_ltl, z_llt, z_inj, z_injl, z_add, z_addl, z_ladd, z_mul, z_mull, z_lmul, z_neg, z_negl, z_in, z_inl, z_ltT, z_ltF, z_eqF, z_10, z_01, z_litne, z_ne0, z_0ne, z_ne1, z_1ne, z_lt64, z_02, z_03, z_04, z_05, z_12, z_13, z_14, z_15, z_20, z_21, z_23, z_24, z_25, z_30, z_31, z_32, z_34, z_35, z_40, z_41, z_42, z_43, z_45, z_50, z_51, z_52, z_53, z_54]
  by_cases gz : z = 0
  · by_cases g1 : σ.1 (2622 + 49 * p + 4) = Int32.ofNat q
    · exact absurd ⟨Or.inl ⟨gz, g1⟩, gl⟩ g
    · by_cases g3 : σ.1 (2622 + 49 * p) = 3
      · simp (maxSteps := 1000000) (disch := omega) only [(fun d x0 x1 B i => bk_69_0 d x0 x1 (am_wI B i)), m_in, z_pred hc.1, Classical.not_not, (fun d x0 x1 B i => bk_96_0 d x0 x1 (am_wI B i)), z_pred hd.1, (fun d x0 x1 x2 x3 s0 s1 B i => bk_101_27 d x0 x1 x2 x3 s0 s1 (am_wI B i)), (fun d x0 x1 x2 B i => bk_67_0 d x0 x1 x2 (am_wI B i)), (fun d x0 x1 B i => bk_66_0 d x0 x1 (am_wI B i)), (fun d x0 x1 x2 x3 B i => bk_68_0 d x0 x1 x2 x3 (am_wI B i)), (fun d x0 B i => bk_13_0 d x0 (am_wI B i)), m_thr0, t1, t2, t3, t4, e5, e6, e0, q0, q4, hM, m_pass1 (d := d + 147) hM hw (by omega) (by omega) (by omega) gl, gz, g1, g3, (fun d x0 x1 x2 x3 s0 B i => bk_101_104 d x0 x1 x2 x3 s0 (am_wI B i)), y_ckd, y_ck2d, y_ond, y_onn, y_oI, y_oIx, y_oJ, y_oV, y_oVx, y_oR, y_oRn, y_oRx, y_b0, y_b1, y_bi, y_bid, y_wIK, y_wIL, y_wII, y_wIJ, y_wIR, y_wIN, y_wIw, y_sI, ↓reduceIte, Nat.reduceEqDiff, eq_self, true_or, or_true, false_or, or_false, and_true, true_and, false_and, and_false, not_true, not_false_eq_true, tf_T, tf_F, y_up1, y_up2, y_xx, y_nx, y_sJ, y_sR, Int32.reduceLT, y_nxK, y_nxL, y_nxR, y_sJK, y_sJL, y_sJR, y_sJN, y_sRK, y_sRL, y_sRN, Nat.add_zero, z_nat, z_lit, z_lit0, z_lit1, z_in0, z_in1, z_addl0, z_lt, z_ltl, z_llt, z_inj, z_injl, z_add, z_addl, z_ladd, z_mul, z_mull, z_lmul, z_neg, z_negl, z_in, z_inl, z_ltT, z_ltF, z_eqF, z_10, z_01, z_litne, z_ne0, z_0ne, z_ne1, z_1ne, z_lt64, z_02, z_03, z_04, z_05, z_12, z_13, z_14, z_15, z_20, z_21, z_23, z_24, z_25, z_30, z_31, z_32, z_34, z_35, z_40, z_41, z_42, z_43, z_45, z_50, z_51, z_52, z_53, z_54]
      · simp (maxSteps := 1000000) (disch := omega) only [(fun d x0 x1 B i => bk_69_0 d x0 x1 (am_wI B i)), m_in, z_pred hc.1, Classical.not_not, (fun d x0 x1 B i => bk_96_0 d x0 x1 (am_wI B i)), z_pred hd.1, (fun d x0 x1 x2 x3 s0 s1 B i => bk_101_27 d x0 x1 x2 x3 s0 s1 (am_wI B i)), (fun d x0 x1 x2 B i => bk_67_0 d x0 x1 x2 (am_wI B i)), (fun d x0 x1 B i => bk_66_0 d x0 x1 (am_wI B i)), (fun d x0 x1 x2 x3 B i => bk_68_0 d x0 x1 x2 x3 (am_wI B i)), (fun d x0 B i => bk_13_0 d x0 (am_wI B i)), m_thr0, t1, t2, t3, t4, e5, e6, e0, q0, q4, hM, m_pass1 (d := d + 147) hM hw (by omega) (by omega) (by omega) gl, gz, g3, (fun d x0 x1 x2 x3 s0 B i => bk_101_104 d x0 x1 x2 x3 s0 (am_wI B i)), y_ckd, y_ck2d, y_ond, y_onn, y_oI, y_oIx, y_oJ, y_oV, y_oVx, y_oR, y_oRn, y_oRx, y_b0, y_b1, y_bi, y_bid, y_wIK, y_wIL, y_wII, y_wIJ, y_wIR, y_wIN, y_wIw, y_sI, ↓reduceIte, Nat.reduceEqDiff, eq_self, true_or, or_true, false_or, or_false, and_true, true_and, false_and, and_false, not_true, not_false_eq_true, tf_T, tf_F, y_up1, y_up2, y_xx, y_nx, y_sJ, y_sR, Int32.reduceLT, y_nxK, y_nxL, y_nxR, y_sJK, y_sJL, y_sJR, y_sJN, y_sRK, y_sRL, y_sRN, Nat.add_zero, z_nat, z_lit, z_lit0, z_lit1, z_in0, z_in1, z_addl0, z_lt, z_ltl, z_llt, z_inj, z_injl, z_add, z_addl, z_ladd, z_mul, z_mull, z_lmul, z_neg, z_negl, z_in, z_inl, z_ltT, z_ltF, z_eqF, z_10, z_01, z_litne, z_ne0, z_0ne, z_ne1, z_1ne, z_lt64, z_02, z_03, z_04, z_05, z_12, z_13, z_14, z_15, z_20, z_21, z_23, z_24, z_25, z_30, z_31, z_32, z_34, z_35, z_40, z_41, z_42, z_43, z_45, z_50, z_51, z_52, z_53, z_54]
  · by_cases g1 : σ.1 (2622 + 49 * p) = 2
    · rcases tkb_ok (w := σ.1) (q := q) (cn σ.1 2621) with ⟨e, hn⟩ | ⟨e, hn⟩
      · exact absurd ⟨Or.inr ⟨gz, g1, fun ⟨s, h1, h2⟩ => hn s h1 h2⟩, gl⟩ g
      · rw [e] at eT
        simp (maxSteps := 1000000) (disch := omega) only [(fun d x0 x1 B i => bk_69_0 d x0 x1 (am_wI B i)), m_in, z_pred hc.1, Classical.not_not, (fun d x0 x1 B i => bk_96_0 d x0 x1 (am_wI B i)), z_pred hd.1, (fun d x0 x1 x2 x3 s0 s1 B i => bk_101_27 d x0 x1 x2 x3 s0 s1 (am_wI B i)), (fun d x0 x1 x2 B i => bk_67_0 d x0 x1 x2 (am_wI B i)), (fun d x0 x1 B i => bk_66_0 d x0 x1 (am_wI B i)), (fun d x0 x1 x2 x3 B i => bk_68_0 d x0 x1 x2 x3 (am_wI B i)), (fun d x0 B i => bk_13_0 d x0 (am_wI B i)), m_thr0, t1, t2, t3, t4, e5, e6, e0, q0, q4, hM, m_pass1 (d := d + 147) hM hw (by omega) (by omega) (by omega) gl, gz, g1, eT, (fun d x0 x1 x2 x3 s0 B i => bk_101_104 d x0 x1 x2 x3 s0 (am_wI B i)), y_ckd, y_ck2d, y_ond, y_onn, y_oI, y_oIx, y_oJ, y_oV, y_oVx, y_oR, y_oRn, y_oRx, y_b0, y_b1, y_bi, y_bid, y_wIK, y_wIL, y_wII, y_wIJ, y_wIR, y_wIN, y_wIw, y_sI, ↓reduceIte, Nat.reduceEqDiff, eq_self, true_or, or_true, false_or, or_false, and_true, true_and, false_and, and_false, not_true, not_false_eq_true, tf_T, tf_F, y_up1, y_up2, y_xx, y_nx, y_sJ, y_sR, Int32.reduceLT, y_nxK, y_nxL, y_nxR, y_sJK, y_sJL, y_sJR, y_sJN, y_sRK, y_sRL, y_sRN, Nat.add_zero, z_nat, z_lit, z_lit0, z_lit1, z_in0, z_in1, z_addl0, z_lt, z_ltl, z_llt, z_inj, z_injl, z_add, z_addl, z_ladd, z_mul, z_mull, z_lmul, z_neg, z_negl, z_in, z_inl, z_ltT, z_ltF, z_eqF, z_10, z_01, z_litne, z_ne0, z_0ne, z_ne1, z_1ne, z_lt64, z_02, z_03, z_04, z_05, z_12, z_13, z_14, z_15, z_20, z_21, z_23, z_24, z_25, z_30, z_31, z_32, z_34, z_35, z_40, z_41, z_42, z_43, z_45, z_50, z_51, z_52, z_53, z_54]
    · simp (maxSteps := 1000000) (disch := omega) only [(fun d x0 x1 B i => bk_69_0 d x0 x1 (am_wI B i)), m_in, z_pred hc.1, Classical.not_not, (fun d x0 x1 B i => bk_96_0 d x0 x1 (am_wI B i)), z_pred hd.1, (fun d x0 x1 x2 x3 s0 s1 B i => bk_101_27 d x0 x1 x2 x3 s0 s1 (am_wI B i)), (fun d x0 x1 x2 B i => bk_67_0 d x0 x1 x2 (am_wI B i)), (fun d x0 x1 B i => bk_66_0 d x0 x1 (am_wI B i)), (fun d x0 x1 x2 x3 B i => bk_68_0 d x0 x1 x2 x3 (am_wI B i)), (fun d x0 B i => bk_13_0 d x0 (am_wI B i)), m_thr0, t1, t2, t3, t4, e5, e6, e0, q0, q4, hM, m_pass1 (d := d + 147) hM hw (by omega) (by omega) (by omega) gl, gz, g1, (fun d x0 x1 x2 x3 s0 B i => bk_101_104 d x0 x1 x2 x3 s0 (am_wI B i)), y_ckd, y_ck2d, y_ond, y_onn, y_oI, y_oIx, y_oJ, y_oV, y_oVx, y_oR, y_oRn, y_oRx, y_b0, y_b1, y_bi, y_bid, y_wIK, y_wIL, y_wII, y_wIJ, y_wIR, y_wIN, y_wIw, y_sI, ↓reduceIte, Nat.reduceEqDiff, eq_self, true_or, or_true, false_or, or_false, and_true, true_and, false_and, and_false, not_true, not_false_eq_true, tf_T, tf_F, y_up1, y_up2, y_xx, y_nx, y_sJ, y_sR, Int32.reduceLT, y_nxK, y_nxL, y_nxR, y_sJK, y_sJL, y_sJR, y_sJN, y_sRK, y_sRL, y_sRN, Nat.add_zero, z_nat, z_lit, z_lit0, z_lit1, z_in0, z_in1, z_addl0, z_lt, z_ltl, z_llt, z_inj, z_injl, z_add, z_addl, z_ladd, z_mul, z_mull, z_lmul, z_neg, z_negl, z_in, z_inl, z_ltT, z_ltF, z_eqF, z_10, z_01, z_litne, z_ne0, z_0ne, z_ne1, z_1ne, z_lt64, z_02, z_03, z_04, z_05, z_12, z_13, z_14, z_15, z_20, z_21, z_23, z_24, z_25, z_30, z_31, z_32, z_34, z_35, z_40, z_41, z_42, z_43, z_45, z_50, z_51, z_52, z_53, z_54]
theorem f_moorA {p q : Nat} (h : CR B i σ) (hW : Wd σ.1) (hc : isc σ.1 2621 8) (hp : p < cn σ.1 2621) (hd : isc σ.1 3014 4) (hq : q < cn σ.1 3014) (gz : z = 0) (g1 : σ.1 (2622 + 49 * p + 4) = Int32.ofNat q) (gl : (lts σ.1 q (σ.1 (2622 + 49 * p + 2)) (cn σ.1 0))) : FRs B i ((wu (wu σ.1 (2622 + 49 * p) 2) (2622 + 49 * p + 4) (-1)), σ.1, σ.2.2.1, true, σ.2.2.2.2) (am_fx am_P (d + 150) 319 0 [some (.ref 64), some (.int (Int32.ofNat p)), some (.int (Int32.ofNat q)), some (.int z), none, none] [] (am_wI B i)) (.inl (some (.int 1))) := by
  have hF : Fc B := h.1.1
  have hY : Yd B 94 := h.1.2.1
  have h8 := hc.2
  have t1 : (Int32.ofNat p < 0) = False := z_neg (by omega)
  have t2 := eq_true (ck_nat hc (by omega) hp).2
  have h4 := hd.2
  have t3 : (Int32.ofNat q < 0) = False := z_neg (by omega)
  have t4 := eq_true (ck_nat hd (by omega) hq).2
  obtain ⟨B1, i1, E, hC, hS, hf⟩ := c_remember (d := d + 143) h hW
  have hF1 : Fc B1 := hC.1.1
  have hY1 : Yd B1 94 := hC.1.2.1
  obtain ⟨a1, a2, a3, a4, a5, a6, a7, a8, a9, a10⟩ := h.2.1.2.2.2.1.2 p hp (by omega)
  obtain ⟨c1, c2, c3, c4, c5, c6, c7, c8, c9, c10⟩ := hC.2.1.2.2.2.1.2 p hp (by omega)
  have hz := hW.1.1
  have z4 := hz.2
  have r1 := h.2.1.1.2.2.2.2.2.2.2.1
  have e0 : i 94 0 = Int32.ofNat (cn σ.1 0) := h.2.1.1.1.trans hz.1
  refine FRs_tr hS hf (FRs_w (i' := (am_up2 (am_up2 i1 (94 + 212 + 6 * p) 3 2) (94 + 212 + 6 * p) 4 (-1))) hC ?_ ?_ (by intros; simp (disch := omega) only [y_up2]))
  · rw [bk_319_0]
    simp (maxSteps := 1000000) (disch := omega) only [c_shN hF hY h.2.1.2.2.2.1.1 hc hp, r1, c_ckI1 (ck_nat hd (by omega) hq), a1, a3, a5, e0, gz, g1, (fun d x0 x2 x3 x4 s0 B i => bk_319_67 d x0 x2 x3 x4 s0 (am_wI B i)), (fun d x2 x3 x4 s0 s1 B i => bk_319_117 d x2 x3 x4 s0 s1 (am_wI B i)), c_lets1 (d := d + 147) hY h.2.1.1 hd hq (by omega) gl, E, hF1, hY1, hF, hY, y_ckd, y_ck2d, y_ond, y_onn, y_oI, y_oIx, y_oJ, y_oV, y_oVx, y_oR, y_oRn, y_oRx, y_b0, y_b1, y_bi, y_bid, y_wIK, y_wIL, y_wII, y_wIJ, y_wIR, y_wIN, y_wIw, y_sI, ↓reduceIte, Nat.reduceEqDiff, eq_self, true_or, or_true, false_or, or_false, and_true, true_and, false_and, and_false, not_true, not_false_eq_true, tf_T, tf_F, y_up1, y_up2, y_xx, y_nx, y_sJ, y_sR, Int32.reduceLT, y_nxK, y_nxL, y_nxR, y_sJK, y_sJL, y_sJR, y_sJN, y_sRK, y_sRL, y_sRN, Nat.add_zero, z_nat, z_lit, z_lit0, z_lit1, z_in0, z_in1, z_addl0, z_lt, z_ltl, z_llt, z_inj, z_injl, z_add, z_addl, z_ladd, z_mul, z_mull, z_lmul, z_neg, z_negl, z_in, z_inl, z_ltT, z_ltF, z_eqF, z_10, z_01, z_litne, z_ne0, z_0ne, z_ne1, z_1ne, z_lt64, z_02, z_03, z_04, z_05, z_12, z_13, z_14, z_15, z_20, z_21, z_23, z_24, z_25, z_30, z_31, z_32, z_34, z_35, z_40, z_41, z_42, z_43, z_45, z_50, z_51, z_52, z_53, z_54]
  · refine Rep_sh hC.2.1 (by omega) (by omega) (by intros; simp (disch := omega) only [y_up2]) (by intros; simp (disch := omega) only [wu_ne]) (ShR_8 (hC.2.1.2.2.2.1.2 p hp (by omega)) (by intros; simp (disch := omega) only [y_up2]) (by intros; simp (disch := omega) only [wu_ne]) ?_ ?_ ?_ ?_ ?_ ?_ ?_ ?_ ?_)
    all_goals (simp (disch := omega) only [y_up1, y_up2, wu_at, wu_ne]; try assumption)
theorem m_moorA {p q : Nat} (h : MR B i σ) (hW : Wd σ.1) (hc : isc σ.1 2621 8) (hp : p < cn σ.1 2621) (hd : isc σ.1 3014 4) (hq : q < cn σ.1 3014) (gz : z = 0) (g1 : σ.1 (2622 + 49 * p + 4) = Int32.ofNat q) (gl : (lts σ.1 q (σ.1 (2622 + 49 * p + 2)) (cn σ.1 0))) : MRs B i ((wu (wu σ.1 (2622 + 49 * p) 2) (2622 + 49 * p + 4) (-1)), σ.1, σ.2.2.1, true, σ.2.2.2.2) (am_fx am_P (d + 150) 101 0 [some (.ref 874), some (.int (Int32.ofNat p)), some (.int (Int32.ofNat q)), some (.int z), none] [] (am_wI B i)) (some (.int 1)) 0 := by
  have hM : Md B := h.1.1
  have h8 := hc.2
  have t1 : (Int32.ofNat p < 0) = False := z_neg (by omega)
  have t2 := eq_true (ck_nat hc (by omega) hp).2
  have h4 := hd.2
  have t3 : (Int32.ofNat q < 0) = False := z_neg (by omega)
  have t4 := eq_true (ck_nat hd (by omega) hq).2
  obtain ⟨i1, E, hD, hf⟩ := m_deed (d := d + 149) (MR_0 h)
  have z0 : i1 874 0 = 0 := (hf _ _ (by omega) (by omega)).trans (y_up1 rfl rfl)
  have hz := hW.1.1
  have z4 := hz.2
  have hw := up_o (q := 874) (k := 0) (v := 0) (by omega) h.2.1
  have e5 := h.2.1 2621 (by omega)
  have e6 := h.2.1 3014 (by omega)
  have e0 : i 875 0 = Int32.ofNat (cn σ.1 0) := (h.2.1 0 (by omega)).trans hz.1
  have q0 := h.2.1 (2622 + 49 * p) (by omega)
  have q4 := h.2.1 (2622 + 49 * p + 4) (by omega)
  have s5 := (hW.2.2.2.2.1.1 p hp (by omega)).2.2.2.2.1
  have g3 : σ.1 (2622 + 49 * p) = 3 := Decidable.byContradiction fun r => z_nm1 (by omega) ((s5 r).symm.trans g1).symm
  refine MRs_d hf (MRs_w hD (i' := am_up2 (am_up2 i1 875 (2622 + 49 * p) 2) 875 (2622 + 49 * p + 4) (-1)) ?_ (by rw [y_up2 (by omega), y_up2 (by omega), z0]) (up_wu (up_wu hD.2.1)) (by intros; simp (disch := omega) only [y_up2]))
  rw [bk_101_0]
  simp (maxSteps := 1000000) (disch := omega) only [(fun d x0 x1 B i => bk_69_0 d x0 x1 (am_wI B i)), m_in, z_pred hc.1, Classical.not_not, (fun d x0 x1 B i => bk_96_0 d x0 x1 (am_wI B i)), z_pred hd.1, (fun d x0 x1 x2 x3 s0 s1 B i => bk_101_27 d x0 x1 x2 x3 s0 s1 (am_wI B i)), (fun d x0 x1 x2 B i => bk_67_0 d x0 x1 x2 (am_wI B i)), (fun d x0 x1 B i => bk_66_0 d x0 x1 (am_wI B i)), (fun d x0 x1 x2 x3 B i => bk_68_0 d x0 x1 x2 x3 (am_wI B i)), (fun d x0 B i => bk_13_0 d x0 (am_wI B i)), m_thr0, t1, t2, t3, t4, e5, e6, e0, q0, q4, hM, m_pass1 (d := d + 147) hM hw (by omega) (by omega) (by omega) gl, gz, g1, E, g3, (fun d x0 x1 x2 x3 s0 B i => bk_101_104 d x0 x1 x2 x3 s0 (am_wI B i)), (fun d x0 x1 x2 x3 s0 s1 s2 s3 B i => bk_101_129 d x0 x1 x2 x3 s0 s1 s2 s3 (am_wI B i)), (fun d s0 s1 s2 s3 B i => bk_101_144 d s0 s1 s2 s3 (am_wI B i)), y_ckd, y_ck2d, y_ond, y_onn, y_oI, y_oIx, y_oJ, y_oV, y_oVx, y_oR, y_oRn, y_oRx, y_b0, y_b1, y_bi, y_bid, y_wIK, y_wIL, y_wII, y_wIJ, y_wIR, y_wIN, y_wIw, y_sI, ↓reduceIte, Nat.reduceEqDiff, eq_self, true_or, or_true, false_or, or_false, and_true, true_and, false_and, and_false, not_true, not_false_eq_true, tf_T, tf_F, y_up1, y_up2, y_xx, y_nx, y_sJ, y_sR, Int32.reduceLT, y_nxK, y_nxL, y_nxR, y_sJK, y_sJL, y_sJR, y_sJN, y_sRK, y_sRL, y_sRN, Nat.add_zero, z_nat, z_lit, z_lit0, z_lit1, z_in0, z_in1, z_addl0, z_lt, z_ltl, z_llt, z_inj, z_injl, z_add, z_addl, z_ladd, z_mul, z_mull, z_lmul, z_neg, z_negl, z_in, z_inl, z_ltT, z_ltF, z_eqF, z_10, z_01, z_litne, z_ne0, z_0ne, z_ne1, z_1ne, z_lt64, z_02, z_03, z_04, z_05, z_12, z_13, z_14, z_15, z_20, z_21, z_23, z_24, z_25, z_30, z_31, z_32, z_34, z_35, z_40, z_41, z_42, z_43, z_45, z_50, z_51, z_52, z_53, z_54]
theorem f_moorB {p q : Nat} (h : CR B i σ) (hW : Wd σ.1) (hc : isc σ.1 2621 8) (hp : p < cn σ.1 2621) (hd : isc σ.1 3014 4) (hq : q < cn σ.1 3014) (gz : ¬ z = 0) (g1 : σ.1 (2622 + 49 * p) = 2) (g2 : ¬ Tk σ.1 q) (gl : (lts σ.1 q (σ.1 (2622 + 49 * p + 2)) (cn σ.1 0))) : FRs B i ((wu (wu σ.1 (2622 + 49 * p) 3) (2622 + 49 * p + 4) (Int32.ofNat q)), σ.1, σ.2.2.1, true, σ.2.2.2.2) (am_fx am_P (d + 150) 319 0 [some (.ref 64), some (.int (Int32.ofNat p)), some (.int (Int32.ofNat q)), some (.int z), none, none] [] (am_wI B i)) (.inl (some (.int 1))) := by
  have hF : Fc B := h.1.1
  have hY : Yd B 94 := h.1.2.1
  have h8 := hc.2
  have t1 : (Int32.ofNat p < 0) = False := z_neg (by omega)
  have t2 := eq_true (ck_nat hc (by omega) hp).2
  have h4 := hd.2
  have t3 : (Int32.ofNat q < 0) = False := z_neg (by omega)
  have t4 := eq_true (ck_nat hd (by omega) hq).2
  obtain ⟨B1, i1, E, hC, hS, hf⟩ := c_remember (d := d + 143) h hW
  have hF1 : Fc B1 := hC.1.1
  have hY1 : Yd B1 94 := hC.1.2.1
  obtain ⟨a1, a2, a3, a4, a5, a6, a7, a8, a9, a10⟩ := h.2.1.2.2.2.1.2 p hp (by omega)
  obtain ⟨c1, c2, c3, c4, c5, c6, c7, c8, c9, c10⟩ := hC.2.1.2.2.2.1.2 p hp (by omega)
  have hz := hW.1.1
  have z4 := hz.2
  have r1 := h.2.1.1.2.2.2.2.2.2.2.1
  have e0 : i 94 0 = Int32.ofNat (cn σ.1 0) := h.2.1.1.1.trans hz.1
  refine FRs_tr hS hf (FRs_w (i' := (am_up2 (am_up2 i1 (94 + 212 + 6 * p) 3 3) (94 + 212 + 6 * p) 4 (Int32.ofNat q))) hC ?_ ?_ (by intros; simp (disch := omega) only [y_up2]))
  · rw [bk_319_0]
    simp (maxSteps := 1000000) (disch := omega) only [c_shN hF hY h.2.1.2.2.2.1.1 hc hp, r1, c_ckI1 (ck_nat hd (by omega) hq), a1, a3, a5, e0, gz, g1, c_free1 (d := d + 149) hY h.2.1.2.2.2.1 hc g2, (fun d x0 x2 x3 x4 s0 B i => bk_319_67 d x0 x2 x3 x4 s0 (am_wI B i)), (fun d x2 x3 x4 s0 s1 B i => bk_319_117 d x2 x3 x4 s0 s1 (am_wI B i)), c_lets1 (d := d + 147) hY h.2.1.1 hd hq (by omega) gl, E, hF1, hY1, hF, hY, y_ckd, y_ck2d, y_ond, y_onn, y_oI, y_oIx, y_oJ, y_oV, y_oVx, y_oR, y_oRn, y_oRx, y_b0, y_b1, y_bi, y_bid, y_wIK, y_wIL, y_wII, y_wIJ, y_wIR, y_wIN, y_wIw, y_sI, ↓reduceIte, Nat.reduceEqDiff, eq_self, true_or, or_true, false_or, or_false, and_true, true_and, false_and, and_false, not_true, not_false_eq_true, tf_T, tf_F, y_up1, y_up2, y_xx, y_nx, y_sJ, y_sR, Int32.reduceLT, y_nxK, y_nxL, y_nxR, y_sJK, y_sJL, y_sJR, y_sJN, y_sRK, y_sRL, y_sRN, Nat.add_zero, z_nat, z_lit, z_lit0, z_lit1, z_in0, z_in1, z_addl0, z_lt, z_ltl, z_llt, z_inj, z_injl, z_add, z_addl, z_ladd, z_mul, z_mull, z_lmul, z_neg, z_negl, z_in, z_inl, z_ltT, z_ltF, z_eqF, z_10, z_01, z_litne, z_ne0, z_0ne, z_ne1, z_1ne, z_lt64, z_02, z_03, z_04, z_05, z_12, z_13, z_14, z_15, z_20, z_21, z_23, z_24, z_25, z_30, z_31, z_32, z_34, z_35, z_40, z_41, z_42, z_43, z_45, z_50, z_51, z_52, z_53, z_54]
  · refine Rep_sh hC.2.1 (by omega) (by omega) (by intros; simp (disch := omega) only [y_up2]) (by intros; simp (disch := omega) only [wu_ne]) (ShR_8 (hC.2.1.2.2.2.1.2 p hp (by omega)) (by intros; simp (disch := omega) only [y_up2]) (by intros; simp (disch := omega) only [wu_ne]) ?_ ?_ ?_ ?_ ?_ ?_ ?_ ?_ ?_)
    all_goals (simp (disch := omega) only [y_up1, y_up2, wu_at, wu_ne]; try assumption)
theorem m_moorB {p q : Nat} (h : MR B i σ) (hW : Wd σ.1) (hc : isc σ.1 2621 8) (hp : p < cn σ.1 2621) (hd : isc σ.1 3014 4) (hq : q < cn σ.1 3014) (gz : ¬ z = 0) (g1 : σ.1 (2622 + 49 * p) = 2) (g2 : ¬ Tk σ.1 q) (gl : (lts σ.1 q (σ.1 (2622 + 49 * p + 2)) (cn σ.1 0))) : MRs B i ((wu (wu σ.1 (2622 + 49 * p) 3) (2622 + 49 * p + 4) (Int32.ofNat q)), σ.1, σ.2.2.1, true, σ.2.2.2.2) (am_fx am_P (d + 150) 101 0 [some (.ref 874), some (.int (Int32.ofNat p)), some (.int (Int32.ofNat q)), some (.int z), none] [] (am_wI B i)) (some (.int 1)) 0 := by
  have hM : Md B := h.1.1
  have h8 := hc.2
  have t1 : (Int32.ofNat p < 0) = False := z_neg (by omega)
  have t2 := eq_true (ck_nat hc (by omega) hp).2
  have h4 := hd.2
  have t3 : (Int32.ofNat q < 0) = False := z_neg (by omega)
  have t4 := eq_true (ck_nat hd (by omega) hq).2
  obtain ⟨i1, E, hD, hf⟩ := m_deed (d := d + 149) (MR_0 h)
  have z0 : i1 874 0 = 0 := (hf _ _ (by omega) (by omega)).trans (y_up1 rfl rfl)
  have hz := hW.1.1
  have z4 := hz.2
  have hw := up_o (q := 874) (k := 0) (v := 0) (by omega) h.2.1
  have e5 := h.2.1 2621 (by omega)
  have e6 := h.2.1 3014 (by omega)
  have e0 : i 875 0 = Int32.ofNat (cn σ.1 0) := (h.2.1 0 (by omega)).trans hz.1
  have q0 := h.2.1 (2622 + 49 * p) (by omega)
  have q4 := h.2.1 (2622 + 49 * p + 4) (by omega)
  have eT := m_taken (q := q) (d := d + 146) hM hw hW (by omega)
  have e : tkb σ.1 q (cn σ.1 2621) = 0 := by
    rcases tkb_ok (w := σ.1) (q := q) (cn σ.1 2621) with ⟨e, hn⟩ | ⟨e, hn⟩
    · exact e
    · exact absurd hn g2
  rw [e] at eT
  refine MRs_d hf (MRs_w hD (i' := am_up2 (am_up2 i1 875 (2622 + 49 * p) 3) 875 (2622 + 49 * p + 4) (Int32.ofNat q)) ?_ (by rw [y_up2 (by omega), y_up2 (by omega), z0]) (up_wu (up_wu hD.2.1)) (by intros; simp (disch := omega) only [y_up2]))
  rw [bk_101_0]
  simp (maxSteps := 1000000) (disch := omega) only [(fun d x0 x1 B i => bk_69_0 d x0 x1 (am_wI B i)), m_in, z_pred hc.1, Classical.not_not, (fun d x0 x1 B i => bk_96_0 d x0 x1 (am_wI B i)), z_pred hd.1, (fun d x0 x1 x2 x3 s0 s1 B i => bk_101_27 d x0 x1 x2 x3 s0 s1 (am_wI B i)), (fun d x0 x1 x2 B i => bk_67_0 d x0 x1 x2 (am_wI B i)), (fun d x0 x1 B i => bk_66_0 d x0 x1 (am_wI B i)), (fun d x0 x1 x2 x3 B i => bk_68_0 d x0 x1 x2 x3 (am_wI B i)), (fun d x0 B i => bk_13_0 d x0 (am_wI B i)), m_thr0, t1, t2, t3, t4, e5, e6, e0, q0, q4, hM, m_pass1 (d := d + 147) hM hw (by omega) (by omega) (by omega) gl, gz, g1, E, eT, (fun d x0 x1 x2 x3 s0 B i => bk_101_104 d x0 x1 x2 x3 s0 (am_wI B i)), (fun d x0 x1 x2 x3 s0 s1 s2 s3 B i => bk_101_129 d x0 x1 x2 x3 s0 s1 s2 s3 (am_wI B i)), (fun d s0 s1 s2 s3 B i => bk_101_144 d s0 s1 s2 s3 (am_wI B i)), y_ckd, y_ck2d, y_ond, y_onn, y_oI, y_oIx, y_oJ, y_oV, y_oVx, y_oR, y_oRn, y_oRx, y_b0, y_b1, y_bi, y_bid, y_wIK, y_wIL, y_wII, y_wIJ, y_wIR, y_wIN, y_wIw, y_sI, ↓reduceIte, Nat.reduceEqDiff, eq_self, true_or, or_true, false_or, or_false, and_true, true_and, false_and, and_false, not_true, not_false_eq_true, tf_T, tf_F, y_up1, y_up2, y_xx, y_nx, y_sJ, y_sR, Int32.reduceLT, y_nxK, y_nxL, y_nxR, y_sJK, y_sJL, y_sJR, y_sJN, y_sRK, y_sRL, y_sRN, Nat.add_zero, z_nat, z_lit, z_lit0, z_lit1, z_in0, z_in1, z_addl0, z_lt, z_ltl, z_llt, z_inj, z_injl, z_add, z_addl, z_ladd, z_mul, z_mull, z_lmul, z_neg, z_negl, z_in, z_inl, z_ltT, z_ltF, z_eqF, z_10, z_01, z_litne, z_ne0, z_0ne, z_ne1, z_1ne, z_lt64, z_02, z_03, z_04, z_05, z_12, z_13, z_14, z_15, z_20, z_21, z_23, z_24, z_25, z_30, z_31, z_32, z_34, z_35, z_40, z_41, z_42, z_43, z_45, z_50, z_51, z_52, z_53, z_54]
theorem k_moor (h : Sim B i σ) (hs : Sc B i L j) (hO : am_K B 892 = 22 ∧ am_L B 892 = 1) : Stq B i d 2132 j := by
  have hc := h.2.2.1.1.2.2.2.1
  have h8 := hc.2
  by_cases g : ¬ i 0 (j + 1) < 0 ∧ i 0 (j + 1) < σ.1 2621
  rotate_left
  · exact kx_27_1 h hs hO (f_moor_x0 (d := d + 48) h.1 g) fun B0 i0 h0 => m_moor_x0 (d := d + 49) h0 hc g
  obtain ⟨p, e, hp⟩ := nat_ck hc (by omega) g
  obtain ⟨b0, b1, b3, b4, b5, b6, b7, b8, b9⟩ := h.2.2.1.2.2.2.2.1.1 p hp (by omega)
  have hd := h.2.2.1.1.2.2.2.2.1
  have h4 := hd.2
  by_cases gq : ¬ i 0 (j + 2) < 0 ∧ i 0 (j + 2) < σ.1 3014
  rotate_left
  · exact kx_27_1 h hs hO (by rw [e]; exact f_moor_x1 (d := d + 48) h.1 hc hp gq) fun B0 i0 h0 => by rw [e]; exact m_moor_x1 (d := d + 49) h0 hc hp hd gq
  obtain ⟨q, e2, hq⟩ := nat_ck hd (by omega) gq
  by_cases gl : (lts σ.1 q (σ.1 (2622 + 49 * p + 2)) (cn σ.1 0))
  rotate_left
  · exact kk_27 h hs hO h.2.2 (by rw [e, e2]; exact f_moorN (d := d + 48) h.1 h.2.2.1 hc hp hd hq (fun r => gl r.2)) fun B0 i0 h0 => by rw [e, e2]; exact m_moorN (d := d + 49) h0 h.2.2.1 hc hp hd hq (fun r => gl r.2)
  by_cases gz : bt (i 0 (j + 3)) = 0
  · by_cases g1 : σ.1 (2622 + 49 * p + 4) = Int32.ofNat q
    · exact kk_27 (σ' := ((wu (wu σ.1 (2622 + 49 * p) 2) (2622 + 49 * p + 4) (-1)), σ.1, σ.2.2.1, true, σ.2.2.2.2)) h hs hO ⟨(show Wd (wu (wu σ.1 (2622 + 49 * p) 2) (2622 + 49 * p + 4) (-1)) from Wd_sh8 h.2.2.1 hp (by omega) (by intros; simp (disch := omega) only [wu_ne]) (by rw [wu_ne (by omega), wu_at rfl]; decide) (by rw [wu_ne (by omega)]; rw [wu_ne (by omega)]; exact b1) (by rw [wu_ne (by omega)]; rw [wu_ne (by omega)]; exact b3) (fun q => absurd q (by rw [wu_ne (by omega), wu_at rfl]; decide)) (fun _ => wu_at rfl) (by rw [wu_ne (by omega)]; rw [wu_ne (by omega)]; exact b6) (by rw [wu_ne (by omega)]; rw [wu_ne (by omega)]; exact b7)), fun _ => h.2.2.1, h.2.2.2.2.1, h.2.2.2.2.2⟩ (by rw [e, e2]; exact f_moorA (d := d + 48) h.1 h.2.2.1 hc hp hd hq gz g1 gl) fun B0 i0 h0 => by rw [e, e2]; exact m_moorA (d := d + 49) h0 h.2.2.1 hc hp hd hq gz g1 gl
    · have gn : ¬ ((((bt (i 0 (j + 3))) = 0 ∧ σ.1 (2622 + 49 * p + 4) = Int32.ofNat q) ∨ (¬ (bt (i 0 (j + 3))) = 0 ∧ σ.1 (2622 + 49 * p) = 2 ∧ ¬ Tk σ.1 q)) ∧ (lts σ.1 q (σ.1 (2622 + 49 * p + 2)) (cn σ.1 0))) := fun r => r.1.elim (fun s => g1 s.2) fun s => s.1 gz
      exact kk_27 h hs hO h.2.2 (by rw [e, e2]; exact f_moorN (d := d + 48) h.1 h.2.2.1 hc hp hd hq gn) fun B0 i0 h0 => by rw [e, e2]; exact m_moorN (d := d + 49) h0 h.2.2.1 hc hp hd hq gn
  · by_cases g1 : σ.1 (2622 + 49 * p) = 2 ∧ ¬ Tk σ.1 q
    · exact kk_27 (σ' := ((wu (wu σ.1 (2622 + 49 * p) 3) (2622 + 49 * p + 4) (Int32.ofNat q)), σ.1, σ.2.2.1, true, σ.2.2.2.2)) h hs hO ⟨(show Wd (wu (wu σ.1 (2622 + 49 * p) 3) (2622 + 49 * p + 4) (Int32.ofNat q)) from Wd_sh8 h.2.2.1 hp (by omega) (by intros; simp (disch := omega) only [wu_ne]) (by rw [wu_ne (by omega), wu_at rfl]; decide) (by rw [wu_ne (by omega)]; rw [wu_ne (by omega)]; exact b1) (by rw [wu_ne (by omega)]; rw [wu_ne (by omega)]; exact b3) (fun _ => by rw [wu_at rfl]; exact ck_nat hd (by omega) hq) (fun r => absurd (by rw [wu_ne (by omega), wu_at rfl]) r) (by rw [wu_ne (by omega)]; rw [wu_ne (by omega)]; exact b6) (by rw [wu_ne (by omega)]; rw [wu_ne (by omega)]; exact b7)), fun _ => h.2.2.1, h.2.2.2.2.1, h.2.2.2.2.2⟩ (by rw [e, e2]; exact f_moorB (d := d + 48) h.1 h.2.2.1 hc hp hd hq gz g1.1 g1.2 gl) fun B0 i0 h0 => by rw [e, e2]; exact m_moorB (d := d + 49) h0 h.2.2.1 hc hp hd hq gz g1.1 g1.2 gl
    · have gn : ¬ ((((bt (i 0 (j + 3))) = 0 ∧ σ.1 (2622 + 49 * p + 4) = Int32.ofNat q) ∨ (¬ (bt (i 0 (j + 3))) = 0 ∧ σ.1 (2622 + 49 * p) = 2 ∧ ¬ Tk σ.1 q)) ∧ (lts σ.1 q (σ.1 (2622 + 49 * p + 2)) (cn σ.1 0))) := fun r => r.1.elim (fun s => gz s.1) fun s => g1 s.2
      exact kk_27 h hs hO h.2.2 (by rw [e, e2]; exact f_moorN (d := d + 48) h.1 h.2.2.1 hc hp hd hq gn) fun B0 i0 h0 => by rw [e, e2]; exact m_moorN (d := d + 49) h0 h.2.2.1 hc hp hd hq gn
end Moor
