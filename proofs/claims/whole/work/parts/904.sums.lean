/-! SUMS OF A TEXT; FACTS OF A SHIP: made by wip/whole/math/904.py. -/
/-- tags and facts of a ship, and three facts more -/
def fctO (w : Nat → Int32) (s : Nat) (dry rot age : Int32) : Fct := (fun k => if k = 3 then decide (w (2622 + 49 * s + 3) = 1) else false, fun m => if m = 0 then dry else if m = 1 then rot else if m = 4 then age else if m = 5 then ngg w (Int32.ofNat s) else 0)
def fsm (w : Nat → Int32) (o : Nat) (fc : Fct) (x : Int32) (n : Nat) (a : Int32) : Int32 := if w (o + 2 + 4 * n) = x then (if hld w o fc n = true then a + w (o + 2 + 4 * n + 1) else a) else a
/-- the sum of the lines that hold -/
def smO (w : Nat → Int32) (o : Nat) (fc : Fct) (x : Int32) : Int32 := itr (fsm w o fc x) (cn w (o + 1)) 0
section Sums
variable {B : am_A} {i j : Nat → Nat → Int32} {w wt : Nat → Int32} {d b : Nat} {fc : Fct} {x y z : Int32}
theorem smO_lt {o : Nat} (hW : TxW w o) : ∃ m, smO w o fc x = Int32.ofNat m ∧ m ≤ 1200000 := by
  have h12 := hW.2.1.2
  have h : ∃ m, smO w o fc x = Int32.ofNat m ∧ m ≤ 100000 * cn w (o + 1) := by
    refine itr_inv (P := fun k a => ∃ m, a = Int32.ofNat m ∧ m ≤ 100000 * k) ⟨0, rfl, by omega⟩ fun k hk a ha => ?_
    obtain ⟨m, rfl, hm⟩ := ha
    obtain ⟨-, v, -⟩ := hW.2.2 k hk
    obtain ⟨u, eu, hu⟩ := z_lk 100000 (by omega) v.1 v.2
    unfold fsm
    by_cases g : w (o + 2 + 4 * k) = x
    · rw [if_pos g]
      cases hld w o fc k
      · exact ⟨m, by simp only [Bool.false_eq_true, ↓reduceIte], by omega⟩
      · exact ⟨m + u, by simp only [↓reduceIte, eu]; exact z_add m u, by omega⟩
    · rw [if_neg g]
      exact ⟨m, rfl, by omega⟩
  obtain ⟨m, e, hm⟩ := h
  exact ⟨m, e, by omega⟩
theorem c_sum {q o : Nat} (hY : Yd B b) (hT : TxR B i q w o) (hW : TxW w o) (hL : am_L B (q + 4) ≤ 400) (hTg : TgC (i (b + 7) 3) fc.1) (hf : ∀ m, m < 6 → i (b + 10) m = fc.2 m) : am_fx am_P (d + 2) 178 0 [some (.ref q), some (.int x), some (.ref (b + 7)), none, none] [] (am_wI B i) = some (.inl (some (.int (smO w o fc x))), am_wI B i) := by
  have hT' := hT
  obtain ⟨q0, qN, ⟨k9, r1, r2, r3, r4⟩, i0, l1, l2, l3, l4, hl, hc⟩ := hT'
  have h12 := hW.2.1
  have n12 := h12.2
  have i0' : i q 0 = Int32.ofNat (cn w (o + 1)) := i0.trans h12.1
  rw [bk_178_0]
  refine (lp_itr (fun k a => am_fx am_P (d + 2) 178 5 [some (.ref q), some (.int x), some (.ref (b + 7)), some (.int a), some (.int (Int32.ofNat k))] [] (am_wI B i)) (fsm w o fc x) (cn w (o + 1)) (fun k a hk => ?_) 0).trans ?_
  · obtain ⟨x1, x2, -, -⟩ := hl k hk (by omega)
    rw [bk_178_5]
    unfold fsm
    by_cases g : w (o + 2 + 4 * k) = x
    · simp (disch := omega) only [i0', x1, x2, g, c_holds (d := d) hY hT hW hL hk hTg hf, b2_0, k9, r1, r2, l1, l2, y_ckd, y_ck2d, y_ond, y_onn, y_oI, y_oIx, y_oJ, y_oV, y_oVx, y_oR, y_oRn, y_oRx, y_b0, y_b1, y_bi, y_bid, y_wIK, y_wIL, y_wII, y_wIJ, y_wIR, y_wIN, y_wIw, y_sI, ↓reduceIte, Nat.reduceEqDiff, eq_self, true_or, or_true, false_or, or_false, and_true, true_and, false_and, and_false, not_true, not_false_eq_true, tf_T, tf_F, y_up1, y_up2, y_xx, y_nx, y_sJ, y_sR, Int32.reduceLT, y_nxK, y_nxL, y_nxR, y_sJK, y_sJL, y_sJR, y_sJN, y_sRK, y_sRL, y_sRN, Nat.add_zero, z_nat, z_lit, z_lit0, z_lit1, z_in0, z_in1, z_addl0, z_lt, z_ltl, z_llt, z_inj, z_injl, z_add, z_addl, z_ladd, z_mul, z_mull, z_lmul, z_neg, z_negl, z_in, z_inl, z_ltT, z_ltF, z_eqF, z_10, z_01, z_litne, z_ne0, z_0ne, z_ne1, z_1ne, z_lt64, z_02, z_03, z_04, z_05, z_12, z_13, z_14, z_15, z_20, z_21, z_23, z_24, z_25, z_30, z_31, z_32, z_34, z_35, z_40, z_41, z_42, z_43, z_45, z_50, z_51, z_52, z_53, z_54]
      cases hld w o fc k
      · simp (disch := omega) only [Bool.false_eq_true, not_false_eq_true, ↓reduceIte, Nat.add_zero, z_nat, z_lit, z_lit0, z_lit1, z_in0, z_in1, z_addl0, z_lt, z_ltl, z_llt, z_inj, z_injl, z_add, z_addl, z_ladd, z_mul, z_mull, z_lmul, z_neg, z_negl, z_in, z_inl, z_ltT, z_ltF, z_eqF, z_10, z_01, z_litne, z_ne0, z_0ne, z_ne1, z_1ne, z_lt64, z_02, z_03, z_04, z_05, z_12, z_13, z_14, z_15, z_20, z_21, z_23, z_24, z_25, z_30, z_31, z_32, z_34, z_35, z_40, z_41, z_42, z_43, z_45, z_50, z_51, z_52, z_53, z_54]
      · simp (disch := omega) only [i0', x1, x2, g, not_true, k9, r1, r2, l1, l2, y_ckd, y_ck2d, y_ond, y_onn, y_oI, y_oIx, y_oJ, y_oV, y_oVx, y_oR, y_oRn, y_oRx, y_b0, y_b1, y_bi, y_bid, y_wIK, y_wIL, y_wII, y_wIJ, y_wIR, y_wIN, y_wIw, y_sI, ↓reduceIte, Nat.reduceEqDiff, eq_self, true_or, or_true, false_or, or_false, and_true, true_and, false_and, and_false, not_true, not_false_eq_true, tf_T, tf_F, y_up1, y_up2, y_xx, y_nx, y_sJ, y_sR, Int32.reduceLT, y_nxK, y_nxL, y_nxR, y_sJK, y_sJL, y_sJR, y_sJN, y_sRK, y_sRL, y_sRN, Nat.add_zero, z_nat, z_lit, z_lit0, z_lit1, z_in0, z_in1, z_addl0, z_lt, z_ltl, z_llt, z_inj, z_injl, z_add, z_addl, z_ladd, z_mul, z_mull, z_lmul, z_neg, z_negl, z_in, z_inl, z_ltT, z_ltF, z_eqF, z_10, z_01, z_litne, z_ne0, z_0ne, z_ne1, z_1ne, z_lt64, z_02, z_03, z_04, z_05, z_12, z_13, z_14, z_15, z_20, z_21, z_23, z_24, z_25, z_30, z_31, z_32, z_34, z_35, z_40, z_41, z_42, z_43, z_45, z_50, z_51, z_52, z_53, z_54]
    · simp (disch := omega) only [i0', x1, x2, g, k9, r1, r2, l1, l2, Bool.false_eq_true, y_ckd, y_ck2d, y_ond, y_onn, y_oI, y_oIx, y_oJ, y_oV, y_oVx, y_oR, y_oRn, y_oRx, y_b0, y_b1, y_bi, y_bid, y_wIK, y_wIL, y_wII, y_wIJ, y_wIR, y_wIN, y_wIw, y_sI, ↓reduceIte, Nat.reduceEqDiff, eq_self, true_or, or_true, false_or, or_false, and_true, true_and, false_and, and_false, not_true, not_false_eq_true, tf_T, tf_F, y_up1, y_up2, y_xx, y_nx, y_sJ, y_sR, Int32.reduceLT, y_nxK, y_nxL, y_nxR, y_sJK, y_sJL, y_sJR, y_sJN, y_sRK, y_sRL, y_sRN, Nat.add_zero, z_nat, z_lit, z_lit0, z_lit1, z_in0, z_in1, z_addl0, z_lt, z_ltl, z_llt, z_inj, z_injl, z_add, z_addl, z_ladd, z_mul, z_mull, z_lmul, z_neg, z_negl, z_in, z_inl, z_ltT, z_ltF, z_eqF, z_10, z_01, z_litne, z_ne0, z_0ne, z_ne1, z_1ne, z_lt64, z_02, z_03, z_04, z_05, z_12, z_13, z_14, z_15, z_20, z_21, z_23, z_24, z_25, z_30, z_31, z_32, z_34, z_35, z_40, z_41, z_42, z_43, z_45, z_50, z_51, z_52, z_53, z_54]
  · rw [bk_178_5]
    simp (disch := omega) only [i0', k9, y_ckd, y_ck2d, y_ond, y_onn, y_oI, y_oIx, y_oJ, y_oV, y_oVx, y_oR, y_oRn, y_oRx, y_b0, y_b1, y_bi, y_bid, y_wIK, y_wIL, y_wII, y_wIJ, y_wIR, y_wIN, y_wIw, y_sI, ↓reduceIte, Nat.reduceEqDiff, eq_self, true_or, or_true, false_or, or_false, and_true, true_and, false_and, and_false, not_true, not_false_eq_true, tf_T, tf_F, y_up1, y_up2, y_xx, y_nx, y_sJ, y_sR, Int32.reduceLT, y_nxK, y_nxL, y_nxR, y_sJK, y_sJL, y_sJR, y_sJN, y_sRK, y_sRL, y_sRN, Nat.add_zero, z_nat, z_lit, z_lit0, z_lit1, z_in0, z_in1, z_addl0, z_lt, z_ltl, z_llt, z_inj, z_injl, z_add, z_addl, z_ladd, z_mul, z_mull, z_lmul, z_neg, z_negl, z_in, z_inl, z_ltT, z_ltF, z_eqF, z_10, z_01, z_litne, z_ne0, z_0ne, z_ne1, z_1ne, z_lt64, z_02, z_03, z_04, z_05, z_12, z_13, z_14, z_15, z_20, z_21, z_23, z_24, z_25, z_30, z_31, z_32, z_34, z_35, z_40, z_41, z_42, z_43, z_45, z_50, z_51, z_52, z_53, z_54]
    rfl
theorem m_sumN {tt : Nat} (hM : Md B) (htt : tt ≤ 10) (hwt : ∀ z, 3542 + 850 * tt < z → z < 3542 + 850 * tt + 850 → i 875 z = wt z) (hW : TxW wt (3542 + 850 * tt)) (hTg : ∀ k, k < 5 → i 880 k = if fc.1 k = true then 1 else 0) (hf : ∀ m, m < 6 → i 881 m = fc.2 m) : ∃ j, am_fx am_P (d + 3) 60 0 [some (.ref 874), some (.int (Int32.ofNat tt)), some (.int x), none, none] [] (am_wI B i) = some (.inl (some (.int (smO wt (3542 + 850 * tt) fc x))), am_wI B j) ∧ ∀ q k, q ≠ 882 → j q k = i q k := by
  have h12 := hW.2.1
  have n12 := h12.2
  obtain ⟨⟨a, j⟩, E, ha, fj⟩ := lp_inv (fun k (s : Int32 × (Nat → Nat → Int32)) => am_fx am_P (d + 3) 60 5 [some (.ref 874), some (.int (Int32.ofNat tt)), some (.int x), some (.int s.1), some (.int (Int32.ofNat k))] [] (am_wI B s.2)) (fun k s => s.1 = itr (fsm wt (3542 + 850 * tt) fc x) k 0 ∧ ∀ q k, q ≠ 882 → s.2 q k = i q k) (cn wt (3542 + 850 * tt + 1)) (fun k s hk hI => by
    obtain ⟨a, j⟩ := s
    obtain ⟨ha, fj⟩ := hI
    dsimp only at ha fj
    have hwj : ∀ z, 3542 + 850 * tt < z → z < 3542 + 850 * tt + 850 → j 875 z = wt z := fun z h1 h2 => by rw [fj _ _ (by omega)]; exact hwt z h1 h2
    have e1 : j 875 (3542 + 850 * tt + 1) = Int32.ofNat (cn wt (3542 + 850 * tt + 1)) := (hwj _ (by omega) (by omega)).trans h12.1
    have e2 := hwj (3542 + 850 * tt + 2 + 4 * k) (by omega) (by omega)
    have e3 := hwj (3542 + 850 * tt + 2 + 4 * k + 1) (by omega) (by omega)
    have tm : ¬ Int32.ofNat tt < 0 := by rw [z_neg (by omega)]; exact id
    have hstep : itr (fsm wt (3542 + 850 * tt) fc x) (k + 1) 0 = fsm wt (3542 + 850 * tt) fc x k a := by rw [ha]; rfl
    by_cases g : wt (3542 + 850 * tt + 2 + 4 * k) = x
    · obtain ⟨j', E', f'⟩ := m_holds (d := d) (fc := fc) hM htt hwj hW hk (fun k hk => (fj _ _ (by omega)).trans (hTg k hk)) (fun m hm => (fj _ _ (by omega)).trans (hf m hm))
      have e3' : j' 875 (3542 + 850 * tt + 2 + 4 * k + 1) = wt (3542 + 850 * tt + 2 + 4 * k + 1) := by rw [f' _ _ (by omega)]; exact e3
      refine ⟨(fsm wt (3542 + 850 * tt) fc x k a, j'), ?_, hstep.symm, fun q k hq => (f' q k hq).trans (fj q k hq)⟩
      dsimp only
      unfold fsm
      rw [bk_60_5]
      simp (maxSteps := 1000000) (disch := omega) only [bk_58_0, bk_48_0, bk_47_0, bk_60_56, tm, e1, e2, e3, g, E', b2_0, hM, y_ckd, y_ck2d, y_ond, y_onn, y_oI, y_oIx, y_oJ, y_oV, y_oVx, y_oR, y_oRn, y_oRx, y_b0, y_b1, y_bi, y_bid, y_wIK, y_wIL, y_wII, y_wIJ, y_wIR, y_wIN, y_wIw, y_sI, ↓reduceIte, Nat.reduceEqDiff, eq_self, true_or, or_true, false_or, or_false, and_true, true_and, false_and, and_false, not_true, not_false_eq_true, tf_T, tf_F, y_up1, y_up2, y_xx, y_nx, y_sJ, y_sR, Int32.reduceLT, y_nxK, y_nxL, y_nxR, y_sJK, y_sJL, y_sJR, y_sJN, y_sRK, y_sRL, y_sRN, Nat.add_zero, z_nat, z_lit, z_lit0, z_lit1, z_in0, z_in1, z_addl0, z_lt, z_ltl, z_llt, z_inj, z_injl, z_add, z_addl, z_ladd, z_mul, z_mull, z_lmul, z_neg, z_negl, z_in, z_inl, z_ltT, z_ltF, z_eqF, z_10, z_01, z_litne, z_ne0, z_0ne, z_ne1, z_1ne, z_lt64, z_02, z_03, z_04, z_05, z_12, z_13, z_14, z_15, z_20, z_21, z_23, z_24, z_25, z_30, z_31, z_32, z_34, z_35, z_40, z_41, z_42, z_43, z_45, z_50, z_51, z_52, z_53, z_54]
      cases hld wt (3542 + 850 * tt) fc k
      · simp (maxSteps := 1000000) (disch := omega) only [bk_60_56, Bool.false_eq_true, not_false_eq_true, ↓reduceIte, Nat.add_zero, z_nat, z_lit, z_lit0, z_lit1, z_in0, z_in1, z_addl0, z_lt, z_ltl, z_llt, z_inj, z_injl, z_add, z_addl, z_ladd, z_mul, z_mull, z_lmul, z_neg, z_negl, z_in, z_inl, z_ltT, z_ltF, z_eqF, z_10, z_01, z_litne, z_ne0, z_0ne, z_ne1, z_1ne, z_lt64, z_02, z_03, z_04, z_05, z_12, z_13, z_14, z_15, z_20, z_21, z_23, z_24, z_25, z_30, z_31, z_32, z_34, z_35, z_40, z_41, z_42, z_43, z_45, z_50, z_51, z_52, z_53, z_54]
      · simp (maxSteps := 1000000) (disch := omega) only [bk_48_0, bk_47_0, bk_60_56, not_true, e3', hM, y_ckd, y_ck2d, y_ond, y_onn, y_oI, y_oIx, y_oJ, y_oV, y_oVx, y_oR, y_oRn, y_oRx, y_b0, y_b1, y_bi, y_bid, y_wIK, y_wIL, y_wII, y_wIJ, y_wIR, y_wIN, y_wIw, y_sI, ↓reduceIte, Nat.reduceEqDiff, eq_self, true_or, or_true, false_or, or_false, and_true, true_and, false_and, and_false, not_true, not_false_eq_true, tf_T, tf_F, y_up1, y_up2, y_xx, y_nx, y_sJ, y_sR, Int32.reduceLT, y_nxK, y_nxL, y_nxR, y_sJK, y_sJL, y_sJR, y_sJN, y_sRK, y_sRL, y_sRN, Nat.add_zero, z_nat, z_lit, z_lit0, z_lit1, z_in0, z_in1, z_addl0, z_lt, z_ltl, z_llt, z_inj, z_injl, z_add, z_addl, z_ladd, z_mul, z_mull, z_lmul, z_neg, z_negl, z_in, z_inl, z_ltT, z_ltF, z_eqF, z_10, z_01, z_litne, z_ne0, z_0ne, z_ne1, z_1ne, z_lt64, z_02, z_03, z_04, z_05, z_12, z_13, z_14, z_15, z_20, z_21, z_23, z_24, z_25, z_30, z_31, z_32, z_34, z_35, z_40, z_41, z_42, z_43, z_45, z_50, z_51, z_52, z_53, z_54]
    · refine ⟨(fsm wt (3542 + 850 * tt) fc x k a, j), ?_, hstep.symm, fj⟩
      dsimp only
      unfold fsm
      rw [bk_60_5]
      simp (maxSteps := 1000000) (disch := omega) only [bk_58_0, bk_48_0, bk_47_0, bk_60_56, tm, e1, e2, e3, g, hM, y_ckd, y_ck2d, y_ond, y_onn, y_oI, y_oIx, y_oJ, y_oV, y_oVx, y_oR, y_oRn, y_oRx, y_b0, y_b1, y_bi, y_bid, y_wIK, y_wIL, y_wII, y_wIJ, y_wIR, y_wIN, y_wIw, y_sI, ↓reduceIte, Nat.reduceEqDiff, eq_self, true_or, or_true, false_or, or_false, and_true, true_and, false_and, and_false, not_true, not_false_eq_true, tf_T, tf_F, y_up1, y_up2, y_xx, y_nx, y_sJ, y_sR, Int32.reduceLT, y_nxK, y_nxL, y_nxR, y_sJK, y_sJL, y_sJR, y_sJN, y_sRK, y_sRL, y_sRN, Nat.add_zero, z_nat, z_lit, z_lit0, z_lit1, z_in0, z_in1, z_addl0, z_lt, z_ltl, z_llt, z_inj, z_injl, z_add, z_addl, z_ladd, z_mul, z_mull, z_lmul, z_neg, z_negl, z_in, z_inl, z_ltT, z_ltF, z_eqF, z_10, z_01, z_litne, z_ne0, z_0ne, z_ne1, z_1ne, z_lt64, z_02, z_03, z_04, z_05, z_12, z_13, z_14, z_15, z_20, z_21, z_23, z_24, z_25, z_30, z_31, z_32, z_34, z_35, z_40, z_41, z_42, z_43, z_45, z_50, z_51, z_52, z_53, z_54]) (0, i) ⟨rfl, fun _ _ _ => rfl⟩
  dsimp only at E ha fj
  refine ⟨j, ?_, fj⟩
  rw [bk_60_0]
  refine E.trans ?_
  have e1 : j 875 (3542 + 850 * tt + 1) = Int32.ofNat (cn wt (3542 + 850 * tt + 1)) := by rw [fj _ _ (by omega)]; exact (hwt _ (by omega) (by omega)).trans h12.1
  have tm : ¬ Int32.ofNat tt < 0 := by rw [z_neg (by omega)]; exact id
  rw [bk_60_5]
  simp (disch := omega) only [bk_58_0, bk_47_0, tm, e1, hM, y_ckd, y_ck2d, y_ond, y_onn, y_oI, y_oIx, y_oJ, y_oV, y_oVx, y_oR, y_oRn, y_oRx, y_b0, y_b1, y_bi, y_bid, y_wIK, y_wIL, y_wII, y_wIJ, y_wIR, y_wIN, y_wIw, y_sI, ↓reduceIte, Nat.reduceEqDiff, eq_self, true_or, or_true, false_or, or_false, and_true, true_and, false_and, and_false, not_true, not_false_eq_true, tf_T, tf_F, y_up1, y_up2, y_xx, y_nx, y_sJ, y_sR, Int32.reduceLT, y_nxK, y_nxL, y_nxR, y_sJK, y_sJL, y_sJR, y_sJN, y_sRK, y_sRL, y_sRN, Nat.add_zero, z_nat, z_lit, z_lit0, z_lit1, z_in0, z_in1, z_addl0, z_lt, z_ltl, z_llt, z_inj, z_injl, z_add, z_addl, z_ladd, z_mul, z_mull, z_lmul, z_neg, z_negl, z_in, z_inl, z_ltT, z_ltF, z_eqF, z_10, z_01, z_litne, z_ne0, z_0ne, z_ne1, z_1ne, z_lt64, z_02, z_03, z_04, z_05, z_12, z_13, z_14, z_15, z_20, z_21, z_23, z_24, z_25, z_30, z_31, z_32, z_34, z_35, z_40, z_41, z_42, z_43, z_45, z_50, z_51, z_52, z_53, z_54]
  rw [ha]
  rfl
theorem m_sum0 (hM : Md B) : am_fx am_P (d + 3) 60 0 [some (.ref 874), some (.int (-1)), some (.int x), none, none] [] (am_wI B i) = some (.inl (some (.int 0)), am_wI B i) := by
  rw [bk_60_0, bk_60_5]
  simp (disch := omega) only [bk_58_0, z_lm1, hM, y_ckd, y_ck2d, y_ond, y_onn, y_oI, y_oIx, y_oJ, y_oV, y_oVx, y_oR, y_oRn, y_oRx, y_b0, y_b1, y_bi, y_bid, y_wIK, y_wIL, y_wII, y_wIJ, y_wIR, y_wIN, y_wIw, y_sI, ↓reduceIte, Nat.reduceEqDiff, eq_self, true_or, or_true, false_or, or_false, and_true, true_and, false_and, and_false, not_true, not_false_eq_true, tf_T, tf_F, y_up1, y_up2, y_xx, y_nx, y_sJ, y_sR, Int32.reduceLT, y_nxK, y_nxL, y_nxR, y_sJK, y_sJL, y_sJR, y_sJN, y_sRK, y_sRL, y_sRN, Nat.add_zero, z_nat, z_lit, z_lit0, z_lit1, z_in0, z_in1, z_addl0, z_lt, z_ltl, z_llt, z_inj, z_injl, z_add, z_addl, z_ladd, z_mul, z_mull, z_lmul, z_neg, z_negl, z_in, z_inl, z_ltT, z_ltF, z_eqF, z_10, z_01, z_litne, z_ne0, z_0ne, z_ne1, z_1ne, z_lt64, z_02, z_03, z_04, z_05, z_12, z_13, z_14, z_15, z_20, z_21, z_23, z_24, z_25, z_30, z_31, z_32, z_34, z_35, z_40, z_41, z_42, z_43, z_45, z_50, z_51, z_52, z_53, z_54]
end Sums
