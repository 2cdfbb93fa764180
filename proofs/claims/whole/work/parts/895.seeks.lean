/-! THE LEAST WASTE: the model seeks. Made by wip/whole/math/895.py. -/
section Seeks
variable {B B1 : am_A} {i i1 : Nat → Nat → Int32} {σ σ' : Sg} {w : Nat → Int32} {L j d b m n T : Nat} {x y z : Int32}
theorem z_ws {a c e f : Int32} : a + c - e - f = a - e + c - f := by
  rw [Int32.sub_eq_add_neg, Int32.sub_eq_add_neg, Int32.sub_eq_add_neg, Int32.sub_eq_add_neg, Int32.add_assoc a c, Int32.add_comm c, ← Int32.add_assoc a]
theorem m_nAt {s n : Nat} {A : am_A} : am_fx am_P (d + 1) 70 0 [some (.int (Int32.ofNat s)), some (.int (Int32.ofNat n))] [] A = some (.inl (some (.int (Int32.ofNat (2622 + 49 * s + 9 + 5 * n)))), A) := by
  rw [bk_70_0, bk_66_0]
  have e : 2622 + 49 * s + 9 + 5 * n = 2622 + 49 * s + (9 + 5 * n) := by omega
  rw [e]
  simp (maxSteps := 1000000) (disch := omega) only [y_ckd, y_ck2d, y_ond, y_onn, y_oI, y_oIx, y_oJ, y_oV, y_oVx, y_oR, y_oRn, y_oRx, y_b0, y_b1, y_bi, y_bid, y_wIK, y_wIL, y_wII, y_wIJ, y_wIR, y_wIN, y_wIw, y_sI, ↓reduceIte, Nat.reduceEqDiff, eq_self, true_or, or_true, false_or, or_false, and_true, true_and, false_and, and_false, not_true, not_false_eq_true, tf_T, tf_F, y_up1, y_up2, y_xx, y_nx, y_sJ, y_sR, Int32.reduceLT, y_nxK, y_nxL, y_nxR, y_sJK, y_sJL, y_sJR, y_sJN, y_sRK, y_sRL, y_sRN, Nat.add_zero, z_nat, z_lit, z_lit0, z_lit1, z_in0, z_in1, z_addl0, z_lt, z_ltl, z_llt, z_inj, z_injl, z_add, z_addl, z_ladd, z_mul, z_mull, z_lmul, z_neg, z_negl, z_in, z_inl, z_ltT, z_ltF, z_eqF, z_10, z_01, z_litne, z_ne0, z_0ne, z_ne1, z_1ne, z_lt64, z_02, z_03, z_04, z_05, z_12, z_13, z_14, z_15, z_20, z_21, z_23, z_24, z_25, z_30, z_31, z_32, z_34, z_35, z_40, z_41, z_42, z_43, z_45, z_50, z_51, z_52, z_53, z_54]
theorem m_open {s : Nat} {tr : Int32} (hM : Md B) (hw : ∀ z, z < 12042 → i 875 z = w z) (hW : Wd w) (hs : s < cn w 2621) : ∃ i', am_fx am_P (d + 3) 87 0 [some (.ref 874), some (.int (Int32.ofNat s)), some (.int tr), none, none, none, none, none, none, none, none] [] (am_wI B i) = am_fx am_P (d + 3) 87 64 [some (.ref 874), some (.int (Int32.ofNat s)), some (.int tr), some (.int (Int32.ofNat 0)), none, none, none, none, none, none, none] [] (am_wI B i') ∧ (∀ q k, q ≠ 885 → (q = 874 → k ≠ 21) → i' q k = i q k) ∧ i' 874 21 = Int32.ofNat (opm w s) ∧ ∀ n, n < opm w s → i' 885 n = Int32.ofNat (opf w s n) := by
  have hc := hW.1.2.2.2.1
  have h8 := hc.2
  obtain ⟨-, -, -, -, -, -, -, hnc, hnd⟩ := hW.2.2.2.2.1.1 s hs (by omega)
  have n8 := hnc.2
  unfold opm opf
  generalize hN : cn w (2622 + 49 * s + 8) = N at *
  obtain ⟨j1, E, hj1, hj2, hf⟩ := lp_inv (fun k j => am_fx am_P (d + 3) 87 7 [some (.ref 874), some (.int (Int32.ofNat s)), some (.int tr), some (.int (Int32.ofNat k)), none, none, none, none, none, none, none] [] (am_wI B j)) (fun k j => j 874 21 = Int32.ofNat (opn w s k).1 ∧ (∀ m, m < (opn w s k).1 → j 885 m = Int32.ofNat ((opn w s k).2 m)) ∧ ∀ q k, q ≠ 885 → (q = 874 → k ≠ 21) → j q k = i q k) N (fun k j hk hI => by
    obtain ⟨e1, e2, hf⟩ := hI
    have a9 : j 875 (2622 + 49 * s + 8) = Int32.ofNat N := by rw [hf _ _ (by omega) (by omega), hw _ (by omega), hnc.1, hN]
    have ep : j 875 (2622 + 49 * s + 9 + 5 * k + 4) = w (2622 + 49 * s + 9 + 5 * k + 4) := by rw [hf _ _ (by omega) (by omega), hw _ (by omega)]
    obtain ⟨l1, -⟩ := opn_le (w := w) (s := s) k
    rw [opn_s]
    unfold fop
    generalize opn w s k = a at *
    obtain ⟨c, f⟩ := a
    have e1 : j 874 21 = Int32.ofNat c := e1
    have e2 : ∀ m, m < c → j 885 m = Int32.ofNat (f m) := e2
    have l1 : c ≤ k := l1
    by_cases g : w (2622 + 49 * s + 9 + 5 * k + 4) = -1
    · rw [if_pos g]
      rw [g] at ep
      refine ⟨am_up2 (am_up2 j 885 c (Int32.ofNat k)) 874 21 (Int32.ofNat (c + 1)), ?_, y_up1 rfl rfl, fun m hm => ?_, fun q k h1 h2 => by rw [y_up2 (by omega), y_up2 (Or.inl h1)]; exact hf q k h1 h2⟩
      · rw [bk_87_7]
        simp (maxSteps := 1000000) (disch := omega) only [(fun d x0 x1 x2 B i => bk_67_0 d x0 x1 x2 (am_wI B i)), (fun d x0 x1 B i => bk_66_0 d x0 x1 (am_wI B i)), m_nAt, (fun d x0 x1 x2 x3 B i => bk_87_56 d x0 x1 x2 x3 (am_wI B i)), a9, ep, e1, hM, y_ckd, y_ck2d, y_ond, y_onn, y_oI, y_oIx, y_oJ, y_oV, y_oVx, y_oR, y_oRn, y_oRx, y_b0, y_b1, y_bi, y_bid, y_wIK, y_wIL, y_wII, y_wIJ, y_wIR, y_wIN, y_wIw, y_sI, ↓reduceIte, Nat.reduceEqDiff, eq_self, true_or, or_true, false_or, or_false, and_true, true_and, false_and, and_false, not_true, not_false_eq_true, tf_T, tf_F, y_up1, y_up2, y_xx, y_nx, y_sJ, y_sR, Int32.reduceLT, y_nxK, y_nxL, y_nxR, y_sJK, y_sJL, y_sJR, y_sJN, y_sRK, y_sRL, y_sRN, Nat.add_zero, z_nat, z_lit, z_lit0, z_lit1, z_in0, z_in1, z_addl0, z_lt, z_ltl, z_llt, z_inj, z_injl, z_add, z_addl, z_ladd, z_mul, z_mull, z_lmul, z_neg, z_negl, z_in, z_inl, z_ltT, z_ltF, z_eqF, z_10, z_01, z_litne, z_ne0, z_0ne, z_ne1, z_1ne, z_lt64, z_02, z_03, z_04, z_05, z_12, z_13, z_14, z_15, z_20, z_21, z_23, z_24, z_25, z_30, z_31, z_32, z_34, z_35, z_40, z_41, z_42, z_43, z_45, z_50, z_51, z_52, z_53, z_54]
      · have hm : m < c + 1 := hm
        show _ = Int32.ofNat (if m = c then k else f m)
        rw [y_up2 (by omega)]
        by_cases e : m = c
        · rw [y_up1 rfl e, if_pos e]
        · rw [y_up2 (by omega), if_neg e]
          exact e2 m (by omega)
    · rw [if_neg g]
      have gn : ¬ w (2622 + 49 * s + 9 + 5 * k + 4) < 0 := ((hnd k (by omega) (by omega)).2.resolve_left g).1
      refine ⟨j, ?_, e1, e2, hf⟩
      rw [bk_87_7]
      simp (maxSteps := 1000000) (disch := omega) only [(fun d x0 x1 x2 B i => bk_67_0 d x0 x1 x2 (am_wI B i)), (fun d x0 x1 B i => bk_66_0 d x0 x1 (am_wI B i)), m_nAt, (fun d x0 x1 x2 x3 B i => bk_87_56 d x0 x1 x2 x3 (am_wI B i)), a9, ep, e1, gn, hM, y_ckd, y_ck2d, y_ond, y_onn, y_oI, y_oIx, y_oJ, y_oV, y_oVx, y_oR, y_oRn, y_oRx, y_b0, y_b1, y_bi, y_bid, y_wIK, y_wIL, y_wII, y_wIJ, y_wIR, y_wIN, y_wIw, y_sI, ↓reduceIte, Nat.reduceEqDiff, eq_self, true_or, or_true, false_or, or_false, and_true, true_and, false_and, and_false, not_true, not_false_eq_true, tf_T, tf_F, y_up1, y_up2, y_xx, y_nx, y_sJ, y_sR, Int32.reduceLT, y_nxK, y_nxL, y_nxR, y_sJK, y_sJL, y_sJR, y_sJN, y_sRK, y_sRL, y_sRN, Nat.add_zero, z_nat, z_lit, z_lit0, z_lit1, z_in0, z_in1, z_addl0, z_lt, z_ltl, z_llt, z_inj, z_injl, z_add, z_addl, z_ladd, z_mul, z_mull, z_lmul, z_neg, z_negl, z_in, z_inl, z_ltT, z_ltF, z_eqF, z_10, z_01, z_litne, z_ne0, z_0ne, z_ne1, z_1ne, z_lt64, z_02, z_03, z_04, z_05, z_12, z_13, z_14, z_15, z_20, z_21, z_23, z_24, z_25, z_30, z_31, z_32, z_34, z_35, z_40, z_41, z_42, z_43, z_45, z_50, z_51, z_52, z_53, z_54]) (am_up2 i 874 21 0) ⟨y_up1 rfl rfl, fun m hm => absurd hm (Nat.not_lt_zero _), fun q k h1 h2 => y_up2 (by omega)⟩
  have a9 : j1 875 (2622 + 49 * s + 8) = Int32.ofNat N := by rw [hf _ _ (by omega) (by omega), hw _ (by omega), hnc.1, hN]
  refine ⟨j1, ?_, hf, hj1, hj2⟩
  rw [bk_87_0]
  simp (maxSteps := 1000000) (disch := omega) only [hM, y_ckd, y_ck2d, y_ond, y_onn, y_oI, y_oIx, y_oJ, y_oV, y_oVx, y_oR, y_oRn, y_oRx, y_b0, y_b1, y_bi, y_bid, y_wIK, y_wIL, y_wII, y_wIJ, y_wIR, y_wIN, y_wIw, y_sI, ↓reduceIte, Nat.reduceEqDiff, eq_self, true_or, or_true, false_or, or_false, and_true, true_and, false_and, and_false, not_true, not_false_eq_true, tf_T, tf_F, y_up1, y_up2, y_xx, y_nx, y_sJ, y_sR, Int32.reduceLT, y_nxK, y_nxL, y_nxR, y_sJK, y_sJL, y_sJR, y_sJN, y_sRK, y_sRL, y_sRN]
  refine E.trans ?_
  rw [bk_87_7]
  simp (maxSteps := 1000000) (disch := omega) only [(fun d x0 x1 x2 B i => bk_67_0 d x0 x1 x2 (am_wI B i)), (fun d x0 x1 B i => bk_66_0 d x0 x1 (am_wI B i)), m_nAt, a9, hM, y_ckd, y_ck2d, y_ond, y_onn, y_oI, y_oIx, y_oJ, y_oV, y_oVx, y_oR, y_oRn, y_oRx, y_b0, y_b1, y_bi, y_bid, y_wIK, y_wIL, y_wII, y_wIJ, y_wIR, y_wIN, y_wIw, y_sI, ↓reduceIte, Nat.reduceEqDiff, eq_self, true_or, or_true, false_or, or_false, and_true, true_and, false_and, and_false, not_true, not_false_eq_true, tf_T, tf_F, y_up1, y_up2, y_xx, y_nx, y_sJ, y_sR, Int32.reduceLT, y_nxK, y_nxL, y_nxR, y_sJK, y_sJL, y_sJR, y_sJN, y_sRK, y_sRL, y_sRN, Nat.add_zero, z_nat, z_lit, z_lit0, z_lit1, z_in0, z_in1, z_addl0, z_lt, z_ltl, z_llt, z_inj, z_injl, z_add, z_addl, z_ladd, z_mul, z_mull, z_lmul, z_neg, z_negl, z_in, z_inl, z_ltT, z_ltF, z_eqF, z_10, z_01, z_litne, z_ne0, z_0ne, z_ne1, z_1ne, z_lt64, z_02, z_03, z_04, z_05, z_12, z_13, z_14, z_15, z_20, z_21, z_23, z_24, z_25, z_30, z_31, z_32, z_34, z_35, z_40, z_41, z_42, z_43, z_45, z_50, z_51, z_52, z_53, z_54]
  rfl
theorem m_fillS {s : Nat} {tr : Int32} (hM : Md B) (hw : ∀ z, z < 12042 → i 875 z = w z) (hx : isc w 3541 10) (m8 : m ≤ 8) (e21 : i 874 21 = Int32.ofNat m) : ∃ s' : am_A × (Nat → Nat → Int32), am_fx am_P (d + 3) 87 64 [some (.ref 874), some (.int (Int32.ofNat s)), some (.int tr), some (.int (Int32.ofNat 0)), none, none, none, none, none, none, none] [] (am_wI B i) = am_fx am_P (d + 3) 87 114 [some (.ref 874), some (.int (Int32.ofNat s)), some (.int tr), some (.int (txn (txi w (w 0) (cn w 3541)))), some (.int (Int32.ofNat 0)), none, none, none, none, none, none] [] (am_wI s'.1 s'.2) ∧ Jy 884 B s'.1 ∧ (∀ q k, q ≠ 883 → s'.2 q k = i q k) ∧ ∀ T, T < 2 ^ m → CsT 883 884 s'.1 s'.2 T (U0.1 T, U0.2 T) := by
  obtain ⟨p1, p2⟩ := p2_le m8
  have eP := z_pow m8
  obtain ⟨j1, E, hj1, hf⟩ := lp_inv (fun k j => am_fx am_P (d + 3) 87 64 [some (.ref 874), some (.int (Int32.ofNat s)), some (.int tr), some (.int (Int32.ofNat k)), none, none, none, none, none, none, none] [] (am_wI B j)) (fun k j => (∀ T, T < k → j 883 T = U0.1 T) ∧ ∀ q k, q ≠ 883 → j q k = i q k) (2 ^ m) (fun k j hk hI => by
    obtain ⟨hj, hf⟩ := hI
    have e1 := (hf 874 21 (by omega)).trans e21
    refine ⟨am_up2 j 883 k (if k = 0 then 0 else -1), ?_, fun T hT => ?_, fun q k h1 => by rw [y_up2 (Or.inl h1)]; exact hf q k h1⟩
    · rw [bk_87_64]
      generalize 2 ^ m = K at *
      by_cases g : k = 0
      · subst g
        have g2 : Int32.ofNat 0 = 0 := rfl
        rw [if_pos rfl]
        simp (maxSteps := 1000000) (disch := omega) only [e1, eP, g2, hM, y_ckd, y_ck2d, y_ond, y_onn, y_oI, y_oIx, y_oJ, y_oV, y_oVx, y_oR, y_oRn, y_oRx, y_b0, y_b1, y_bi, y_bid, y_wIK, y_wIL, y_wII, y_wIJ, y_wIR, y_wIN, y_wIw, y_sI, ↓reduceIte, Nat.reduceEqDiff, eq_self, true_or, or_true, false_or, or_false, and_true, true_and, false_and, and_false, not_true, not_false_eq_true, tf_T, tf_F, y_up1, y_up2, y_xx, y_nx, y_sJ, y_sR, Int32.reduceLT, y_nxK, y_nxL, y_nxR, y_sJK, y_sJL, y_sJR, y_sJN, y_sRK, y_sRL, y_sRN, Nat.add_zero, z_nat, z_lit, z_lit0, z_lit1, z_in0, z_in1, z_addl0, z_lt, z_ltl, z_llt, z_inj, z_injl, z_add, z_addl, z_ladd, z_mul, z_mull, z_lmul, z_neg, z_negl, z_in, z_inl, z_ltT, z_ltF, z_eqF, z_10, z_01, z_litne, z_ne0, z_0ne, z_ne1, z_1ne, z_lt64, z_02, z_03, z_04, z_05, z_12, z_13, z_14, z_15, z_20, z_21, z_23, z_24, z_25, z_30, z_31, z_32, z_34, z_35, z_40, z_41, z_42, z_43, z_45, z_50, z_51, z_52, z_53, z_54]
        rfl
      · have g2 : ¬ Int32.ofNat k = 0 := by rw [show (0 : Int32) = Int32.ofNat 0 from rfl, z_inj (by omega) (by omega)]; exact g
        rw [if_neg g]
        simp (maxSteps := 1000000) (disch := omega) only [e1, eP, g2, hM, y_ckd, y_ck2d, y_ond, y_onn, y_oI, y_oIx, y_oJ, y_oV, y_oVx, y_oR, y_oRn, y_oRx, y_b0, y_b1, y_bi, y_bid, y_wIK, y_wIL, y_wII, y_wIJ, y_wIR, y_wIN, y_wIw, y_sI, ↓reduceIte, Nat.reduceEqDiff, eq_self, true_or, or_true, false_or, or_false, and_true, true_and, false_and, and_false, not_true, not_false_eq_true, tf_T, tf_F, y_up1, y_up2, y_xx, y_nx, y_sJ, y_sR, Int32.reduceLT, y_nxK, y_nxL, y_nxR, y_sJK, y_sJL, y_sJR, y_sJN, y_sRK, y_sRL, y_sRN, Nat.add_zero, z_nat, z_lit, z_lit0, z_lit1, z_in0, z_in1, z_addl0, z_lt, z_ltl, z_llt, z_inj, z_injl, z_add, z_addl, z_ladd, z_mul, z_mull, z_lmul, z_neg, z_negl, z_in, z_inl, z_ltT, z_ltF, z_eqF, z_10, z_01, z_litne, z_ne0, z_0ne, z_ne1, z_1ne, z_lt64, z_02, z_03, z_04, z_05, z_12, z_13, z_14, z_15, z_20, z_21, z_23, z_24, z_25, z_30, z_31, z_32, z_34, z_35, z_40, z_41, z_42, z_43, z_45, z_50, z_51, z_52, z_53, z_54]
    · by_cases e : T = k
      · rw [y_up1 rfl e, e]
      · rw [y_up2 (Or.inr e)]
        exact hj T (by omega)) i ⟨fun T hT => absurd hT (Nat.not_lt_zero T), fun _ _ _ => rfl⟩
  refine ⟨(am_sJ B 884 0 0, j1), E.trans ?_, Jy.sJ, hf, fun T hT => ⟨hj1 T hT, fun g => ?_⟩⟩
  · have e1 := (hf 874 21 (by omega)).trans e21
    have e0 : j1 875 0 = w 0 := (hf _ _ (by omega)).trans (hw _ (by omega))
    have hM2 : Md (am_sJ B 884 0 0) := hM
    have eT := m_textOf (B := am_sJ B 884 0 0) (i := j1) (d := d) (x := w 0) hM2 (fun z hz => (hf _ _ (by omega)).trans (hw z hz)) hx
    rw [bk_87_64]
    generalize 2 ^ m = K at *
    simp (maxSteps := 1000000) (disch := omega) only [(fun d x0 B i => bk_13_0 d x0 (am_wI B i)), e1, eP, e0, eT, hM2, hM, y_ckd, y_ck2d, y_ond, y_onn, y_oI, y_oIx, y_oJ, y_oV, y_oVx, y_oR, y_oRn, y_oRx, y_b0, y_b1, y_bi, y_bid, y_wIK, y_wIL, y_wII, y_wIJ, y_wIR, y_wIN, y_wIw, y_sI, ↓reduceIte, Nat.reduceEqDiff, eq_self, true_or, or_true, false_or, or_false, and_true, true_and, false_and, and_false, not_true, not_false_eq_true, tf_T, tf_F, y_up1, y_up2, y_xx, y_nx, y_sJ, y_sR, Int32.reduceLT, y_nxK, y_nxL, y_nxR, y_sJK, y_sJL, y_sJR, y_sJN, y_sRK, y_sRL, y_sRN, Nat.add_zero, z_nat, z_lit, z_lit0, z_lit1, z_in0, z_in1, z_addl0, z_lt, z_ltl, z_llt, z_inj, z_injl, z_add, z_addl, z_ladd, z_mul, z_mull, z_lmul, z_neg, z_negl, z_in, z_inl, z_ltT, z_ltF, z_eqF, z_10, z_01, z_litne, z_ne0, z_0ne, z_ne1, z_1ne, z_lt64, z_02, z_03, z_04, z_05, z_12, z_13, z_14, z_15, z_20, z_21, z_23, z_24, z_25, z_30, z_31, z_32, z_34, z_35, z_40, z_41, z_42, z_43, z_45, z_50, z_51, z_52, z_53, z_54]
    rfl
  · by_cases e : T = 0
    · exact y_up1 rfl e
    · exact absurd (if_neg e) g
theorem m_en4 {s n : Nat} {l th bd : Int32} (hM : Md B) (hw : ∀ z, z < 12042 → i 875 z = w z) (s8 : s < 8) (n8 : n < 8) : am_fx am_P (d + 1) 78 0 [some (.ref 874), some (.int (Int32.ofNat (2622 + 49 * s + 9 + 5 * n))), some (.int (w (2622 + 49 * s + 9 + 5 * n))), some (.int l), some (.int th), some (.int bd)] [] (am_wI B i) = some (.inl (some (.int (if en4 w s n l th bd then 1 else 0))), am_wI B i) := by
  have c0 := hw (2622 + 49 * s + 9 + 5 * n) (by omega)
  have c1 := hw (2622 + 49 * s + 9 + 5 * n + 1) (by omega)
  have c2 := hw (2622 + 49 * s + 9 + 5 * n + 2) (by omega)
  have c3 := hw (2622 + 49 * s + 9 + 5 * n + 3) (by omega)
  rw [bk_78_0]
  by_cases g1 : l < w (2622 + 49 * s + 9 + 5 * n + 1)
  · rw [if_neg (c := en4 w s n l th bd) (fun q => q.1 g1)]
    simp (maxSteps := 1000000) (disch := omega) only [c0, c1, g1, hM, y_ckd, y_ck2d, y_ond, y_onn, y_oI, y_oIx, y_oJ, y_oV, y_oVx, y_oR, y_oRn, y_oRx, y_b0, y_b1, y_bi, y_bid, y_wIK, y_wIL, y_wII, y_wIJ, y_wIR, y_wIN, y_wIw, y_sI, ↓reduceIte, Nat.reduceEqDiff, eq_self, true_or, or_true, false_or, or_false, and_true, true_and, false_and, and_false, not_true, not_false_eq_true, tf_T, tf_F, y_up1, y_up2, y_xx, y_nx, y_sJ, y_sR, Int32.reduceLT, y_nxK, y_nxL, y_nxR, y_sJK, y_sJL, y_sJR, y_sJN, y_sRK, y_sRL, y_sRN, Nat.add_zero, z_nat, z_lit, z_lit0, z_lit1, z_in0, z_in1, z_addl0, z_lt, z_ltl, z_llt, z_inj, z_injl, z_add, z_addl, z_ladd, z_mul, z_mull, z_lmul, z_neg, z_negl, z_in, z_inl, z_ltT, z_ltF, z_eqF, z_10, z_01, z_litne, z_ne0, z_0ne, z_ne1, z_1ne, z_lt64, z_02, z_03, z_04, z_05, z_12, z_13, z_14, z_15, z_20, z_21, z_23, z_24, z_25, z_30, z_31, z_32, z_34, z_35, z_40, z_41, z_42, z_43, z_45, z_50, z_51, z_52, z_53, z_54]
  by_cases g2 : th < w (2622 + 49 * s + 9 + 5 * n + 2)
  · rw [if_neg (c := en4 w s n l th bd) (fun q => q.2.1 g2)]
    simp (maxSteps := 1000000) (disch := omega) only [c0, c1, c2, g1, g2, hM, y_ckd, y_ck2d, y_ond, y_onn, y_oI, y_oIx, y_oJ, y_oV, y_oVx, y_oR, y_oRn, y_oRx, y_b0, y_b1, y_bi, y_bid, y_wIK, y_wIL, y_wII, y_wIJ, y_wIR, y_wIN, y_wIw, y_sI, ↓reduceIte, Nat.reduceEqDiff, eq_self, true_or, or_true, false_or, or_false, and_true, true_and, false_and, and_false, not_true, not_false_eq_true, tf_T, tf_F, y_up1, y_up2, y_xx, y_nx, y_sJ, y_sR, Int32.reduceLT, y_nxK, y_nxL, y_nxR, y_sJK, y_sJL, y_sJR, y_sJN, y_sRK, y_sRL, y_sRN, Nat.add_zero, z_nat, z_lit, z_lit0, z_lit1, z_in0, z_in1, z_addl0, z_lt, z_ltl, z_llt, z_inj, z_injl, z_add, z_addl, z_ladd, z_mul, z_mull, z_lmul, z_neg, z_negl, z_in, z_inl, z_ltT, z_ltF, z_eqF, z_10, z_01, z_litne, z_ne0, z_0ne, z_ne1, z_1ne, z_lt64, z_02, z_03, z_04, z_05, z_12, z_13, z_14, z_15, z_20, z_21, z_23, z_24, z_25, z_30, z_31, z_32, z_34, z_35, z_40, z_41, z_42, z_43, z_45, z_50, z_51, z_52, z_53, z_54]
  by_cases g3 : w (2622 + 49 * s + 9 + 5 * n) = 1
  · by_cases g4 : 1 < ab (bd - w (2622 + 49 * s + 9 + 5 * n + 3))
    · rw [if_neg (c := en4 w s n l th bd) (fun q => q.2.2 g3 g4)]
      simp (maxSteps := 1000000) (disch := omega) only [c0, c1, c2, c3, g1, g2, g3, g4, c_abs, hM, y_ckd, y_ck2d, y_ond, y_onn, y_oI, y_oIx, y_oJ, y_oV, y_oVx, y_oR, y_oRn, y_oRx, y_b0, y_b1, y_bi, y_bid, y_wIK, y_wIL, y_wII, y_wIJ, y_wIR, y_wIN, y_wIw, y_sI, ↓reduceIte, Nat.reduceEqDiff, eq_self, true_or, or_true, false_or, or_false, and_true, true_and, false_and, and_false, not_true, not_false_eq_true, tf_T, tf_F, y_up1, y_up2, y_xx, y_nx, y_sJ, y_sR, Int32.reduceLT, y_nxK, y_nxL, y_nxR, y_sJK, y_sJL, y_sJR, y_sJN, y_sRK, y_sRL, y_sRN, Nat.add_zero, z_nat, z_lit, z_lit0, z_lit1, z_in0, z_in1, z_addl0, z_lt, z_ltl, z_llt, z_inj, z_injl, z_add, z_addl, z_ladd, z_mul, z_mull, z_lmul, z_neg, z_negl, z_in, z_inl, z_ltT, z_ltF, z_eqF, z_10, z_01, z_litne, z_ne0, z_0ne, z_ne1, z_1ne, z_lt64, z_02, z_03, z_04, z_05, z_12, z_13, z_14, z_15, z_20, z_21, z_23, z_24, z_25, z_30, z_31, z_32, z_34, z_35, z_40, z_41, z_42, z_43, z_45, z_50, z_51, z_52, z_53, z_54]
    · rw [if_pos (c := en4 w s n l th bd) ⟨g1, g2, fun _ => g4⟩]
      simp (maxSteps := 1000000) (disch := omega) only [c0, c1, c2, c3, g1, g2, g3, g4, c_abs, hM, y_ckd, y_ck2d, y_ond, y_onn, y_oI, y_oIx, y_oJ, y_oV, y_oVx, y_oR, y_oRn, y_oRx, y_b0, y_b1, y_bi, y_bid, y_wIK, y_wIL, y_wII, y_wIJ, y_wIR, y_wIN, y_wIw, y_sI, ↓reduceIte, Nat.reduceEqDiff, eq_self, true_or, or_true, false_or, or_false, and_true, true_and, false_and, and_false, not_true, not_false_eq_true, tf_T, tf_F, y_up1, y_up2, y_xx, y_nx, y_sJ, y_sR, Int32.reduceLT, y_nxK, y_nxL, y_nxR, y_sJK, y_sJL, y_sJR, y_sJN, y_sRK, y_sRL, y_sRN, Nat.add_zero, z_nat, z_lit, z_lit0, z_lit1, z_in0, z_in1, z_addl0, z_lt, z_ltl, z_llt, z_inj, z_injl, z_add, z_addl, z_ladd, z_mul, z_mull, z_lmul, z_neg, z_negl, z_in, z_inl, z_ltT, z_ltF, z_eqF, z_10, z_01, z_litne, z_ne0, z_0ne, z_ne1, z_1ne, z_lt64, z_02, z_03, z_04, z_05, z_12, z_13, z_14, z_15, z_20, z_21, z_23, z_24, z_25, z_30, z_31, z_32, z_34, z_35, z_40, z_41, z_42, z_43, z_45, z_50, z_51, z_52, z_53, z_54]
  · rw [if_pos (c := en4 w s n l th bd) ⟨g1, g2, fun q => absurd q g3⟩]
    simp (maxSteps := 1000000) (disch := omega) only [c0, c1, c2, g1, g2, g3, hM, y_ckd, y_ck2d, y_ond, y_onn, y_oI, y_oIx, y_oJ, y_oV, y_oVx, y_oR, y_oRn, y_oRx, y_b0, y_b1, y_bi, y_bid, y_wIK, y_wIL, y_wII, y_wIJ, y_wIR, y_wIN, y_wIw, y_sI, ↓reduceIte, Nat.reduceEqDiff, eq_self, true_or, or_true, false_or, or_false, and_true, true_and, false_and, and_false, not_true, not_false_eq_true, tf_T, tf_F, y_up1, y_up2, y_xx, y_nx, y_sJ, y_sR, Int32.reduceLT, y_nxK, y_nxL, y_nxR, y_sJK, y_sJL, y_sJR, y_sJN, y_sRK, y_sRL, y_sRN, Nat.add_zero, z_nat, z_lit, z_lit0, z_lit1, z_in0, z_in1, z_addl0, z_lt, z_ltl, z_llt, z_inj, z_injl, z_add, z_addl, z_ladd, z_mul, z_mull, z_lmul, z_neg, z_negl, z_in, z_inl, z_ltT, z_ltF, z_eqF, z_10, z_01, z_litne, z_ne0, z_0ne, z_ne1, z_1ne, z_lt64, z_02, z_03, z_04, z_05, z_12, z_13, z_14, z_15, z_20, z_21, z_23, z_24, z_25, z_30, z_31, z_32, z_34, z_35, z_40, z_41, z_42, z_43, z_45, z_50, z_51, z_52, z_53, z_54]
theorem m_stepP {s p j T : Nat} {tt : Int32} {f : Nat → Nat} (hM : Md B) (hw : ∀ z, z < 12042 → i 875 z = w z) (m8 : m ≤ 8) (e21 : i 874 21 = Int32.ofNat m) (e5 : ∀ n, n < m → i 885 n = Int32.ofNat (f n)) (hf : ∀ n, n < m → f n < 8) (s8 : s < 8) (hp : p < 120) (hT : T < 2 ^ m) (hj : j < m) (hn : ¬ bt2 T j → (i 883 (T + 2 ^ j) < 0) = (i 883 (T + 2 ^ j) = -1)) (hok : ∀ n, n < m → eno w s (f n) p → ¬ wst w s (f n) p = -1) : am_fx am_P (d + 5) 87 198 [some (.ref 874), some (.int (Int32.ofNat s)), some (.int 0), some (.int tt), some (.int (Int32.ofNat p)), some (.int (Int32.ofNat T)), some (.int (Int32.ofNat j)), none, none, none, none] [] (am_wI B i) = am_fx am_P (d + 5) 87 198 [some (.ref 874), some (.int (Int32.ofNat s)), some (.int 0), some (.int tt), some (.int (Int32.ofNat p)), some (.int (Int32.ofNat T)), some (.int (Int32.ofNat (j + 1))), none, none, none, none] [] (am_wI (stp B i (wdP w s f p) (rkx p m) T j).1 (stp B i (wdP w s f p) (rkx p m) T j).2) := by
  obtain ⟨p1, p2⟩ := p2_le m8
  have e5 := e5 j hj
  have hfj := hf j hj
  have eb := zb_tst T (by omega) j (by omega)
  unfold stp
  rw [bk_87_198]
  by_cases g : bt2 T j
  · rw [if_pos (c := bt2 T j ∨ wdP w s f p j = -1) (Or.inl g)]
    have eb := eb.mpr g
    simp (maxSteps := 1000000) (disch := omega) only [m_nAt, eb, e5, e21, hM, y_ckd, y_ck2d, y_ond, y_onn, y_oI, y_oIx, y_oJ, y_oV, y_oVx, y_oR, y_oRn, y_oRx, y_b0, y_b1, y_bi, y_bid, y_wIK, y_wIL, y_wII, y_wIJ, y_wIR, y_wIN, y_wIw, y_sI, ↓reduceIte, Nat.reduceEqDiff, eq_self, true_or, or_true, false_or, or_false, and_true, true_and, false_and, and_false, not_true, not_false_eq_true, tf_T, tf_F, y_up1, y_up2, y_xx, y_nx, y_sJ, y_sR, Int32.reduceLT, y_nxK, y_nxL, y_nxR, y_sJK, y_sJL, y_sJR, y_sJN, y_sRK, y_sRL, y_sRN, Nat.add_zero, z_nat, z_lit, z_lit0, z_lit1, z_in0, z_in1, z_addl0, z_lt, z_ltl, z_llt, z_inj, z_injl, z_add, z_addl, z_ladd, z_mul, z_mull, z_lmul, z_neg, z_negl, z_in, z_inl, z_ltT, z_ltF, z_eqF, z_10, z_01, z_litne, z_ne0, z_0ne, z_ne1, z_1ne, z_lt64, z_02, z_03, z_04, z_05, z_12, z_13, z_14, z_15, z_20, z_21, z_23, z_24, z_25, z_30, z_31, z_32, z_34, z_35, z_40, z_41, z_42, z_43, z_45, z_50, z_51, z_52, z_53, z_54]
  have ebn : ¬ ((Int32.ofNat T >>> (Int32.ofNat j &&& 31)) &&& 1 = 1) := fun q => g (eb.mp q)
  have b2 := hw (461 + 18 * p + 2) (by omega)
  have b3 := hw (461 + 18 * p + 3) (by omega)
  have ee := m_enough (B := B) (i := i) (d := d + 1) (n := f j) hM hw s8 hfj hp
  by_cases g1 : eno w s (f j) p
  rotate_left
  · rw [if_pos (c := bt2 T j ∨ wdP w s f p j = -1) (Or.inr (if_neg g1))]
    rw [if_neg g1] at ee
    simp (maxSteps := 1000000) (disch := omega) only [m_nAt, (fun d x0 x1 x2 B i => bk_24_0 d x0 x1 x2 (am_wI B i)), (fun d x0 x1 B i => bk_23_0 d x0 x1 (am_wI B i)), (fun d x0 x1 x2 x3 x4 x5 x6 x7 s0 B i => bk_87_261 d x0 x1 x2 x3 x4 x5 x6 x7 s0 (am_wI B i)), (fun d x0 x1 x2 x3 x4 x5 x6 x7 x8 s0 B i => bk_87_284 d x0 x1 x2 x3 x4 x5 x6 x7 x8 s0 (am_wI B i)), (fun d x0 x1 x2 x3 x4 x5 x6 x7 x8 x9 s0 B i => bk_87_344 d x0 x1 x2 x3 x4 x5 x6 x7 x8 x9 s0 (am_wI B i)), ebn, e5, e21, b2, b3, ee, hM, y_ckd, y_ck2d, y_ond, y_onn, y_oI, y_oIx, y_oJ, y_oV, y_oVx, y_oR, y_oRn, y_oRx, y_b0, y_b1, y_bi, y_bid, y_wIK, y_wIL, y_wII, y_wIJ, y_wIR, y_wIN, y_wIw, y_sI, ↓reduceIte, Nat.reduceEqDiff, eq_self, true_or, or_true, false_or, or_false, and_true, true_and, false_and, and_false, not_true, not_false_eq_true, tf_T, tf_F, y_up1, y_up2, y_xx, y_nx, y_sJ, y_sR, Int32.reduceLT, y_nxK, y_nxL, y_nxR, y_sJK, y_sJL, y_sJR, y_sJN, y_sRK, y_sRL, y_sRN, Nat.add_zero, z_nat, z_lit, z_lit0, z_lit1, z_in0, z_in1, z_addl0, z_lt, z_ltl, z_llt, z_inj, z_injl, z_add, z_addl, z_ladd, z_mul, z_mull, z_lmul, z_neg, z_negl, z_in, z_inl, z_ltT, z_ltF, z_eqF, z_10, z_01, z_litne, z_ne0, z_0ne, z_ne1, z_1ne, z_lt64, z_02, z_03, z_04, z_05, z_12, z_13, z_14, z_15, z_20, z_21, z_23, z_24, z_25, z_30, z_31, z_32, z_34, z_35, z_40, z_41, z_42, z_43, z_45, z_50, z_51, z_52, z_53, z_54]
  have ev : wdP w s f p j = wst w s (f j) p := if_pos g1
  rw [if_neg (c := bt2 T j ∨ wdP w s f p j = -1) (fun q => q.elim g (by rw [ev]; exact hok j hj g1)), ev]
  rw [if_pos g1] at ee
  have c1 := hw (2622 + 49 * s + 9 + 5 * f j + 1) (by omega)
  have c2 := hw (2622 + 49 * s + 9 + 5 * f j + 2) (by omega)
  have eW := m_weight (B := B) (i := i) (d := d + 4) hM e21 m8 hj
  have eO := m_offers (B := B) (i := i) (d := d + 4) (c := wst w s (f j) p) (r := rkx p m j) hM (by omega) (by omega) (by have := nb_up m (by omega) j hj T hT g; omega) g (hn g)
  unfold wst rkx at *
  simp (maxSteps := 1000000) (disch := omega) only [m_nAt, (fun d x0 x1 x2 B i => bk_24_0 d x0 x1 x2 (am_wI B i)), (fun d x0 x1 B i => bk_23_0 d x0 x1 (am_wI B i)), (fun d x0 x1 x2 B i => bk_20_0 d x0 x1 x2 (am_wI B i)), (fun d x0 x1 x2 x3 x4 x5 x6 x7 s0 B i => bk_87_261 d x0 x1 x2 x3 x4 x5 x6 x7 s0 (am_wI B i)), (fun d x0 x1 x2 x3 x4 x5 x6 x7 x8 s0 B i => bk_87_284 d x0 x1 x2 x3 x4 x5 x6 x7 x8 s0 (am_wI B i)), (fun d x0 x1 x2 x3 x4 x5 x6 x7 x8 x9 s0 B i => bk_87_344 d x0 x1 x2 x3 x4 x5 x6 x7 x8 x9 s0 (am_wI B i)), ebn, e5, e21, b2, b3, c1, c2, ee, hM, z_ws, eW, eO, y_ckd, y_ck2d, y_ond, y_onn, y_oI, y_oIx, y_oJ, y_oV, y_oVx, y_oR, y_oRn, y_oRx, y_b0, y_b1, y_bi, y_bid, y_wIK, y_wIL, y_wII, y_wIJ, y_wIR, y_wIN, y_wIw, y_sI, ↓reduceIte, Nat.reduceEqDiff, eq_self, true_or, or_true, false_or, or_false, and_true, true_and, false_and, and_false, not_true, not_false_eq_true, tf_T, tf_F, y_up1, y_up2, y_xx, y_nx, y_sJ, y_sR, Int32.reduceLT, y_nxK, y_nxL, y_nxR, y_sJK, y_sJL, y_sJR, y_sJN, y_sRK, y_sRL, y_sRN, Nat.add_zero, z_nat, z_lit, z_lit0, z_lit1, z_in0, z_in1, z_addl0, z_lt, z_ltl, z_llt, z_inj, z_injl, z_add, z_addl, z_ladd, z_mul, z_mull, z_lmul, z_neg, z_negl, z_in, z_inl, z_ltT, z_ltF, z_eqF, z_10, z_01, z_litne, z_ne0, z_0ne, z_ne1, z_1ne, z_lt64, z_02, z_03, z_04, z_05, z_12, z_13, z_14, z_15, z_20, z_21, z_23, z_24, z_25, z_30, z_31, z_32, z_34, z_35, z_40, z_41, z_42, z_43, z_45, z_50, z_51, z_52, z_53, z_54]
theorem m_stepT {s p j T : Nat} {tt tr : Int32} {f : Nat → Nat} (ht : ¬ tr = 0) (hM : Md B) (hw : ∀ z, z < 12042 → i 875 z = w z) (m8 : m ≤ 8) (e21 : i 874 21 = Int32.ofNat m) (e5 : ∀ n, n < m → i 885 n = Int32.ofNat (f n)) (hf : ∀ n, n < m → f n < 8) (s8 : s < 8) (hp : p < 60) (hT : T < 2 ^ m) (hj : j < m) (hn : ¬ bt2 T j → (i 883 (T + 2 ^ j) < 0) = (i 883 (T + 2 ^ j) = -1)) (hok : ∀ n, n < m → okT w s p (f n) → ¬ ws4 w s (f n) (lnT w s p (f n)) (w (40 + 7 * p + 3)) = -1) : am_fx am_P (d + 5) 87 198 [some (.ref 874), some (.int (Int32.ofNat s)), some (.int tr), some (.int tt), some (.int (Int32.ofNat p)), some (.int (Int32.ofNat T)), some (.int (Int32.ofNat j)), none, none, none, none] [] (am_wI B i) = am_fx am_P (d + 5) 87 198 [some (.ref 874), some (.int (Int32.ofNat s)), some (.int tr), some (.int tt), some (.int (Int32.ofNat p)), some (.int (Int32.ofNat T)), some (.int (Int32.ofNat (j + 1))), none, none, none, none] [] (am_wI (stp B i (wdT w s f p) (rkx p m) T j).1 (stp B i (wdT w s f p) (rkx p m) T j).2) := by
  obtain ⟨p1, p2⟩ := p2_le m8
  have e5 := e5 j hj
  have hfj := hf j hj
  have eb := zb_tst T (by omega) j (by omega)
  unfold stp
  rw [bk_87_198]
  by_cases g : bt2 T j
  · rw [if_pos (c := bt2 T j ∨ wdT w s f p j = -1) (Or.inl g)]
    have eb := eb.mpr g
    simp (maxSteps := 1000000) (disch := omega) only [m_nAt, eb, e5, e21, hM, y_ckd, y_ck2d, y_ond, y_onn, y_oI, y_oIx, y_oJ, y_oV, y_oVx, y_oR, y_oRn, y_oRx, y_b0, y_b1, y_bi, y_bid, y_wIK, y_wIL, y_wII, y_wIJ, y_wIR, y_wIN, y_wIw, y_sI, ↓reduceIte, Nat.reduceEqDiff, eq_self, true_or, or_true, false_or, or_false, and_true, true_and, false_and, and_false, not_true, not_false_eq_true, tf_T, tf_F, y_up1, y_up2, y_xx, y_nx, y_sJ, y_sR, Int32.reduceLT, y_nxK, y_nxL, y_nxR, y_sJK, y_sJL, y_sJR, y_sJN, y_sRK, y_sRL, y_sRN, Nat.add_zero, z_nat, z_lit, z_lit0, z_lit1, z_in0, z_in1, z_addl0, z_lt, z_ltl, z_llt, z_inj, z_injl, z_add, z_addl, z_ladd, z_mul, z_mull, z_lmul, z_neg, z_negl, z_in, z_inl, z_ltT, z_ltF, z_eqF, z_10, z_01, z_litne, z_ne0, z_0ne, z_ne1, z_1ne, z_lt64, z_02, z_03, z_04, z_05, z_12, z_13, z_14, z_15, z_20, z_21, z_23, z_24, z_25, z_30, z_31, z_32, z_34, z_35, z_40, z_41, z_42, z_43, z_45, z_50, z_51, z_52, z_53, z_54]
  have ebn : ¬ ((Int32.ofNat T >>> (Int32.ofNat j &&& 31)) &&& 1 = 1) := fun q => g (eb.mp q)
  have b2 := hw (40 + 7 * p + 2) (by omega)
  have b3 := hw (40 + 7 * p + 3) (by omega)
  have b4 := hw (40 + 7 * p + 4) (by omega)
  have c0 := hw (2622 + 49 * s + 9 + 5 * f j) (by omega)
  have el := m_longAs (B := B) (i := i) (d := d + 2) (x := w (2622 + 49 * s + 9 + 5 * f j)) hM hp
  rw [b2, b4] at el
  have ee := m_en4 (B := B) (i := i) (d := d + 3) (n := f j) (l := lnT w s p (f j)) (th := w (40 + 7 * p + 3)) (bd := w (40 + 7 * p + 4)) hM hw s8 hfj
  by_cases g3 : w (2622 + 49 * s + 9 + 5 * f j) = 3
  · rw [if_pos (c := bt2 T j ∨ wdT w s f p j = -1) (Or.inr (if_neg fun q => q.1 g3))]
    rw [g3] at el c0
    simp (maxSteps := 1000000) (disch := omega) only [m_nAt, (fun d x0 x1 x2 B i => bk_20_0 d x0 x1 x2 (am_wI B i)), (fun d x0 x1 x2 x3 x4 x5 x6 x7 s0 B i => bk_87_261 d x0 x1 x2 x3 x4 x5 x6 x7 s0 (am_wI B i)), (fun d x0 x1 x2 x3 x4 x5 x6 x7 x8 s0 B i => bk_87_284 d x0 x1 x2 x3 x4 x5 x6 x7 x8 s0 (am_wI B i)), (fun d x0 x1 x2 x3 x4 x5 x6 x7 x8 x9 s0 B i => bk_87_344 d x0 x1 x2 x3 x4 x5 x6 x7 x8 x9 s0 (am_wI B i)), ht, ebn, e5, e21, b2, b3, b4, c0, el, hM, y_ckd, y_ck2d, y_ond, y_onn, y_oI, y_oIx, y_oJ, y_oV, y_oVx, y_oR, y_oRn, y_oRx, y_b0, y_b1, y_bi, y_bid, y_wIK, y_wIL, y_wII, y_wIJ, y_wIR, y_wIN, y_wIw, y_sI, ↓reduceIte, Nat.reduceEqDiff, eq_self, true_or, or_true, false_or, or_false, and_true, true_and, false_and, and_false, not_true, not_false_eq_true, tf_T, tf_F, y_up1, y_up2, y_xx, y_nx, y_sJ, y_sR, Int32.reduceLT, y_nxK, y_nxL, y_nxR, y_sJK, y_sJL, y_sJR, y_sJN, y_sRK, y_sRL, y_sRN, Nat.add_zero, z_nat, z_lit, z_lit0, z_lit1, z_in0, z_in1, z_addl0, z_lt, z_ltl, z_llt, z_inj, z_injl, z_add, z_addl, z_ladd, z_mul, z_mull, z_lmul, z_neg, z_negl, z_in, z_inl, z_ltT, z_ltF, z_eqF, z_10, z_01, z_litne, z_ne0, z_0ne, z_ne1, z_1ne, z_lt64, z_02, z_03, z_04, z_05, z_12, z_13, z_14, z_15, z_20, z_21, z_23, z_24, z_25, z_30, z_31, z_32, z_34, z_35, z_40, z_41, z_42, z_43, z_45, z_50, z_51, z_52, z_53, z_54]
  by_cases g1 : en4 w s (f j) (lnT w s p (f j)) (w (40 + 7 * p + 3)) (w (40 + 7 * p + 4))
  rotate_left
  · rw [if_pos (c := bt2 T j ∨ wdT w s f p j = -1) (Or.inr (if_neg fun q => g1 q.2))]
    rw [if_neg g1] at ee
    unfold lnT at *
    simp (maxSteps := 1000000) (disch := omega) only [m_nAt, (fun d x0 x1 x2 B i => bk_20_0 d x0 x1 x2 (am_wI B i)), (fun d x0 x1 x2 x3 x4 x5 x6 x7 s0 B i => bk_87_261 d x0 x1 x2 x3 x4 x5 x6 x7 s0 (am_wI B i)), (fun d x0 x1 x2 x3 x4 x5 x6 x7 x8 s0 B i => bk_87_284 d x0 x1 x2 x3 x4 x5 x6 x7 x8 s0 (am_wI B i)), (fun d x0 x1 x2 x3 x4 x5 x6 x7 x8 x9 s0 B i => bk_87_344 d x0 x1 x2 x3 x4 x5 x6 x7 x8 x9 s0 (am_wI B i)), ht, g3, ebn, e5, e21, b2, b3, b4, c0, el, ee, hM, y_ckd, y_ck2d, y_ond, y_onn, y_oI, y_oIx, y_oJ, y_oV, y_oVx, y_oR, y_oRn, y_oRx, y_b0, y_b1, y_bi, y_bid, y_wIK, y_wIL, y_wII, y_wIJ, y_wIR, y_wIN, y_wIw, y_sI, ↓reduceIte, Nat.reduceEqDiff, eq_self, true_or, or_true, false_or, or_false, and_true, true_and, false_and, and_false, not_true, not_false_eq_true, tf_T, tf_F, y_up1, y_up2, y_xx, y_nx, y_sJ, y_sR, Int32.reduceLT, y_nxK, y_nxL, y_nxR, y_sJK, y_sJL, y_sJR, y_sJN, y_sRK, y_sRL, y_sRN, Nat.add_zero, z_nat, z_lit, z_lit0, z_lit1, z_in0, z_in1, z_addl0, z_lt, z_ltl, z_llt, z_inj, z_injl, z_add, z_addl, z_ladd, z_mul, z_mull, z_lmul, z_neg, z_negl, z_in, z_inl, z_ltT, z_ltF, z_eqF, z_10, z_01, z_litne, z_ne0, z_0ne, z_ne1, z_1ne, z_lt64, z_02, z_03, z_04, z_05, z_12, z_13, z_14, z_15, z_20, z_21, z_23, z_24, z_25, z_30, z_31, z_32, z_34, z_35, z_40, z_41, z_42, z_43, z_45, z_50, z_51, z_52, z_53, z_54]
  have ev : wdT w s f p j = ws4 w s (f j) (lnT w s p (f j)) (w (40 + 7 * p + 3)) := if_pos ⟨g3, g1⟩
  rw [if_neg (c := bt2 T j ∨ wdT w s f p j = -1) (fun q => q.elim g (by rw [ev]; exact hok j hj ⟨g3, g1⟩)), ev]
  rw [if_pos g1] at ee
  have c1 := hw (2622 + 49 * s + 9 + 5 * f j + 1) (by omega)
  have c2 := hw (2622 + 49 * s + 9 + 5 * f j + 2) (by omega)
  have eW := m_weight (B := B) (i := i) (d := d + 4) hM e21 m8 hj
  have eO := m_offers (B := B) (i := i) (d := d + 4) (c := ws4 w s (f j) (lnT w s p (f j)) (w (40 + 7 * p + 3))) (r := rkx p m j) hM (by omega) (by omega) (by have := nb_up m (by omega) j hj T hT g; omega) g (hn g)
  unfold ws4 rkx lnT at *
  simp (maxSteps := 1000000) (disch := omega) only [m_nAt, (fun d x0 x1 x2 B i => bk_24_0 d x0 x1 x2 (am_wI B i)), (fun d x0 x1 B i => bk_23_0 d x0 x1 (am_wI B i)), (fun d x0 x1 x2 B i => bk_20_0 d x0 x1 x2 (am_wI B i)), (fun d x0 x1 x2 x3 x4 x5 x6 x7 s0 B i => bk_87_261 d x0 x1 x2 x3 x4 x5 x6 x7 s0 (am_wI B i)), (fun d x0 x1 x2 x3 x4 x5 x6 x7 x8 s0 B i => bk_87_284 d x0 x1 x2 x3 x4 x5 x6 x7 x8 s0 (am_wI B i)), (fun d x0 x1 x2 x3 x4 x5 x6 x7 x8 x9 s0 B i => bk_87_344 d x0 x1 x2 x3 x4 x5 x6 x7 x8 x9 s0 (am_wI B i)), ht, g3, ebn, e5, e21, b2, b3, b4, c0, c1, c2, el, ee, hM, z_ws, eW, eO, y_ckd, y_ck2d, y_ond, y_onn, y_oI, y_oIx, y_oJ, y_oV, y_oVx, y_oR, y_oRn, y_oRx, y_b0, y_b1, y_bi, y_bid, y_wIK, y_wIL, y_wII, y_wIJ, y_wIR, y_wIN, y_wIw, y_sI, ↓reduceIte, Nat.reduceEqDiff, eq_self, true_or, or_true, false_or, or_false, and_true, true_and, false_and, and_false, not_true, not_false_eq_true, tf_T, tf_F, y_up1, y_up2, y_xx, y_nx, y_sJ, y_sR, Int32.reduceLT, y_nxK, y_nxL, y_nxR, y_sJK, y_sJL, y_sJR, y_sJN, y_sRK, y_sRL, y_sRN, Nat.add_zero, z_nat, z_lit, z_lit0, z_lit1, z_in0, z_in1, z_addl0, z_lt, z_ltl, z_llt, z_inj, z_injl, z_add, z_addl, z_ladd, z_mul, z_mull, z_lmul, z_neg, z_negl, z_in, z_inl, z_ltT, z_ltF, z_eqF, z_10, z_01, z_litne, z_ne0, z_0ne, z_ne1, z_1ne, z_lt64, z_02, z_03, z_04, z_05, z_12, z_13, z_14, z_15, z_20, z_21, z_23, z_24, z_25, z_30, z_31, z_32, z_34, z_35, z_40, z_41, z_42, z_43, z_45, z_50, z_51, z_52, z_53, z_54]
end Seeks
