/-! MAKE: the model, the call. Made by wip/whole/math/89e.py. -/
section Make4
variable {B B1 : am_A} {i i1 : Nat → Nat → Int32} {σ σ' : Sg} {w : Nat → Int32} {L j d b m n c s T p k : Nat} {x y z : Int32} {f : Nat → Nat}
/-- the world while the model gathers what the new mast has -/
abbrev npM (w : Nat → Int32) (T k : Nat) : Nat → Int32 := npf 2 2 (lM w T) (tM w T) 0 (w (461 + 18 * mf w (fb T) + 5)) (dyf w (mf w) T k (w (461 + 18 * mf w (fb T) + 6))) (rtf w (mf w) T k) (w (461 + 18 * mf w (fb T) + 9)) (w (461 + 18 * mf w (fb T) + 10)) (w 0) 0
theorem MRs_pre {i' : Nat → Nat → Int32} {X : am_X} {V : Option Value} {t : Int32} (hi : ∀ q k, (q < 874 ∨ 893 ≤ q) → i' q k = i q k) (h : MRs B i' σ' X V t) : MRs B i σ' X V t := by
  obtain ⟨B2, i2, a, b, c, e, f⟩ := h
  exact ⟨B2, i2, a, b, c, e, fun q k hq => (f q k hq).trans (hi q k hq)⟩
theorem m_joinS {c : Nat} (hM : Md B) (hW : Wd w) (hc : w 460 = Int32.ofNat c) (c6 : c < 120) (hT : T < 2 ^ mc w) (e3 : i 874 23 = Int32.ofNat (mc w)) (e7 : ∀ k, k < mc w → i 886 k = Int32.ofNat (mf w k)) (hk : k < mc w) (hj : ∀ s, s < 12042 → i 875 s = pcw (usw w (mf w) T k) c (npM w T k) s) : ∃ i', am_fx am_P (d + 3) 94 156 [some (.ref 874), none, none, some (.int (Int32.ofNat T)), none, some (.int (Int32.ofNat c)), some (.int (Int32.ofNat k))] [] (am_wI B i) = am_fx am_P (d + 3) 94 156 [some (.ref 874), none, none, some (.int (Int32.ofNat T)), none, some (.int (Int32.ofNat c)), some (.int (Int32.ofNat (k + 1)))] [] (am_wI B i') ∧ (∀ s, s < 12042 → i' 875 s = pcw (usw w (mf w) T (k + 1)) c (npM w T (k + 1)) s) ∧ ∀ q k, q ≠ 875 → i' q k = i q k := by
  obtain ⟨m8, hm⟩ := mf_ok hW
  obtain ⟨p1, p2⟩ := p2_le m8
  have hcn := cn_of hc (by omega)
  have hmk := (hm k hk).1
  have hf : ∀ r, r < mc w → mf w r < 120 := fun r hr => by have := (hm r hr).1; omega
  have e7k := e7 k hk
  have eb := zb_ts0 T (by omega) k (by omega)
  have hk2 : Int32.ofNat k < Int32.ofNat (mc w) := by rw [z_lt (by omega) (by omega)]; exact hk
  have zk : Int32.ofNat k + 1 = Int32.ofNat (k + 1) := z_add k 1
  by_cases g : bt2 T k
  rotate_left
  · have eb := eb.mpr g
    refine ⟨i, ?_, fun s hs => ?_, fun _ _ _ => rfl⟩
    · rw [bk_94_156]
      generalize mc w = M at *
      simp (maxSteps := 1000000) (disch := omega) only [e3, hk2, eb, zk, hM, y_ckd, y_wII, ↓reduceIte]
    · rw [usw_s, if_neg g, hj s hs]
      unfold npM
      rw [dyf_s, rtf_s, show fdy w (mf w) T k _ = _ from if_neg g, show frt w (mf w) T k _ = _ from if_neg g]
  have eb : ¬ (Int32.ofNat T >>> (Int32.ofNat k &&& 31)) &&& 1 = 0 := fun q => (eb.mp q) g
  have d6 : i 875 (461 + 18 * c + 6) = dyf w (mf w) T k (w (461 + 18 * mf w (fb T) + 6)) := (hj _ (by omega)).trans (pcw_at (by omega))
  have d7 : i 875 (461 + 18 * c + 7) = rtf w (mf w) T k := (hj _ (by omega)).trans (pcw_at (by omega))
  have s6 : i 875 (461 + 18 * mf w k + 6) = w (461 + 18 * mf w k + 6) := by rw [hj _ (by omega), pcw_ne (by omega), usw_r (by omega) (by omega)]
  have s7 : i 875 (461 + 18 * mf w k + 7) = w (461 + 18 * mf w k + 7) := by rw [hj _ (by omega), pcw_ne (by omega), usw_r (by omega) (by omega)]
  have ed : dyf w (mf w) T (k + 1) (w (461 + 18 * mf w (fb T) + 6)) = mn (dyf w (mf w) T k (w (461 + 18 * mf w (fb T) + 6))) (w (461 + 18 * mf w k + 6)) := (dyf_s).trans (if_pos g)
  have er : rtf w (mf w) T (k + 1) = mx (rtf w (mf w) T k) (w (461 + 18 * mf w k + 7)) := (rtf_s).trans (if_pos g)
  refine ⟨am_up2 (am_up2 (am_up2 i 875 (461 + 18 * c + 6) (dyf w (mf w) T (k + 1) (w (461 + 18 * mf w (fb T) + 6)))) 875 (461 + 18 * c + 7) (rtf w (mf w) T (k + 1))) 875 (461 + 18 * mf w k + 1) 5, ?_, fun s hs => ?_, fun q m hq => by simp (disch := omega) only [y_up2]⟩
  · rw [bk_94_156, ed, er]
    generalize dyf w (mf w) T k (w (461 + 18 * mf w (fb T) + 6)) = u1 at *
    generalize rtf w (mf w) T k = u2 at *
    generalize mf w k = p at *
    generalize mc w = M at *
    simp (maxSteps := 1000000) (disch := omega) only [(fun d x0 x3 x5 x6 B i => bk_94_209 d x0 x3 x5 x6 (am_wI B i)), (fun d x0 x3 x5 x6 B i => bk_94_241 d x0 x3 x5 x6 (am_wI B i)), (fun d x0 x1 x2 B i => bk_24_0 d x0 x1 x2 (am_wI B i)), (fun d x0 x1 B i => bk_23_0 d x0 x1 (am_wI B i)), (fun d x0 x1 x2 x3 B i => bk_25_0 d x0 x1 x2 x3 (am_wI B i)),  e3, e7k, hk2, eb, d6, d7, s6, s7, c_min, c_max, zk, hM, y_ckd, y_ck2d, y_ond, y_onn, y_oI, y_oIx, y_oJ, y_oV, y_oVx, y_oR, y_oRn, y_oRx, y_b0, y_b1, y_bi, y_bid, y_wIK, y_wIL, y_wII, y_wIJ, y_wIR, y_wIN, y_wIw, y_sI, ↓reduceIte, Nat.reduceEqDiff, eq_self, true_or, or_true, false_or, or_false, and_true, true_and, false_and, and_false, not_true, not_false_eq_true, tf_T, tf_F, y_up1, y_up2, y_xx, y_nx, y_sJ, y_sR, Int32.reduceLT, y_nxK, y_nxL, y_nxR, y_sJK, y_sJL, y_sJR, y_sJN, y_sRK, y_sRL, y_sRN, Nat.add_zero, z_nat, z_lit, z_lit0, z_lit1, z_in0, z_in1, z_addl0, z_lt, z_ltl, z_llt, z_inj, z_injl, z_add, z_addl, z_ladd, z_mul, z_mull, z_lmul, z_neg, z_negl, z_in, z_inl, z_ltT, z_ltF, z_eqF, z_10, z_01, z_litne, z_ne0, z_0ne, z_ne1, z_1ne, z_lt64, z_02, z_03, z_04, z_05, z_12, z_13, z_14, z_15, z_20, z_21, z_23, z_24, z_25, z_30, z_31, z_32, z_34, z_35, z_40, z_41, z_42, z_43, z_45, z_50, z_51, z_52, z_53, z_54]
  · rw [usw_s, if_pos g]
    by_cases e : 461 + 18 * c ≤ s ∧ s < 461 + 18 * c + 18
    · obtain ⟨r, rfl⟩ : ∃ r, s = 461 + 18 * c + r := ⟨s - (461 + 18 * c), by omega⟩
      have hr : r < 18 := by omega
      have hjr := hj (461 + 18 * c + r) hs
      rw [pcw_at hr] at hjr ⊢
      by_cases r6 : r = 6
      · subst r6
        simp (disch := omega) only [y_up1, y_up2]
        rfl
      · by_cases r7 : r = 7
        · subst r7
          simp (disch := omega) only [y_up1, y_up2]
          rfl
        · simp (disch := omega) only [y_up2]
          rw [hjr]
          unfold npM npf
          rw [if_neg r6, if_neg r7, if_neg r6, if_neg r7]
    · by_cases e2 : s = 461 + 18 * mf w k + 1
      · subst e2
        rw [y_up1 rfl rfl, pcw_ne (by omega), wu_at rfl]
      · simp (disch := omega) only [y_up2]
        rw [hj s hs]
        unfold pcw
        rw [if_neg e, if_neg e, wu_ne e2]
theorem m_make_x0 (h : MR B i σ) (hc : isc σ.1 2621 8) (g : ¬ (¬ x < 0 ∧ x < σ.1 2621)) : MRs B i σ (am_fx am_P (d + 150) 94 0 [some (.ref 874), some (.int x), some (.int y), none, none, none, none] [] (am_wI B i)) (some (.int 0)) 1 := by
  refine MRs_x h ?_
  have hM : Md B := h.1.1
  have e5 := h.2.1 2621 (by omega)
  rw [bk_94_0]
  simp (maxSteps := 1000000) (disch := omega) only [bk_71_0, bk_69_0, m_in, z_pred hc.1, Classical.not_not, g, m_thr1 hM, e5, hM, y_ckd, y_ck2d, y_ond, y_onn, y_oI, y_oIx, y_oJ, y_oV, y_oVx, y_oR, y_oRn, y_oRx, y_b0, y_b1, y_bi, y_bid, y_wIK, y_wIL, y_wII, y_wIJ, y_wIR, y_wIN, y_wIw, y_sI, ↓reduceIte, Nat.reduceEqDiff, eq_self, true_or, or_true, false_or, or_false, and_true, true_and, false_and, and_false, not_true, not_false_eq_true, tf_T, tf_F, y_up1, y_up2, y_xx, y_nx, y_sJ, y_sR, Int32.reduceLT, y_nxK, y_nxL, y_nxR, y_sJK, y_sJL, y_sJR, y_sJN, y_sRK, y_sRL, y_sRN, Nat.add_zero, z_nat, z_lit, z_lit0, z_lit1, z_in0, z_in1, z_addl0, z_lt, z_ltl, z_llt, z_inj, z_injl, z_add, z_addl, z_ladd, z_mul, z_mull, z_lmul, z_neg, z_negl, z_in, z_inl, z_ltT, z_ltF, z_eqF, z_10, z_01, z_litne, z_ne0, z_0ne, z_ne1, z_1ne, z_lt64, z_02, z_03, z_04, z_05, z_12, z_13, z_14, z_15, z_20, z_21, z_23, z_24, z_25, z_30, z_31, z_32, z_34, z_35, z_40, z_41, z_42, z_43, z_45, z_50, z_51, z_52, z_53, z_54]
theorem m_make_x1 (h : MR B i σ) (hW : Wd σ.1) (hs : s < cn σ.1 2621) (g : ¬ (¬ y < 0 ∧ y < σ.1 (2622 + 49 * s + 8))) : MRs B i σ (am_fx am_P (d + 150) 94 0 [some (.ref 874), some (.int (Int32.ofNat s)), some (.int y), none, none, none, none] [] (am_wI B i)) (some (.int 0)) 1 := by
  refine MRs_x h ?_
  have hM : Md B := h.1.1
  have hc := hW.1.2.2.2.1
  have h8 := hc.2
  obtain ⟨-, -, -, -, -, -, -, hnc, -⟩ := hW.2.2.2.2.1.1 s hs (by omega)
  have t3 : (Int32.ofNat s < 0) = False := z_neg (by omega)
  have t4 := eq_true (ck_nat hc (by omega) hs).2
  have e5 := h.2.1 2621 (by omega)
  have e6 := h.2.1 (2622 + 49 * s + 8) (by omega)
  rw [bk_94_0]
  simp (maxSteps := 1000000) (disch := omega) only [bk_71_0, bk_69_0, (fun d x0 x1 x2 B i => bk_67_0 d x0 x1 x2 (am_wI B i)), (fun d x0 x1 B i => bk_66_0 d x0 x1 (am_wI B i)), m_in, z_pred hc.1, z_pred hnc.1, Classical.not_not, t3, t4, g, m_thr1 hM, e5, e6, hM, y_ckd, y_ck2d, y_ond, y_onn, y_oI, y_oIx, y_oJ, y_oV, y_oVx, y_oR, y_oRn, y_oRx, y_b0, y_b1, y_bi, y_bid, y_wIK, y_wIL, y_wII, y_wIJ, y_wIR, y_wIN, y_wIw, y_sI, ↓reduceIte, Nat.reduceEqDiff, eq_self, true_or, or_true, false_or, or_false, and_true, true_and, false_and, and_false, not_true, not_false_eq_true, tf_T, tf_F, y_up1, y_up2, y_xx, y_nx, y_sJ, y_sR, Int32.reduceLT, y_nxK, y_nxL, y_nxR, y_sJK, y_sJL, y_sJR, y_sJN, y_sRK, y_sRL, y_sRN, Nat.add_zero, z_nat, z_lit, z_lit0, z_lit1, z_in0, z_in1, z_addl0, z_lt, z_ltl, z_llt, z_inj, z_injl, z_add, z_addl, z_ladd, z_mul, z_mull, z_lmul, z_neg, z_negl, z_in, z_inl, z_ltT, z_ltF, z_eqF, z_10, z_01, z_litne, z_ne0, z_0ne, z_ne1, z_1ne, z_lt64, z_02, z_03, z_04, z_05, z_12, z_13, z_14, z_15, z_20, z_21, z_23, z_24, z_25, z_30, z_31, z_32, z_34, z_35, z_40, z_41, z_42, z_43, z_45, z_50, z_51, z_52, z_53, z_54]
theorem m_make0 (h : MR B i σ) (hW : Wd σ.1) (hs : s < cn σ.1 2621) (hn : n < cn σ.1 (2622 + 49 * s + 8)) (g : msv σ.1 s n = 0 ∨ cn σ.1 460 = 120) : MRs B i σ (am_fx am_P (d + 151) 94 0 [some (.ref 874), some (.int (Int32.ofNat s)), some (.int (Int32.ofNat n)), none, none, none, none] [] (am_wI B i)) (some (.int (-1))) 0 := by
  have hM : Md B := h.1.1
  have hc := hW.1.2.2.2.1
  have h8 := hc.2
  have h4 := hW.1.2.2.1
  obtain ⟨-, -, -, -, -, -, -, hnc, -⟩ := hW.2.2.2.2.1.1 s hs (by omega)
  have n8 := hnc.2
  have e5 := h.2.1 2621 (by omega)
  have e6 := h.2.1 (2622 + 49 * s + 8) (by omega)
  have t1 : (Int32.ofNat n < 0) = False := z_neg (by omega)
  have t2 := eq_true (ck_nat hnc (by omega) hn).2
  have t3 : (Int32.ofNat s < 0) = False := z_neg (by omega)
  have t4 := eq_true (ck_nat hc (by omega) hs).2
  have hw := up_o (q := 874) (k := 0) (v := 0) (by omega) h.2.1
  obtain ⟨i1, E1, f1, -⟩ := m_mset (d := d + 147) hM hw hW hs hn
  have e46 : i1 875 460 = Int32.ofNat (cn σ.1 460) := (f1 _ _ (by omega) (by omega)).trans ((hw _ (by omega)).trans h4.1)
  refine MRs_s (i' := i1) h ?_ (by rw [f1 _ _ (by omega) (by omega), y_up1 rfl rfl]) fun q k h1 h2 => by rw [f1 _ _ (by omega) (by omega), y_up2 (by omega)]
  rw [bk_94_0]
  by_cases q : msv σ.1 s n = 0
  · rw [q, show fv 0 = -1 from rfl] at E1
    have lm : ((-1 : Int32) < 0) = True := eq_true (by decide)
    simp (maxSteps := 1000000) (disch := omega) only [bk_71_0, bk_69_0, (fun d x0 x1 x2 B i => bk_67_0 d x0 x1 x2 (am_wI B i)), (fun d x0 x1 B i => bk_66_0 d x0 x1 (am_wI B i)), m_nAt, m_in, z_pred hc.1, z_pred hnc.1, Classical.not_not, t1, t2, t3, t4, m_thr0, e5, e6, E1, lm, hM, y_ckd, y_ck2d, y_ond, y_onn, y_oI, y_oIx, y_oJ, y_oV, y_oVx, y_oR, y_oRn, y_oRx, y_b0, y_b1, y_bi, y_bid, y_wIK, y_wIL, y_wII, y_wIJ, y_wIR, y_wIN, y_wIw, y_sI, ↓reduceIte, Nat.reduceEqDiff, eq_self, true_or, or_true, false_or, or_false, and_true, true_and, false_and, and_false, not_true, not_false_eq_true, tf_T, tf_F, y_up1, y_up2, y_xx, y_nx, y_sJ, y_sR, Int32.reduceLT, y_nxK, y_nxL, y_nxR, y_sJK, y_sJL, y_sJR, y_sJN, y_sRK, y_sRL, y_sRN, Nat.add_zero, z_nat, z_lit, z_lit0, z_lit1, z_in0, z_in1, z_addl0, z_lt, z_ltl, z_llt, z_inj, z_injl, z_add, z_addl, z_ladd, z_mul, z_mull, z_lmul, z_neg, z_negl, z_in, z_inl, z_ltT, z_ltF, z_eqF, z_10, z_01, z_litne, z_ne0, z_0ne, z_ne1, z_1ne, z_lt64, z_02, z_03, z_04, z_05, z_12, z_13, z_14, z_15, z_20, z_21, z_23, z_24, z_25, z_30, z_31, z_32, z_34, z_35, z_40, z_41, z_42, z_43, z_45, z_50, z_51, z_52, z_53, z_54]
  · have q1 := g.resolve_left q
    obtain ⟨v1, v2, v3, v4⟩ := fv_T q hW
    have hm8 := (mf_ok hW).1
    obtain ⟨p1, p2⟩ := p2_le hm8
    rw [v1] at E1
    have lm : ¬ Int32.ofNat (msv σ.1 s n) < 0 := by rw [z_neg (by omega)]; exact id
    rw [q1] at e46
    have lq : (Int32.ofNat 120 : Int32) = 120 := rfl
    generalize msv σ.1 s n = T at *
    simp (maxSteps := 1000000) (disch := omega) only [bk_71_0, bk_69_0, (fun d x0 x1 x2 B i => bk_67_0 d x0 x1 x2 (am_wI B i)), (fun d x0 x1 B i => bk_66_0 d x0 x1 (am_wI B i)), m_nAt, m_in, z_pred hc.1, z_pred hnc.1, Classical.not_not, t1, t2, t3, t4, m_thr0, e5, e6, E1, lm, e46, eq_true lq, hM, y_ckd, y_ck2d, y_ond, y_onn, y_oI, y_oIx, y_oJ, y_oV, y_oVx, y_oR, y_oRn, y_oRx, y_b0, y_b1, y_bi, y_bid, y_wIK, y_wIL, y_wII, y_wIJ, y_wIR, y_wIN, y_wIw, y_sI, ↓reduceIte, Nat.reduceEqDiff, eq_self, true_or, or_true, false_or, or_false, and_true, true_and, false_and, and_false, not_true, not_false_eq_true, tf_T, tf_F, y_up1, y_up2, y_xx, y_nx, y_sJ, y_sR, Int32.reduceLT, y_nxK, y_nxL, y_nxR, y_sJK, y_sJL, y_sJR, y_sJN, y_sRK, y_sRL, y_sRN, Nat.add_zero, z_nat, z_lit, z_lit0, z_lit1, z_in0, z_in1, z_addl0, z_lt, z_ltl, z_llt, z_inj, z_injl, z_add, z_addl, z_ladd, z_mul, z_mull, z_lmul, z_neg, z_negl, z_in, z_inl, z_ltT, z_ltF, z_eqF, z_10, z_01, z_litne, z_ne0, z_0ne, z_ne1, z_1ne, z_lt64, z_02, z_03, z_04, z_05, z_12, z_13, z_14, z_15, z_20, z_21, z_23, z_24, z_25, z_30, z_31, z_32, z_34, z_35, z_40, z_41, z_42, z_43, z_45, z_50, z_51, z_52, z_53, z_54]
theorem m_make {c : Nat} (h : MR B i σ) (hW : Wd σ.1) (hs : s < cn σ.1 2621) (hn : n < cn σ.1 (2622 + 49 * s + 8)) (g : ¬ msv σ.1 s n = 0) (hcc : σ.1 460 = Int32.ofNat c) (c6 : c < 120) : MRs B i (mkw σ.1 (msv σ.1 s n) c, σ.1, σ.2.2.1, true, σ.2.2.2.2) (am_fx am_P (d + 151) 94 0 [some (.ref 874), some (.int (Int32.ofNat s)), some (.int (Int32.ofNat n)), none, none, none, none] [] (am_wI B i)) (some (.int (Int32.ofNat c))) 0 := by
  have hM : Md B := h.1.1
  have hc := hW.1.2.2.2.1
  have h8 := hc.2
  obtain ⟨-, -, -, -, -, -, -, hnc, -⟩ := hW.2.2.2.2.1.1 s hs (by omega)
  have n8 := hnc.2
  have e5 := h.2.1 2621 (by omega)
  have e6 := h.2.1 (2622 + 49 * s + 8) (by omega)
  have t1 : (Int32.ofNat n < 0) = False := z_neg (by omega)
  have t2 := eq_true (ck_nat hnc (by omega) hn).2
  have t3 : (Int32.ofNat s < 0) = False := z_neg (by omega)
  have t4 := eq_true (ck_nat hc (by omega) hs).2
  have hw := up_o (q := 874) (k := 0) (v := 0) (by omega) h.2.1
  obtain ⟨v1, v2, v3, v4⟩ := fv_T g hW
  obtain ⟨hm8, hmm⟩ := mf_ok hW
  obtain ⟨p1, p2⟩ := p2_le hm8
  obtain ⟨i1, E1, f1, g3, g7⟩ := m_mset (d := d + 147) hM hw hW hs hn
  rw [v1] at E1
  have lm : ¬ Int32.ofNat (msv σ.1 s n) < 0 := by rw [z_neg (by omega)]; exact id
  have e46 : i1 875 460 = Int32.ofNat c := (f1 _ _ (by omega) (by omega)).trans ((hw _ (by omega)).trans hcc)
  have lq : ¬ Int32.ofNat c = 120 := by rw [show (120 : Int32) = Int32.ofNat 120 from rfl, z_inj (by omega) (by omega)]; omega
  have h1 : MR B i1 σ := MR_fr h (Le.rf B) fun q k hq => by rw [f1 _ _ (by omega) (by omega), y_up2 (by omega)]
  obtain ⟨i2, E2, hD, hf⟩ := m_deed (d := d + 150) h1
  have z0 : i2 874 0 = 0 := by rw [hf _ _ (by omega) (by omega), f1 _ _ (by omega) (by omega), y_up1 rfl rfl]
  have g32 : i2 874 23 = Int32.ofNat (mc σ.1) := (hf _ _ (by omega) (by omega)).trans g3
  have g72 : ∀ k, k < mc σ.1 → i2 886 k = Int32.ofNat (mf σ.1 k) := fun k hk => (hf _ _ (by omega) (by omega)).trans (g7 k hk)
  generalize msv σ.1 s n = T at *
  obtain ⟨i3, E3, l3o, u3o, f3⟩ := m_joins (B := B) (i := i2) (d := d + 148) (T := T) hM hD.2.1 hW (by omega) g32 g72
  have hb := pcn_bit (mc σ.1) (by omega) T v3 v2
  have u3 : i3 874 25 = tM σ.1 T := u3o.trans (jt_ok hW hb).symm
  have l3 : i3 874 24 = lM σ.1 T := l3o
  clear l3o u3o
  have hw3 : ∀ z, z < 12042 → i3 875 z = σ.1 z := fun z hz => (f3 _ _ (by omega)).trans (hD.2.1 z hz)
  have g33 := (f3 874 23 (by omega)).trans g32
  have g73 : ∀ k, k < mc σ.1 → i3 886 k = Int32.ofNat (mf σ.1 k) := fun k hk => (f3 _ _ (by omega)).trans (g72 k hk)
  obtain ⟨b1, b2, b3⟩ := fb_ok (c := mc σ.1) (by omega) v3 v2
  have hfb := (hmm (fb T) b1).1
  have g7f := g73 (fb T) b1
  have hcn := cn_of hcc (by omega)
  have hf1 : ∀ r, r < mc σ.1 → mf σ.1 r < 120 := fun r hr => by have := (hmm r hr).1; omega
  have w5 := hw3 (461 + 18 * mf σ.1 (fb T) + 5) (by omega)
  have w9 := hw3 (461 + 18 * mf σ.1 (fb T) + 9) (by omega)
  obtain ⟨i4, E4, hj4, f4⟩ := m_begins (B := B) (i := i3) (w := σ.1) (d := d + 147) (x := 2) (y := σ.1 (461 + 18 * mf σ.1 (fb T) + 5)) (z := lM σ.1 T) (u := tM σ.1 T) (v := 0) (t := σ.1 (461 + 18 * mf σ.1 (fb T) + 9)) hM hw3 hcc c6
  have q10 : i4 875 (461 + 18 * mf σ.1 (fb T) + 10) = σ.1 (461 + 18 * mf σ.1 (fb T) + 10) := by rw [hj4 _ (by omega), pcw_ne (by omega)]
  have q6 : i4 875 (461 + 18 * mf σ.1 (fb T) + 6) = σ.1 (461 + 18 * mf σ.1 (fb T) + 6) := by rw [hj4 _ (by omega), pcw_ne (by omega)]
  have q0 : i4 875 0 = σ.1 0 := by rw [hj4 _ (by omega), pcw_ne (by omega)]
  have hj5 : ∀ s, s < 12042 → am_up2 (am_up2 (am_up2 (am_up2 i4 875 (461 + 18 * c + 10) (σ.1 (461 + 18 * mf σ.1 (fb T) + 10))) 875 (461 + 18 * c + 1) 2) 875 (461 + 18 * c + 14) (σ.1 0)) 875 (461 + 18 * c + 6) (σ.1 (461 + 18 * mf σ.1 (fb T) + 6)) 875 s = pcw (usw σ.1 (mf σ.1) T 0) c (npM σ.1 T 0) s := fun s hs => by
    rw [usw_0]
    by_cases e : 461 + 18 * c ≤ s ∧ s < 461 + 18 * c + 18
    · obtain ⟨k, rfl⟩ : ∃ k, s = 461 + 18 * c + k := ⟨s - (461 + 18 * c), by omega⟩
      have hk : k < 18 := by omega
      have hjk := hj4 (461 + 18 * c + k) hs
      rw [pcw_at hk] at hjk ⊢
      have h : k = 0 ∨ k = 1 ∨ k = 2 ∨ k = 3 ∨ k = 4 ∨ k = 5 ∨ k = 6 ∨ k = 7 ∨ k = 8 ∨ k = 9 ∨ k = 10 ∨ k = 11 ∨ k = 12 ∨ k = 13 ∨ k = 14 ∨ k = 15 ∨ k = 16 ∨ k = 17 := by omega
      rcases h with rfl | rfl | rfl | rfl | rfl | rfl | rfl | rfl | rfl | rfl | rfl | rfl | rfl | rfl | rfl | rfl | rfl | rfl <;> simp (disch := omega) only [y_up1, y_up2] <;> first | rfl | exact hjk
    · simp (disch := omega) only [y_up2]
      rw [hj4 s hs]
      unfold pcw
      rw [if_neg e, if_neg e]
  obtain ⟨i5, E5, hj6, f5⟩ := lp_inv (fun k j => am_fx am_P (d + 151) 94 156 [some (.ref 874), none, none, some (.int (Int32.ofNat T)), none, some (.int (Int32.ofNat c)), some (.int (Int32.ofNat k))] [] (am_wI B j)) (fun k j => (∀ s, s < 12042 → j 875 s = pcw (usw σ.1 (mf σ.1) T k) c (npM σ.1 T k) s) ∧ ∀ q k, q ≠ 875 → j q k = i4 q k) (mc σ.1) (fun k j hk hI => by
    obtain ⟨hj, fj⟩ := hI
    obtain ⟨j', E', hj', fj'⟩ := m_joinS (B := B) (i := j) (d := d + 148) hM hW hcc c6 v3 ((fj _ _ (by omega)).trans ((f4 _ _ (by omega)).trans g33)) (fun k hk => (fj _ _ (by omega)).trans ((f4 _ _ (by omega)).trans (g73 k hk))) hk hj
    exact ⟨j', E', hj', fun q k hq => (fj' q k hq).trans (fj q k hq)⟩) _ ⟨hj5, fun q k hq => by simp (disch := omega) only [y_up2]⟩
  have z5 : i5 874 0 = 0 := by rw [f5 _ _ (by omega), f4 _ _ (by omega), f3 _ _ (by omega)]; exact z0
  have E6 : am_fx am_P (d + 151) 94 156 [some (.ref 874), none, none, some (.int (Int32.ofNat T)), none, some (.int (Int32.ofNat c)), some (.int (Int32.ofNat (mc σ.1)))] [] (am_wI B i5) = some (.inl (some (.int (Int32.ofNat c))), am_wI B i5) := by
    have e3 := (f5 874 23 (by omega)).trans ((f4 _ _ (by omega)).trans g33)
    rw [bk_94_156]
    generalize mc σ.1 = M at *
    simp (maxSteps := 1000000) (disch := omega) only [e3, Int32.lt_irrefl, hM, y_ckd, y_wII, ↓reduceIte]
  refine MRs_pre (i' := i2) (fun q k hq => by rw [hf _ _ (by omega) (by omega), f1 _ _ (by omega) (by omega), y_up2 (by omega)]) (MRs_w (i' := i5) hD ?_ z5 hj6 fun q k h1 h2 => by rw [f5 _ _ (by omega), f4 _ _ (by omega), f3 _ _ (by omega)])
  have cn8 := c_ntz (T := T) (d := d + 150) (A := am_wI B i3) (by omega) v2
  rw [bk_94_0]
  generalize hpf : mf σ.1 (fb T) = pf at *
  simp (maxSteps := 1000000) (disch := omega) only [bk_71_0, bk_69_0, (fun d x0 x1 x2 B i => bk_67_0 d x0 x1 x2 (am_wI B i)), (fun d x0 x1 B i => bk_66_0 d x0 x1 (am_wI B i)), m_nAt, m_in, z_pred hc.1, z_pred hnc.1, Classical.not_not, (fun d x0 B i => bk_13_0 d x0 (am_wI B i)), (fun d x0 x3 x4 x5 B i => bk_94_101 d x0 x3 x4 x5 (am_wI B i)), (fun d x0 x3 x4 x5 B i => bk_94_137 d x0 x3 x4 x5 (am_wI B i)), (fun d x0 x1 x2 B i => bk_24_0 d x0 x1 x2 (am_wI B i)), (fun d x0 x1 B i => bk_23_0 d x0 x1 (am_wI B i)), (fun d x0 x1 x2 x3 B i => bk_25_0 d x0 x1 x2 x3 (am_wI B i)), t1, t2, t3, t4, m_thr0, e5, e6, E1, lm, e46, lq, E2, E3, cn8, g7f, w5, w9, l3, u3, E4, q10, q0, q6, hM, y_ckd, y_ck2d, y_ond, y_onn, y_oI, y_oIx, y_oJ, y_oV, y_oVx, y_oR, y_oRn, y_oRx, y_b0, y_b1, y_bi, y_bid, y_wIK, y_wIL, y_wII, y_wIJ, y_wIR, y_wIN, y_wIw, y_sI, ↓reduceIte, Nat.reduceEqDiff, eq_self, true_or, or_true, false_or, or_false, and_true, true_and, false_and, and_false, not_true, not_false_eq_true, tf_T, tf_F, y_up1, y_up2, y_xx, y_nx, y_sJ, y_sR, Int32.reduceLT, y_nxK, y_nxL, y_nxR, y_sJK, y_sJL, y_sJR, y_sJN, y_sRK, y_sRL, y_sRN, Nat.add_zero, z_nat, z_lit, z_lit0, z_lit1, z_in0, z_in1, z_addl0, z_lt, z_ltl, z_llt, z_inj, z_injl, z_add, z_addl, z_ladd, z_mul, z_mull, z_lmul, z_neg, z_negl, z_in, z_inl, z_ltT, z_ltF, z_eqF, z_10, z_01, z_litne, z_ne0, z_0ne, z_ne1, z_1ne, z_lt64, z_02, z_03, z_04, z_05, z_12, z_13, z_14, z_15, z_20, z_21, z_23, z_24, z_25, z_30, z_31, z_32, z_34, z_35, z_40, z_41, z_42, z_43, z_45, z_50, z_51, z_52, z_53, z_54]
  exact E5.trans E6
theorem k_make (h : Sim B i σ) (hs : Sc B i L j) (hO : am_K B 892 = 22 ∧ am_L B 892 = 1) : Stq B i d 1897 j := by
  have hc := h.2.2.1.1.2.2.2.1
  have h8 := hc.2
  have h4 := h.2.2.1.1.2.2.1
  have h120 := h4.2
  by_cases g : ¬ i 0 (j + 1) < 0 ∧ i 0 (j + 1) < σ.1 2621
  rotate_left
  · exact kx_23_1 h hs hO (f_make_x0 (d := d + 48) h.1 g) fun B0 i0 h0 => m_make_x0 (d := d + 49) h0 hc g
  obtain ⟨s, e, hq⟩ := nat_ck hc (by omega) g
  obtain ⟨-, -, -, -, -, -, -, hnc, -⟩ := h.2.2.1.2.2.2.2.1.1 s hq (by omega)
  by_cases g1 : ¬ i 0 (j + 2) < 0 ∧ i 0 (j + 2) < σ.1 (2622 + 49 * s + 8)
  rotate_left
  · exact kx_23_1 h hs hO (by rw [e]; exact f_make_x1 (d := d + 48) h.1 h.2.2.1 hq g1) fun B0 i0 h0 => by rw [e]; exact m_make_x1 (d := d + 49) h0 h.2.2.1 hq g1
  obtain ⟨n, e2, hn⟩ := nat_ck hnc (by omega) g1
  by_cases g2 : msv σ.1 s n = 0 ∨ cn σ.1 460 = 120
  · exact kk_23 h hs hO h.2.2 (by rw [e, e2]; exact f_make0 (d := d + 48) h.1 h.2.2.1 hq hn g2) fun B0 i0 h0 => by rw [e, e2]; exact m_make0 (d := d + 48) h0 h.2.2.1 hq hn g2
  · obtain ⟨g3, g4⟩ := not_or.mp g2
    have c6 : cn σ.1 460 < 120 := by omega
    obtain ⟨v1, v2, v3, v4⟩ := fv_T g3 h.2.2.1
    exact kk_23 (σ' := (mkw σ.1 (msv σ.1 s n) (cn σ.1 460), σ.1, σ.2.2.1, true, σ.2.2.2.2)) h hs hO ⟨Wd_make h.2.2.1 h4.1 c6 v3 v2, fun _ => h.2.2.1, h.2.2.2.2.1, h.2.2.2.2.2⟩ (by rw [e, e2]; exact f_make (d := d + 48) h.1 h.2.2.1 hq hn g3 h4.1 c6) fun B0 i0 h0 => by rw [e, e2]; exact m_make (d := d + 48) h0 h.2.2.1 hq hn g3 h4.1 c6
end Make4
