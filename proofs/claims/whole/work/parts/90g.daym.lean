/-! THE SHIPS AND THE GANGS OF A DAY, THE MODEL: made by wip/whole/math/90g.py. -/
section DayM
variable {B : am_A} {i j : Nat → Nat → Int32} {w v : Nat → Int32} {d b q n p s k g : Nat} {x y z D : Int32} {t : Option Nat}
theorem txi_S (h : ∀ z, z = 0 ∨ 3541 ≤ z → v z = w z) : txi v (v 0) (cn v 3541) = txi w (w 0) (cn w 3541) := by
  have e : cn v 3541 = cn w 3541 := by unfold cn; rw [h 3541 (by omega)]
  rw [h 0 (by omega), e]
  exact txi_fr _ fun k _ => h _ (by omega)
theorem m_ships (hM : Md B) (hw : ∀ z, z < 12042 → i 875 z = w z) (hW : Wd w) (ht : txi w (w 0) (cn w 3541) = t) : ∃ j, am_fx am_P (d + 5) 120 111 [some (.ref 874), some (.int 0), none] [] (am_wI B i) = am_fx am_P (d + 5) 120 156 [some (.ref 874), some (.int 0), none] [] (am_wI B j) ∧ (∀ z, z < 12042 → j 875 z = itr (opS t) (cn w 2621) w z) ∧ Wd (itr (opS t) (cn w 2621) w) ∧ txi (itr (opS t) (cn w 2621) w) (itr (opS t) (cn w 2621) w 0) (cn (itr (opS t) (cn w 2621) w) 3541) = t ∧ cn (itr (opS t) (cn w 2621) w) 3019 = cn w 3019 ∧ ∀ q k, q ≠ 875 → q ≠ 880 → q ≠ 881 → q ≠ 882 → j q k = i q k := by
  have h21 := hW.1.2.2.2.1
  have n21 := h21.2
  obtain ⟨⟨v, j⟩, E, hv, hj, hWv, hT, ⟨c2, c3⟩, fo⟩ := lp_inv (fun k (a : (Nat → Int32) × (Nat → Nat → Int32)) => am_fx am_P (d + 5) 120 111 [some (.ref 874), some (.int (Int32.ofNat k)), none] [] (am_wI B a.2)) (fun k a => a.1 = itr (opS t) k w ∧ (∀ z, z < 12042 → a.2 875 z = a.1 z) ∧ Wd a.1 ∧ txi a.1 (a.1 0) (cn a.1 3541) = t ∧ (cn a.1 2621 = cn w 2621 ∧ cn a.1 3019 = cn w 3019) ∧ ∀ q k, q ≠ 875 → q ≠ 880 → q ≠ 881 → q ≠ 882 → a.2 q k = i q k) (cn w 2621) (fun k a hk hI => by
    obtain ⟨v, j⟩ := a
    obtain ⟨hv, hj, hWv, hT, ⟨c2, c3⟩, fo⟩ := hI
    dsimp only at hv hj hWv hT c2 c3 fo
    have hc := hWv.1.2.2.2.1
    have h460 := hWv.1.2.2.1
    obtain ⟨hn, hvv⟩ := ShW_v hWv (by omega : k < cn v 2621) (by omega)
    have hst : itr (opS t) (k + 1) w = opS t k v := by rw [hv]; rfl
    have e21 : j 875 2621 = Int32.ofNat (cn w 2621) := ((hj 2621 (by omega)).trans hc.1).trans (by rw [c2])
    have e0 := hj (2622 + 49 * k) (by omega)
    have Ew := m_worstOf (B := B) (d := d + 1) (i := j) hM hj hc (by omega : k < cn v 2621) hn hvv h460
    have cc : cn (opS t k v) 2621 = cn w 2621 ∧ cn (opS t k v) 3019 = cn w 3019 := by
      unfold cn at c2 c3 ⊢
      rw [opS_ne (by omega), opS_ne (by omega)]
      exact ⟨c2, c3⟩
    have hWo := Wd_opS (t := t) hWv (by omega : k < cn v 2621) (by omega) (fun m hm => ⟨txi_lt _ (hT.trans hm), by have := txi_lt _ (hT.trans hm); have := hWv.1.2.2.2.2.2.2.2.2.2.2; omega⟩)
    have hTo : txi (opS t k v) (opS t k v 0) (cn (opS t k v) 3541) = t := (txi_S fun z hz => opS_ne (by omega)).trans hT
    by_cases g : v (2622 + 49 * k) = 4 ∧ 80 < wrst v k
    · have eS : opS t k v = opB v k t := if_pos g
      obtain ⟨j2, E2, hj2, f2⟩ := m_opens (t := t) (d := d) (s := k) hM hj hWv (by omega) (by omega) g.1 hT
      refine ⟨(opS t k v, j2), ?_, hst.symm, by rw [eS]; exact hj2, hWo, hTo, cc, fun q m h1 h2 h3 h4 => (f2 q m h1 h2 h3 h4).trans (fo q m h1 h2 h3 h4)⟩
      dsimp only
      rw [bk_120_111]
      simp (disch := omega) only [bk_67_0, bk_66_0, e21, e0, g.1, g.2, Ew, E2, z_39, z_390, hM, y_ckd, y_ck2d, y_ond, y_onn, y_oI, y_oIx, y_oJ, y_oV, y_oVx, y_oR, y_oRn, y_oRx, y_b0, y_b1, y_bi, y_bid, y_wIK, y_wIL, y_wII, y_wIJ, y_wIR, y_wIN, y_wIw, y_sI, ↓reduceIte, Nat.reduceEqDiff, eq_self, true_or, or_true, false_or, or_false, and_true, true_and, false_and, and_false, not_true, not_false_eq_true, tf_T, tf_F, y_up1, y_up2, y_xx, y_nx, y_sJ, y_sR, Int32.reduceLT, y_nxK, y_nxL, y_nxR, y_sJK, y_sJL, y_sJR, y_sJN, y_sRK, y_sRL, y_sRN, Nat.add_zero, z_nat, z_lit, z_lit0, z_lit1, z_in0, z_in1, z_addl0, z_lt, z_ltl, z_llt, z_inj, z_injl, z_add, z_addl, z_ladd, z_mul, z_mull, z_lmul, z_neg, z_negl, z_in, z_inl, z_ltT, z_ltF, z_eqF, z_10, z_01, z_litne, z_ne0, z_0ne, z_ne1, z_1ne, z_lt64, z_02, z_03, z_04, z_05, z_12, z_13, z_14, z_15, z_20, z_21, z_23, z_24, z_25, z_30, z_31, z_32, z_34, z_35, z_40, z_41, z_42, z_43, z_45, z_50, z_51, z_52, z_53, z_54]
    · have eS : opS t k v = v := if_neg g
      refine ⟨(opS t k v, j), ?_, hst.symm, by rw [eS]; exact hj, hWo, hTo, cc, fo⟩
      dsimp only
      rw [bk_120_111]
      by_cases g4 : v (2622 + 49 * k) = 4
      · have g8 : ¬ 80 < wrst v k := fun q => g ⟨g4, q⟩
        simp (disch := omega) only [bk_67_0, bk_66_0, e21, e0, g4, g8, Ew, z_39, z_390, hM, y_ckd, y_ck2d, y_ond, y_onn, y_oI, y_oIx, y_oJ, y_oV, y_oVx, y_oR, y_oRn, y_oRx, y_b0, y_b1, y_bi, y_bid, y_wIK, y_wIL, y_wII, y_wIJ, y_wIR, y_wIN, y_wIw, y_sI, ↓reduceIte, Nat.reduceEqDiff, eq_self, true_or, or_true, false_or, or_false, and_true, true_and, false_and, and_false, not_true, not_false_eq_true, tf_T, tf_F, y_up1, y_up2, y_xx, y_nx, y_sJ, y_sR, Int32.reduceLT, y_nxK, y_nxL, y_nxR, y_sJK, y_sJL, y_sJR, y_sJN, y_sRK, y_sRL, y_sRN, Nat.add_zero, z_nat, z_lit, z_lit0, z_lit1, z_in0, z_in1, z_addl0, z_lt, z_ltl, z_llt, z_inj, z_injl, z_add, z_addl, z_ladd, z_mul, z_mull, z_lmul, z_neg, z_negl, z_in, z_inl, z_ltT, z_ltF, z_eqF, z_10, z_01, z_litne, z_ne0, z_0ne, z_ne1, z_1ne, z_lt64, z_02, z_03, z_04, z_05, z_12, z_13, z_14, z_15, z_20, z_21, z_23, z_24, z_25, z_30, z_31, z_32, z_34, z_35, z_40, z_41, z_42, z_43, z_45, z_50, z_51, z_52, z_53, z_54]
      · simp (disch := omega) only [bk_67_0, bk_66_0, e21, e0, g4, z_39, z_390, hM, y_ckd, y_ck2d, y_ond, y_onn, y_oI, y_oIx, y_oJ, y_oV, y_oVx, y_oR, y_oRn, y_oRx, y_b0, y_b1, y_bi, y_bid, y_wIK, y_wIL, y_wII, y_wIJ, y_wIR, y_wIN, y_wIw, y_sI, ↓reduceIte, Nat.reduceEqDiff, eq_self, true_or, or_true, false_or, or_false, and_true, true_and, false_and, and_false, not_true, not_false_eq_true, tf_T, tf_F, y_up1, y_up2, y_xx, y_nx, y_sJ, y_sR, Int32.reduceLT, y_nxK, y_nxL, y_nxR, y_sJK, y_sJL, y_sJR, y_sJN, y_sRK, y_sRL, y_sRN, Nat.add_zero, z_nat, z_lit, z_lit0, z_lit1, z_in0, z_in1, z_addl0, z_lt, z_ltl, z_llt, z_inj, z_injl, z_add, z_addl, z_ladd, z_mul, z_mull, z_lmul, z_neg, z_negl, z_in, z_inl, z_ltT, z_ltF, z_eqF, z_10, z_01, z_litne, z_ne0, z_0ne, z_ne1, z_1ne, z_lt64, z_02, z_03, z_04, z_05, z_12, z_13, z_14, z_15, z_20, z_21, z_23, z_24, z_25, z_30, z_31, z_32, z_34, z_35, z_40, z_41, z_42, z_43, z_45, z_50, z_51, z_52, z_53, z_54]) (w, i) ⟨rfl, hw, hW, ht, ⟨rfl, rfl⟩, fun _ _ _ _ _ _ => rfl⟩
  dsimp only at E hv hj hWv hT c2 c3 fo
  have e21 : j 875 2621 = Int32.ofNat (cn w 2621) := ((hj 2621 (by omega)).trans hWv.1.2.2.2.1.1).trans (by rw [c2])
  rw [← hv]
  refine ⟨j, E.trans ?_, hj, hWv, hT, c3, fo⟩
  rw [bk_120_111]
  simp (disch := omega) only [e21, hM, y_ckd, y_ck2d, y_ond, y_onn, y_oI, y_oIx, y_oJ, y_oV, y_oVx, y_oR, y_oRn, y_oRx, y_b0, y_b1, y_bi, y_bid, y_wIK, y_wIL, y_wII, y_wIJ, y_wIR, y_wIN, y_wIw, y_sI, ↓reduceIte, Nat.reduceEqDiff, eq_self, true_or, or_true, false_or, or_false, and_true, true_and, false_and, and_false, not_true, not_false_eq_true, tf_T, tf_F, y_up1, y_up2, y_xx, y_nx, y_sJ, y_sR, Int32.reduceLT, y_nxK, y_nxL, y_nxR, y_sJK, y_sJL, y_sJR, y_sJN, y_sRK, y_sRL, y_sRN, Nat.add_zero, z_nat, z_lit, z_lit0, z_lit1, z_in0, z_in1, z_addl0, z_lt, z_ltl, z_llt, z_inj, z_injl, z_add, z_addl, z_ladd, z_mul, z_mull, z_lmul, z_neg, z_negl, z_in, z_inl, z_ltT, z_ltF, z_eqF, z_10, z_01, z_litne, z_ne0, z_0ne, z_ne1, z_1ne, z_lt64, z_02, z_03, z_04, z_05, z_12, z_13, z_14, z_15, z_20, z_21, z_23, z_24, z_25, z_30, z_31, z_32, z_34, z_35, z_40, z_41, z_42, z_43, z_45, z_50, z_51, z_52, z_53, z_54]
theorem chW_0 : chW w 0 = w := by
  have e0 : ch0 w 0 = (w, 0) := by
    unfold ch0
    rw [Int32.add_zero, Int32.sub_self]
    exact congrArg (fun z => (z, (0 : Int32))) (funext fun z => by
      by_cases e : z = 3
      · rw [wu_at e, e]
      · rw [wu_ne e])
  have : ∀ n, itr chS n (w, (0 : Int32)) = (w, 0) := by
    intro n
    induction n with
    | zero => rfl
    | succ n ih =>
      show chS n (itr chS n (w, 0)) = _
      rw [ih]
      exact if_neg fun q => absurd q.1 (show ¬ (0 : Int32) < 0 by decide)
  unfold chW
  rw [e0, this]
theorem m_carries (hM : Md B) (hw : ∀ z, z < 12042 → i 875 z = w z) (h4 : isc w 460 120) : ∃ j, am_fx am_P (d + 2) 119 0 [some (.ref 874), some (.int x), none, none] [] (am_wI B i) = some (.inl none, am_wI B j) ∧ (∀ z, z < 12042 → j 875 z = chW w x z) ∧ ∀ q k, q ≠ 875 → j q k = i q k := by
  have n4 := h4.2
  have n100 : ∀ {r : am_X}, am_nz 100 r = r := y_nz (by decide)
  have k3 := hw 3 (by omega)
  have hstop : ∀ (k : Nat) (y : Int32) (j : Nat → Nat → Int32), k ≤ cn w 460 → j 875 460 = Int32.ofNat (cn w 460) → ¬ 0 < y → am_fx am_P (d + 2) 119 34 [some (.ref 874), none, some (.int y), some (.int (Int32.ofNat k))] [] (am_wI B j) = some (.inl none, am_wI B j) := by
    intro k y j hk e5 hy
    rw [bk_119_34]
    by_cases g : k < cn w 460
    · simp (disch := omega) only [e5, hy, hM, y_ckd, y_ck2d, y_ond, y_onn, y_oI, y_oIx, y_oJ, y_oV, y_oVx, y_oR, y_oRn, y_oRx, y_b0, y_b1, y_bi, y_bid, y_wIK, y_wIL, y_wII, y_wIJ, y_wIR, y_wIN, y_wIw, y_sI, ↓reduceIte, Nat.reduceEqDiff, eq_self, true_or, or_true, false_or, or_false, and_true, true_and, false_and, and_false, not_true, not_false_eq_true, tf_T, tf_F, y_up1, y_up2, y_xx, y_nx, y_sJ, y_sR, Int32.reduceLT, y_nxK, y_nxL, y_nxR, y_sJK, y_sJL, y_sJR, y_sJN, y_sRK, y_sRL, y_sRN, Nat.add_zero, z_nat, z_lit, z_lit0, z_lit1, z_in0, z_in1, z_addl0, z_lt, z_ltl, z_llt, z_inj, z_injl, z_add, z_addl, z_ladd, z_mul, z_mull, z_lmul, z_neg, z_negl, z_in, z_inl, z_ltT, z_ltF, z_eqF, z_10, z_01, z_litne, z_ne0, z_0ne, z_ne1, z_1ne, z_lt64, z_02, z_03, z_04, z_05, z_12, z_13, z_14, z_15, z_20, z_21, z_23, z_24, z_25, z_30, z_31, z_32, z_34, z_35, z_40, z_41, z_42, z_43, z_45, z_50, z_51, z_52, z_53, z_54]
    · rw [show k = cn w 460 by omega]
      simp (disch := omega) only [e5, hM, y_ckd, y_ck2d, y_ond, y_onn, y_oI, y_oIx, y_oJ, y_oV, y_oVx, y_oR, y_oRn, y_oRx, y_b0, y_b1, y_bi, y_bid, y_wIK, y_wIL, y_wII, y_wIJ, y_wIR, y_wIN, y_wIw, y_sI, ↓reduceIte, Nat.reduceEqDiff, eq_self, true_or, or_true, false_or, or_false, and_true, true_and, false_and, and_false, not_true, not_false_eq_true, tf_T, tf_F, y_up1, y_up2, y_xx, y_nx, y_sJ, y_sR, Int32.reduceLT, y_nxK, y_nxL, y_nxR, y_sJK, y_sJL, y_sJR, y_sJN, y_sRK, y_sRL, y_sRN, Nat.add_zero, z_nat, z_lit, z_lit0, z_lit1, z_in0, z_in1, z_addl0, z_lt, z_ltl, z_llt, z_inj, z_injl, z_add, z_addl, z_ladd, z_mul, z_mull, z_lmul, z_neg, z_negl, z_in, z_inl, z_ltT, z_ltF, z_eqF, z_10, z_01, z_litne, z_ne0, z_0ne, z_ne1, z_1ne, z_lt64, z_02, z_03, z_04, z_05, z_12, z_13, z_14, z_15, z_20, z_21, z_23, z_24, z_25, z_30, z_31, z_32, z_34, z_35, z_40, z_41, z_42, z_43, z_45, z_50, z_51, z_52, z_53, z_54]
  have c460 : ∀ k, cn (itr chS k (ch0 w x)).1 460 = cn w 460 := by
    intro k
    unfold cn
    rw [itr_ch_ne fun p _ => by omega]
    show (wu w 3 (w 3 + x) 460).toNatClampNeg = _
    rw [wu_ne (by omega)]
  have v460 : ∀ k, (itr chS k (ch0 w x)).1 460 = w 460 := by
    intro k
    rw [itr_ch_ne fun p _ => by omega]
    show wu w 3 (w 3 + x) 460 = w 460
    exact wu_ne (by omega)
  obtain ⟨⟨a, j⟩, E, ha, hj, fo⟩ := lp_inv (fun k (s : ((Nat → Int32) × Int32) × (Nat → Nat → Int32)) => if 0 < s.1.2 then am_fx am_P (d + 2) 119 34 [some (.ref 874), none, some (.int s.1.2), some (.int (Int32.ofNat k))] [] (am_wI B s.2) else some (.inl none, am_wI B s.2)) (fun k s => s.1 = itr chS k (ch0 w x) ∧ (∀ z, z < 12042 → s.2 875 z = s.1.1 z) ∧ ∀ q k, q ≠ 875 → s.2 q k = i q k) (cn w 460) (fun k s hk hI => by
    obtain ⟨⟨v, y⟩, j⟩ := s
    obtain ⟨ha, hj, fo⟩ := hI
    dsimp only at ha hj fo
    have hst : itr chS (k + 1) (ch0 w x) = chS k (v, y) := by rw [ha]; rfl
    have ev : v 460 = w 460 := by have := v460 k; rw [← ha] at this; exact this
    have e5 : j 875 460 = Int32.ofNat (cn w 460) := ((hj 460 (by omega)).trans ev).trans h4.1
    have a0 := hj (461 + 18 * k) (by omega)
    have a9 := hj (461 + 18 * k + 1) (by omega)
    by_cases g : 0 < y ∧ v (461 + 18 * k) = 0 ∧ v (461 + 18 * k + 1) = 2
    · have eS : chS k (v, y) = (wu v (461 + 18 * k + 1) 4, y + (-1)) := if_pos g
      have e5' : (am_up2 j 875 (461 + 18 * k + 1) 4) 875 460 = Int32.ofNat (cn w 460) := by rw [y_up2 (by omega)]; exact e5
      refine ⟨((wu v (461 + 18 * k + 1) 4, y + (-1)), am_up2 j 875 (461 + 18 * k + 1) 4), ?_, by rw [hst, eS], fun z hz => ?_, fun q m hq => (y_up2 (by omega)).trans (fo q m hq)⟩
      · dsimp only
        rw [if_pos g.1]
        have er : am_fx am_P (d + 2) 119 34 [some (.ref 874), none, some (.int y), some (.int (Int32.ofNat k))] [] (am_wI B j) = am_fx am_P (d + 2) 119 34 [some (.ref 874), none, some (.int (y + (-1))), some (.int (Int32.ofNat (k + 1)))] [] (am_wI B (am_up2 j 875 (461 + 18 * k + 1) 4)) := by
          rw [bk_119_34]
          simp (disch := omega) only [bk_24_0, bk_23_0, bk_25_0, e5, a0, a9, g.1, g.2.1, g.2.2, hM, y_ckd, y_ck2d, y_ond, y_onn, y_oI, y_oIx, y_oJ, y_oV, y_oVx, y_oR, y_oRn, y_oRx, y_b0, y_b1, y_bi, y_bid, y_wIK, y_wIL, y_wII, y_wIJ, y_wIR, y_wIN, y_wIw, y_sI, ↓reduceIte, Nat.reduceEqDiff, eq_self, true_or, or_true, false_or, or_false, and_true, true_and, false_and, and_false, not_true, not_false_eq_true, tf_T, tf_F, y_up1, y_up2, y_xx, y_nx, y_sJ, y_sR, Int32.reduceLT, y_nxK, y_nxL, y_nxR, y_sJK, y_sJL, y_sJR, y_sJN, y_sRK, y_sRL, y_sRN, Nat.add_zero, z_nat, z_lit, z_lit0, z_lit1, z_in0, z_in1, z_addl0, z_lt, z_ltl, z_llt, z_inj, z_injl, z_add, z_addl, z_ladd, z_mul, z_mull, z_lmul, z_neg, z_negl, z_in, z_inl, z_ltT, z_ltF, z_eqF, z_10, z_01, z_litne, z_ne0, z_0ne, z_ne1, z_1ne, z_lt64, z_02, z_03, z_04, z_05, z_12, z_13, z_14, z_15, z_20, z_21, z_23, z_24, z_25, z_30, z_31, z_32, z_34, z_35, z_40, z_41, z_42, z_43, z_45, z_50, z_51, z_52, z_53, z_54]
        by_cases g1 : 0 < y + (-1)
        · rw [if_pos g1]
          exact er
        · rw [if_neg g1]
          exact er.trans (hstop (k + 1) _ _ (by omega) e5' g1)
      · show am_up2 j 875 (461 + 18 * k + 1) 4 875 z = wu v (461 + 18 * k + 1) 4 z
        by_cases ez : z = 461 + 18 * k + 1
        · rw [y_up1 rfl ez, wu_at ez]
        · rw [y_up2 (by omega), wu_ne ez]
          exact hj z hz
    · have eS : chS k (v, y) = (v, y) := if_neg g
      refine ⟨((v, y), j), ?_, by rw [hst, eS], hj, fo⟩
      dsimp only
      by_cases g1 : 0 < y
      · rw [if_pos g1, if_pos g1]
        rw [bk_119_34]
        by_cases g2 : v (461 + 18 * k) = 0
        · have g3 : ¬ v (461 + 18 * k + 1) = 2 := fun q => g ⟨g1, g2, q⟩
          simp (disch := omega) only [bk_24_0, bk_23_0, e5, a0, a9, g1, g2, g3, hM, y_ckd, y_ck2d, y_ond, y_onn, y_oI, y_oIx, y_oJ, y_oV, y_oVx, y_oR, y_oRn, y_oRx, y_b0, y_b1, y_bi, y_bid, y_wIK, y_wIL, y_wII, y_wIJ, y_wIR, y_wIN, y_wIw, y_sI, ↓reduceIte, Nat.reduceEqDiff, eq_self, true_or, or_true, false_or, or_false, and_true, true_and, false_and, and_false, not_true, not_false_eq_true, tf_T, tf_F, y_up1, y_up2, y_xx, y_nx, y_sJ, y_sR, Int32.reduceLT, y_nxK, y_nxL, y_nxR, y_sJK, y_sJL, y_sJR, y_sJN, y_sRK, y_sRL, y_sRN, Nat.add_zero, z_nat, z_lit, z_lit0, z_lit1, z_in0, z_in1, z_addl0, z_lt, z_ltl, z_llt, z_inj, z_injl, z_add, z_addl, z_ladd, z_mul, z_mull, z_lmul, z_neg, z_negl, z_in, z_inl, z_ltT, z_ltF, z_eqF, z_10, z_01, z_litne, z_ne0, z_0ne, z_ne1, z_1ne, z_lt64, z_02, z_03, z_04, z_05, z_12, z_13, z_14, z_15, z_20, z_21, z_23, z_24, z_25, z_30, z_31, z_32, z_34, z_35, z_40, z_41, z_42, z_43, z_45, z_50, z_51, z_52, z_53, z_54]
        · simp (disch := omega) only [bk_24_0, bk_23_0, e5, a0, g1, g2, hM, y_ckd, y_ck2d, y_ond, y_onn, y_oI, y_oIx, y_oJ, y_oV, y_oVx, y_oR, y_oRn, y_oRx, y_b0, y_b1, y_bi, y_bid, y_wIK, y_wIL, y_wII, y_wIJ, y_wIR, y_wIN, y_wIw, y_sI, ↓reduceIte, Nat.reduceEqDiff, eq_self, true_or, or_true, false_or, or_false, and_true, true_and, false_and, and_false, not_true, not_false_eq_true, tf_T, tf_F, y_up1, y_up2, y_xx, y_nx, y_sJ, y_sR, Int32.reduceLT, y_nxK, y_nxL, y_nxR, y_sJK, y_sJL, y_sJR, y_sJN, y_sRK, y_sRL, y_sRN, Nat.add_zero, z_nat, z_lit, z_lit0, z_lit1, z_in0, z_in1, z_addl0, z_lt, z_ltl, z_llt, z_inj, z_injl, z_add, z_addl, z_ladd, z_mul, z_mull, z_lmul, z_neg, z_negl, z_in, z_inl, z_ltT, z_ltF, z_eqF, z_10, z_01, z_litne, z_ne0, z_0ne, z_ne1, z_1ne, z_lt64, z_02, z_03, z_04, z_05, z_12, z_13, z_14, z_15, z_20, z_21, z_23, z_24, z_25, z_30, z_31, z_32, z_34, z_35, z_40, z_41, z_42, z_43, z_45, z_50, z_51, z_52, z_53, z_54]
      · rw [if_neg g1, if_neg g1]) (ch0 w x, am_up2 i 875 3 (w 3 + x)) ⟨rfl, fun z hz => by
      show am_up2 i 875 3 (w 3 + x) 875 z = wu w 3 (w 3 + x) z
      by_cases ez : z = 3
      · rw [y_up1 rfl ez, wu_at ez]
      · rw [y_up2 (by omega), wu_ne ez]
        exact hw z hz, fun q m hq => y_up2 (by omega)⟩
  dsimp only at E ha hj fo
  have ev : a.1 460 = w 460 := by have := v460 (cn w 460); rw [← ha] at this; exact this
  have e5 : j 875 460 = Int32.ofNat (cn w 460) := ((hj 460 (by omega)).trans ev).trans h4.1
  have e50 : (am_up2 i 875 3 (w 3 + x)) 875 460 = Int32.ofNat (cn w 460) := by rw [y_up2 (by omega)]; exact (hw 460 (by omega)).trans h4.1
  have eW : chW w x = a.1 := by unfold chW; rw [← ha]
  rw [eW]
  refine ⟨j, ?_, hj, fo⟩
  rw [bk_119_0]
  simp (disch := omega) only [k3, n100, hM, y_ckd, y_ck2d, y_ond, y_onn, y_oI, y_oIx, y_oJ, y_oV, y_oVx, y_oR, y_oRn, y_oRx, y_b0, y_b1, y_bi, y_bid, y_wIK, y_wIL, y_wII, y_wIJ, y_wIR, y_wIN, y_wIw, y_sI, ↓reduceIte, Nat.reduceEqDiff, eq_self, true_or, or_true, false_or, or_false, and_true, true_and, false_and, and_false, not_true, not_false_eq_true, tf_T, tf_F, y_up1, y_up2, y_xx, y_nx, y_sJ, y_sR, Int32.reduceLT, y_nxK, y_nxL, y_nxR, y_sJK, y_sJL, y_sJR, y_sJN, y_sRK, y_sRL, y_sRN, Nat.add_zero, z_nat, z_lit, z_lit0, z_lit1, z_in0, z_in1, z_addl0, z_lt, z_ltl, z_llt, z_inj, z_injl, z_add, z_addl, z_ladd, z_mul, z_mull, z_lmul, z_neg, z_negl, z_in, z_inl, z_ltT, z_ltF, z_eqF, z_10, z_01, z_litne, z_ne0, z_0ne, z_ne1, z_1ne, z_lt64, z_02, z_03, z_04, z_05, z_12, z_13, z_14, z_15, z_20, z_21, z_23, z_24, z_25, z_30, z_31, z_32, z_34, z_35, z_40, z_41, z_42, z_43, z_45, z_50, z_51, z_52, z_53, z_54]
  have e1 : am_fx am_P (d + 2) 119 34 [some (.ref 874), none, some (.int (ch0 w x).2), some (.int (Int32.ofNat 0))] [] (am_wI B (am_up2 i 875 3 (w 3 + x))) = if 0 < (ch0 w x).2 then am_fx am_P (d + 2) 119 34 [some (.ref 874), none, some (.int (ch0 w x).2), some (.int (Int32.ofNat 0))] [] (am_wI B (am_up2 i 875 3 (w 3 + x))) else some (.inl none, am_wI B (am_up2 i 875 3 (w 3 + x))) := by
    by_cases g : 0 < (ch0 w x).2
    · rw [if_pos g]
    · rw [if_neg g]
      exact hstop 0 _ _ (by omega) e50 g
  refine e1.trans (E.trans ?_)
  by_cases g : 0 < a.2
  · rw [if_pos g, bk_119_34]
    simp (disch := omega) only [e5, hM, y_ckd, y_ck2d, y_ond, y_onn, y_oI, y_oIx, y_oJ, y_oV, y_oVx, y_oR, y_oRn, y_oRx, y_b0, y_b1, y_bi, y_bid, y_wIK, y_wIL, y_wII, y_wIJ, y_wIR, y_wIN, y_wIw, y_sI, ↓reduceIte, Nat.reduceEqDiff, eq_self, true_or, or_true, false_or, or_false, and_true, true_and, false_and, and_false, not_true, not_false_eq_true, tf_T, tf_F, y_up1, y_up2, y_xx, y_nx, y_sJ, y_sR, Int32.reduceLT, y_nxK, y_nxL, y_nxR, y_sJK, y_sJL, y_sJR, y_sJN, y_sRK, y_sRL, y_sRN, Nat.add_zero, z_nat, z_lit, z_lit0, z_lit1, z_in0, z_in1, z_addl0, z_lt, z_ltl, z_llt, z_inj, z_injl, z_add, z_addl, z_ladd, z_mul, z_mull, z_lmul, z_neg, z_negl, z_in, z_inl, z_ltT, z_ltF, z_eqF, z_10, z_01, z_litne, z_ne0, z_0ne, z_ne1, z_1ne, z_lt64, z_02, z_03, z_04, z_05, z_12, z_13, z_14, z_15, z_20, z_21, z_23, z_24, z_25, z_30, z_31, z_32, z_34, z_35, z_40, z_41, z_42, z_43, z_45, z_50, z_51, z_52, z_53, z_54]
  · rw [if_neg g]
end DayM
