/-! THE PIECES' DAY IN THE MODEL, ALL: made by wip/whole/math/909.py. -/
def arW (w : Nat → Int32) (n z : Nat) : Int32 := if (461 ≤ z ∧ z < 461 + 18 * n) ∧ (z - 461) % 18 = 1 then plA w ((z - 461) / 18) else w z
def mxW (w : Nat → Int32) (N k z : Nat) : Int32 := if z < 461 + 18 * k then dyW w N z else arW w N z
section MpcsD
variable {B : am_A} {i j : Nat → Nat → Int32} {w v : Nat → Int32} {d b q n p N k : Nat} {x y z D pl sp r : Int32}
theorem arW_out {z : Nat} (h : z < 461 ∨ 461 + 18 * n ≤ z) : arW w n z = w z := if_neg (by omega)
theorem arW_pl (h : p < n) : arW w n (461 + 18 * p + 1) = plA w p := by
  unfold arW
  rw [if_pos (by omega), show (461 + 18 * p + 1 - 461) / 18 = p by omega]
theorem arW_oth {m : Nat} (h : m < 18) (h1 : m ≠ 1) : arW w n (461 + 18 * p + m) = w (461 + 18 * p + m) := if_neg (by omega)
theorem arW_ne {z : Nat} (h : z ≠ 461 + 18 * n + 1) : arW w (n + 1) z = arW w n z := by
  unfold arW
  by_cases g : (461 ≤ z ∧ z < 461 + 18 * n) ∧ (z - 461) % 18 = 1
  · rw [if_pos g, if_pos (by omega)]
  · rw [if_neg g, if_neg (by omega)]
theorem mxW_lo {z : Nat} (h : z < 461 + 18 * k) : mxW w N k z = dyW w N z := if_pos h
theorem mxW_hi {z : Nat} (h : 461 + 18 * k ≤ z) : mxW w N k z = arW w N z := if_neg (by omega)
theorem mxW_ne {z : Nat} (h : z ≠ 461 + 18 * k + 1 ∧ z ≠ 461 + 18 * k + 6 ∧ z ≠ 461 + 18 * k + 7 ∧ z ≠ 461 + 18 * k + 15) : mxW w N (k + 1) z = mxW w N k z := by
  by_cases g : z < 461 + 18 * k
  · rw [mxW_lo g, mxW_lo (by omega)]
  · by_cases g2 : z < 461 + 18 * (k + 1)
    · obtain ⟨m, hm, rfl⟩ : ∃ m, m < 18 ∧ z = 461 + 18 * k + m := ⟨z - (461 + 18 * k), by omega, by omega⟩
      rw [mxW_lo g2, mxW_hi (by omega), dyW_oth hm (by omega), arW_oth hm (by omega)]
    · rw [mxW_hi (by omega), mxW_hi (by omega)]
theorem mxW_no (hk : k < N) (g : ¬ agP w k = true) {z : Nat} : mxW w N (k + 1) z = mxW w N k z := by
  by_cases h : z ≠ 461 + 18 * k + 1 ∧ z ≠ 461 + 18 * k + 6 ∧ z ≠ 461 + 18 * k + 7 ∧ z ≠ 461 + 18 * k + 15
  · exact mxW_ne h
  · have h' : z = 461 + 18 * k + 1 ∨ z = 461 + 18 * k + 6 ∨ z = 461 + 18 * k + 7 ∨ z = 461 + 18 * k + 15 := by omega
    rcases h' with rfl | rfl | rfl | rfl
    · rw [mxW_lo (by omega), mxW_hi (by omega), dyW_pl hk, arW_pl hk]
      exact if_neg g
    · rw [mxW_lo (by omega), mxW_hi (by omega), dyW_dr hk, arW_oth (by omega) (by omega)]
      exact if_neg g
    · rw [mxW_lo (by omega), mxW_hi (by omega), dyW_rt hk, arW_oth (by omega) (by omega)]
      exact if_neg g
    · rw [mxW_lo (by omega), mxW_hi (by omega), dyW_by hk, arW_oth (by omega) (by omega)]
      exact if_neg g
theorem m_pcs (hM : Md B) (hw : ∀ z, z < 12042 → i 875 z = w z) (h : Wd w) : ∃ j, am_fx am_P (d + 4) 120 12 [some (.ref 874), some (.int 0), none] [] (am_wI B i) = am_fx am_P (d + 4) 120 111 [some (.ref 874), some (.int 0), none] [] (am_wI B j) ∧ (∀ z, z < 12042 → j 875 z = dyW w (cn w 460) z) ∧ ∀ q z, q ≠ 875 → j q z = i q z := by
  have h4 := h.1.2.2.1
  have n4 := h4.2
  have h39 := h.1.2.1
  obtain ⟨j1, E1, a1, f1⟩ := lp_inv (fun k j => am_fx am_P (d + 4) 120 12 [some (.ref 874), some (.int (Int32.ofNat k)), none] [] (am_wI B j)) (fun k j => (∀ z, z < 12042 → j 875 z = arW w k z) ∧ ∀ q z, q ≠ 875 → j q z = i q z) (cn w 460) (fun k j hk hI => by
    obtain ⟨hj, fj⟩ := hI
    have e0 := (hj 0 (by omega)).trans (arW_out (by omega))
    have e460 : j 875 460 = Int32.ofNat (cn w 460) := ((hj 460 (by omega)).trans (arW_out (by omega))).trans h4.1
    have e1 := (hj (461 + 18 * k + 1) (by omega)).trans (arW_out (by omega))
    have e17 := (hj (461 + 18 * k + 17) (by omega)).trans (arW_out (by omega))
    by_cases g : w (461 + 18 * k + 1) = 0
    · by_cases g2 : w 0 < w (461 + 18 * k + 17)
      · have ep : plA w k = 0 := by unfold plA; rw [if_pos g, if_pos g2]
        refine ⟨j, ?_, fun z hz => ?_, fj⟩
        · rw [bk_120_12]
          simp (disch := omega) only [bk_24_0, bk_23_0, bk_13_0, bk_120_54, e0, e1, e17, e460, g, g2, hM, y_ckd, y_ck2d, y_ond, y_onn, y_oI, y_oIx, y_oJ, y_oV, y_oVx, y_oR, y_oRn, y_oRx, y_b0, y_b1, y_bi, y_bid, y_wIK, y_wIL, y_wII, y_wIJ, y_wIR, y_wIN, y_wIw, y_sI, ↓reduceIte, Nat.reduceEqDiff, eq_self, true_or, or_true, false_or, or_false, and_true, true_and, false_and, and_false, not_true, not_false_eq_true, tf_T, tf_F, y_up1, y_up2, y_xx, y_nx, y_sJ, y_sR, Int32.reduceLT, y_nxK, y_nxL, y_nxR, y_sJK, y_sJL, y_sJR, y_sJN, y_sRK, y_sRL, y_sRN, Nat.add_zero, z_nat, z_lit, z_lit0, z_lit1, z_in0, z_in1, z_addl0, z_lt, z_ltl, z_llt, z_inj, z_injl, z_add, z_addl, z_ladd, z_mul, z_mull, z_lmul, z_neg, z_negl, z_in, z_inl, z_ltT, z_ltF, z_eqF, z_10, z_01, z_litne, z_ne0, z_0ne, z_ne1, z_1ne, z_lt64, z_02, z_03, z_04, z_05, z_12, z_13, z_14, z_15, z_20, z_21, z_23, z_24, z_25, z_30, z_31, z_32, z_34, z_35, z_40, z_41, z_42, z_43, z_45, z_50, z_51, z_52, z_53, z_54]
        · by_cases ez : z = 461 + 18 * k + 1
          · rw [ez, arW_pl (by omega), ep, e1, g]
          · rw [arW_ne ez, hj z hz]
      · have ep : plA w k = 1 := by unfold plA; rw [if_pos g, if_neg g2]
        refine ⟨am_up2 j 875 (461 + 18 * k + 1) 1, ?_, fun z hz => ?_, fun q z hq => by rw [y_up2 (by omega)]; exact fj q z hq⟩
        · rw [bk_120_12]
          simp (disch := omega) only [bk_24_0, bk_23_0, bk_13_0, bk_25_0, bk_120_54, e0, e1, e17, e460, g, g2, hM, y_ckd, y_ck2d, y_ond, y_onn, y_oI, y_oIx, y_oJ, y_oV, y_oVx, y_oR, y_oRn, y_oRx, y_b0, y_b1, y_bi, y_bid, y_wIK, y_wIL, y_wII, y_wIJ, y_wIR, y_wIN, y_wIw, y_sI, ↓reduceIte, Nat.reduceEqDiff, eq_self, true_or, or_true, false_or, or_false, and_true, true_and, false_and, and_false, not_true, not_false_eq_true, tf_T, tf_F, y_up1, y_up2, y_xx, y_nx, y_sJ, y_sR, Int32.reduceLT, y_nxK, y_nxL, y_nxR, y_sJK, y_sJL, y_sJR, y_sJN, y_sRK, y_sRL, y_sRN, Nat.add_zero, z_nat, z_lit, z_lit0, z_lit1, z_in0, z_in1, z_addl0, z_lt, z_ltl, z_llt, z_inj, z_injl, z_add, z_addl, z_ladd, z_mul, z_mull, z_lmul, z_neg, z_negl, z_in, z_inl, z_ltT, z_ltF, z_eqF, z_10, z_01, z_litne, z_ne0, z_0ne, z_ne1, z_1ne, z_lt64, z_02, z_03, z_04, z_05, z_12, z_13, z_14, z_15, z_20, z_21, z_23, z_24, z_25, z_30, z_31, z_32, z_34, z_35, z_40, z_41, z_42, z_43, z_45, z_50, z_51, z_52, z_53, z_54]
        · by_cases ez : z = 461 + 18 * k + 1
          · rw [ez, arW_pl (by omega), ep, y_up1 rfl rfl]
          · rw [arW_ne ez, y_up2 (by omega), hj z hz]
    · have ep : plA w k = w (461 + 18 * k + 1) := plA_of g
      refine ⟨j, ?_, fun z hz => ?_, fj⟩
      · rw [bk_120_12]
        simp (disch := omega) only [bk_24_0, bk_23_0, bk_120_54, e1, e460, g, hM, y_ckd, y_ck2d, y_ond, y_onn, y_oI, y_oIx, y_oJ, y_oV, y_oVx, y_oR, y_oRn, y_oRx, y_b0, y_b1, y_bi, y_bid, y_wIK, y_wIL, y_wII, y_wIJ, y_wIR, y_wIN, y_wIw, y_sI, ↓reduceIte, Nat.reduceEqDiff, eq_self, true_or, or_true, false_or, or_false, and_true, true_and, false_and, and_false, not_true, not_false_eq_true, tf_T, tf_F, y_up1, y_up2, y_xx, y_nx, y_sJ, y_sR, Int32.reduceLT, y_nxK, y_nxL, y_nxR, y_sJK, y_sJL, y_sJR, y_sJN, y_sRK, y_sRL, y_sRN, Nat.add_zero, z_nat, z_lit, z_lit0, z_lit1, z_in0, z_in1, z_addl0, z_lt, z_ltl, z_llt, z_inj, z_injl, z_add, z_addl, z_ladd, z_mul, z_mull, z_lmul, z_neg, z_negl, z_in, z_inl, z_ltT, z_ltF, z_eqF, z_10, z_01, z_litne, z_ne0, z_0ne, z_ne1, z_1ne, z_lt64, z_02, z_03, z_04, z_05, z_12, z_13, z_14, z_15, z_20, z_21, z_23, z_24, z_25, z_30, z_31, z_32, z_34, z_35, z_40, z_41, z_42, z_43, z_45, z_50, z_51, z_52, z_53, z_54]
      · by_cases ez : z = 461 + 18 * k + 1
        · rw [ez, arW_pl (by omega), ep, e1]
        · rw [arW_ne ez, hj z hz]) i ⟨fun z hz => (hw z hz).trans (arW_out (by omega)).symm, fun _ _ _ => rfl⟩
  obtain ⟨j2, E2, a2, f2⟩ := lp_inv (fun k j => am_fx am_P (d + 4) 120 62 [some (.ref 874), some (.int (Int32.ofNat k)), none] [] (am_wI B j)) (fun k j => (∀ z, z < 12042 → j 875 z = mxW w (cn w 460) k z) ∧ ∀ q z, q ≠ 875 → j q z = i q z) (cn w 460) (fun k j hk hI => by
    obtain ⟨hj, fj⟩ := hI
    obtain ⟨c1, c2, c3, c4, c5, c6, c7, c8, c9, c10, c11, c12, c13⟩ := h.2.2.2.1.1 k hk (by omega)
    have elo : ∀ z, z < 461 → mxW w (cn w 460) k z = w z := fun z hz => (mxW_lo (by omega)).trans (dyW_out (by omega))
    have eo : ∀ m, m < 18 → m ≠ 1 → mxW w (cn w 460) k (461 + 18 * k + m) = w (461 + 18 * k + m) := fun m h1 h2 => (mxW_hi (by omega)).trans (arW_oth h1 h2)
    have e1 : mxW w (cn w 460) k (461 + 18 * k + 1) = plA w k := (mxW_hi (by omega)).trans (arW_pl hk)
    have e460 : j 875 460 = Int32.ofNat (cn w 460) := ((hj 460 (by omega)).trans (elo _ (by omega))).trans h4.1
    have q0 : j 875 (461 + 18 * k) = w (461 + 18 * k) := (hj _ (by omega)).trans (eo 0 (by omega) (by omega))
    have q1 : j 875 (461 + 18 * k + 1) = plA w k := (hj _ (by omega)).trans e1
    by_cases ga : ¬ w (461 + 18 * k) = 3 ∧ ¬ plA w k < 1 ∧ ¬ 3 < plA w k
    · have hA : agP w k = true := decide_eq_true ga
      have hT : WdT (mxW w (cn w 460) k) := WdT_fr h.2.2.1 fun z hz => elo z (by omega)
      have i39 : isc (mxW w (cn w 460) k) 39 60 := isc_fr h39 (elo _ (by omega))
      have ehe : heP (mxW w (cn w 460) k) k = heP w k := by
        unfold heP
        rw [elo 0 (by omega), eo 9 (by omega) (by omega), eo 7 (by omega) (by omega), hrt_fr fun t ht => elo _ (by omega)]
      obtain ⟨j', E, b6, b7, b15, b1, fz, fq⟩ := m_ages (B := B) (d := d) (i := j) (v := mxW w (cn w 460) k) (p := k) (pl := plA w k) hM hj (by omega) hT i39 (by rw [eo 9 (by omega) (by omega), elo 39 (by omega)]; exact c8) (by rw [eo 5 (by omega) (by omega)]; exact c5) (by rw [eo 7 (by omega) (by omega)]; exact c7) e1
      rw [eo 6 (by omega) (by omega)] at b6
      rw [eo 6 (by omega) (by omega), eo 7 (by omega) (by omega), eo 5 (by omega) (by omega), elo 0 (by omega), ehe] at b7
      rw [eo 15 (by omega) (by omega), ehe] at b15
      rw [eo 6 (by omega) (by omega), eo 7 (by omega) (by omega), eo 5 (by omega) (by omega), elo 0 (by omega), ehe] at b1
      refine ⟨j', ?_, fun z hz => ?_, fun q z hq => (fq q z hq).trans (fj q z hq)⟩
      · rw [bk_120_62]
        simp (disch := omega) only [bk_24_0, bk_23_0, bk_11_0, bk_120_103, q0, q1, e460, ga.1, ga.2.1, ga.2.2, E, hM, y_ckd, y_ck2d, y_ond, y_onn, y_oI, y_oIx, y_oJ, y_oV, y_oVx, y_oR, y_oRn, y_oRx, y_b0, y_b1, y_bi, y_bid, y_wIK, y_wIL, y_wII, y_wIJ, y_wIR, y_wIN, y_wIw, y_sI, ↓reduceIte, Nat.reduceEqDiff, eq_self, true_or, or_true, false_or, or_false, and_true, true_and, false_and, and_false, not_true, not_false_eq_true, tf_T, tf_F, y_up1, y_up2, y_xx, y_nx, y_sJ, y_sR, Int32.reduceLT, y_nxK, y_nxL, y_nxR, y_sJK, y_sJL, y_sJR, y_sJN, y_sRK, y_sRL, y_sRN, Nat.add_zero, z_nat, z_lit, z_lit0, z_lit1, z_in0, z_in1, z_addl0, z_lt, z_ltl, z_llt, z_inj, z_injl, z_add, z_addl, z_ladd, z_mul, z_mull, z_lmul, z_neg, z_negl, z_in, z_inl, z_ltT, z_ltF, z_eqF, z_10, z_01, z_litne, z_ne0, z_0ne, z_ne1, z_1ne, z_lt64, z_02, z_03, z_04, z_05, z_12, z_13, z_14, z_15, z_20, z_21, z_23, z_24, z_25, z_30, z_31, z_32, z_34, z_35, z_40, z_41, z_42, z_43, z_45, z_50, z_51, z_52, z_53, z_54]
      · by_cases z1 : z = 461 + 18 * k + 1
        · rw [z1, mxW_lo (by omega), dyW_pl hk, b1]
          unfold plZ
          rw [if_pos hA]
          rfl
        · by_cases z6 : z = 461 + 18 * k + 6
          · rw [z6, mxW_lo (by omega), dyW_dr hk, b6]
            unfold drZ
            rw [if_pos hA]
            rfl
          · by_cases z7 : z = 461 + 18 * k + 7
            · rw [z7, mxW_lo (by omega), dyW_rt hk, b7]
              unfold rtZ
              rw [if_pos hA]
              rfl
            · by_cases z15 : z = 461 + 18 * k + 15
              · rw [z15, mxW_lo (by omega), dyW_by hk, b15]
                unfold byZ
                rw [if_pos hA]
              · rw [mxW_ne ⟨z1, z6, z7, z15⟩, fz z z1 z6 z7 z15, hj z hz]
    · have hA : ¬ agP w k = true := fun q => ga (of_decide_eq_true q)
      refine ⟨j, ?_, fun z hz => (hj z hz).trans (mxW_no hk hA).symm, fj⟩
      rw [bk_120_62]
      by_cases g1 : w (461 + 18 * k) = 3
      · simp (disch := omega) only [bk_24_0, bk_23_0, bk_11_0, bk_120_103, q0, e460, g1, hM, y_ckd, y_ck2d, y_ond, y_onn, y_oI, y_oIx, y_oJ, y_oV, y_oVx, y_oR, y_oRn, y_oRx, y_b0, y_b1, y_bi, y_bid, y_wIK, y_wIL, y_wII, y_wIJ, y_wIR, y_wIN, y_wIw, y_sI, ↓reduceIte, Nat.reduceEqDiff, eq_self, true_or, or_true, false_or, or_false, and_true, true_and, false_and, and_false, not_true, not_false_eq_true, tf_T, tf_F, y_up1, y_up2, y_xx, y_nx, y_sJ, y_sR, Int32.reduceLT, y_nxK, y_nxL, y_nxR, y_sJK, y_sJL, y_sJR, y_sJN, y_sRK, y_sRL, y_sRN, Nat.add_zero, z_nat, z_lit, z_lit0, z_lit1, z_in0, z_in1, z_addl0, z_lt, z_ltl, z_llt, z_inj, z_injl, z_add, z_addl, z_ladd, z_mul, z_mull, z_lmul, z_neg, z_negl, z_in, z_inl, z_ltT, z_ltF, z_eqF, z_10, z_01, z_litne, z_ne0, z_0ne, z_ne1, z_1ne, z_lt64, z_02, z_03, z_04, z_05, z_12, z_13, z_14, z_15, z_20, z_21, z_23, z_24, z_25, z_30, z_31, z_32, z_34, z_35, z_40, z_41, z_42, z_43, z_45, z_50, z_51, z_52, z_53, z_54]
      · by_cases g2 : plA w k < 1
        · simp (disch := omega) only [bk_24_0, bk_23_0, bk_11_0, bk_120_103, q0, q1, e460, g1, g2, hM, y_ckd, y_ck2d, y_ond, y_onn, y_oI, y_oIx, y_oJ, y_oV, y_oVx, y_oR, y_oRn, y_oRx, y_b0, y_b1, y_bi, y_bid, y_wIK, y_wIL, y_wII, y_wIJ, y_wIR, y_wIN, y_wIw, y_sI, ↓reduceIte, Nat.reduceEqDiff, eq_self, true_or, or_true, false_or, or_false, and_true, true_and, false_and, and_false, not_true, not_false_eq_true, tf_T, tf_F, y_up1, y_up2, y_xx, y_nx, y_sJ, y_sR, Int32.reduceLT, y_nxK, y_nxL, y_nxR, y_sJK, y_sJL, y_sJR, y_sJN, y_sRK, y_sRL, y_sRN, Nat.add_zero, z_nat, z_lit, z_lit0, z_lit1, z_in0, z_in1, z_addl0, z_lt, z_ltl, z_llt, z_inj, z_injl, z_add, z_addl, z_ladd, z_mul, z_mull, z_lmul, z_neg, z_negl, z_in, z_inl, z_ltT, z_ltF, z_eqF, z_10, z_01, z_litne, z_ne0, z_0ne, z_ne1, z_1ne, z_lt64, z_02, z_03, z_04, z_05, z_12, z_13, z_14, z_15, z_20, z_21, z_23, z_24, z_25, z_30, z_31, z_32, z_34, z_35, z_40, z_41, z_42, z_43, z_45, z_50, z_51, z_52, z_53, z_54]
        · by_cases g3 : 3 < plA w k
          · simp (disch := omega) only [bk_24_0, bk_23_0, bk_11_0, bk_120_103, q0, q1, e460, g1, g2, g3, hM, y_ckd, y_ck2d, y_ond, y_onn, y_oI, y_oIx, y_oJ, y_oV, y_oVx, y_oR, y_oRn, y_oRx, y_b0, y_b1, y_bi, y_bid, y_wIK, y_wIL, y_wII, y_wIJ, y_wIR, y_wIN, y_wIw, y_sI, ↓reduceIte, Nat.reduceEqDiff, eq_self, true_or, or_true, false_or, or_false, and_true, true_and, false_and, and_false, not_true, not_false_eq_true, tf_T, tf_F, y_up1, y_up2, y_xx, y_nx, y_sJ, y_sR, Int32.reduceLT, y_nxK, y_nxL, y_nxR, y_sJK, y_sJL, y_sJR, y_sJN, y_sRK, y_sRL, y_sRN, Nat.add_zero, z_nat, z_lit, z_lit0, z_lit1, z_in0, z_in1, z_addl0, z_lt, z_ltl, z_llt, z_inj, z_injl, z_add, z_addl, z_ladd, z_mul, z_mull, z_lmul, z_neg, z_negl, z_in, z_inl, z_ltT, z_ltF, z_eqF, z_10, z_01, z_litne, z_ne0, z_0ne, z_ne1, z_1ne, z_lt64, z_02, z_03, z_04, z_05, z_12, z_13, z_14, z_15, z_20, z_21, z_23, z_24, z_25, z_30, z_31, z_32, z_34, z_35, z_40, z_41, z_42, z_43, z_45, z_50, z_51, z_52, z_53, z_54]
          · exact absurd ⟨g1, g2, g3⟩ ga) j1 ⟨fun z hz => by
      rw [a1 z hz]
      by_cases g : z < 461 + 18 * 0
      · rw [mxW_lo g, dyW_out (by omega), arW_out (by omega)]
      · rw [mxW_hi (by omega)], f1⟩
  have k1 : j1 875 460 = Int32.ofNat (cn w 460) := ((a1 460 (by omega)).trans (arW_out (by omega))).trans h4.1
  have k2 : j2 875 460 = Int32.ofNat (cn w 460) := ((a2 460 (by omega)).trans ((mxW_lo (by omega)).trans (dyW_out (by omega)))).trans h4.1
  refine ⟨j2, E1.trans ?_, fun z hz => ?_, f2⟩
  · rw [bk_120_12]
    simp (disch := omega) only [k1, hM, y_ckd, y_ck2d, y_ond, y_onn, y_oI, y_oIx, y_oJ, y_oV, y_oVx, y_oR, y_oRn, y_oRx, y_b0, y_b1, y_bi, y_bid, y_wIK, y_wIL, y_wII, y_wIJ, y_wIR, y_wIN, y_wIw, y_sI, ↓reduceIte, Nat.reduceEqDiff, eq_self, true_or, or_true, false_or, or_false, and_true, true_and, false_and, and_false, not_true, not_false_eq_true, tf_T, tf_F, y_up1, y_up2, y_xx, y_nx, y_sJ, y_sR, Int32.reduceLT, y_nxK, y_nxL, y_nxR, y_sJK, y_sJL, y_sJR, y_sJN, y_sRK, y_sRL, y_sRN, Nat.add_zero, z_nat, z_lit, z_lit0, z_lit1, z_in0, z_in1, z_addl0, z_lt, z_ltl, z_llt, z_inj, z_injl, z_add, z_addl, z_ladd, z_mul, z_mull, z_lmul, z_neg, z_negl, z_in, z_inl, z_ltT, z_ltF, z_eqF, z_10, z_01, z_litne, z_ne0, z_0ne, z_ne1, z_1ne, z_lt64, z_02, z_03, z_04, z_05, z_12, z_13, z_14, z_15, z_20, z_21, z_23, z_24, z_25, z_30, z_31, z_32, z_34, z_35, z_40, z_41, z_42, z_43, z_45, z_50, z_51, z_52, z_53, z_54]
    refine E2.trans ?_
    rw [bk_120_62]
    simp (disch := omega) only [k2, hM, y_ckd, y_ck2d, y_ond, y_onn, y_oI, y_oIx, y_oJ, y_oV, y_oVx, y_oR, y_oRn, y_oRx, y_b0, y_b1, y_bi, y_bid, y_wIK, y_wIL, y_wII, y_wIJ, y_wIR, y_wIN, y_wIw, y_sI, ↓reduceIte, Nat.reduceEqDiff, eq_self, true_or, or_true, false_or, or_false, and_true, true_and, false_and, and_false, not_true, not_false_eq_true, tf_T, tf_F, y_up1, y_up2, y_xx, y_nx, y_sJ, y_sR, Int32.reduceLT, y_nxK, y_nxL, y_nxR, y_sJK, y_sJL, y_sJR, y_sJN, y_sRK, y_sRL, y_sRN, Nat.add_zero, z_nat, z_lit, z_lit0, z_lit1, z_in0, z_in1, z_addl0, z_lt, z_ltl, z_llt, z_inj, z_injl, z_add, z_addl, z_ladd, z_mul, z_mull, z_lmul, z_neg, z_negl, z_in, z_inl, z_ltT, z_ltF, z_eqF, z_10, z_01, z_litne, z_ne0, z_0ne, z_ne1, z_1ne, z_lt64, z_02, z_03, z_04, z_05, z_12, z_13, z_14, z_15, z_20, z_21, z_23, z_24, z_25, z_30, z_31, z_32, z_34, z_35, z_40, z_41, z_42, z_43, z_45, z_50, z_51, z_52, z_53, z_54]
  · rw [a2 z hz]
    by_cases g : z < 461 + 18 * cn w 460
    · exact mxW_lo g
    · rw [mxW_hi (by omega), arW_out (by omega), dyW_out (by omega)]
end MpcsD
