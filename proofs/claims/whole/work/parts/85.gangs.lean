/-! GANGS: the list of work. Made by wip/whole/math/85.py. -/
section Gangs
variable {B B1 : am_A} {i i1 : Nat → Nat → Int32} {σ σ' : Sg} {w : Nat → Int32} {L j d b : Nat} {x y z : Int32}
/-- the first four ships on the slips that want work -/
abbrev fwl (w : Nat → Int32) (k : Nat) (a : Nat × (Nat → Int32)) : Nat × (Nat → Int32) := if a.1 < 4 ∧ w (2622 + 49 * k) = 1 ∧ 0 < w (2622 + 49 * k + 1) then (a.1 + 1, fun m => if m = a.1 then w (2622 + 49 * k + 1) else a.2 m) else a
def wls (w : Nat → Int32) (n : Nat) : Nat × (Nat → Int32) := itr (fwl w) n (0, fun _ => 0)
theorem wls_s {n : Nat} : wls w (n + 1) = fwl w n (wls w n) := rfl
theorem c_list4 {k : Nat} (hY : Yd B 94) (e5 : i 94 8 = Int32.ofNat L) (hL : L ≤ 8) (hk : k ≤ 8) : am_fx am_P d 282 4 [some (.ref 71), some (.ref 94), some (.int (Int32.ofNat 4)), some (.int (Int32.ofNat k))] [] (am_wI B i) = some (.inl (some (.int (Int32.ofNat 4))), am_wI B i) := by
  rw [bk_282_4]
  by_cases g : k < L
  · simp (maxSteps := 1000000) (disch := omega) only [e5, g, hY, y_ckd, y_ck2d, y_ond, y_onn, y_oI, y_oIx, y_oJ, y_oV, y_oVx, y_oR, y_oRn, y_oRx, y_b0, y_b1, y_bi, y_bid, y_wIK, y_wIL, y_wII, y_wIJ, y_wIR, y_wIN, y_wIw, y_sI, ↓reduceIte, Nat.reduceEqDiff, eq_self, true_or, or_true, false_or, or_false, and_true, true_and, false_and, and_false, not_true, not_false_eq_true, tf_T, tf_F, y_up1, y_up2, y_xx, y_nx, y_sJ, y_sR, Int32.reduceLT, y_nxK, y_nxL, y_nxR, y_sJK, y_sJL, y_sJR, y_sJN, y_sRK, y_sRL, y_sRN, Nat.add_zero, z_nat, z_lit, z_lit0, z_lit1, z_in0, z_in1, z_addl0, z_lt, z_ltl, z_llt, z_inj, z_injl, z_add, z_addl, z_ladd, z_mul, z_mull, z_lmul, z_neg, z_negl, z_in, z_inl, z_ltT, z_ltF, z_eqF, z_10, z_01, z_litne, z_ne0, z_0ne, z_ne1, z_1ne, z_lt64, z_02, z_03, z_04, z_05, z_12, z_13, z_14, z_15, z_20, z_21, z_23, z_24, z_25, z_30, z_31, z_32, z_34, z_35, z_40, z_41, z_42, z_43, z_45, z_50, z_51, z_52, z_53, z_54]
  · simp (maxSteps := 1000000) (disch := omega) only [e5, g, hY, y_ckd, y_ck2d, y_ond, y_onn, y_oI, y_oIx, y_oJ, y_oV, y_oVx, y_oR, y_oRn, y_oRx, y_b0, y_b1, y_bi, y_bid, y_wIK, y_wIL, y_wII, y_wIJ, y_wIR, y_wIN, y_wIw, y_sI, ↓reduceIte, Nat.reduceEqDiff, eq_self, true_or, or_true, false_or, or_false, and_true, true_and, false_and, and_false, not_true, not_false_eq_true, tf_T, tf_F, y_up1, y_up2, y_xx, y_nx, y_sJ, y_sR, Int32.reduceLT, y_nxK, y_nxL, y_nxR, y_sJK, y_sJL, y_sJR, y_sJN, y_sRK, y_sRL, y_sRN, Nat.add_zero, z_nat, z_lit, z_lit0, z_lit1, z_in0, z_in1, z_addl0, z_lt, z_ltl, z_llt, z_inj, z_injl, z_add, z_addl, z_ladd, z_mul, z_mull, z_lmul, z_neg, z_negl, z_in, z_inl, z_ltT, z_ltF, z_eqF, z_10, z_01, z_litne, z_ne0, z_0ne, z_ne1, z_1ne, z_lt64, z_02, z_03, z_04, z_05, z_12, z_13, z_14, z_15, z_20, z_21, z_23, z_24, z_25, z_30, z_31, z_32, z_34, z_35, z_40, z_41, z_42, z_43, z_45, z_50, z_51, z_52, z_53, z_54]
theorem c_list (hF : Fc B) (hY : Yd B 94) (hS : RS i 94 w) (hc : isc w 2621 8) : ∃ i', am_fx am_P d 282 0 [some (.ref 71), some (.ref 94), none, none] [] (am_wI B i) = some (.inl (some (.int (Int32.ofNat (wls w (cn w 2621)).1))), am_wI B i') ∧ (wls w (cn w 2621)).1 ≤ 4 ∧ (∀ m, m < (wls w (cn w 2621)).1 → i' 77 m = (wls w (cn w 2621)).2 m) ∧ ∀ q m, q ≠ 77 → i' q m = i q m := by
  have h2 := hc.2
  obtain ⟨j, E, h4, hj, hf⟩ := lp_inv (fun k j => am_fx am_P d 282 4 [some (.ref 71), some (.ref 94), some (.int (Int32.ofNat (wls w k).1)), some (.int (Int32.ofNat k))] [] (am_wI B j)) (fun k j => (wls w k).1 ≤ 4 ∧ (∀ m, m < (wls w k).1 → j 77 m = (wls w k).2 m) ∧ ∀ q m, q ≠ 77 → j q m = i q m) (cn w 2621) (fun k j hk hI => by
    obtain ⟨h4, hj, hf⟩ := hI
    have e5 : j 94 8 = Int32.ofNat (cn w 2621) := (hf _ _ (by omega)).trans (hS.1.trans hc.1)
    obtain ⟨a1, a2, -⟩ := hS.2 k hk (by omega)
    have a1 := (hf _ _ (by omega)).trans a1
    have a2 := (hf _ _ (by omega)).trans a2
    rw [wls_s]
    generalize wls w k = a at *
    obtain ⟨c, r⟩ := a
    have h4 : c ≤ 4 := h4
    have hj : ∀ m, m < c → j 77 m = r m := hj
    show ∃ s', am_fx am_P d 282 4 [some (.ref 71), some (.ref 94), some (.int (Int32.ofNat c)), some (.int (Int32.ofNat k))] [] (am_wI B j) = _ ∧ _
    by_cases g : c < 4
    · by_cases g1 : w (2622 + 49 * k) = 1
      · by_cases g2 : 0 < w (2622 + 49 * k + 1)
        · rw [show fwl w k (c, r) = (c + 1, fun m => if m = c then w (2622 + 49 * k + 1) else r m) from if_pos ⟨g, g1, g2⟩]
          refine ⟨am_up2 j 77 c (w (2622 + 49 * k + 1)), ?_, g, fun m hm => ?_, fun q m hq => by rw [y_up2 (by omega)]; exact hf q m hq⟩
          · rw [bk_282_4]
            simp (maxSteps := 1000000) (disch := omega) only [e5, a1, a2, g, g1, g2, hF, hY, y_ckd, y_ck2d, y_ond, y_onn, y_oI, y_oIx, y_oJ, y_oV, y_oVx, y_oR, y_oRn, y_oRx, y_b0, y_b1, y_bi, y_bid, y_wIK, y_wIL, y_wII, y_wIJ, y_wIR, y_wIN, y_wIw, y_sI, ↓reduceIte, Nat.reduceEqDiff, eq_self, true_or, or_true, false_or, or_false, and_true, true_and, false_and, and_false, not_true, not_false_eq_true, tf_T, tf_F, y_up1, y_up2, y_xx, y_nx, y_sJ, y_sR, Int32.reduceLT, y_nxK, y_nxL, y_nxR, y_sJK, y_sJL, y_sJR, y_sJN, y_sRK, y_sRL, y_sRN, Nat.add_zero, z_nat, z_lit, z_lit0, z_lit1, z_in0, z_in1, z_addl0, z_lt, z_ltl, z_llt, z_inj, z_injl, z_add, z_addl, z_ladd, z_mul, z_mull, z_lmul, z_neg, z_negl, z_in, z_inl, z_ltT, z_ltF, z_eqF, z_10, z_01, z_litne, z_ne0, z_0ne, z_ne1, z_1ne, z_lt64, z_02, z_03, z_04, z_05, z_12, z_13, z_14, z_15, z_20, z_21, z_23, z_24, z_25, z_30, z_31, z_32, z_34, z_35, z_40, z_41, z_42, z_43, z_45, z_50, z_51, z_52, z_53, z_54]
          · have hm : m < c + 1 := hm
            show _ = if m = c then w (2622 + 49 * k + 1) else r m
            by_cases e : m = c
            · rw [y_up1 rfl e, if_pos e]
            · rw [y_up2 (by omega), if_neg e]
              exact hj m (by omega)
        · rw [show fwl w k (c, r) = (c, r) from if_neg (fun q => g2 q.2.2)]
          refine ⟨j, ?_, h4, hj, hf⟩
          rw [bk_282_4]
          simp (maxSteps := 1000000) (disch := omega) only [e5, a1, a2, g, g1, g2, hF, hY, y_ckd, y_ck2d, y_ond, y_onn, y_oI, y_oIx, y_oJ, y_oV, y_oVx, y_oR, y_oRn, y_oRx, y_b0, y_b1, y_bi, y_bid, y_wIK, y_wIL, y_wII, y_wIJ, y_wIR, y_wIN, y_wIw, y_sI, ↓reduceIte, Nat.reduceEqDiff, eq_self, true_or, or_true, false_or, or_false, and_true, true_and, false_and, and_false, not_true, not_false_eq_true, tf_T, tf_F, y_up1, y_up2, y_xx, y_nx, y_sJ, y_sR, Int32.reduceLT, y_nxK, y_nxL, y_nxR, y_sJK, y_sJL, y_sJR, y_sJN, y_sRK, y_sRL, y_sRN, Nat.add_zero, z_nat, z_lit, z_lit0, z_lit1, z_in0, z_in1, z_addl0, z_lt, z_ltl, z_llt, z_inj, z_injl, z_add, z_addl, z_ladd, z_mul, z_mull, z_lmul, z_neg, z_negl, z_in, z_inl, z_ltT, z_ltF, z_eqF, z_10, z_01, z_litne, z_ne0, z_0ne, z_ne1, z_1ne, z_lt64, z_02, z_03, z_04, z_05, z_12, z_13, z_14, z_15, z_20, z_21, z_23, z_24, z_25, z_30, z_31, z_32, z_34, z_35, z_40, z_41, z_42, z_43, z_45, z_50, z_51, z_52, z_53, z_54]
      · rw [show fwl w k (c, r) = (c, r) from if_neg (fun q => g1 q.2.1)]
        refine ⟨j, ?_, h4, hj, hf⟩
        rw [bk_282_4]
        simp (maxSteps := 1000000) (disch := omega) only [e5, a1, g, g1, hF, hY, y_ckd, y_ck2d, y_ond, y_onn, y_oI, y_oIx, y_oJ, y_oV, y_oVx, y_oR, y_oRn, y_oRx, y_b0, y_b1, y_bi, y_bid, y_wIK, y_wIL, y_wII, y_wIJ, y_wIR, y_wIN, y_wIw, y_sI, ↓reduceIte, Nat.reduceEqDiff, eq_self, true_or, or_true, false_or, or_false, and_true, true_and, false_and, and_false, not_true, not_false_eq_true, tf_T, tf_F, y_up1, y_up2, y_xx, y_nx, y_sJ, y_sR, Int32.reduceLT, y_nxK, y_nxL, y_nxR, y_sJK, y_sJL, y_sJR, y_sJN, y_sRK, y_sRL, y_sRN, Nat.add_zero, z_nat, z_lit, z_lit0, z_lit1, z_in0, z_in1, z_addl0, z_lt, z_ltl, z_llt, z_inj, z_injl, z_add, z_addl, z_ladd, z_mul, z_mull, z_lmul, z_neg, z_negl, z_in, z_inl, z_ltT, z_ltF, z_eqF, z_10, z_01, z_litne, z_ne0, z_0ne, z_ne1, z_1ne, z_lt64, z_02, z_03, z_04, z_05, z_12, z_13, z_14, z_15, z_20, z_21, z_23, z_24, z_25, z_30, z_31, z_32, z_34, z_35, z_40, z_41, z_42, z_43, z_45, z_50, z_51, z_52, z_53, z_54]
    · rw [show fwl w k (c, r) = (c, r) from if_neg (fun q => g q.1)]
      have e : c = 4 := by omega
      subst e
      exact ⟨j, (c_list4 hY e5 h2 (by omega)).trans (c_list4 hY e5 h2 (by omega)).symm, h4, hj, hf⟩) i ⟨Nat.zero_le _, fun m hm => absurd hm (Nat.not_lt_zero _), fun _ _ _ => rfl⟩
  refine ⟨j, ?_, h4, hj, hf⟩
  have e5 : j 94 8 = Int32.ofNat (cn w 2621) := (hf _ _ (by omega)).trans (hS.1.trans hc.1)
  rw [bk_282_0]
  refine Eq.trans E ?_
  rw [bk_282_4]
  simp (maxSteps := 1000000) (disch := omega) only [e5, hY, y_ckd, y_ck2d, y_ond, y_onn, y_oI, y_oIx, y_oJ, y_oV, y_oVx, y_oR, y_oRn, y_oRx, y_b0, y_b1, y_bi, y_bid, y_wIK, y_wIL, y_wII, y_wIJ, y_wIR, y_wIN, y_wIw, y_sI, ↓reduceIte, Nat.reduceEqDiff, eq_self, true_or, or_true, false_or, or_false, and_true, true_and, false_and, and_false, not_true, not_false_eq_true, tf_T, tf_F, y_up1, y_up2, y_xx, y_nx, y_sJ, y_sR, Int32.reduceLT, y_nxK, y_nxL, y_nxR, y_sJK, y_sJL, y_sJR, y_sJN, y_sRK, y_sRL, y_sRN, Nat.add_zero, z_nat, z_lit, z_lit0, z_lit1, z_in0, z_in1, z_addl0, z_lt, z_ltl, z_llt, z_inj, z_injl, z_add, z_addl, z_ladd, z_mul, z_mull, z_lmul, z_neg, z_negl, z_in, z_inl, z_ltT, z_ltF, z_eqF, z_10, z_01, z_litne, z_ne0, z_0ne, z_ne1, z_1ne, z_lt64, z_02, z_03, z_04, z_05, z_12, z_13, z_14, z_15, z_20, z_21, z_23, z_24, z_25, z_30, z_31, z_32, z_34, z_35, z_40, z_41, z_42, z_43, z_45, z_50, z_51, z_52, z_53, z_54]
theorem m_list4 {k : Nat} (hM : Md B) (e5 : i 875 2621 = Int32.ofNat L) (hL : L ≤ 8) (hk : k ≤ 8) : am_fx am_P (d + 2) 114 9 [some (.ref 874), some (.int (Int32.ofNat 4)), some (.int (Int32.ofNat k)), none, none, none, none, none, none] [] (am_wI B i) = am_fx am_P (d + 2) 114 69 [some (.ref 874), some (.int (Int32.ofNat 4)), none, none, none, none, none, none, none] [] (am_wI B i) := by
  rw [bk_114_9]
  by_cases g : k < L
  · simp (maxSteps := 1000000) (disch := omega) only [e5, g, hM, y_ckd, y_ck2d, y_ond, y_onn, y_oI, y_oIx, y_oJ, y_oV, y_oVx, y_oR, y_oRn, y_oRx, y_b0, y_b1, y_bi, y_bid, y_wIK, y_wIL, y_wII, y_wIJ, y_wIR, y_wIN, y_wIw, y_sI, ↓reduceIte, Nat.reduceEqDiff, eq_self, true_or, or_true, false_or, or_false, and_true, true_and, false_and, and_false, not_true, not_false_eq_true, tf_T, tf_F, y_up1, y_up2, y_xx, y_nx, y_sJ, y_sR, Int32.reduceLT, y_nxK, y_nxL, y_nxR, y_sJK, y_sJL, y_sJR, y_sJN, y_sRK, y_sRL, y_sRN, Nat.add_zero, z_nat, z_lit, z_lit0, z_lit1, z_in0, z_in1, z_addl0, z_lt, z_ltl, z_llt, z_inj, z_injl, z_add, z_addl, z_ladd, z_mul, z_mull, z_lmul, z_neg, z_negl, z_in, z_inl, z_ltT, z_ltF, z_eqF, z_10, z_01, z_litne, z_ne0, z_0ne, z_ne1, z_1ne, z_lt64, z_02, z_03, z_04, z_05, z_12, z_13, z_14, z_15, z_20, z_21, z_23, z_24, z_25, z_30, z_31, z_32, z_34, z_35, z_40, z_41, z_42, z_43, z_45, z_50, z_51, z_52, z_53, z_54]
  · simp (maxSteps := 1000000) (disch := omega) only [e5, g, hM, y_ckd, y_ck2d, y_ond, y_onn, y_oI, y_oIx, y_oJ, y_oV, y_oVx, y_oR, y_oRn, y_oRx, y_b0, y_b1, y_bi, y_bid, y_wIK, y_wIL, y_wII, y_wIJ, y_wIR, y_wIN, y_wIw, y_sI, ↓reduceIte, Nat.reduceEqDiff, eq_self, true_or, or_true, false_or, or_false, and_true, true_and, false_and, and_false, not_true, not_false_eq_true, tf_T, tf_F, y_up1, y_up2, y_xx, y_nx, y_sJ, y_sR, Int32.reduceLT, y_nxK, y_nxL, y_nxR, y_sJK, y_sJL, y_sJR, y_sJN, y_sRK, y_sRL, y_sRN, Nat.add_zero, z_nat, z_lit, z_lit0, z_lit1, z_in0, z_in1, z_addl0, z_lt, z_ltl, z_llt, z_inj, z_injl, z_add, z_addl, z_ladd, z_mul, z_mull, z_lmul, z_neg, z_negl, z_in, z_inl, z_ltT, z_ltF, z_eqF, z_10, z_01, z_litne, z_ne0, z_0ne, z_ne1, z_1ne, z_lt64, z_02, z_03, z_04, z_05, z_12, z_13, z_14, z_15, z_20, z_21, z_23, z_24, z_25, z_30, z_31, z_32, z_34, z_35, z_40, z_41, z_42, z_43, z_45, z_50, z_51, z_52, z_53, z_54]
theorem m_list (hM : Md B) (hw : ∀ s, s < 12042 → i 875 s = w s) (hW : Wd w) : ∃ i', am_fx am_P (d + 2) 114 9 [some (.ref 874), some (.int (Int32.ofNat (wls w 0).1)), some (.int (Int32.ofNat 0)), none, none, none, none, none, none] [] (am_wI B i) = am_fx am_P (d + 2) 114 69 [some (.ref 874), some (.int (Int32.ofNat (wls w (cn w 2621)).1)), none, none, none, none, none, none, none] [] (am_wI B i') ∧ (wls w (cn w 2621)).1 ≤ 4 ∧ (∀ m, m < (wls w (cn w 2621)).1 → i' 887 m = (wls w (cn w 2621)).2 m) ∧ ∀ q m, q ≠ 887 → i' q m = i q m := by
  have hc := hW.1.2.2.2.1
  have h2 := hc.2
  obtain ⟨j, E, h4, hj, hf⟩ := lp_inv (fun k j => am_fx am_P (d + 2) 114 9 [some (.ref 874), some (.int (Int32.ofNat (wls w k).1)), some (.int (Int32.ofNat k)), none, none, none, none, none, none] [] (am_wI B j)) (fun k j => (wls w k).1 ≤ 4 ∧ (∀ m, m < (wls w k).1 → j 887 m = (wls w k).2 m) ∧ ∀ q m, q ≠ 887 → j q m = i q m) (cn w 2621) (fun k j hk hI => by
    obtain ⟨h4, hj, hf⟩ := hI
    have e5 : j 875 2621 = Int32.ofNat (cn w 2621) := ((hf _ _ (by omega)).trans (hw _ (by omega))).trans hc.1
    have a1 := (hf 875 (2622 + 49 * k) (by omega)).trans (hw _ (by omega))
    have a2 := (hf 875 (2622 + 49 * k + 1) (by omega)).trans (hw _ (by omega))
    have b1 := (hW.2.2.2.2.1.1 k hk (by omega)).2.1.1
    rw [wls_s]
    generalize wls w k = a at *
    obtain ⟨c, r⟩ := a
    have h4 : c ≤ 4 := h4
    have hj : ∀ m, m < c → j 887 m = r m := hj
    show ∃ s', am_fx am_P (d + 2) 114 9 [some (.ref 874), some (.int (Int32.ofNat c)), some (.int (Int32.ofNat k)), none, none, none, none, none, none] [] (am_wI B j) = _ ∧ _
    by_cases g : c < 4
    · by_cases g1 : w (2622 + 49 * k) = 1
      · by_cases g2 : w (2622 + 49 * k + 1) = 0
        · rw [show fwl w k (c, r) = (c, r) from if_neg (fun q => absurd q.2.2 (by rw [g2]; decide))]
          refine ⟨j, ?_, h4, hj, hf⟩
          rw [bk_114_9]
          simp (maxSteps := 1000000) (disch := omega) only [(fun d x0 x1 x2 B i => bk_67_0 d x0 x1 x2 (am_wI B i)), (fun d x0 x1 B i => bk_66_0 d x0 x1 (am_wI B i)), e5, a1, a2, g, g1, g2, hM, y_ckd, y_ck2d, y_ond, y_onn, y_oI, y_oIx, y_oJ, y_oV, y_oVx, y_oR, y_oRn, y_oRx, y_b0, y_b1, y_bi, y_bid, y_wIK, y_wIL, y_wII, y_wIJ, y_wIR, y_wIN, y_wIw, y_sI, ↓reduceIte, Nat.reduceEqDiff, eq_self, true_or, or_true, false_or, or_false, and_true, true_and, false_and, and_false, not_true, not_false_eq_true, tf_T, tf_F, y_up1, y_up2, y_xx, y_nx, y_sJ, y_sR, Int32.reduceLT, y_nxK, y_nxL, y_nxR, y_sJK, y_sJL, y_sJR, y_sJN, y_sRK, y_sRL, y_sRN, Nat.add_zero, z_nat, z_lit, z_lit0, z_lit1, z_in0, z_in1, z_addl0, z_lt, z_ltl, z_llt, z_inj, z_injl, z_add, z_addl, z_ladd, z_mul, z_mull, z_lmul, z_neg, z_negl, z_in, z_inl, z_ltT, z_ltF, z_eqF, z_10, z_01, z_litne, z_ne0, z_0ne, z_ne1, z_1ne, z_lt64, z_02, z_03, z_04, z_05, z_12, z_13, z_14, z_15, z_20, z_21, z_23, z_24, z_25, z_30, z_31, z_32, z_34, z_35, z_40, z_41, z_42, z_43, z_45, z_50, z_51, z_52, z_53, z_54]
        · have g3 : 0 < w (2622 + 49 * k + 1) := by
            rw [Int32.lt_iff_toInt_lt] at b1 ⊢
            have e0 : (0 : Int32).toInt = 0 := by decide
            have : (w (2622 + 49 * k + 1)).toInt ≠ 0 := fun q => g2 (Int32.toInt_inj.mp (q.trans e0.symm))
            omega
          rw [show fwl w k (c, r) = (c + 1, fun m => if m = c then w (2622 + 49 * k + 1) else r m) from if_pos ⟨g, g1, g3⟩]
          refine ⟨am_up2 j 887 c (w (2622 + 49 * k + 1)), ?_, g, fun m hm => ?_, fun q m hq => by rw [y_up2 (by omega)]; exact hf q m hq⟩
          · rw [bk_114_9]
            simp (maxSteps := 1000000) (disch := omega) only [(fun d x0 x1 x2 B i => bk_67_0 d x0 x1 x2 (am_wI B i)), (fun d x0 x1 B i => bk_66_0 d x0 x1 (am_wI B i)), e5, a1, a2, g, g1, g2, hM, y_ckd, y_ck2d, y_ond, y_onn, y_oI, y_oIx, y_oJ, y_oV, y_oVx, y_oR, y_oRn, y_oRx, y_b0, y_b1, y_bi, y_bid, y_wIK, y_wIL, y_wII, y_wIJ, y_wIR, y_wIN, y_wIw, y_sI, ↓reduceIte, Nat.reduceEqDiff, eq_self, true_or, or_true, false_or, or_false, and_true, true_and, false_and, and_false, not_true, not_false_eq_true, tf_T, tf_F, y_up1, y_up2, y_xx, y_nx, y_sJ, y_sR, Int32.reduceLT, y_nxK, y_nxL, y_nxR, y_sJK, y_sJL, y_sJR, y_sJN, y_sRK, y_sRL, y_sRN, Nat.add_zero, z_nat, z_lit, z_lit0, z_lit1, z_in0, z_in1, z_addl0, z_lt, z_ltl, z_llt, z_inj, z_injl, z_add, z_addl, z_ladd, z_mul, z_mull, z_lmul, z_neg, z_negl, z_in, z_inl, z_ltT, z_ltF, z_eqF, z_10, z_01, z_litne, z_ne0, z_0ne, z_ne1, z_1ne, z_lt64, z_02, z_03, z_04, z_05, z_12, z_13, z_14, z_15, z_20, z_21, z_23, z_24, z_25, z_30, z_31, z_32, z_34, z_35, z_40, z_41, z_42, z_43, z_45, z_50, z_51, z_52, z_53, z_54]
          · have hm : m < c + 1 := hm
            show _ = if m = c then w (2622 + 49 * k + 1) else r m
            by_cases e : m = c
            · rw [y_up1 rfl e, if_pos e]
            · rw [y_up2 (by omega), if_neg e]
              exact hj m (by omega)
      · rw [show fwl w k (c, r) = (c, r) from if_neg (fun q => g1 q.2.1)]
        refine ⟨j, ?_, h4, hj, hf⟩
        rw [bk_114_9]
        simp (maxSteps := 1000000) (disch := omega) only [(fun d x0 x1 x2 B i => bk_67_0 d x0 x1 x2 (am_wI B i)), (fun d x0 x1 B i => bk_66_0 d x0 x1 (am_wI B i)), e5, a1, g, g1, hM, y_ckd, y_ck2d, y_ond, y_onn, y_oI, y_oIx, y_oJ, y_oV, y_oVx, y_oR, y_oRn, y_oRx, y_b0, y_b1, y_bi, y_bid, y_wIK, y_wIL, y_wII, y_wIJ, y_wIR, y_wIN, y_wIw, y_sI, ↓reduceIte, Nat.reduceEqDiff, eq_self, true_or, or_true, false_or, or_false, and_true, true_and, false_and, and_false, not_true, not_false_eq_true, tf_T, tf_F, y_up1, y_up2, y_xx, y_nx, y_sJ, y_sR, Int32.reduceLT, y_nxK, y_nxL, y_nxR, y_sJK, y_sJL, y_sJR, y_sJN, y_sRK, y_sRL, y_sRN, Nat.add_zero, z_nat, z_lit, z_lit0, z_lit1, z_in0, z_in1, z_addl0, z_lt, z_ltl, z_llt, z_inj, z_injl, z_add, z_addl, z_ladd, z_mul, z_mull, z_lmul, z_neg, z_negl, z_in, z_inl, z_ltT, z_ltF, z_eqF, z_10, z_01, z_litne, z_ne0, z_0ne, z_ne1, z_1ne, z_lt64, z_02, z_03, z_04, z_05, z_12, z_13, z_14, z_15, z_20, z_21, z_23, z_24, z_25, z_30, z_31, z_32, z_34, z_35, z_40, z_41, z_42, z_43, z_45, z_50, z_51, z_52, z_53, z_54]
    · rw [show fwl w k (c, r) = (c, r) from if_neg (fun q => g q.1)]
      have e : c = 4 := by omega
      subst e
      exact ⟨j, (m_list4 hM e5 h2 (by omega)).trans (m_list4 hM e5 h2 (by omega)).symm, h4, hj, hf⟩) i ⟨Nat.zero_le _, fun m hm => absurd hm (Nat.not_lt_zero _), fun _ _ _ => rfl⟩
  refine ⟨j, E.trans ?_, h4, hj, hf⟩
  have e5 : j 875 2621 = Int32.ofNat (cn w 2621) := ((hf _ _ (by omega)).trans (hw _ (by omega))).trans hc.1
  rw [bk_114_9]
  simp (maxSteps := 1000000) (disch := omega) only [e5, hM, y_ckd, y_ck2d, y_ond, y_onn, y_oI, y_oIx, y_oJ, y_oV, y_oVx, y_oR, y_oRn, y_oRx, y_b0, y_b1, y_bi, y_bid, y_wIK, y_wIL, y_wII, y_wIJ, y_wIR, y_wIN, y_wIw, y_sI, ↓reduceIte, Nat.reduceEqDiff, eq_self, true_or, or_true, false_or, or_false, and_true, true_and, false_and, and_false, not_true, not_false_eq_true, tf_T, tf_F, y_up1, y_up2, y_xx, y_nx, y_sJ, y_sR, Int32.reduceLT, y_nxK, y_nxL, y_nxR, y_sJK, y_sJL, y_sJR, y_sJN, y_sRK, y_sRL, y_sRN, Nat.add_zero, z_nat, z_lit, z_lit0, z_lit1, z_in0, z_in1, z_addl0, z_lt, z_ltl, z_llt, z_inj, z_injl, z_add, z_addl, z_ladd, z_mul, z_mull, z_lmul, z_neg, z_negl, z_in, z_inl, z_ltT, z_ltF, z_eqF, z_10, z_01, z_litne, z_ne0, z_0ne, z_ne1, z_1ne, z_lt64, z_02, z_03, z_04, z_05, z_12, z_13, z_14, z_15, z_20, z_21, z_23, z_24, z_25, z_30, z_31, z_32, z_34, z_35, z_40, z_41, z_42, z_43, z_45, z_50, z_51, z_52, z_53, z_54]
end Gangs
