/-! BREAKS: made by wip/whole/math/66.py. -/
section Brk
variable {B B1 : am_A} {i i1 : Nat → Nat → Int32} {σ σ' : Sg} {w : Nat → Int32} {L j d b : Nat} {x y : Int32}
/-- the first k needs of a ship give their pieces back -/
def brw (w : Nat → Int32) (s k : Nat) : Nat → Int32 := itr (fun n v => if v (2622 + 49 * s + 9 + 5 * n + 4) = -1 then v else frw v s n (cn v (2622 + 49 * s + 9 + 5 * n + 4))) k w
theorem brw_s {s k : Nat} : brw w s (k + 1) = if brw w s k (2622 + 49 * s + 9 + 5 * k + 4) = -1 then brw w s k else frw (brw w s k) s k (cn (brw w s k) (2622 + 49 * s + 9 + 5 * k + 4)) := rfl
theorem cn_eq {a b : Nat → Int32} {z : Nat} (h : a z = b z) : cn a z = cn b z := congrArg Int32.toNatClampNeg h
theorem brw_ok {s : Nat} (h : Wd w) (hs : s < cn w 2621) (s8 : s < 8) : ∀ k, k ≤ cn w (2622 + 49 * s + 8) → k ≤ 8 → Wd (brw w s k) ∧ ∀ z, (z < 461 ∨ 2621 ≤ z) → (∀ m, m < k → z ≠ 2622 + 49 * s + 9 + 5 * m + 4) → brw w s k z = w z 
  | 0, _, _ => ⟨h, fun _ _ _ => rfl⟩
  | k + 1, hk, k8 => by
    obtain ⟨h1, h2⟩ := brw_ok h hs s8 k (by omega) (by omega)
    have e21 : cn (brw w s k) 2621 = cn w 2621 := by unfold cn; rw [h2 _ (by omega) (fun m hm => by omega)]
    have e8 : cn (brw w s k) (2622 + 49 * s + 8) = cn w (2622 + 49 * s + 8) := by unfold cn; rw [h2 _ (by omega) (fun m hm => by omega)]
    have h4 := h1.1.2.2.1
    have h42 := h4.2
    rw [brw_s]
    by_cases g : brw w s k (2622 + 49 * s + 9 + 5 * k + 4) = -1
    · rw [if_pos g]
      exact ⟨h1, fun z hz hm => h2 z hz fun m hm' => hm m (by omega)⟩
    · rw [if_neg g]
      obtain ⟨er, hr⟩ := nn_of ((h1.2.2.2.2.1.1 s (by omega) s8).2.2.2.2.2.2.2.2 k (by omega) (by omega)).2 h4.1 (by omega) g
      exact ⟨Wd_take h1 (by omega) s8 (by omega) hr (by omega) (by omega) er, fun z hz hm => by
        rw [frw_ne (hm k (by omega)) (by omega) (by omega)]
        exact h2 z hz fun m hm' => hm m (by omega)⟩
theorem up_same {a k : Nat} {v : Int32} (h : i a k = v) : am_up2 i a k v = i := by
  funext q m
  by_cases e : q = a ∧ m = k
  · rw [y_up1 e.1 e.2, e.1, e.2, h]
  · rw [y_up2 (by omega)]
abbrev brf (w : Nat → Int32) (s : Nat) : Nat → Int32 := wu (wu (brw w s (cn w (2622 + 49 * s + 8))) (2622 + 49 * s) 5) (2622 + 49 * s + 4) (-1)
theorem c_breakUp {s : Nat} (hF : Fc B) (hY : Yd B 94) (h : Rep B i 94 w) (hW : Wd w) (hs : s < cn w 2621) : ∃ i', am_fx am_P (d + 4) 254 0 [some (.ref 94), some (.ref (94 + 212 + 6 * s)), none, none] [] (am_wI B i) = some (.inl (some (.int (nfit w s))), am_wI B i') ∧ Rep B i' 94 (brf w s) ∧ ∀ q k, (q < 94 ∨ 354 ≤ q) → i' q k = i q k := by
  have hc := hW.1.2.2.2.1
  have h8 := hc.2
  obtain ⟨-, -, -, -, -, -, -, hn, -⟩ := hW.2.2.2.2.1.1 s hs (by omega)
  have n8 := hn.2
  obtain ⟨j, E, hR, hf⟩ := lp_inv (fun k j => am_fx am_P (d + 4) 254 7 [some (.ref 94), some (.ref (94 + 212 + 6 * s)), some (.int (nfit w s)), some (.int (Int32.ofNat k))] [] (am_wI B j)) (fun k j => Rep B j 94 (brw w s k) ∧ ∀ q k', (q < 94 ∨ 354 ≤ q) → j q k' = i q k') (cn w (2622 + 49 * s + 8)) (fun k j hk hI => by
    obtain ⟨hR, hf⟩ := hI
    obtain ⟨h1, h2⟩ := brw_ok hW hs (by omega) k (by omega) (by omega)
    have hw21 : brw w s k 2621 = w 2621 := h2 _ (by omega) (fun m hm => by omega)
    have hw8 : brw w s k (2622 + 49 * s + 8) = w (2622 + 49 * s + 8) := h2 _ (by omega) (fun m hm => by omega)
    have hc' := isc_fr hc hw21
    have hn' := isc_fr hn hw8
    have e21 : cn (brw w s k) 2621 = cn w 2621 := by unfold cn; rw [hw21]
    have e8 : cn (brw w s k) (2622 + 49 * s + 8) = cn w (2622 + 49 * s + 8) := by unfold cn; rw [hw8]
    have h4 := h1.1.2.2.1
    have h42 := h4.2
    have i8 : j (94 + 212 + 6 * s) 8 = Int32.ofNat (cn w (2622 + 49 * s + 8)) := ((hR.2.2.2.1.2 s (by omega) (by omega)).2.2.2.2.2.2.2.2.1.trans hw8).trans hn.1
    by_cases g : brw w s k (2622 + 49 * s + 9 + 5 * k + 4) = -1
    · have iq := ((hR.2.2.2.1.2 s (by omega) (by omega)).2.2.2.2.2.2.2.2.2 k (by omega) (by omega)).2.2.2.2.trans g
      refine ⟨j, ?_, ?_, hf⟩
      · rw [bk_254_7]
        simp (disch := omega) only [i8, c_takeOut0 (d := d) hY hR.2.2.2.1 hR.2.2.1.1 hc' (by omega) hn' (by omega) h4 g, up_same iq, hY, y_ckd, y_ck2d, y_ond, y_onn, y_oI, y_oIx, y_oJ, y_oV, y_oVx, y_oR, y_oRn, y_oRx, y_b0, y_b1, y_bi, y_bid, y_wIK, y_wIL, y_wII, y_wIJ, y_wIR, y_wIN, y_wIw, y_sI, ↓reduceIte, Nat.reduceEqDiff, eq_self, true_or, or_true, false_or, or_false, and_true, true_and, false_and, and_false, not_true, not_false_eq_true, tf_T, tf_F, y_up1, y_up2, y_xx, y_nx, y_sJ, y_sR, Int32.reduceLT, y_nxK, y_nxL, y_nxR, y_sJK, y_sJL, y_sJR, y_sJN, y_sRK, y_sRL, y_sRN, Nat.add_zero, z_nat, z_lit, z_lit0, z_lit1, z_in0, z_in1, z_addl0, z_lt, z_ltl, z_llt, z_inj, z_injl, z_add, z_addl, z_ladd, z_mul, z_mull, z_lmul, z_neg, z_negl, z_in, z_inl, z_ltT, z_ltF, z_eqF, z_10, z_01, z_litne, z_ne0, z_0ne, z_ne1, z_1ne, z_lt64, z_02, z_03, z_04, z_05, z_12, z_13, z_14, z_15, z_20, z_21, z_23, z_24, z_25, z_30, z_31, z_32, z_34, z_35, z_40, z_41, z_42, z_43, z_45, z_50, z_51, z_52, z_53, z_54]
      · rw [brw_s, if_pos g]
        exact hR
    · obtain ⟨er, hr⟩ := nn_of ((h1.2.2.2.2.1.1 s (by omega) (by omega)).2.2.2.2.2.2.2.2 k (by omega) (by omega)).2 h4.1 (by omega) g
      refine ⟨fri j 94 s k (cn (brw w s k) (2622 + 49 * s + 9 + 5 * k + 4)), ?_, ?_, fun q k' hq => ?_⟩
      · rw [bk_254_7]
        simp (disch := omega) only [i8, c_takeOut (d := d) hY hR.2.2.2.1 hR.2.2.1.1 hc' (by omega) hn' (by omega) h4 er hr, hY, y_ckd, y_ck2d, y_ond, y_onn, y_oI, y_oIx, y_oJ, y_oV, y_oVx, y_oR, y_oRn, y_oRx, y_b0, y_b1, y_bi, y_bid, y_wIK, y_wIL, y_wII, y_wIJ, y_wIR, y_wIN, y_wIw, y_sI, ↓reduceIte, Nat.reduceEqDiff, eq_self, true_or, or_true, false_or, or_false, and_true, true_and, false_and, and_false, not_true, not_false_eq_true, tf_T, tf_F, y_up1, y_up2, y_xx, y_nx, y_sJ, y_sR, Int32.reduceLT, y_nxK, y_nxL, y_nxR, y_sJK, y_sJL, y_sJR, y_sJN, y_sRK, y_sRL, y_sRN, Nat.add_zero, z_nat, z_lit, z_lit0, z_lit1, z_in0, z_in1, z_addl0, z_lt, z_ltl, z_llt, z_inj, z_injl, z_add, z_addl, z_ladd, z_mul, z_mull, z_lmul, z_neg, z_negl, z_in, z_inl, z_ltT, z_ltF, z_eqF, z_10, z_01, z_litne, z_ne0, z_0ne, z_ne1, z_1ne, z_lt64, z_02, z_03, z_04, z_05, z_12, z_13, z_14, z_15, z_20, z_21, z_23, z_24, z_25, z_30, z_31, z_32, z_34, z_35, z_40, z_41, z_42, z_43, z_45, z_50, z_51, z_52, z_53, z_54]
      · rw [brw_s, if_neg g]
        exact Rep_take hR (by omega) (by omega) (by omega) (by omega) hr (by omega)
      · simp (disch := omega) only [y_up2]
        exact hf q k' hq) i ⟨h, fun _ _ _ => rfl⟩
  obtain ⟨h1, h2⟩ := brw_ok hW hs (by omega) (cn w (2622 + 49 * s + 8)) (by omega) (by omega)
  have hw21 : brw w s (cn w (2622 + 49 * s + 8)) 2621 = w 2621 := h2 _ (by omega) (fun m hm => by omega)
  have e21 : cn (brw w s (cn w (2622 + 49 * s + 8))) 2621 = cn w 2621 := cn_eq hw21
  have i8 : j (94 + 212 + 6 * s) 8 = Int32.ofNat (cn w (2622 + 49 * s + 8)) := ((hR.2.2.2.1.2 s (by omega) (by omega)).2.2.2.2.2.2.2.2.1.trans (h2 _ (by omega) (fun m hm => by omega))).trans hn.1
  have eF := c_fit (d := d + 3) hY h.2.2.2.1 hc hs hn
  refine ⟨am_up2 (am_up2 j (94 + 212 + 6 * s) 3 5) (94 + 212 + 6 * s) 4 (-1), ?_, ?_, fun q k hq => ?_⟩
  · rw [bk_254_0]
    simp (disch := omega) only [eF, hY, y_ckd, y_ck2d, y_ond, y_onn, y_oI, y_oIx, y_oJ, y_oV, y_oVx, y_oR, y_oRn, y_oRx, y_b0, y_b1, y_bi, y_bid, y_wIK, y_wIL, y_wII, y_wIJ, y_wIR, y_wIN, y_wIw, y_sI, ↓reduceIte, Nat.reduceEqDiff, eq_self, true_or, or_true, false_or, or_false, and_true, true_and, false_and, and_false, not_true, not_false_eq_true, tf_T, tf_F, y_up1, y_up2, y_xx, y_nx, y_sJ, y_sR, Int32.reduceLT, y_nxK, y_nxL, y_nxR, y_sJK, y_sJL, y_sJR, y_sJN, y_sRK, y_sRL, y_sRN, Nat.add_zero, z_nat, z_lit, z_lit0, z_lit1, z_in0, z_in1, z_addl0, z_lt, z_ltl, z_llt, z_inj, z_injl, z_add, z_addl, z_ladd, z_mul, z_mull, z_lmul, z_neg, z_negl, z_in, z_inl, z_ltT, z_ltF, z_eqF, z_10, z_01, z_litne, z_ne0, z_0ne, z_ne1, z_1ne, z_lt64, z_02, z_03, z_04, z_05, z_12, z_13, z_14, z_15, z_20, z_21, z_23, z_24, z_25, z_30, z_31, z_32, z_34, z_35, z_40, z_41, z_42, z_43, z_45, z_50, z_51, z_52, z_53, z_54]
    refine E.trans ?_
    rw [bk_254_7]
    simp (disch := omega) only [i8, (fun d x2 B i => bk_254_37 d x2 (am_wI B i)), hY, y_ckd, y_ck2d, y_ond, y_onn, y_oI, y_oIx, y_oJ, y_oV, y_oVx, y_oR, y_oRn, y_oRx, y_b0, y_b1, y_bi, y_bid, y_wIK, y_wIL, y_wII, y_wIJ, y_wIR, y_wIN, y_wIw, y_sI, ↓reduceIte, Nat.reduceEqDiff, eq_self, true_or, or_true, false_or, or_false, and_true, true_and, false_and, and_false, not_true, not_false_eq_true, tf_T, tf_F, y_up1, y_up2, y_xx, y_nx, y_sJ, y_sR, Int32.reduceLT, y_nxK, y_nxL, y_nxR, y_sJK, y_sJL, y_sJR, y_sJN, y_sRK, y_sRL, y_sRN, Nat.add_zero, z_nat, z_lit, z_lit0, z_lit1, z_in0, z_in1, z_addl0, z_lt, z_ltl, z_llt, z_inj, z_injl, z_add, z_addl, z_ladd, z_mul, z_mull, z_lmul, z_neg, z_negl, z_in, z_inl, z_ltT, z_ltF, z_eqF, z_10, z_01, z_litne, z_ne0, z_0ne, z_ne1, z_1ne, z_lt64, z_02, z_03, z_04, z_05, z_12, z_13, z_14, z_15, z_20, z_21, z_23, z_24, z_25, z_30, z_31, z_32, z_34, z_35, z_40, z_41, z_42, z_43, z_45, z_50, z_51, z_52, z_53, z_54]
  · obtain ⟨a1, a2, a3, a4, a5, a6, a7, a8, a9, a10⟩ := hR.2.2.2.1.2 s (by omega) (by omega)
    refine Rep_sh hR (by omega) (by omega) (by intros; simp (disch := omega) only [y_up2]) (by intros; simp (disch := omega) only [wu_ne]) (ShR_8 (hR.2.2.2.1.2 s (by omega) (by omega)) (by intros; simp (disch := omega) only [y_up2]) (by intros; simp (disch := omega) only [wu_ne]) ?_ ?_ ?_ ?_ ?_ ?_ ?_ ?_ ?_)
    all_goals (simp (disch := omega) only [y_up1, y_up2, wu_at, wu_ne]; try assumption)
  · simp (disch := omega) only [y_up2]
    exact hf q k hq
theorem Wd_brf {s : Nat} (h : Wd w) (hs : s < cn w 2621) (s8 : s < 8) : Wd (brf w s) := by
  have hn := (h.2.2.2.2.1.1 s hs s8).2.2.2.2.2.2.2.1
  have n8 := hn.2
  obtain ⟨h1, h2⟩ := brw_ok h hs s8 (cn w (2622 + 49 * s + 8)) (by omega) (by omega)
  have e21 : cn (brw w s (cn w (2622 + 49 * s + 8))) 2621 = cn w 2621 := cn_eq (h2 _ (by omega) (fun m hm => by omega))
  obtain ⟨b0, b1, b3, b4, b5, b6, b7, b8, b9⟩ := h1.2.2.2.2.1.1 s (by omega) s8
  unfold brf
  exact Wd_sh8 h1 (by omega) s8 (by intros; simp (disch := omega) only [wu_ne]) (by rw [wu_ne (by omega), wu_at rfl]; decide) (by rw [wu_ne (by omega), wu_ne (by omega)]; exact b1) (by rw [wu_ne (by omega), wu_ne (by omega)]; exact b3) (fun q => absurd q (by rw [wu_ne (by omega), wu_at rfl]; decide)) (fun _ => wu_at rfl) (by rw [wu_ne (by omega), wu_ne (by omega)]; exact b6) (by rw [wu_ne (by omega), wu_ne (by omega)]; exact b7)
theorem f_breaks_x0 (h : CR B i σ) (g : ¬ (¬ x < 0 ∧ x < σ.1 2621)) : FRs B i σ (am_fx am_P (d + 150) 322 0 [some (.ref 64), some (.int x), none] [] (am_wI B i)) (.inr 1) := by
  refine FRs_x h ?_
  have hF : Fc B := h.1.1
  have hY : Yd B 94 := h.1.2.1
  rw [bk_322_0]
  simp (disch := omega) only [c_shN0 hF hY h.2.1.2.2.2.1.1 g, hF, hY, y_ckd, y_ck2d, y_ond, y_onn, y_oI, y_oIx, y_oJ, y_oV, y_oVx, y_oR, y_oRn, y_oRx, y_b0, y_b1, y_bi, y_bid, y_wIK, y_wIL, y_wII, y_wIJ, y_wIR, y_wIN, y_wIw, y_sI, ↓reduceIte, Nat.reduceEqDiff, eq_self, true_or, or_true, false_or, or_false, and_true, true_and, false_and, and_false, not_true, not_false_eq_true, tf_T, tf_F, y_up1, y_up2, y_xx, y_nx, y_sJ, y_sR, Int32.reduceLT, y_nxK, y_nxL, y_nxR, y_sJK, y_sJL, y_sJR, y_sJN, y_sRK, y_sRL, y_sRN, Nat.add_zero, z_nat, z_lit, z_lit0, z_lit1, z_in0, z_in1, z_addl0, z_lt, z_ltl, z_llt, z_inj, z_injl, z_add, z_addl, z_ladd, z_mul, z_mull, z_lmul, z_neg, z_negl, z_in, z_inl, z_ltT, z_ltF, z_eqF, z_10, z_01, z_litne, z_ne0, z_0ne, z_ne1, z_1ne, z_lt64, z_02, z_03, z_04, z_05, z_12, z_13, z_14, z_15, z_20, z_21, z_23, z_24, z_25, z_30, z_31, z_32, z_34, z_35, z_40, z_41, z_42, z_43, z_45, z_50, z_51, z_52, z_53, z_54]
theorem m_breaks_x0 (h : MR B i σ) (hc : isc σ.1 2621 8) (g : ¬ (¬ x < 0 ∧ x < σ.1 2621)) : MRs B i σ (am_fx am_P (d + 150) 105 0 [some (.ref 874), some (.int x), none, none] [] (am_wI B i)) (some (.int 0)) 1 := by
  refine MRs_x h ?_
  have hM : Md B := h.1.1
  have e5 := h.2.1 2621 (by omega)
  rw [bk_105_0]
  simp (maxSteps := 2000000) (disch := omega) only [(fun d x0 x1 B i => bk_69_0 d x0 x1 (am_wI B i)), m_in, z_pred hc.1, Classical.not_not, g, m_thr1 hM, e5, hM, y_ckd, y_ck2d, y_ond, y_onn, y_oI, y_oIx, y_oJ, y_oV, y_oVx, y_oR, y_oRn, y_oRx, y_b0, y_b1, y_bi, y_bid, y_wIK, y_wIL, y_wII, y_wIJ, y_wIR, y_wIN, y_wIw, y_sI, ↓reduceIte, Nat.reduceEqDiff, eq_self, true_or, or_true, false_or, or_false, and_true, true_and, false_and, and_false, not_true, not_false_eq_true, tf_T, tf_F, y_up1, y_up2, y_xx, y_nx, y_sJ, y_sR, Int32.reduceLT, y_nxK, y_nxL, y_nxR, y_sJK, y_sJL, y_sJR, y_sJN, y_sRK, y_sRL, y_sRN, Nat.add_zero, z_nat, z_lit, z_lit0, z_lit1, z_in0, z_in1, z_addl0, z_lt, z_ltl, z_llt, z_inj, z_injl, z_add, z_addl, z_ladd, z_mul, z_mull, z_lmul, z_neg, z_negl, z_in, z_inl, z_ltT, z_ltF, z_eqF, z_10, z_01, z_litne, z_ne0, z_0ne, z_ne1, z_1ne, z_lt64, z_02, z_03, z_04, z_05, z_12, z_13, z_14, z_15, z_20, z_21, z_23, z_24, z_25, z_30, z_31, z_32, z_34, z_35, z_40, z_41, z_42, z_43, z_45, z_50, z_51, z_52, z_53, z_54]
theorem z_rg13 {x : Int32} : (¬ x < 1 ∧ ¬ 3 < x) = (x = 1 ∨ x = 2 ∨ x = 3) := by
  refine propext ⟨fun h => ?_, fun h => by rcases h with rfl | rfl | rfl <;> decide⟩
  rw [Int32.lt_iff_toInt_lt, Int32.lt_iff_toInt_lt] at h
  have e1 : (1 : Int32).toInt = 1 := by decide
  have e2 : (2 : Int32).toInt = 2 := by decide
  have e3 : (3 : Int32).toInt = 3 := by decide
  have : x.toInt = 1 ∨ x.toInt = 2 ∨ x.toInt = 3 := by omega
  exact this.imp (fun q => Int32.toInt_inj.mp (q.trans e1.symm)) (Or.imp (fun q => Int32.toInt_inj.mp (q.trans e2.symm)) (fun q => Int32.toInt_inj.mp (q.trans e3.symm)))
theorem f_breaks0 {p : Nat} (h : CR B i σ) (hc : isc σ.1 2621 8) (hp : p < cn σ.1 2621) (g : ¬ (σ.1 (2622 + 49 * p) = 1 ∨ σ.1 (2622 + 49 * p) = 2 ∨ σ.1 (2622 + 49 * p) = 3)) : FRs B i σ (am_fx am_P (d + 150) 322 0 [some (.ref 64), some (.int (Int32.ofNat p)), none] [] (am_wI B i)) (.inl (some (.int (-1)))) := by
  refine FRs_0 h ?_
  have hF : Fc B := h.1.1
  have hY : Yd B 94 := h.1.2.1
  have h8 := hc.2
  have t1 : (Int32.ofNat p < 0) = False := z_neg (by omega)
  have t2 := eq_true (ck_nat hc (by omega) hp).2
  have a1 := (h.2.1.2.2.2.1.2 p hp (by omega)).1
  obtain ⟨g1, g2⟩ := not_or.mp g
  obtain ⟨g2, g3⟩ := not_or.mp g2
  rw [bk_322_0]
  simp (disch := omega) only [c_shN hF hY h.2.1.2.2.2.1.1 hc hp, (fun d x0 B i => bk_230_0 d x0 (am_wI B i)), a1, g1, g2, g3, hF, hY, y_ckd, y_ck2d, y_ond, y_onn, y_oI, y_oIx, y_oJ, y_oV, y_oVx, y_oR, y_oRn, y_oRx, y_b0, y_b1, y_bi, y_bid, y_wIK, y_wIL, y_wII, y_wIJ, y_wIR, y_wIN, y_wIw, y_sI, ↓reduceIte, Nat.reduceEqDiff, eq_self, true_or, or_true, false_or, or_false, and_true, true_and, false_and, and_false, not_true, not_false_eq_true, tf_T, tf_F, y_up1, y_up2, y_xx, y_nx, y_sJ, y_sR, Int32.reduceLT, y_nxK, y_nxL, y_nxR, y_sJK, y_sJL, y_sJR, y_sJN, y_sRK, y_sRL, y_sRN, Nat.add_zero, z_nat, z_lit, z_lit0, z_lit1, z_in0, z_in1, z_addl0, z_lt, z_ltl, z_llt, z_inj, z_injl, z_add, z_addl, z_ladd, z_mul, z_mull, z_lmul, z_neg, z_negl, z_in, z_inl, z_ltT, z_ltF, z_eqF, z_10, z_01, z_litne, z_ne0, z_0ne, z_ne1, z_1ne, z_lt64, z_02, z_03, z_04, z_05, z_12, z_13, z_14, z_15, z_20, z_21, z_23, z_24, z_25, z_30, z_31, z_32, z_34, z_35, z_40, z_41, z_42, z_43, z_45, z_50, z_51, z_52, z_53, z_54]
theorem m_breaks0 {p : Nat} (h : MR B i σ) (hc : isc σ.1 2621 8) (hp : p < cn σ.1 2621) (g : ¬ (σ.1 (2622 + 49 * p) = 1 ∨ σ.1 (2622 + 49 * p) = 2 ∨ σ.1 (2622 + 49 * p) = 3)) : MRs B i σ (am_fx am_P (d + 150) 105 0 [some (.ref 874), some (.int (Int32.ofNat p)), none, none] [] (am_wI B i)) (some (.int (-1))) 0 := by
  refine MRs_0 h ?_
  have hM : Md B := h.1.1
  have h8 := hc.2
  have t1 : (Int32.ofNat p < 0) = False := z_neg (by omega)
  have t2 := eq_true (ck_nat hc (by omega) hp).2
  have e5 := h.2.1 2621 (by omega)
  have e0 := h.2.1 (2622 + 49 * p) (by omega)
  rw [← z_rg13] at g
  rw [bk_105_0]
  simp (maxSteps := 2000000) (disch := omega) only [(fun d x0 x1 B i => bk_69_0 d x0 x1 (am_wI B i)), m_in, z_pred hc.1, Classical.not_not, (fun d x0 x1 x2 B i => bk_67_0 d x0 x1 x2 (am_wI B i)), (fun d x0 x1 B i => bk_66_0 d x0 x1 (am_wI B i)), (fun d x0 x1 x2 x3 B i => bk_68_0 d x0 x1 x2 x3 (am_wI B i)), (fun d x0 x1 B i => bk_70_0 d x0 x1 (am_wI B i)), z_39, z_390, m_thr0, t1, t2, e5, e0, hM, y_ckd, y_ck2d, y_ond, y_onn, y_oI, y_oIx, y_oJ, y_oV, y_oVx, y_oR, y_oRn, y_oRx, y_b0, y_b1, y_bi, y_bid, y_wIK, y_wIL, y_wII, y_wIJ, y_wIR, y_wIN, y_wIw, y_sI, ↓reduceIte, Nat.reduceEqDiff, eq_self, true_or, or_true, false_or, or_false, and_true, true_and, false_and, and_false, not_true, not_false_eq_true, tf_T, tf_F, y_up1, y_up2, y_xx, y_nx, y_sJ, y_sR, Int32.reduceLT, y_nxK, y_nxL, y_nxR, y_sJK, y_sJL, y_sJR, y_sJN, y_sRK, y_sRL, y_sRN, Nat.add_zero, z_nat, z_lit, z_lit0, z_lit1, z_in0, z_in1, z_addl0, z_lt, z_ltl, z_llt, z_inj, z_injl, z_add, z_addl, z_ladd, z_mul, z_mull, z_lmul, z_neg, z_negl, z_in, z_inl, z_ltT, z_ltF, z_eqF, z_10, z_01, z_litne, z_ne0, z_0ne, z_ne1, z_1ne, z_lt64, z_02, z_03, z_04, z_05, z_12, z_13, z_14, z_15, z_20, z_21, z_23, z_24, z_25, z_30, z_31, z_32, z_34, z_35, z_40, z_41, z_42, z_43, z_45, z_50, z_51, z_52, z_53, z_54]
  simp only [g, tf_F, ↓reduceIte]
theorem f_breaks {p : Nat} (h : CR B i σ) (hW : Wd σ.1) (hc : isc σ.1 2621 8) (hp : p < cn σ.1 2621) (g : σ.1 (2622 + 49 * p) = 1 ∨ σ.1 (2622 + 49 * p) = 2 ∨ σ.1 (2622 + 49 * p) = 3) : FRs B i (brf σ.1 p, σ.2) (am_fx am_P (d + 150) 322 0 [some (.ref 64), some (.int (Int32.ofNat p)), none] [] (am_wI B i)) (.inl (some (.int (nfit σ.1 p)))) := by
  have hF : Fc B := h.1.1
  have hY : Yd B 94 := h.1.2.1
  have h8 := hc.2
  have t1 : (Int32.ofNat p < 0) = False := z_neg (by omega)
  have t2 := eq_true (ck_nat hc (by omega) hp).2
  have a1 := (h.2.1.2.2.2.1.2 p hp (by omega)).1
  obtain ⟨i', E, hR, hf⟩ := c_breakUp (d := d + 145) hF hY h.2.1 hW hp
  refine FRs_w (i' := i') h ?_ hR (fun q k h1 _ => hf q k (by omega))
  rw [bk_322_0]
  rcases g with g | g | g
  · simp (disch := omega) only [c_shN hF hY h.2.1.2.2.2.1.1 hc hp, (fun d x0 B i => bk_230_0 d x0 (am_wI B i)), a1, g, E, hF, hY, y_ckd, y_ck2d, y_ond, y_onn, y_oI, y_oIx, y_oJ, y_oV, y_oVx, y_oR, y_oRn, y_oRx, y_b0, y_b1, y_bi, y_bid, y_wIK, y_wIL, y_wII, y_wIJ, y_wIR, y_wIN, y_wIw, y_sI, ↓reduceIte, Nat.reduceEqDiff, eq_self, true_or, or_true, false_or, or_false, and_true, true_and, false_and, and_false, not_true, not_false_eq_true, tf_T, tf_F, y_up1, y_up2, y_xx, y_nx, y_sJ, y_sR, Int32.reduceLT, y_nxK, y_nxL, y_nxR, y_sJK, y_sJL, y_sJR, y_sJN, y_sRK, y_sRL, y_sRN, Nat.add_zero, z_nat, z_lit, z_lit0, z_lit1, z_in0, z_in1, z_addl0, z_lt, z_ltl, z_llt, z_inj, z_injl, z_add, z_addl, z_ladd, z_mul, z_mull, z_lmul, z_neg, z_negl, z_in, z_inl, z_ltT, z_ltF, z_eqF, z_10, z_01, z_litne, z_ne0, z_0ne, z_ne1, z_1ne, z_lt64, z_02, z_03, z_04, z_05, z_12, z_13, z_14, z_15, z_20, z_21, z_23, z_24, z_25, z_30, z_31, z_32, z_34, z_35, z_40, z_41, z_42, z_43, z_45, z_50, z_51, z_52, z_53, z_54]
  · simp (disch := omega) only [c_shN hF hY h.2.1.2.2.2.1.1 hc hp, (fun d x0 B i => bk_230_0 d x0 (am_wI B i)), a1, g, E, hF, hY, y_ckd, y_ck2d, y_ond, y_onn, y_oI, y_oIx, y_oJ, y_oV, y_oVx, y_oR, y_oRn, y_oRx, y_b0, y_b1, y_bi, y_bid, y_wIK, y_wIL, y_wII, y_wIJ, y_wIR, y_wIN, y_wIw, y_sI, ↓reduceIte, Nat.reduceEqDiff, eq_self, true_or, or_true, false_or, or_false, and_true, true_and, false_and, and_false, not_true, not_false_eq_true, tf_T, tf_F, y_up1, y_up2, y_xx, y_nx, y_sJ, y_sR, Int32.reduceLT, y_nxK, y_nxL, y_nxR, y_sJK, y_sJL, y_sJR, y_sJN, y_sRK, y_sRL, y_sRN, Nat.add_zero, z_nat, z_lit, z_lit0, z_lit1, z_in0, z_in1, z_addl0, z_lt, z_ltl, z_llt, z_inj, z_injl, z_add, z_addl, z_ladd, z_mul, z_mull, z_lmul, z_neg, z_negl, z_in, z_inl, z_ltT, z_ltF, z_eqF, z_10, z_01, z_litne, z_ne0, z_0ne, z_ne1, z_1ne, z_lt64, z_02, z_03, z_04, z_05, z_12, z_13, z_14, z_15, z_20, z_21, z_23, z_24, z_25, z_30, z_31, z_32, z_34, z_35, z_40, z_41, z_42, z_43, z_45, z_50, z_51, z_52, z_53, z_54]
  · simp (disch := omega) only [c_shN hF hY h.2.1.2.2.2.1.1 hc hp, (fun d x0 B i => bk_230_0 d x0 (am_wI B i)), a1, g, E, hF, hY, y_ckd, y_ck2d, y_ond, y_onn, y_oI, y_oIx, y_oJ, y_oV, y_oVx, y_oR, y_oRn, y_oRx, y_b0, y_b1, y_bi, y_bid, y_wIK, y_wIL, y_wII, y_wIJ, y_wIR, y_wIN, y_wIw, y_sI, ↓reduceIte, Nat.reduceEqDiff, eq_self, true_or, or_true, false_or, or_false, and_true, true_and, false_and, and_false, not_true, not_false_eq_true, tf_T, tf_F, y_up1, y_up2, y_xx, y_nx, y_sJ, y_sR, Int32.reduceLT, y_nxK, y_nxL, y_nxR, y_sJK, y_sJL, y_sJR, y_sJN, y_sRK, y_sRL, y_sRN, Nat.add_zero, z_nat, z_lit, z_lit0, z_lit1, z_in0, z_in1, z_addl0, z_lt, z_ltl, z_llt, z_inj, z_injl, z_add, z_addl, z_ladd, z_mul, z_mull, z_lmul, z_neg, z_negl, z_in, z_inl, z_ltT, z_ltF, z_eqF, z_10, z_01, z_litne, z_ne0, z_0ne, z_ne1, z_1ne, z_lt64, z_02, z_03, z_04, z_05, z_12, z_13, z_14, z_15, z_20, z_21, z_23, z_24, z_25, z_30, z_31, z_32, z_34, z_35, z_40, z_41, z_42, z_43, z_45, z_50, z_51, z_52, z_53, z_54]
theorem m_breaks {p : Nat} (h : MR B i σ) (hW : Wd σ.1) (hc : isc σ.1 2621 8) (hp : p < cn σ.1 2621) (g : σ.1 (2622 + 49 * p) = 1 ∨ σ.1 (2622 + 49 * p) = 2 ∨ σ.1 (2622 + 49 * p) = 3) : MRs B i (brf σ.1 p, σ.2) (am_fx am_P (d + 150) 105 0 [some (.ref 874), some (.int (Int32.ofNat p)), none, none] [] (am_wI B i)) (some (.int (nfit σ.1 p))) 0 := by
  have hM : Md B := h.1.1
  have h8 := hc.2
  have t1 : (Int32.ofNat p < 0) = False := z_neg (by omega)
  have t2 := eq_true (ck_nat hc (by omega) hp).2
  have e5 := h.2.1 2621 (by omega)
  have e0 := h.2.1 (2622 + 49 * p) (by omega)
  have hn := (hW.2.2.2.2.1.1 p hp (by omega)).2.2.2.2.2.2.2.1
  have n8 := hn.2
  rw [← z_rg13] at g
  have hw0 := up_o (q := 874) (k := 0) (v := 0) (by omega) h.2.1
  obtain ⟨j, E, hj, hf⟩ := lp_inv (fun k j => am_fx am_P (d + 150) 105 40 [some (.ref 874), some (.int (Int32.ofNat p)), some (.int (itr (fun n a => if σ.1 (2622 + 49 * p + 9 + 5 * n + 4) = -1 then a else a + 1) k 0)), some (.int (Int32.ofNat k))] [] (am_wI B j)) (fun k j => (∀ z, z < 12042 → j 875 z = brw σ.1 p k z) ∧ ∀ q k', q ≠ 875 → j q k' = am_up2 i 874 0 0 q k') (cn σ.1 (2622 + 49 * p + 8)) (fun k j hk hI => by
    obtain ⟨hj, hf⟩ := hI
    obtain ⟨h1, h2⟩ := brw_ok hW hp (by omega) k (by omega) (by omega)
    have h4 := h1.1.2.2.1
    have h42 := h4.2
    have w4 : brw σ.1 p k (2622 + 49 * p + 9 + 5 * k + 4) = σ.1 (2622 + 49 * p + 9 + 5 * k + 4) := h2 _ (by omega) (fun m hm => by omega)
    have e21 : cn (brw σ.1 p k) 2621 = cn σ.1 2621 := by unfold cn; rw [h2 _ (by omega) (fun m hm => by omega)]
    have e8c : cn (brw σ.1 p k) (2622 + 49 * p + 8) = cn σ.1 (2622 + 49 * p + 8) := by unfold cn; rw [h2 _ (by omega) (fun m hm => by omega)]
    have e8 : j 875 (2622 + 49 * p + 8) = Int32.ofNat (cn σ.1 (2622 + 49 * p + 8)) := ((hj _ (by omega)).trans (h2 _ (by omega) (fun m hm => by omega))).trans hn.1
    have e4 := hj (2622 + 49 * p + 9 + 5 * k + 4) (by omega)
    by_cases g : σ.1 (2622 + 49 * p + 9 + 5 * k + 4) = -1
    · refine ⟨j, ?_, ?_, hf⟩
      · have es : itr (fun n a => if σ.1 (2622 + 49 * p + 9 + 5 * n + 4) = -1 then a else a + 1) (k + 1) (0 : Int32) = itr (fun n a => if σ.1 (2622 + 49 * p + 9 + 5 * n + 4) = -1 then a else a + 1) k 0 := if_pos g
        rw [es]
        generalize itr (fun n a => if σ.1 (2622 + 49 * p + 9 + 5 * n + 4) = -1 then a else a + 1) k 0 = a
        rw [bk_105_40]
        simp (maxSteps := 2000000) (disch := omega) only [(fun d x0 x1 x2 B i => bk_67_0 d x0 x1 x2 (am_wI B i)), (fun d x0 x1 B i => bk_66_0 d x0 x1 (am_wI B i)), (fun d x0 x1 x2 x3 B i => bk_68_0 d x0 x1 x2 x3 (am_wI B i)), (fun d x0 x1 B i => bk_70_0 d x0 x1 (am_wI B i)), z_39, z_390, e8, e4, w4, g, z_lm1, hM, y_ckd, y_ck2d, y_ond, y_onn, y_oI, y_oIx, y_oJ, y_oV, y_oVx, y_oR, y_oRn, y_oRx, y_b0, y_b1, y_bi, y_bid, y_wIK, y_wIL, y_wII, y_wIJ, y_wIR, y_wIN, y_wIw, y_sI, ↓reduceIte, Nat.reduceEqDiff, eq_self, true_or, or_true, false_or, or_false, and_true, true_and, false_and, and_false, not_true, not_false_eq_true, tf_T, tf_F, y_up1, y_up2, y_xx, y_nx, y_sJ, y_sR, Int32.reduceLT, y_nxK, y_nxL, y_nxR, y_sJK, y_sJL, y_sJR, y_sJN, y_sRK, y_sRL, y_sRN, Nat.add_zero, z_nat, z_lit, z_lit0, z_lit1, z_in0, z_in1, z_addl0, z_lt, z_ltl, z_llt, z_inj, z_injl, z_add, z_addl, z_ladd, z_mul, z_mull, z_lmul, z_neg, z_negl, z_in, z_inl, z_ltT, z_ltF, z_eqF, z_10, z_01, z_litne, z_ne0, z_0ne, z_ne1, z_1ne, z_lt64, z_02, z_03, z_04, z_05, z_12, z_13, z_14, z_15, z_20, z_21, z_23, z_24, z_25, z_30, z_31, z_32, z_34, z_35, z_40, z_41, z_42, z_43, z_45, z_50, z_51, z_52, z_53, z_54]
      · rw [brw_s, if_pos (w4.trans g)]
        exact hj
    · have g' : ¬ brw σ.1 p k (2622 + 49 * p + 9 + 5 * k + 4) = -1 := by rw [w4]; exact g
      obtain ⟨er, hr⟩ := nn_of ((h1.2.2.2.2.1.1 p (by omega) (by omega)).2.2.2.2.2.2.2.2 k (by omega) (by omega)).2 h4.1 (by omega) g'
      have e4' := e4.trans er
      have gm : ¬ Int32.ofNat (cn (brw σ.1 p k) (2622 + 49 * p + 9 + 5 * k + 4)) < 0 := by rw [z_neg (by omega)]; exact id
      refine ⟨frm j p k (cn (brw σ.1 p k) (2622 + 49 * p + 9 + 5 * k + 4)), ?_, ?_, fun q k' hq => ?_⟩
      · have es : itr (fun n a => if σ.1 (2622 + 49 * p + 9 + 5 * n + 4) = -1 then a else a + 1) (k + 1) (0 : Int32) = itr (fun n a => if σ.1 (2622 + 49 * p + 9 + 5 * n + 4) = -1 then a else a + 1) k 0 + 1 := if_neg g
        rw [es]
        generalize itr (fun n a => if σ.1 (2622 + 49 * p + 9 + 5 * n + 4) = -1 then a else a + 1) k 0 = a
        rw [bk_105_40]
        simp (maxSteps := 2000000) (disch := omega) only [(fun d x0 x1 x2 B i => bk_67_0 d x0 x1 x2 (am_wI B i)), (fun d x0 x1 B i => bk_66_0 d x0 x1 (am_wI B i)), (fun d x0 x1 x2 x3 B i => bk_68_0 d x0 x1 x2 x3 (am_wI B i)), (fun d x0 x1 B i => bk_70_0 d x0 x1 (am_wI B i)), z_39, z_390, e8, e4', gm, m_frees (B := B) (i := j) (d := d + 146) (s := p) (n := k) (p := cn (brw σ.1 p k) (2622 + 49 * p + 9 + 5 * k + 4)) hM (by omega) (by omega) (by omega) e4', hM, y_ckd, y_ck2d, y_ond, y_onn, y_oI, y_oIx, y_oJ, y_oV, y_oVx, y_oR, y_oRn, y_oRx, y_b0, y_b1, y_bi, y_bid, y_wIK, y_wIL, y_wII, y_wIJ, y_wIR, y_wIN, y_wIw, y_sI, ↓reduceIte, Nat.reduceEqDiff, eq_self, true_or, or_true, false_or, or_false, and_true, true_and, false_and, and_false, not_true, not_false_eq_true, tf_T, tf_F, y_up1, y_up2, y_xx, y_nx, y_sJ, y_sR, Int32.reduceLT, y_nxK, y_nxL, y_nxR, y_sJK, y_sJL, y_sJR, y_sJN, y_sRK, y_sRL, y_sRN, Nat.add_zero, z_nat, z_lit, z_lit0, z_lit1, z_in0, z_in1, z_addl0, z_lt, z_ltl, z_llt, z_inj, z_injl, z_add, z_addl, z_ladd, z_mul, z_mull, z_lmul, z_neg, z_negl, z_in, z_inl, z_ltT, z_ltF, z_eqF, z_10, z_01, z_litne, z_ne0, z_0ne, z_ne1, z_1ne, z_lt64, z_02, z_03, z_04, z_05, z_12, z_13, z_14, z_15, z_20, z_21, z_23, z_24, z_25, z_30, z_31, z_32, z_34, z_35, z_40, z_41, z_42, z_43, z_45, z_50, z_51, z_52, z_53, z_54]
      · rw [brw_s, if_neg g']
        exact frm_w hj
      · simp (disch := omega) only [y_up2]
        exact hf q k' hq) (am_up2 i 874 0 0) ⟨hw0, fun _ _ _ => rfl⟩
  obtain ⟨h1, h2⟩ := brw_ok hW hp (by omega) (cn σ.1 (2622 + 49 * p + 8)) (by omega) (by omega)
  have e8 : j 875 (2622 + 49 * p + 8) = Int32.ofNat (cn σ.1 (2622 + 49 * p + 8)) := ((hj _ (by omega)).trans (h2 _ (by omega) (fun m hm => by omega))).trans hn.1
  refine MRs_w (i' := am_up2 (am_up2 j 875 (2622 + 49 * p) 5) 875 (2622 + 49 * p + 4) (-1)) h ?_ (by rw [y_up2 (by omega), y_up2 (by omega), hf _ _ (by omega), y_up1 rfl rfl]) (up_wu (up_wu hj)) (fun q k h3 h4 => by rw [y_up2 (by omega), y_up2 (by omega), hf _ _ (by omega), y_up2 (by omega)])
  rw [bk_105_0]
  simp (maxSteps := 2000000) (disch := omega) only [(fun d x0 x1 B i => bk_69_0 d x0 x1 (am_wI B i)), m_in, z_pred hc.1, Classical.not_not, (fun d x0 x1 x2 B i => bk_67_0 d x0 x1 x2 (am_wI B i)), (fun d x0 x1 B i => bk_66_0 d x0 x1 (am_wI B i)), (fun d x0 x1 x2 x3 B i => bk_68_0 d x0 x1 x2 x3 (am_wI B i)), (fun d x0 x1 B i => bk_70_0 d x0 x1 (am_wI B i)), z_39, z_390, m_thr0, t1, t2, e5, e0, hM, y_ckd, y_ck2d, y_ond, y_onn, y_oI, y_oIx, y_oJ, y_oV, y_oVx, y_oR, y_oRn, y_oRx, y_b0, y_b1, y_bi, y_bid, y_wIK, y_wIL, y_wII, y_wIJ, y_wIR, y_wIN, y_wIw, y_sI, ↓reduceIte, Nat.reduceEqDiff, eq_self, true_or, or_true, false_or, or_false, and_true, true_and, false_and, and_false, not_true, not_false_eq_true, tf_T, tf_F, y_up1, y_up2, y_xx, y_nx, y_sJ, y_sR, Int32.reduceLT, y_nxK, y_nxL, y_nxR, y_sJK, y_sJL, y_sJR, y_sJN, y_sRK, y_sRL, y_sRN, Nat.add_zero, z_nat, z_lit, z_lit0, z_lit1, z_in0, z_in1, z_addl0, z_lt, z_ltl, z_llt, z_inj, z_injl, z_add, z_addl, z_ladd, z_mul, z_mull, z_lmul, z_neg, z_negl, z_in, z_inl, z_ltT, z_ltF, z_eqF, z_10, z_01, z_litne, z_ne0, z_0ne, z_ne1, z_1ne, z_lt64, z_02, z_03, z_04, z_05, z_12, z_13, z_14, z_15, z_20, z_21, z_23, z_24, z_25, z_30, z_31, z_32, z_34, z_35, z_40, z_41, z_42, z_43, z_45, z_50, z_51, z_52, z_53, z_54]
  simp only [g, not_false_eq_true, and_self, tf_T, z_10, ↓reduceIte]
  refine E.trans ?_
  rw [bk_105_40]
  simp (maxSteps := 2000000) (disch := omega) only [(fun d x0 x1 x2 B i => bk_67_0 d x0 x1 x2 (am_wI B i)), (fun d x0 x1 B i => bk_66_0 d x0 x1 (am_wI B i)), (fun d x0 x1 x2 x3 B i => bk_68_0 d x0 x1 x2 x3 (am_wI B i)), (fun d x0 x1 B i => bk_70_0 d x0 x1 (am_wI B i)), z_39, z_390, e8, hM, y_ckd, y_ck2d, y_ond, y_onn, y_oI, y_oIx, y_oJ, y_oV, y_oVx, y_oR, y_oRn, y_oRx, y_b0, y_b1, y_bi, y_bid, y_wIK, y_wIL, y_wII, y_wIJ, y_wIR, y_wIN, y_wIw, y_sI, ↓reduceIte, Nat.reduceEqDiff, eq_self, true_or, or_true, false_or, or_false, and_true, true_and, false_and, and_false, not_true, not_false_eq_true, tf_T, tf_F, y_up1, y_up2, y_xx, y_nx, y_sJ, y_sR, Int32.reduceLT, y_nxK, y_nxL, y_nxR, y_sJK, y_sJL, y_sJR, y_sJN, y_sRK, y_sRL, y_sRN, Nat.add_zero, z_nat, z_lit, z_lit0, z_lit1, z_in0, z_in1, z_addl0, z_lt, z_ltl, z_llt, z_inj, z_injl, z_add, z_addl, z_ladd, z_mul, z_mull, z_lmul, z_neg, z_negl, z_in, z_inl, z_ltT, z_ltF, z_eqF, z_10, z_01, z_litne, z_ne0, z_0ne, z_ne1, z_1ne, z_lt64, z_02, z_03, z_04, z_05, z_12, z_13, z_14, z_15, z_20, z_21, z_23, z_24, z_25, z_30, z_31, z_32, z_34, z_35, z_40, z_41, z_42, z_43, z_45, z_50, z_51, z_52, z_53, z_54]
  rfl
theorem k_breaks (h : Sim B i σ) (hs : Sc B i L j) (hO : am_K B 892 = 22 ∧ am_L B 892 = 1) : Stq B i d 2389 j := by
  have hc := h.2.2.1.1.2.2.2.1
  have h8 := hc.2
  by_cases g : ¬ i 0 (j + 1) < 0 ∧ i 0 (j + 1) < σ.1 2621
  rotate_left
  · exact kx_30_1 h hs hO (f_breaks_x0 (d := d + 48) h.1 g) fun B0 i0 h0 => m_breaks_x0 (d := d + 49) h0 hc g
  obtain ⟨p, e, hp⟩ := nat_ck hc (by omega) g
  by_cases g1 : σ.1 (2622 + 49 * p) = 1 ∨ σ.1 (2622 + 49 * p) = 2 ∨ σ.1 (2622 + 49 * p) = 3
  · exact kk_30 (σ' := (brf σ.1 p, σ.2)) h hs hO (SW_now h.2.2 (Wd_brf h.2.2.1 hp (by omega))) (by rw [e]; exact f_breaks (d := d + 48) h.1 h.2.2.1 hc hp g1) fun B0 i0 h0 => by rw [e]; exact m_breaks (d := d + 49) h0 h.2.2.1 hc hp g1
  · exact kk_30 h hs hO h.2.2 (by rw [e]; exact f_breaks0 (d := d + 48) h.1 hc hp g1) fun B0 i0 h0 => by rw [e]; exact m_breaks0 (d := d + 49) h0 hc hp g1
end Brk
