/-! CALLS THAT PUT ONE MORE: made by wip/whole/math/43.py. -/
section Three
variable {B : am_A} {i : Nat → Nat → Int32} {σ : Sg} {w : Nat → Int32} {L j d : Nat}
theorem z_lt1 {x : Int32} {c : Nat} (hc : c < 1000000) (h : x < Int32.ofNat c) : x < Int32.ofNat (c + 1) := by
  rw [Int32.lt_iff_toInt_lt, z_toInt (by omega)] at h ⊢
  omega
theorem Wd_dock {c : Nat} {x : Int32} (h : Wd w) (hc : w 3014 = Int32.ofNat c) (c4 : c < 4) : Wd (wu (wu w (3015 + c) x) 3014 (Int32.ofNat (c + 1))) := by
  obtain ⟨h1, h2, h3, h4, h5, h6, h7, h8, h9, h10, h11⟩ := h
  have k : ∀ s, s ≠ 3014 → s ≠ 3015 + c → wu (wu w (3015 + c) x) 3014 (Int32.ofNat (c + 1)) s = w s := fun s a b => by rw [wu_ne a, wu_ne b]
  generalize hw' : wu (wu w (3015 + c) x) 3014 (Int32.ofNat (c + 1)) = w' at k ⊢
  have k14 : w' 3014 = Int32.ofNat (c + 1) := by rw [← hw', wu_at rfl]
  obtain ⟨b1, b2, b3, b4, b5, b6, b7, b8, b9, b10⟩ := h1
  refine ⟨⟨isc_fr b1 (k _ (by omega) (by omega)), isc_fr b2 (k _ (by omega) (by omega)), isc_fr b3 (k _ (by omega) (by omega)), isc_fr b4 (k _ (by omega) (by omega)), isc_of k14 (by omega) (by omega), isc_fr b6 (k _ (by omega) (by omega)), isc_fr b7 (k _ (by omega) (by omega)), isc_fr b8 (k _ (by omega) (by omega)), isc_fr b9 (k _ (by omega) (by omega)), isc_fr b10 (k _ (by omega) (by omega))⟩, WdR_fr h2 fun s _ => k s (by omega) (by omega), WdT_fr h3 fun s _ => k s (by omega) (by omega), WdP_fr h4 b3.2 fun s _ => k s (by omega) (by omega), ?_, WdG_fr h6 fun s _ => k s (by omega) (by omega), WdE_fr h7 fun s _ => k s (by omega) (by omega), WdM_fr h8 fun s _ => k s (by omega) (by omega), WdX_fr h9 fun s _ => k s (by omega) (by omega), WdZ_fr h10 fun s _ => k s (by omega) (by omega), WdI_fr h11 fun s _ => k s (by omega) (by omega)⟩
  have e21 : cn w' 2621 = cn w 2621 := by unfold cn; rw [k _ (by omega) (by omega)]
  refine ⟨fun s hs h8 => ?_, fun s hs h8 => ?_⟩
  · obtain ⟨a1, a2, a3, a4, a5, a6, a7, a8, a9⟩ := h5.1 s (by omega) h8
    have e8 : cn w' (2622 + 49 * s + 8) = cn w (2622 + 49 * s + 8) := by unfold cn; rw [k _ (by omega) (by omega)]
    refine ⟨?_, ?_, ?_, fun q => ?_, ?_, ?_, ?_, isc_fr a8 (k _ (by omega) (by omega)), fun n hn hn8 => ?_⟩
    · rw [k _ (by omega) (by omega)]
      exact a1
    · rw [k _ (by omega) (by omega)]
      exact a2
    · rw [k _ (by omega) (by omega)]
      exact a3
    · rw [k (2622 + 49 * s) (by omega) (by omega)] at q
      rw [k (2622 + 49 * s + 4) (by omega) (by omega), k14]
      have := a4 q
      rw [hc] at this
      exact ⟨this.1, z_lt1 (by omega) this.2⟩
    · rw [k (2622 + 49 * s) (by omega) (by omega), k (2622 + 49 * s + 4) (by omega) (by omega)]
      exact a5
    · rw [k _ (by omega) (by omega)]
      exact a6
    · rw [k _ (by omega) (by omega)]
      exact a7
    · rw [k (2622 + 49 * s + 9 + 5 * n) (by omega) (by omega), k (2622 + 49 * s + 9 + 5 * n + 4) (by omega) (by omega), k 460 (by omega) (by omega)]
      exact a9 n (by omega) hn8
  · rw [k _ (by omega) (by omega), k _ (by omega) (by omega), k _ (by omega) (by omega), k _ (by omega) (by omega)]
    exact h5.2 s (by omega) h8
theorem z_cmp4 {c M : Nat} (h : c ≤ M) : c < M ∨ c = M := by omega
theorem k_dock (h : Sim B i σ) (hs : Sc B i L j) (hO : am_K B 892 = 22 ∧ am_L B 892 = 1) : Stq B i d 2028 j := by
  by_cases g : ¬ (i 0 (j + 1)) < (-20) ∧ ¬ 40 < (i 0 (j + 1))
  rotate_left
  · exact kx_25_2 h hs hO (f_dock_x0 (d := d + 48) h.1  g) fun B0 i0 h0 => m_dock_x0 (d := d + 49) h0  g
  have hc := h.2.2.1.1.2.2.2.2.1
  rcases z_cmp4 hc.2 with c4 | c4
  · exact kk_25 (σ' := (wu (wu σ.1 (3015 + cn σ.1 3014) (i 0 (j + 1))) 3014 (Int32.ofNat (cn σ.1 3014 + 1)), σ.2)) h hs hO (SW_now h.2.2 (Wd_dock h.2.2.1 hc.1 c4)) (f_dock (d := d + 48) h.1 g hc.1 c4) fun B0 i0 h0 => m_dock (d := d + 49) h0 g hc.1 c4
  · have e : σ.1 3014 = Int32.ofNat 4 := by rw [hc.1, c4]
    exact kx_25_3 h hs hO (f_dock_full (d := d + 48) h.1 g e) fun B0 i0 h0 => m_dock_full (d := d + 49) h0 g e
theorem f_gang_x0 {x : Int32} (h : CR B i σ)  (g : ¬ (¬ x < 1 ∧ ¬ 40 < x)) : FRs B i σ (am_fx am_P (d + 150) 326 0 [some (.ref 64), some (.int x)] [] (am_wI B i)) (.inr 2) := by
  refine FRs_x h ?_
  rw [bk_326_0]
  simp (disch := omega) only [c_within, c_ckN0, g, y_ckd, y_ck2d, y_ond, y_onn, y_oI, y_oIx, y_oJ, y_oV, y_oVx, y_oR, y_oRn, y_oRx, y_b0, y_b1, y_bi, y_bid, y_wIK, y_wIL, y_wII, y_wIJ, y_wIR, y_wIN, y_wIw, y_sI, ↓reduceIte, Nat.reduceEqDiff, eq_self, true_or, or_true, false_or, or_false, and_true, true_and, false_and, and_false, not_true, not_false_eq_true, tf_T, tf_F, y_up1, y_up2, y_xx, y_nx, y_sJ, y_sR, Int32.reduceLT, y_nxK, y_nxL, y_nxR, y_sJK, y_sJL, y_sJR, y_sJN, y_sRK, y_sRL, y_sRN, Nat.add_zero, z_nat, z_lit, z_lit0, z_lit1, z_in0, z_in1, z_addl0, z_lt, z_ltl, z_llt, z_inj, z_injl, z_add, z_addl, z_ladd, z_mul, z_mull, z_lmul, z_neg, z_negl, z_in, z_inl, z_ltT, z_ltF, z_eqF, z_10, z_01, z_litne, z_ne0, z_0ne, z_ne1, z_1ne, z_lt64, z_02, z_03, z_04, z_05, z_12, z_13, z_14, z_15, z_20, z_21, z_23, z_24, z_25, z_30, z_31, z_32, z_34, z_35, z_40, z_41, z_42, z_43, z_45, z_50, z_51, z_52, z_53, z_54]
theorem m_gang_x0 {x : Int32} (h : MR B i σ)  (g : ¬ (¬ x < 1 ∧ ¬ 40 < x)) : MRs B i σ (am_fx am_P (d + 150) 111 0 [some (.ref 874), some (.int x), none] [] (am_wI B i)) (some (.int 0)) 1 := by
  refine MRs_x h ?_
  have hM := h.1.1
  rw [bk_111_0]
  simp (disch := omega) only [(fun d x0 x1 s0 s1 B i => bk_111_21 d x0 x1 s0 s1 (am_wI B i)), m_in, m_thr1 hM, g, hM, y_ckd, y_ck2d, y_ond, y_onn, y_oI, y_oIx, y_oJ, y_oV, y_oVx, y_oR, y_oRn, y_oRx, y_b0, y_b1, y_bi, y_bid, y_wIK, y_wIL, y_wII, y_wIJ, y_wIR, y_wIN, y_wIw, y_sI, ↓reduceIte, Nat.reduceEqDiff, eq_self, true_or, or_true, false_or, or_false, and_true, true_and, false_and, and_false, not_true, not_false_eq_true, tf_T, tf_F, y_up1, y_up2, y_xx, y_nx, y_sJ, y_sR, Int32.reduceLT, y_nxK, y_nxL, y_nxR, y_sJK, y_sJL, y_sJR, y_sJN, y_sRK, y_sRL, y_sRN, Nat.add_zero, z_nat, z_lit, z_lit0, z_lit1, z_in0, z_in1, z_addl0, z_lt, z_ltl, z_llt, z_inj, z_injl, z_add, z_addl, z_ladd, z_mul, z_mull, z_lmul, z_neg, z_negl, z_in, z_inl, z_ltT, z_ltF, z_eqF, z_10, z_01, z_litne, z_ne0, z_0ne, z_ne1, z_1ne, z_lt64, z_02, z_03, z_04, z_05, z_12, z_13, z_14, z_15, z_20, z_21, z_23, z_24, z_25, z_30, z_31, z_32, z_34, z_35, z_40, z_41, z_42, z_43, z_45, z_50, z_51, z_52, z_53, z_54]
theorem f_gang_full {x : Int32} (h : CR B i σ) (g : ¬ x < 1 ∧ ¬ 40 < x) (hc : σ.1 3019 = Int32.ofNat 8) : FRs B i σ (am_fx am_P (d + 150) 326 0 [some (.ref 64), some (.int x)] [] (am_wI B i)) (.inr 3) := by
  refine FRs_x h ?_
  have e : i 94 12 = Int32.ofNat 8 := h.2.1.2.2.2.2.1.1.trans hc
  rw [bk_326_0]
  simp (disch := omega) only [c_within, c_ckN1, g.1, g.2, h.1.1.1, h.1.2.1.1, e, c_ckR0 (x := Int32.ofNat 8) (c := 8) (by decide), y_ckd, y_ck2d, y_ond, y_onn, y_oI, y_oIx, y_oJ, y_oV, y_oVx, y_oR, y_oRn, y_oRx, y_b0, y_b1, y_bi, y_bid, y_wIK, y_wIL, y_wII, y_wIJ, y_wIR, y_wIN, y_wIw, y_sI, ↓reduceIte, Nat.reduceEqDiff, eq_self, true_or, or_true, false_or, or_false, and_true, true_and, false_and, and_false, not_true, not_false_eq_true, tf_T, tf_F, y_up1, y_up2, y_xx, y_nx, y_sJ, y_sR, Int32.reduceLT, y_nxK, y_nxL, y_nxR, y_sJK, y_sJL, y_sJR, y_sJN, y_sRK, y_sRL, y_sRN]
theorem m_gang_full {x : Int32} (h : MR B i σ) (g : ¬ x < 1 ∧ ¬ 40 < x) (hc : σ.1 3019 = Int32.ofNat 8) : MRs B i σ (am_fx am_P (d + 150) 111 0 [some (.ref 874), some (.int x), none] [] (am_wI B i)) (some (.int 0)) 2 := by
  refine MRs_x h ?_
  have hM := h.1.1
  have e : i 875 3019 = Int32.ofNat 8 := (h.2.1 3019 (by omega)).trans hc
  rw [bk_111_0]
  simp (disch := omega) only [(fun d x0 x1 s0 s1 B i => bk_111_21 d x0 x1 s0 s1 (am_wI B i)), (fun d x0 x1 s0 s1 B i => bk_111_47 d x0 x1 s0 s1 (am_wI B i)), m_in, m_thr0, m_thr1 hM, g.1, g.2, hM, e, y_ckd, y_ck2d, y_ond, y_onn, y_oI, y_oIx, y_oJ, y_oV, y_oVx, y_oR, y_oRn, y_oRx, y_b0, y_b1, y_bi, y_bid, y_wIK, y_wIL, y_wII, y_wIJ, y_wIR, y_wIN, y_wIw, y_sI, ↓reduceIte, Nat.reduceEqDiff, eq_self, true_or, or_true, false_or, or_false, and_true, true_and, false_and, and_false, not_true, not_false_eq_true, tf_T, tf_F, y_up1, y_up2, y_xx, y_nx, y_sJ, y_sR, Int32.reduceLT, y_nxK, y_nxL, y_nxR, y_sJK, y_sJL, y_sJR, y_sJN, y_sRK, y_sRL, y_sRN, Nat.add_zero, z_nat, z_lit, z_lit0, z_lit1, z_in0, z_in1, z_addl0, z_lt, z_ltl, z_llt, z_inj, z_injl, z_add, z_addl, z_ladd, z_mul, z_mull, z_lmul, z_neg, z_negl, z_in, z_inl, z_ltT, z_ltF, z_eqF, z_10, z_01, z_litne, z_ne0, z_0ne, z_ne1, z_1ne, z_lt64, z_02, z_03, z_04, z_05, z_12, z_13, z_14, z_15, z_20, z_21, z_23, z_24, z_25, z_30, z_31, z_32, z_34, z_35, z_40, z_41, z_42, z_43, z_45, z_50, z_51, z_52, z_53, z_54]
theorem f_gang {x : Int32} {c : Nat} (h : CR B i σ) (g : ¬ x < 1 ∧ ¬ 40 < x) (hc : σ.1 3019 = Int32.ofNat c) (c8 : c < 8) : FRs B i (wu (wu (wu σ.1 3019 (Int32.ofNat (c + 1))) (3020 + 2 * c) x) (3020 + 2 * c + 1) (-1), σ.2) (am_fx am_P (d + 150) 326 0 [some (.ref 64), some (.int x)] [] (am_wI B i)) (.inl (some (.int (Int32.ofNat c)))) := by
  have e : i 94 12 = Int32.ofNat c := h.2.1.2.2.2.2.1.1.trans hc
  have c8' : Int32.ofNat c < 8 := by rw [show (8 : Int32) = Int32.ofNat 8 from rfl, z_lt (by omega) (by omega)]; omega
  refine FRs_w (i' := am_up2 (am_up2 (am_up2 i (94 + 5) c x) (94 + 6) c (-1)) 94 12 (Int32.ofNat (c + 1))) h ?_ ?_ (by intros; simp (disch := omega) only [y_up2])
  · rw [bk_326_0]
    have hF : Fc B := h.1.1
    have hY : Yd B 94 := h.1.2.1
    simp (disch := first | omega | simp only [hF, hY]) only [(fun d x0 x1 B i => bk_240_0 d x0 x1 (am_wI B i)), (fun d x0 B i => bk_240_31 d x0 (am_wI B i)), c_within, c_ckN1, g.1, g.2, hF, hY, e, c8', c_ckR1 c8', y_ckw, y_ck2w, y_ck2x, y_ond, y_onn, y_oI, y_oIx, y_oJ, y_oV, y_oVx, y_oR, y_oRn, y_oRx, y_b0, y_b1, y_bi, y_bid, y_wIK, y_wIL, y_wII, y_wIJ, y_wIR, y_wIN, y_wIw, y_sI, ↓reduceIte, Nat.reduceEqDiff, eq_self, true_or, or_true, false_or, or_false, and_true, true_and, false_and, and_false, not_true, not_false_eq_true, tf_T, tf_F, y_up1, y_up2, y_xx, y_nx, y_sJ, y_sR, Int32.reduceLT, y_nxK, y_nxL, y_nxR, y_sJK, y_sJL, y_sJR, y_sJN, y_sRK, y_sRL, y_sRN, Nat.add_zero, z_nat, z_lit, z_lit0, z_lit1, z_in0, z_in1, z_addl0, z_lt, z_ltl, z_llt, z_inj, z_injl, z_add, z_addl, z_ladd, z_mul, z_mull, z_lmul, z_neg, z_negl, z_in, z_inl, z_ltT, z_ltF, z_eqF, z_10, z_01, z_litne, z_ne0, z_0ne, z_ne1, z_1ne, z_lt64, z_02, z_03, z_04, z_05, z_12, z_13, z_14, z_15, z_20, z_21, z_23, z_24, z_25, z_30, z_31, z_32, z_34, z_35, z_40, z_41, z_42, z_43, z_45, z_50, z_51, z_52, z_53, z_54]
  · refine Rep_gang h.2.1 (Le.rf B) (by omega) rfl ?_ (by intros; simp (disch := omega) only [y_up2]) (by intros; simp (disch := omega) only [y_upr]) (by intros; simp (disch := omega) only [wu_ne])
    refine ⟨by rw [y_up1 rfl rfl, wu_ne (by omega), wu_ne (by omega), wu_at rfl], fun q hq q8 => ?_⟩
    have eq : cn (wu (wu (wu σ.1 3019 (Int32.ofNat (c + 1))) (3020 + 2 * c) x) (3020 + 2 * c + 1) (-1)) 3019 = c + 1 := cn_of (by rw [wu_ne (by omega), wu_ne (by omega), wu_at rfl]) (by omega)
    rw [eq] at hq
    by_cases ek : q = c
    · subst ek
      simp (disch := omega) only [y_up1, y_up2, wu_at, wu_ne, and_self]
    · have := h.2.1.2.2.2.2.1.2 q (by rw [cn_of hc (by omega)]; omega) q8
      rw [y_up2 (by omega), y_up2 (by omega), y_up2 (by omega), y_up2 (by omega), y_up2 (by omega), y_up2 (by omega), wu_ne (by omega), wu_ne (by omega), wu_ne (by omega), wu_ne (by omega), wu_ne (by omega), wu_ne (by omega)]
      exact this
theorem m_gang {x : Int32} {c : Nat} (h : MR B i σ) (g : ¬ x < 1 ∧ ¬ 40 < x) (hc : σ.1 3019 = Int32.ofNat c) (c8 : c < 8) : MRs B i (wu (wu (wu σ.1 3019 (Int32.ofNat (c + 1))) (3020 + 2 * c) x) (3020 + 2 * c + 1) (-1), σ.2) (am_fx am_P (d + 150) 111 0 [some (.ref 874), some (.int x), none] [] (am_wI B i)) (some (.int (Int32.ofNat c))) 0 := by
  have hM := h.1.1
  have e : i 875 3019 = Int32.ofNat c := (h.2.1 3019 (by omega)).trans hc
  have c8' : ¬ Int32.ofNat c = 8 := by rw [show (8 : Int32) = Int32.ofNat 8 from rfl, z_inj (by omega) (by omega)]; omega
  refine MRs_w (i' := am_up2 (am_up2 (am_up2 (am_up2 i 874 0 0) 875 3019 (Int32.ofNat (c + 1))) 875 (3020 + 2 * c) x) 875 (3020 + 2 * c + 1) (-1)) h ?_ (by rw [y_up2 (by omega), y_up2 (by omega), y_up2 (by omega), y_up1 rfl rfl]) (up_wu (up_wu (up_wu (up_o (by omega) h.2.1)))) (by intros; simp (disch := omega) only [y_up2])
  rw [bk_111_0]
  simp (disch := omega) only [(fun d x0 x1 s0 s1 B i => bk_111_21 d x0 x1 s0 s1 (am_wI B i)), (fun d x0 x1 s0 s1 B i => bk_111_47 d x0 x1 s0 s1 (am_wI B i)), (fun d x0 x2 B i => bk_111_90 d x0 x2 (am_wI B i)), m_in, m_thr0, g.1, g.2, hM, e, c8', y_ckd, y_ck2d, y_ond, y_onn, y_oI, y_oIx, y_oJ, y_oV, y_oVx, y_oR, y_oRn, y_oRx, y_b0, y_b1, y_bi, y_bid, y_wIK, y_wIL, y_wII, y_wIJ, y_wIR, y_wIN, y_wIw, y_sI, ↓reduceIte, Nat.reduceEqDiff, eq_self, true_or, or_true, false_or, or_false, and_true, true_and, false_and, and_false, not_true, not_false_eq_true, tf_T, tf_F, y_up1, y_up2, y_xx, y_nx, y_sJ, y_sR, Int32.reduceLT, y_nxK, y_nxL, y_nxR, y_sJK, y_sJL, y_sJR, y_sJN, y_sRK, y_sRL, y_sRN, Nat.add_zero, z_nat, z_lit, z_lit0, z_lit1, z_in0, z_in1, z_addl0, z_lt, z_ltl, z_llt, z_inj, z_injl, z_add, z_addl, z_ladd, z_mul, z_mull, z_lmul, z_neg, z_negl, z_in, z_inl, z_ltT, z_ltF, z_eqF, z_10, z_01, z_litne, z_ne0, z_0ne, z_ne1, z_1ne, z_lt64, z_02, z_03, z_04, z_05, z_12, z_13, z_14, z_15, z_20, z_21, z_23, z_24, z_25, z_30, z_31, z_32, z_34, z_35, z_40, z_41, z_42, z_43, z_45, z_50, z_51, z_52, z_53, z_54]
theorem Wd_gang {c : Nat} {x : Int32} (h : Wd w) (g : ¬ x < 1 ∧ ¬ 40 < x) (hc : w 3019 = Int32.ofNat c) (c8 : c < 8) : Wd (wu (wu (wu w 3019 (Int32.ofNat (c + 1))) (3020 + 2 * c) x) (3020 + 2 * c + 1) (-1)) := by
  obtain ⟨h1, h2, h3, h4, h5, h6, h7, h8, h9, h10, h11⟩ := h
  have k : ∀ s, s ≠ 3019 → s ≠ 3020 + 2 * c → s ≠ 3020 + 2 * c + 1 → wu (wu (wu w 3019 (Int32.ofNat (c + 1))) (3020 + 2 * c) x) (3020 + 2 * c + 1) (-1) s = w s := fun s a b b2 => by rw [wu_ne b2, wu_ne b, wu_ne a]
  have k19 : wu (wu (wu w 3019 (Int32.ofNat (c + 1))) (3020 + 2 * c) x) (3020 + 2 * c + 1) (-1) 3019 = Int32.ofNat (c + 1) := by rw [wu_ne (by omega), wu_ne (by omega), wu_at rfl]
  have k20 : wu (wu (wu w 3019 (Int32.ofNat (c + 1))) (3020 + 2 * c) x) (3020 + 2 * c + 1) (-1) (3020 + 2 * c) = x := by rw [wu_ne (by omega), wu_at rfl]
  have k21 : wu (wu (wu w 3019 (Int32.ofNat (c + 1))) (3020 + 2 * c) x) (3020 + 2 * c + 1) (-1) (3020 + 2 * c + 1) = -1 := by rw [wu_at rfl]
  generalize wu (wu (wu w 3019 (Int32.ofNat (c + 1))) (3020 + 2 * c) x) (3020 + 2 * c + 1) (-1) = w' at k k19 k20 k21 ⊢
  obtain ⟨b1, b2, b3, b4, b5, b6, b7, b8, b9, b10⟩ := h1
  have kk : ∀ s, s < 3019 ∨ 3036 ≤ s → w' s = w s := fun s hs => k s (by omega) (by omega) (by omega)
  refine ⟨⟨isc_fr b1 (kk _ (by omega)), isc_fr b2 (kk _ (by omega)), isc_fr b3 (kk _ (by omega)), isc_fr b4 (kk _ (by omega)), isc_fr b5 (kk _ (by omega)), isc_of k19 (by omega) (by omega), isc_fr b7 (kk _ (by omega)), isc_fr b8 (kk _ (by omega)), isc_fr b9 (kk _ (by omega)), isc_fr b10 (kk _ (by omega))⟩, WdR_fr h2 fun s _ => kk s (by omega), WdT_fr h3 fun s _ => kk s (by omega), WdP_fr h4 b3.2 fun s _ => kk s (by omega), WdS_fr h5 fun s _ => kk s (by omega), fun q hq q8 => ?_, WdE_fr h7 fun s _ => kk s (by omega), WdM_fr h8 fun s _ => kk s (by omega), WdX_fr h9 fun s _ => kk s (by omega), WdZ_fr h10 fun s _ => kk s (by omega), WdI_fr h11 fun s _ => kk s (by omega)⟩
  rw [cn_of k19 (by omega)] at hq
  by_cases e : q = c
  · subst e
    rw [k20, k21]
    exact ⟨z_rg g.1 g.2 (by decide), Or.inl rfl⟩
  · rw [k (3020 + 2 * q) (by omega) (by omega) (by omega), k (3020 + 2 * q + 1) (by omega) (by omega) (by omega), kk 2621 (by omega)]
    exact h6 q (by rw [cn_of hc (by omega)]; omega) q8
theorem k_gang (h : Sim B i σ) (hs : Sc B i L j) (hO : am_K B 892 = 22 ∧ am_L B 892 = 1) : Stq B i d 2673 j := by
  by_cases g : ¬ (i 0 (j + 1)) < 1 ∧ ¬ 40 < (i 0 (j + 1))
  rotate_left
  · exact kx_34_2 h hs hO (f_gang_x0 (d := d + 48) h.1  g) fun B0 i0 h0 => m_gang_x0 (d := d + 49) h0  g
  have hc := h.2.2.1.1.2.2.2.2.2.1
  rcases z_cmp4 hc.2 with c4 | c4
  · exact kk_34 (σ' := (wu (wu (wu σ.1 3019 (Int32.ofNat (cn σ.1 3019 + 1))) (3020 + 2 * cn σ.1 3019) (i 0 (j + 1))) (3020 + 2 * cn σ.1 3019 + 1) (-1), σ.2)) h hs hO (SW_now h.2.2 (Wd_gang h.2.2.1 g hc.1 c4)) (f_gang (d := d + 48) h.1 g hc.1 c4) fun B0 i0 h0 => m_gang (d := d + 49) h0 g hc.1 c4
  · have e : σ.1 3019 = Int32.ofNat 8 := by rw [hc.1, c4]
    exact kx_34_3 h hs hO (f_gang_full (d := d + 48) h.1 g e) fun B0 i0 h0 => m_gang_full (d := d + 49) h0 g e
end Three
