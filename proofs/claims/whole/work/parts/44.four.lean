/-! CHOICES, ENTRIES, MUSTERS: made by wip/whole/math/44.py. -/
section Four
variable {B : am_A} {i : Nat → Nat → Int32} {σ : Sg} {w : Nat → Int32} {L j d : Nat}
theorem Wd_cnt {w' : Nat → Int32} {s n : Nat} (h : Wd w) (hs : s = 3036 ∨ s = 3437 ∨ s = 3478) (hn : w' s = Int32.ofNat n) (hM : n ≤ (if s = 3036 then 100 else if s = 3437 then 20 else 8)) (nE : s = 3036 → WdE w') (nM : s = 3437 → WdM w') (nZ : s = 3478 → WdZ w') (k : ∀ z, (if s = 3036 then z < 3036 ∨ 3437 ≤ z else if s = 3437 then z < 3437 ∨ 3478 ≤ z else z < 3478 ∨ 3511 ≤ z) → w' z = w z) : Wd w' := by
  obtain ⟨h1, h2, h3, h4, h5, h6, h7, h8, h9, h10, h11⟩ := h
  obtain ⟨b1, b2, b3, b4, b5, b6, b7, b8, b9, b10⟩ := h1
  rcases hs with rfl | rfl | rfl
  · have k : ∀ z, z < 3036 ∨ 3437 ≤ z → w' z = w z := k
    have hM : n ≤ 100 := hM
    exact ⟨⟨isc_fr b1 (k _ (by omega)), isc_fr b2 (k _ (by omega)), isc_fr b3 (k _ (by omega)), isc_fr b4 (k _ (by omega)), isc_fr b5 (k _ (by omega)), isc_fr b6 (k _ (by omega)), isc_of hn hM (by omega), isc_fr b8 (k _ (by omega)), isc_fr b9 (k _ (by omega)), isc_fr b10 (k _ (by omega))⟩, WdR_fr h2 fun s _ => k s (by omega), WdT_fr h3 fun s _ => k s (by omega), WdP_fr h4 b3.2 fun s _ => k s (by omega), WdS_fr h5 fun s _ => k s (by omega), WdG_fr h6 fun s _ => k s (by omega), nE rfl, WdM_fr h8 fun s _ => k s (by omega), WdX_fr h9 fun s _ => k s (by omega), WdZ_fr h10 fun s _ => k s (by omega), WdI_fr h11 fun s _ => k s (by omega)⟩
  · have k : ∀ z, z < 3437 ∨ 3478 ≤ z → w' z = w z := k
    have hM : n ≤ 20 := hM
    exact ⟨⟨isc_fr b1 (k _ (by omega)), isc_fr b2 (k _ (by omega)), isc_fr b3 (k _ (by omega)), isc_fr b4 (k _ (by omega)), isc_fr b5 (k _ (by omega)), isc_fr b6 (k _ (by omega)), isc_fr b7 (k _ (by omega)), isc_of hn hM (by omega), isc_fr b9 (k _ (by omega)), isc_fr b10 (k _ (by omega))⟩, WdR_fr h2 fun s _ => k s (by omega), WdT_fr h3 fun s _ => k s (by omega), WdP_fr h4 b3.2 fun s _ => k s (by omega), WdS_fr h5 fun s _ => k s (by omega), WdG_fr h6 fun s _ => k s (by omega), WdE_fr h7 fun s _ => k s (by omega), nM rfl, WdX_fr h9 fun s _ => k s (by omega), WdZ_fr h10 fun s _ => k s (by omega), WdI_fr h11 fun s _ => k s (by omega)⟩
  · have k : ∀ z, z < 3478 ∨ 3511 ≤ z → w' z = w z := k
    have hM : n ≤ 8 := hM
    exact ⟨⟨isc_fr b1 (k _ (by omega)), isc_fr b2 (k _ (by omega)), isc_fr b3 (k _ (by omega)), isc_fr b4 (k _ (by omega)), isc_fr b5 (k _ (by omega)), isc_fr b6 (k _ (by omega)), isc_fr b7 (k _ (by omega)), isc_fr b8 (k _ (by omega)), isc_of hn hM (by omega), isc_fr b10 (k _ (by omega))⟩, WdR_fr h2 fun s _ => k s (by omega), WdT_fr h3 fun s _ => k s (by omega), WdP_fr h4 b3.2 fun s _ => k s (by omega), WdS_fr h5 fun s _ => k s (by omega), WdG_fr h6 fun s _ => k s (by omega), WdE_fr h7 fun s _ => k s (by omega), WdM_fr h8 fun s _ => k s (by omega), WdX_fr h9 fun s _ => k s (by omega), nZ rfl, WdI_fr h11 fun s _ => k s (by omega)⟩
theorem f_choice_x0 {x y z u : Int32} (h : CR B i σ)  (a : ¬ (¬ x < 0 ∧ ¬ 100000 < x)) : FRs B i σ (am_fx am_P (d + 150) 337 0 [some (.ref 64), some (.int x), some (.int y), some (.int z), some (.int u)] [] (am_wI B i)) (.inr 2) := by
  refine FRs_x h ?_
  have hF : Fc B := h.1.1
  have hY : Yd B 94 := h.1.2.1
  rw [bk_337_0]
  simp (disch := first | omega | simp only [hF, hY]) only [(fun d x0 x1 x2 x3 x4 B i => bk_337_0 d x0 x1 x2 x3 x4 (am_wI B i)), (fun d x0 x1 x2 x3 x4 s0 B i => bk_337_26 d x0 x1 x2 x3 x4 s0 (am_wI B i)), (fun d x0 x1 x2 x3 x4 s0 B i => bk_337_55 d x0 x1 x2 x3 x4 s0 (am_wI B i)), c_within, c_ckN0, c_ckN1, a, hF, hY, y_ckw, y_ck2w, y_ck2x, y_ond, y_onn, y_oI, y_oIx, y_oJ, y_oV, y_oVx, y_oR, y_oRn, y_oRx, y_b0, y_b1, y_bi, y_bid, y_wIK, y_wIL, y_wII, y_wIJ, y_wIR, y_wIN, y_wIw, y_sI, ↓reduceIte, Nat.reduceEqDiff, eq_self, true_or, or_true, false_or, or_false, and_true, true_and, false_and, and_false, not_true, not_false_eq_true, tf_T, tf_F, y_up1, y_up2, y_xx, y_nx, y_sJ, y_sR, Int32.reduceLT, y_nxK, y_nxL, y_nxR, y_sJK, y_sJL, y_sJR, y_sJN, y_sRK, y_sRL, y_sRN, Nat.add_zero, z_nat, z_lit, z_lit0, z_lit1, z_in0, z_in1, z_addl0, z_lt, z_ltl, z_llt, z_inj, z_injl, z_add, z_addl, z_ladd, z_mul, z_mull, z_lmul, z_neg, z_negl, z_in, z_inl, z_ltT, z_ltF, z_eqF, z_10, z_01, z_litne, z_ne0, z_0ne, z_ne1, z_1ne, z_lt64, z_02, z_03, z_04, z_05, z_12, z_13, z_14, z_15, z_20, z_21, z_23, z_24, z_25, z_30, z_31, z_32, z_34, z_35, z_40, z_41, z_42, z_43, z_45, z_50, z_51, z_52, z_53, z_54]
theorem m_choice_x0 {x y z u : Int32} (h : MR B i σ)  (a : ¬ (¬ x < 0 ∧ ¬ 100000 < x)) : MRs B i σ (am_fx am_P (d + 150) 135 0 [some (.ref 874), some (.int x), some (.int y), some (.int z), some (.int u), none] [] (am_wI B i)) (some (.int 0)) 1 := by
  refine MRs_x h ?_
  have hM : Md B := h.1.1
  rw [bk_135_0]
  simp (disch := first | omega | simp only [hM]) only [(fun d x0 x1 x2 x3 x4 B i => bk_135_0 d x0 x1 x2 x3 x4 (am_wI B i)), (fun d x0 x1 x2 x3 x4 s0 s1 B i => bk_135_53 d x0 x1 x2 x3 x4 s0 s1 (am_wI B i)), (fun d x0 x3 x4 x5 B i => bk_135_111 d x0 x3 x4 x5 (am_wI B i)), (fun d x0 x5 B i => bk_135_144 d x0 x5 (am_wI B i)), m_in, m_thr1 hM, a, hM, y_ckw, y_ck2w, y_ck2x, y_ond, y_onn, y_oI, y_oIx, y_oJ, y_oV, y_oVx, y_oR, y_oRn, y_oRx, y_b0, y_b1, y_bi, y_bid, y_wIK, y_wIL, y_wII, y_wIJ, y_wIR, y_wIN, y_wIw, y_sI, ↓reduceIte, Nat.reduceEqDiff, eq_self, true_or, or_true, false_or, or_false, and_true, true_and, false_and, and_false, not_true, not_false_eq_true, tf_T, tf_F, y_up1, y_up2, y_xx, y_nx, y_sJ, y_sR, Int32.reduceLT, y_nxK, y_nxL, y_nxR, y_sJK, y_sJL, y_sJR, y_sJN, y_sRK, y_sRL, y_sRN, Nat.add_zero, z_nat, z_lit, z_lit0, z_lit1, z_in0, z_in1, z_addl0, z_lt, z_ltl, z_llt, z_inj, z_injl, z_add, z_addl, z_ladd, z_mul, z_mull, z_lmul, z_neg, z_negl, z_in, z_inl, z_ltT, z_ltF, z_eqF, z_10, z_01, z_litne, z_ne0, z_0ne, z_ne1, z_1ne, z_lt64, z_02, z_03, z_04, z_05, z_12, z_13, z_14, z_15, z_20, z_21, z_23, z_24, z_25, z_30, z_31, z_32, z_34, z_35, z_40, z_41, z_42, z_43, z_45, z_50, z_51, z_52, z_53, z_54]
theorem f_choice_x1 {x y z u : Int32} (h : CR B i σ) (a : ¬ x < 0 ∧ ¬ 100000 < x) (b : ¬ (¬ y < 0 ∧ ¬ 9 < y)) : FRs B i σ (am_fx am_P (d + 150) 337 0 [some (.ref 64), some (.int x), some (.int y), some (.int z), some (.int u)] [] (am_wI B i)) (.inr 2) := by
  refine FRs_x h ?_
  have hF : Fc B := h.1.1
  have hY : Yd B 94 := h.1.2.1
  rw [bk_337_0]
  simp (disch := first | omega | simp only [hF, hY]) only [(fun d x0 x1 x2 x3 x4 B i => bk_337_0 d x0 x1 x2 x3 x4 (am_wI B i)), (fun d x0 x1 x2 x3 x4 s0 B i => bk_337_26 d x0 x1 x2 x3 x4 s0 (am_wI B i)), (fun d x0 x1 x2 x3 x4 s0 B i => bk_337_55 d x0 x1 x2 x3 x4 s0 (am_wI B i)), c_within, c_ckN0, c_ckN1, a, b, hF, hY, y_ckw, y_ck2w, y_ck2x, y_ond, y_onn, y_oI, y_oIx, y_oJ, y_oV, y_oVx, y_oR, y_oRn, y_oRx, y_b0, y_b1, y_bi, y_bid, y_wIK, y_wIL, y_wII, y_wIJ, y_wIR, y_wIN, y_wIw, y_sI, ↓reduceIte, Nat.reduceEqDiff, eq_self, true_or, or_true, false_or, or_false, and_true, true_and, false_and, and_false, not_true, not_false_eq_true, tf_T, tf_F, y_up1, y_up2, y_xx, y_nx, y_sJ, y_sR, Int32.reduceLT, y_nxK, y_nxL, y_nxR, y_sJK, y_sJL, y_sJR, y_sJN, y_sRK, y_sRL, y_sRN, Nat.add_zero, z_nat, z_lit, z_lit0, z_lit1, z_in0, z_in1, z_addl0, z_lt, z_ltl, z_llt, z_inj, z_injl, z_add, z_addl, z_ladd, z_mul, z_mull, z_lmul, z_neg, z_negl, z_in, z_inl, z_ltT, z_ltF, z_eqF, z_10, z_01, z_litne, z_ne0, z_0ne, z_ne1, z_1ne, z_lt64, z_02, z_03, z_04, z_05, z_12, z_13, z_14, z_15, z_20, z_21, z_23, z_24, z_25, z_30, z_31, z_32, z_34, z_35, z_40, z_41, z_42, z_43, z_45, z_50, z_51, z_52, z_53, z_54]
theorem m_choice_x1 {x y z u : Int32} (h : MR B i σ) (a : ¬ x < 0 ∧ ¬ 100000 < x) (b : ¬ (¬ y < 0 ∧ ¬ 9 < y)) : MRs B i σ (am_fx am_P (d + 150) 135 0 [some (.ref 874), some (.int x), some (.int y), some (.int z), some (.int u), none] [] (am_wI B i)) (some (.int 0)) 1 := by
  refine MRs_x h ?_
  have hM : Md B := h.1.1
  rw [bk_135_0]
  simp (disch := first | omega | simp only [hM]) only [(fun d x0 x1 x2 x3 x4 B i => bk_135_0 d x0 x1 x2 x3 x4 (am_wI B i)), (fun d x0 x1 x2 x3 x4 s0 s1 B i => bk_135_53 d x0 x1 x2 x3 x4 s0 s1 (am_wI B i)), (fun d x0 x3 x4 x5 B i => bk_135_111 d x0 x3 x4 x5 (am_wI B i)), (fun d x0 x5 B i => bk_135_144 d x0 x5 (am_wI B i)), m_in, m_thr1 hM, a, b, hM, y_ckw, y_ck2w, y_ck2x, y_ond, y_onn, y_oI, y_oIx, y_oJ, y_oV, y_oVx, y_oR, y_oRn, y_oRx, y_b0, y_b1, y_bi, y_bid, y_wIK, y_wIL, y_wII, y_wIJ, y_wIR, y_wIN, y_wIw, y_sI, ↓reduceIte, Nat.reduceEqDiff, eq_self, true_or, or_true, false_or, or_false, and_true, true_and, false_and, and_false, not_true, not_false_eq_true, tf_T, tf_F, y_up1, y_up2, y_xx, y_nx, y_sJ, y_sR, Int32.reduceLT, y_nxK, y_nxL, y_nxR, y_sJK, y_sJL, y_sJR, y_sJN, y_sRK, y_sRL, y_sRN, Nat.add_zero, z_nat, z_lit, z_lit0, z_lit1, z_in0, z_in1, z_addl0, z_lt, z_ltl, z_llt, z_inj, z_injl, z_add, z_addl, z_ladd, z_mul, z_mull, z_lmul, z_neg, z_negl, z_in, z_inl, z_ltT, z_ltF, z_eqF, z_10, z_01, z_litne, z_ne0, z_0ne, z_ne1, z_1ne, z_lt64, z_02, z_03, z_04, z_05, z_12, z_13, z_14, z_15, z_20, z_21, z_23, z_24, z_25, z_30, z_31, z_32, z_34, z_35, z_40, z_41, z_42, z_43, z_45, z_50, z_51, z_52, z_53, z_54]
theorem f_choice_x2 {x y z u : Int32} (h : CR B i σ) (a : ¬ x < 0 ∧ ¬ 100000 < x) (b : ¬ y < 0 ∧ ¬ 9 < y) (g : ¬ (¬ z < 0 ∧ ¬ 9 < z)) : FRs B i σ (am_fx am_P (d + 150) 337 0 [some (.ref 64), some (.int x), some (.int y), some (.int z), some (.int u)] [] (am_wI B i)) (.inr 2) := by
  refine FRs_x h ?_
  have hF : Fc B := h.1.1
  have hY : Yd B 94 := h.1.2.1
  rw [bk_337_0]
  simp (disch := first | omega | simp only [hF, hY]) only [(fun d x0 x1 x2 x3 x4 B i => bk_337_0 d x0 x1 x2 x3 x4 (am_wI B i)), (fun d x0 x1 x2 x3 x4 s0 B i => bk_337_26 d x0 x1 x2 x3 x4 s0 (am_wI B i)), (fun d x0 x1 x2 x3 x4 s0 B i => bk_337_55 d x0 x1 x2 x3 x4 s0 (am_wI B i)), c_within, c_ckN0, c_ckN1, a, b, g, hF, hY, y_ckw, y_ck2w, y_ck2x, y_ond, y_onn, y_oI, y_oIx, y_oJ, y_oV, y_oVx, y_oR, y_oRn, y_oRx, y_b0, y_b1, y_bi, y_bid, y_wIK, y_wIL, y_wII, y_wIJ, y_wIR, y_wIN, y_wIw, y_sI, ↓reduceIte, Nat.reduceEqDiff, eq_self, true_or, or_true, false_or, or_false, and_true, true_and, false_and, and_false, not_true, not_false_eq_true, tf_T, tf_F, y_up1, y_up2, y_xx, y_nx, y_sJ, y_sR, Int32.reduceLT, y_nxK, y_nxL, y_nxR, y_sJK, y_sJL, y_sJR, y_sJN, y_sRK, y_sRL, y_sRN, Nat.add_zero, z_nat, z_lit, z_lit0, z_lit1, z_in0, z_in1, z_addl0, z_lt, z_ltl, z_llt, z_inj, z_injl, z_add, z_addl, z_ladd, z_mul, z_mull, z_lmul, z_neg, z_negl, z_in, z_inl, z_ltT, z_ltF, z_eqF, z_10, z_01, z_litne, z_ne0, z_0ne, z_ne1, z_1ne, z_lt64, z_02, z_03, z_04, z_05, z_12, z_13, z_14, z_15, z_20, z_21, z_23, z_24, z_25, z_30, z_31, z_32, z_34, z_35, z_40, z_41, z_42, z_43, z_45, z_50, z_51, z_52, z_53, z_54]
theorem m_choice_x2 {x y z u : Int32} (h : MR B i σ) (a : ¬ x < 0 ∧ ¬ 100000 < x) (b : ¬ y < 0 ∧ ¬ 9 < y) (g : ¬ (¬ z < 0 ∧ ¬ 9 < z)) : MRs B i σ (am_fx am_P (d + 150) 135 0 [some (.ref 874), some (.int x), some (.int y), some (.int z), some (.int u), none] [] (am_wI B i)) (some (.int 0)) 1 := by
  refine MRs_x h ?_
  have hM : Md B := h.1.1
  rw [bk_135_0]
  simp (disch := first | omega | simp only [hM]) only [(fun d x0 x1 x2 x3 x4 B i => bk_135_0 d x0 x1 x2 x3 x4 (am_wI B i)), (fun d x0 x1 x2 x3 x4 s0 s1 B i => bk_135_53 d x0 x1 x2 x3 x4 s0 s1 (am_wI B i)), (fun d x0 x3 x4 x5 B i => bk_135_111 d x0 x3 x4 x5 (am_wI B i)), (fun d x0 x5 B i => bk_135_144 d x0 x5 (am_wI B i)), m_in, m_thr1 hM, a, b, g, hM, y_ckw, y_ck2w, y_ck2x, y_ond, y_onn, y_oI, y_oIx, y_oJ, y_oV, y_oVx, y_oR, y_oRn, y_oRx, y_b0, y_b1, y_bi, y_bid, y_wIK, y_wIL, y_wII, y_wIJ, y_wIR, y_wIN, y_wIw, y_sI, ↓reduceIte, Nat.reduceEqDiff, eq_self, true_or, or_true, false_or, or_false, and_true, true_and, false_and, and_false, not_true, not_false_eq_true, tf_T, tf_F, y_up1, y_up2, y_xx, y_nx, y_sJ, y_sR, Int32.reduceLT, y_nxK, y_nxL, y_nxR, y_sJK, y_sJL, y_sJR, y_sJN, y_sRK, y_sRL, y_sRN, Nat.add_zero, z_nat, z_lit, z_lit0, z_lit1, z_in0, z_in1, z_addl0, z_lt, z_ltl, z_llt, z_inj, z_injl, z_add, z_addl, z_ladd, z_mul, z_mull, z_lmul, z_neg, z_negl, z_in, z_inl, z_ltT, z_ltF, z_eqF, z_10, z_01, z_litne, z_ne0, z_0ne, z_ne1, z_1ne, z_lt64, z_02, z_03, z_04, z_05, z_12, z_13, z_14, z_15, z_20, z_21, z_23, z_24, z_25, z_30, z_31, z_32, z_34, z_35, z_40, z_41, z_42, z_43, z_45, z_50, z_51, z_52, z_53, z_54]
theorem f_choice_x3 {x y z u : Int32} (h : CR B i σ) (a : ¬ x < 0 ∧ ¬ 100000 < x) (b : ¬ y < 0 ∧ ¬ 9 < y) (g : ¬ z < 0 ∧ ¬ 9 < z) (l : ¬ (¬ u < 0 ∧ ¬ 9 < u)) : FRs B i σ (am_fx am_P (d + 150) 337 0 [some (.ref 64), some (.int x), some (.int y), some (.int z), some (.int u)] [] (am_wI B i)) (.inr 2) := by
  refine FRs_x h ?_
  have hF : Fc B := h.1.1
  have hY : Yd B 94 := h.1.2.1
  rw [bk_337_0]
  simp (disch := first | omega | simp only [hF, hY]) only [(fun d x0 x1 x2 x3 x4 B i => bk_337_0 d x0 x1 x2 x3 x4 (am_wI B i)), (fun d x0 x1 x2 x3 x4 s0 B i => bk_337_26 d x0 x1 x2 x3 x4 s0 (am_wI B i)), (fun d x0 x1 x2 x3 x4 s0 B i => bk_337_55 d x0 x1 x2 x3 x4 s0 (am_wI B i)), c_within, c_ckN0, c_ckN1, a, b, g, l, hF, hY, y_ckw, y_ck2w, y_ck2x, y_ond, y_onn, y_oI, y_oIx, y_oJ, y_oV, y_oVx, y_oR, y_oRn, y_oRx, y_b0, y_b1, y_bi, y_bid, y_wIK, y_wIL, y_wII, y_wIJ, y_wIR, y_wIN, y_wIw, y_sI, ↓reduceIte, Nat.reduceEqDiff, eq_self, true_or, or_true, false_or, or_false, and_true, true_and, false_and, and_false, not_true, not_false_eq_true, tf_T, tf_F, y_up1, y_up2, y_xx, y_nx, y_sJ, y_sR, Int32.reduceLT, y_nxK, y_nxL, y_nxR, y_sJK, y_sJL, y_sJR, y_sJN, y_sRK, y_sRL, y_sRN, Nat.add_zero, z_nat, z_lit, z_lit0, z_lit1, z_in0, z_in1, z_addl0, z_lt, z_ltl, z_llt, z_inj, z_injl, z_add, z_addl, z_ladd, z_mul, z_mull, z_lmul, z_neg, z_negl, z_in, z_inl, z_ltT, z_ltF, z_eqF, z_10, z_01, z_litne, z_ne0, z_0ne, z_ne1, z_1ne, z_lt64, z_02, z_03, z_04, z_05, z_12, z_13, z_14, z_15, z_20, z_21, z_23, z_24, z_25, z_30, z_31, z_32, z_34, z_35, z_40, z_41, z_42, z_43, z_45, z_50, z_51, z_52, z_53, z_54]
theorem m_choice_x3 {x y z u : Int32} (h : MR B i σ) (a : ¬ x < 0 ∧ ¬ 100000 < x) (b : ¬ y < 0 ∧ ¬ 9 < y) (g : ¬ z < 0 ∧ ¬ 9 < z) (l : ¬ (¬ u < 0 ∧ ¬ 9 < u)) : MRs B i σ (am_fx am_P (d + 150) 135 0 [some (.ref 874), some (.int x), some (.int y), some (.int z), some (.int u), none] [] (am_wI B i)) (some (.int 0)) 1 := by
  refine MRs_x h ?_
  have hM : Md B := h.1.1
  rw [bk_135_0]
  simp (disch := first | omega | simp only [hM]) only [(fun d x0 x1 x2 x3 x4 B i => bk_135_0 d x0 x1 x2 x3 x4 (am_wI B i)), (fun d x0 x1 x2 x3 x4 s0 s1 B i => bk_135_53 d x0 x1 x2 x3 x4 s0 s1 (am_wI B i)), (fun d x0 x3 x4 x5 B i => bk_135_111 d x0 x3 x4 x5 (am_wI B i)), (fun d x0 x5 B i => bk_135_144 d x0 x5 (am_wI B i)), m_in, m_thr1 hM, a, b, g, l, hM, y_ckw, y_ck2w, y_ck2x, y_ond, y_onn, y_oI, y_oIx, y_oJ, y_oV, y_oVx, y_oR, y_oRn, y_oRx, y_b0, y_b1, y_bi, y_bid, y_wIK, y_wIL, y_wII, y_wIJ, y_wIR, y_wIN, y_wIw, y_sI, ↓reduceIte, Nat.reduceEqDiff, eq_self, true_or, or_true, false_or, or_false, and_true, true_and, false_and, and_false, not_true, not_false_eq_true, tf_T, tf_F, y_up1, y_up2, y_xx, y_nx, y_sJ, y_sR, Int32.reduceLT, y_nxK, y_nxL, y_nxR, y_sJK, y_sJL, y_sJR, y_sJN, y_sRK, y_sRL, y_sRN, Nat.add_zero, z_nat, z_lit, z_lit0, z_lit1, z_in0, z_in1, z_addl0, z_lt, z_ltl, z_llt, z_inj, z_injl, z_add, z_addl, z_ladd, z_mul, z_mull, z_lmul, z_neg, z_negl, z_in, z_inl, z_ltT, z_ltF, z_eqF, z_10, z_01, z_litne, z_ne0, z_0ne, z_ne1, z_1ne, z_lt64, z_02, z_03, z_04, z_05, z_12, z_13, z_14, z_15, z_20, z_21, z_23, z_24, z_25, z_30, z_31, z_32, z_34, z_35, z_40, z_41, z_42, z_43, z_45, z_50, z_51, z_52, z_53, z_54]
theorem f_choice_full {x y z u : Int32} (h : CR B i σ) (a : ¬ x < 0 ∧ ¬ 100000 < x) (b : ¬ y < 0 ∧ ¬ 9 < y) (g : ¬ z < 0 ∧ ¬ 9 < z) (l : ¬ u < 0 ∧ ¬ 9 < u) (hc : σ.1 3478 = Int32.ofNat 8) : FRs B i σ (am_fx am_P (d + 150) 337 0 [some (.ref 64), some (.int x), some (.int y), some (.int z), some (.int u)] [] (am_wI B i)) (.inl (some (.int (-1)))) := by
  refine FRs_0 h ?_
  have hF : Fc B := h.1.1
  have hY : Yd B 94 := h.1.2.1
  have e : i (94 + 22) 4 = Int32.ofNat 8 := h.2.1.2.2.2.2.2.2.2.1.1.trans hc
  have c8' : ¬ Int32.ofNat 8 < 8 := by decide
  rw [bk_337_0]
  simp (disch := first | omega | simp only [hF, hY]) only [(fun d x0 x1 x2 x3 x4 B i => bk_337_0 d x0 x1 x2 x3 x4 (am_wI B i)), (fun d x0 x1 x2 x3 x4 s0 B i => bk_337_26 d x0 x1 x2 x3 x4 s0 (am_wI B i)), (fun d x0 x1 x2 x3 x4 s0 B i => bk_337_55 d x0 x1 x2 x3 x4 s0 (am_wI B i)), c_within, (fun d x0 x1 x2 x3 x4 B i => bk_168_0 d x0 x1 x2 x3 x4 (am_wI B i)), (fun d x0 x3 x4 B i => bk_168_31 d x0 x3 x4 (am_wI B i)), (fun d x0 B i => bk_168_52 d x0 (am_wI B i)), c_ckN1, a.1, a.2, b.1, b.2, g.1, g.2, l.1, l.2, e, c8', hF, hY, y_ckw, y_ck2w, y_ck2x, y_ond, y_onn, y_oI, y_oIx, y_oJ, y_oV, y_oVx, y_oR, y_oRn, y_oRx, y_b0, y_b1, y_bi, y_bid, y_wIK, y_wIL, y_wII, y_wIJ, y_wIR, y_wIN, y_wIw, y_sI, ↓reduceIte, Nat.reduceEqDiff, eq_self, true_or, or_true, false_or, or_false, and_true, true_and, false_and, and_false, not_true, not_false_eq_true, tf_T, tf_F, y_up1, y_up2, y_xx, y_nx, y_sJ, y_sR, Int32.reduceLT, y_nxK, y_nxL, y_nxR, y_sJK, y_sJL, y_sJR, y_sJN, y_sRK, y_sRL, y_sRN, Nat.add_zero, z_nat, z_lit, z_lit0, z_lit1, z_in0, z_in1, z_addl0, z_lt, z_ltl, z_llt, z_inj, z_injl, z_add, z_addl, z_ladd, z_mul, z_mull, z_lmul, z_neg, z_negl, z_in, z_inl, z_ltT, z_ltF, z_eqF, z_10, z_01, z_litne, z_ne0, z_0ne, z_ne1, z_1ne, z_lt64, z_02, z_03, z_04, z_05, z_12, z_13, z_14, z_15, z_20, z_21, z_23, z_24, z_25, z_30, z_31, z_32, z_34, z_35, z_40, z_41, z_42, z_43, z_45, z_50, z_51, z_52, z_53, z_54]
theorem m_choice_full {x y z u : Int32} (h : MR B i σ) (a : ¬ x < 0 ∧ ¬ 100000 < x) (b : ¬ y < 0 ∧ ¬ 9 < y) (g : ¬ z < 0 ∧ ¬ 9 < z) (l : ¬ u < 0 ∧ ¬ 9 < u) (hc : σ.1 3478 = Int32.ofNat 8) : MRs B i σ (am_fx am_P (d + 150) 135 0 [some (.ref 874), some (.int x), some (.int y), some (.int z), some (.int u), none] [] (am_wI B i)) (some (.int (-1))) 0 := by
  refine MRs_0 h ?_
  have hM : Md B := h.1.1
  have e : i 875 3478 = Int32.ofNat 8 := (h.2.1 3478 (by omega)).trans hc
  have c8' : (Int32.ofNat 8 = (8 : Int32)) := rfl
  rw [bk_135_0]
  simp (disch := first | omega | simp only [hM]) only [(fun d x0 x1 x2 x3 x4 B i => bk_135_0 d x0 x1 x2 x3 x4 (am_wI B i)), (fun d x0 x1 x2 x3 x4 s0 s1 B i => bk_135_53 d x0 x1 x2 x3 x4 s0 s1 (am_wI B i)), (fun d x0 x3 x4 x5 B i => bk_135_111 d x0 x3 x4 x5 (am_wI B i)), (fun d x0 x5 B i => bk_135_144 d x0 x5 (am_wI B i)), m_in, m_thr0, a.1, a.2, b.1, b.2, g.1, g.2, l.1, l.2, e, c8', hM, y_ckw, y_ck2w, y_ck2x, y_ond, y_onn, y_oI, y_oIx, y_oJ, y_oV, y_oVx, y_oR, y_oRn, y_oRx, y_b0, y_b1, y_bi, y_bid, y_wIK, y_wIL, y_wII, y_wIJ, y_wIR, y_wIN, y_wIw, y_sI, ↓reduceIte, Nat.reduceEqDiff, eq_self, true_or, or_true, false_or, or_false, and_true, true_and, false_and, and_false, not_true, not_false_eq_true, tf_T, tf_F, y_up1, y_up2, y_xx, y_nx, y_sJ, y_sR, Int32.reduceLT, y_nxK, y_nxL, y_nxR, y_sJK, y_sJL, y_sJR, y_sJN, y_sRK, y_sRL, y_sRN, Nat.add_zero, z_nat, z_lit, z_lit0, z_lit1, z_in0, z_in1, z_addl0, z_lt, z_ltl, z_llt, z_inj, z_injl, z_add, z_addl, z_ladd, z_mul, z_mull, z_lmul, z_neg, z_negl, z_in, z_inl, z_ltT, z_ltF, z_eqF, z_10, z_01, z_litne, z_ne0, z_0ne, z_ne1, z_1ne, z_lt64, z_02, z_03, z_04, z_05, z_12, z_13, z_14, z_15, z_20, z_21, z_23, z_24, z_25, z_30, z_31, z_32, z_34, z_35, z_40, z_41, z_42, z_43, z_45, z_50, z_51, z_52, z_53, z_54]
theorem f_choice {x y z u : Int32} {c : Nat} (h : CR B i σ) (a : ¬ x < 0 ∧ ¬ 100000 < x) (b : ¬ y < 0 ∧ ¬ 9 < y) (g : ¬ z < 0 ∧ ¬ 9 < z) (l : ¬ u < 0 ∧ ¬ 9 < u) (hc : σ.1 3478 = Int32.ofNat c) (c8 : c < 8) : FRs B i ((wu (wu (wu (wu (wu σ.1 (3479 + 4 * c) x) (3479 + 4 * c + 1) y) (3479 + 4 * c + 2) z) (3479 + 4 * c + 3) u) (3478) (Int32.ofNat (c + 1))), σ.2) (am_fx am_P (d + 150) 337 0 [some (.ref 64), some (.int x), some (.int y), some (.int z), some (.int u)] [] (am_wI B i)) (.inl (some (.int (Int32.ofNat (c + 1))))) := by
  have hF : Fc B := h.1.1
  have hY : Yd B 94 := h.1.2.1
  have e : i (94 + 22) 4 = Int32.ofNat c := h.2.1.2.2.2.2.2.2.2.1.1.trans hc
  have c8' : Int32.ofNat c < 8 := by rw [show (8 : Int32) = Int32.ofNat 8 from rfl, z_lt (by omega) (by omega)]; omega
  refine FRs_w (i' := (am_up2 (am_up2 (am_up2 (am_up2 (am_up2 i (94 + 23) c x) (94 + 24) c y) (94 + 25) c z) (94 + 26) c u) (94 + 22) 4 (Int32.ofNat (c + 1)))) h ?_ ?_ (by intros; simp (disch := omega) only [y_up2])
  · rw [bk_337_0]
    simp (disch := first | omega | simp only [hF, hY]) only [(fun d x0 x1 x2 x3 x4 B i => bk_337_0 d x0 x1 x2 x3 x4 (am_wI B i)), (fun d x0 x1 x2 x3 x4 s0 B i => bk_337_26 d x0 x1 x2 x3 x4 s0 (am_wI B i)), (fun d x0 x1 x2 x3 x4 s0 B i => bk_337_55 d x0 x1 x2 x3 x4 s0 (am_wI B i)), c_within, (fun d x0 x1 x2 x3 x4 B i => bk_168_0 d x0 x1 x2 x3 x4 (am_wI B i)), (fun d x0 x3 x4 B i => bk_168_31 d x0 x3 x4 (am_wI B i)), (fun d x0 B i => bk_168_52 d x0 (am_wI B i)), c_ckN1, a.1, a.2, b.1, b.2, g.1, g.2, l.1, l.2, e, c8', hF, hY, y_ckw, y_ck2w, y_ck2x, y_ond, y_onn, y_oI, y_oIx, y_oJ, y_oV, y_oVx, y_oR, y_oRn, y_oRx, y_b0, y_b1, y_bi, y_bid, y_wIK, y_wIL, y_wII, y_wIJ, y_wIR, y_wIN, y_wIw, y_sI, ↓reduceIte, Nat.reduceEqDiff, eq_self, true_or, or_true, false_or, or_false, and_true, true_and, false_and, and_false, not_true, not_false_eq_true, tf_T, tf_F, y_up1, y_up2, y_xx, y_nx, y_sJ, y_sR, Int32.reduceLT, y_nxK, y_nxL, y_nxR, y_sJK, y_sJL, y_sJR, y_sJN, y_sRK, y_sRL, y_sRN, Nat.add_zero, z_nat, z_lit, z_lit0, z_lit1, z_in0, z_in1, z_addl0, z_lt, z_ltl, z_llt, z_inj, z_injl, z_add, z_addl, z_ladd, z_mul, z_mull, z_lmul, z_neg, z_negl, z_in, z_inl, z_ltT, z_ltF, z_eqF, z_10, z_01, z_litne, z_ne0, z_0ne, z_ne1, z_1ne, z_lt64, z_02, z_03, z_04, z_05, z_12, z_13, z_14, z_15, z_20, z_21, z_23, z_24, z_25, z_30, z_31, z_32, z_34, z_35, z_40, z_41, z_42, z_43, z_45, z_50, z_51, z_52, z_53, z_54]
  · refine Rep_plan h.2.1 (Le.rf B) (by omega) rfl ?_ (by intros; simp (disch := omega) only [y_up2]) (by intros; simp (disch := omega) only [y_upr]) (by intros; simp (disch := omega) only [wu_ne])
    obtain ⟨a1, a2, a3⟩ := h.2.1.2.2.2.2.2.2.2.1
    refine ⟨by rw [y_up1 rfl rfl, wu_at rfl], fun q hq hq8 => ?_, fun r hr y hy => ?_⟩
    · rw [cn_of (wu_at rfl) (by omega)] at hq
      by_cases ek : q = c
      · subst ek
        simp (disch := omega) only [y_up1, y_up2, wu_at, wu_ne, and_self]
      · have := a2 q (by rw [cn_of hc (by omega)]; omega) hq8
        simp (disch := omega) only [y_up2, wu_ne]
        exact this
    · simp (disch := omega) only [y_up2, wu_ne]
      exact a3 r hr y hy
theorem m_choice {x y z u : Int32} {c : Nat} (h : MR B i σ) (a : ¬ x < 0 ∧ ¬ 100000 < x) (b : ¬ y < 0 ∧ ¬ 9 < y) (g : ¬ z < 0 ∧ ¬ 9 < z) (l : ¬ u < 0 ∧ ¬ 9 < u) (hc : σ.1 3478 = Int32.ofNat c) (c8 : c < 8) : MRs B i ((wu (wu (wu (wu (wu σ.1 (3479 + 4 * c) x) (3479 + 4 * c + 1) y) (3479 + 4 * c + 2) z) (3479 + 4 * c + 3) u) (3478) (Int32.ofNat (c + 1))), σ.2) (am_fx am_P (d + 150) 135 0 [some (.ref 874), some (.int x), some (.int y), some (.int z), some (.int u), none] [] (am_wI B i)) (some (.int (Int32.ofNat (c + 1)))) 0 := by
  have hM : Md B := h.1.1
  have e : i 875 3478 = Int32.ofNat c := (h.2.1 3478 (by omega)).trans hc
  have c8' : ¬ Int32.ofNat c = 8 := by rw [show (8 : Int32) = Int32.ofNat 8 from rfl, z_inj (by omega) (by omega)]; omega
  refine MRs_w (i' := (am_up2 (am_up2 (am_up2 (am_up2 (am_up2 (am_up2 i 874 0 0) 875 (3479 + 4 * c) x) 875 (3479 + 4 * c + 1) y) 875 (3479 + 4 * c + 2) z) 875 (3479 + 4 * c + 3) u) 875 (3478) (Int32.ofNat (c + 1)))) h ?_ (by rw [y_up2 (by omega), y_up2 (by omega), y_up2 (by omega), y_up2 (by omega), y_up2 (by omega), y_up1 rfl rfl]) (up_wu (up_wu (up_wu (up_wu (up_wu (up_o (by omega) h.2.1)))))) (by intros; simp (disch := omega) only [y_up2])
  rw [bk_135_0]
  simp (disch := first | omega | simp only [hM]) only [(fun d x0 x1 x2 x3 x4 B i => bk_135_0 d x0 x1 x2 x3 x4 (am_wI B i)), (fun d x0 x1 x2 x3 x4 s0 s1 B i => bk_135_53 d x0 x1 x2 x3 x4 s0 s1 (am_wI B i)), (fun d x0 x3 x4 x5 B i => bk_135_111 d x0 x3 x4 x5 (am_wI B i)), (fun d x0 x5 B i => bk_135_144 d x0 x5 (am_wI B i)), m_in, m_thr0, a.1, a.2, b.1, b.2, g.1, g.2, l.1, l.2, e, c8', hM, y_ckw, y_ck2w, y_ck2x, y_ond, y_onn, y_oI, y_oIx, y_oJ, y_oV, y_oVx, y_oR, y_oRn, y_oRx, y_b0, y_b1, y_bi, y_bid, y_wIK, y_wIL, y_wII, y_wIJ, y_wIR, y_wIN, y_wIw, y_sI, ↓reduceIte, Nat.reduceEqDiff, eq_self, true_or, or_true, false_or, or_false, and_true, true_and, false_and, and_false, not_true, not_false_eq_true, tf_T, tf_F, y_up1, y_up2, y_xx, y_nx, y_sJ, y_sR, Int32.reduceLT, y_nxK, y_nxL, y_nxR, y_sJK, y_sJL, y_sJR, y_sJN, y_sRK, y_sRL, y_sRN, Nat.add_zero, z_nat, z_lit, z_lit0, z_lit1, z_in0, z_in1, z_addl0, z_lt, z_ltl, z_llt, z_inj, z_injl, z_add, z_addl, z_ladd, z_mul, z_mull, z_lmul, z_neg, z_negl, z_in, z_inl, z_ltT, z_ltF, z_eqF, z_10, z_01, z_litne, z_ne0, z_0ne, z_ne1, z_1ne, z_lt64, z_02, z_03, z_04, z_05, z_12, z_13, z_14, z_15, z_20, z_21, z_23, z_24, z_25, z_30, z_31, z_32, z_34, z_35, z_40, z_41, z_42, z_43, z_45, z_50, z_51, z_52, z_53, z_54]
theorem k_choice (h : Sim B i σ) (hs : Sc B i L j) (hO : am_K B 892 = 22 ∧ am_L B 892 = 1) : Stq B i d 3298 j := by
  by_cases a : ¬ (i 0 (j + 1)) < 0 ∧ ¬ 100000 < (i 0 (j + 1))
  rotate_left
  · exact kx_45_2 h hs hO (f_choice_x0 (d := d + 48) h.1  a) fun B0 i0 h0 => m_choice_x0 (d := d + 49) h0  a
  by_cases b : ¬ (i 0 (j + 2)) < 0 ∧ ¬ 9 < (i 0 (j + 2))
  rotate_left
  · exact kx_45_2 h hs hO (f_choice_x1 (d := d + 48) h.1 a b) fun B0 i0 h0 => m_choice_x1 (d := d + 49) h0 a b
  by_cases g : ¬ (i 0 (j + 3)) < 0 ∧ ¬ 9 < (i 0 (j + 3))
  rotate_left
  · exact kx_45_2 h hs hO (f_choice_x2 (d := d + 48) h.1 a b g) fun B0 i0 h0 => m_choice_x2 (d := d + 49) h0 a b g
  by_cases l : ¬ (i 0 (j + 4)) < 0 ∧ ¬ 9 < (i 0 (j + 4))
  rotate_left
  · exact kx_45_2 h hs hO (f_choice_x3 (d := d + 48) h.1 a b g l) fun B0 i0 h0 => m_choice_x3 (d := d + 49) h0 a b g l
  have hc := h.2.2.1.1.2.2.2.2.2.2.2.2.1
  rcases z_cmp4 hc.2 with c4 | c4
  · refine kk_45 (σ' := ((wu (wu (wu (wu (wu σ.1 (3479 + 4 * cn σ.1 3478) (i 0 (j + 1))) (3479 + 4 * cn σ.1 3478 + 1) (i 0 (j + 2))) (3479 + 4 * cn σ.1 3478 + 2) (i 0 (j + 3))) (3479 + 4 * cn σ.1 3478 + 3) (i 0 (j + 4))) (3478) (Int32.ofNat (cn σ.1 3478 + 1))), σ.2)) h hs hO (SW_now h.2.2 ?_) (f_choice (d := d + 48) h.1 a b g l hc.1 c4) fun B0 i0 h0 => m_choice (d := d + 49) h0 a b g l hc.1 c4
    refine Wd_cnt (s := 3478) h.2.2.1 (by omega) (wu_at rfl) (show _ ≤ 8 by omega) (by omega) (by omega) (fun _ => ?_) fun z hz => ?_
    · obtain ⟨c1, c2, c3, c4⟩ := h.2.2.1.2.2.2.2.2.2.2.2.2.1
      refine ⟨fun t ht h6 => ?_, fun s' hs' h8 n hn hn8 => ?_, fun q hq h8 => ?_, fun r hr y hy => ?_⟩
      · unfold cn at ht
        simp (disch := omega) only [wu_ne] at ht ⊢
        exact c1 t ht h6
      · unfold cn at hs' hn
        simp (disch := omega) only [wu_ne] at hs' hn ⊢
        exact c2 s' hs' h8 n hn hn8
      · rw [cn_of (wu_at rfl) (by omega)] at hq
        by_cases ek : q = cn σ.1 3478
        · subst ek
          simp (disch := omega) only [wu_at, wu_ne]
          exact ⟨z_rg a.1 a.2 (by decide), z_rg b.1 b.2 (by decide), z_rg g.1 g.2 (by decide), z_rg l.1 l.2 (by decide)⟩
        · simp (disch := omega) only [wu_ne]
          exact c3 q (by omega) h8
      · simp (disch := omega) only [wu_ne]
        exact c4 r hr y hy
    · have hz : z < 3478 ∨ 3511 ≤ z := hz
      simp (disch := omega) only [wu_ne]
  · have e : σ.1 3478 = Int32.ofNat 8 := by rw [hc.1, c4]
    exact kk_45 h hs hO h.2.2 (f_choice_full (d := d + 48) h.1 a b g l e) fun B0 i0 h0 => m_choice_full (d := d + 49) h0 a b g l e
theorem f_muster_x0 {x y : Int32} (h : CR B i σ)  (a : ¬ (¬ x < 0 ∧ ¬ σ.1 0 < x)) : FRs B i σ (am_fx am_P (d + 150) 334 0 [some (.ref 64), some (.int x), some (.int y)] [] (am_wI B i)) (.inr 2) := by
  refine FRs_x h ?_
  have hF : Fc B := h.1.1
  have hY : Yd B 94 := h.1.2.1
  have e0 : i 94 0 = σ.1 0 := h.2.1.1.1
  rw [bk_334_0]
  simp (disch := first | omega | simp only [hF, hY]) only [(fun d x0 x1 x2 B i => bk_334_0 d x0 x1 x2 (am_wI B i)), (fun d x0 x1 x2 s0 B i => bk_334_31 d x0 x1 x2 s0 (am_wI B i)), c_within, e0, c_ckN0, c_ckN1, a, hF, hY, y_ckw, y_ck2w, y_ck2x, y_ond, y_onn, y_oI, y_oIx, y_oJ, y_oV, y_oVx, y_oR, y_oRn, y_oRx, y_b0, y_b1, y_bi, y_bid, y_wIK, y_wIL, y_wII, y_wIJ, y_wIR, y_wIN, y_wIw, y_sI, ↓reduceIte, Nat.reduceEqDiff, eq_self, true_or, or_true, false_or, or_false, and_true, true_and, false_and, and_false, not_true, not_false_eq_true, tf_T, tf_F, y_up1, y_up2, y_xx, y_nx, y_sJ, y_sR, Int32.reduceLT, y_nxK, y_nxL, y_nxR, y_sJK, y_sJL, y_sJR, y_sJN, y_sRK, y_sRL, y_sRN, Nat.add_zero, z_nat, z_lit, z_lit0, z_lit1, z_in0, z_in1, z_addl0, z_lt, z_ltl, z_llt, z_inj, z_injl, z_add, z_addl, z_ladd, z_mul, z_mull, z_lmul, z_neg, z_negl, z_in, z_inl, z_ltT, z_ltF, z_eqF, z_10, z_01, z_litne, z_ne0, z_0ne, z_ne1, z_1ne, z_lt64, z_02, z_03, z_04, z_05, z_12, z_13, z_14, z_15, z_20, z_21, z_23, z_24, z_25, z_30, z_31, z_32, z_34, z_35, z_40, z_41, z_42, z_43, z_45, z_50, z_51, z_52, z_53, z_54]
theorem m_muster_x0 {x y : Int32} (h : MR B i σ)  (a : ¬ (¬ x < 0 ∧ ¬ σ.1 0 < x)) : MRs B i σ (am_fx am_P (d + 150) 129 0 [some (.ref 874), some (.int x), some (.int y), none] [] (am_wI B i)) (some (.int 0)) 1 := by
  refine MRs_x h ?_
  have hM : Md B := h.1.1
  have e0 : i 875 0 = σ.1 0 := h.2.1 0 (by omega)
  rw [bk_129_0]
  simp (disch := first | omega | simp only [hM]) only [(fun d x0 x1 x2 B i => bk_129_0 d x0 x1 x2 (am_wI B i)), (fun d x0 x1 x2 s0 s1 B i => bk_129_34 d x0 x1 x2 s0 s1 (am_wI B i)), (fun d x0 x3 B i => bk_129_88 d x0 x3 (am_wI B i)), m_in, (fun d x0 B i => bk_13_0 d x0 (am_wI B i)), e0, m_thr1 hM, a, hM, y_ckw, y_ck2w, y_ck2x, y_ond, y_onn, y_oI, y_oIx, y_oJ, y_oV, y_oVx, y_oR, y_oRn, y_oRx, y_b0, y_b1, y_bi, y_bid, y_wIK, y_wIL, y_wII, y_wIJ, y_wIR, y_wIN, y_wIw, y_sI, ↓reduceIte, Nat.reduceEqDiff, eq_self, true_or, or_true, false_or, or_false, and_true, true_and, false_and, and_false, not_true, not_false_eq_true, tf_T, tf_F, y_up1, y_up2, y_xx, y_nx, y_sJ, y_sR, Int32.reduceLT, y_nxK, y_nxL, y_nxR, y_sJK, y_sJL, y_sJR, y_sJN, y_sRK, y_sRL, y_sRN, Nat.add_zero, z_nat, z_lit, z_lit0, z_lit1, z_in0, z_in1, z_addl0, z_lt, z_ltl, z_llt, z_inj, z_injl, z_add, z_addl, z_ladd, z_mul, z_mull, z_lmul, z_neg, z_negl, z_in, z_inl, z_ltT, z_ltF, z_eqF, z_10, z_01, z_litne, z_ne0, z_0ne, z_ne1, z_1ne, z_lt64, z_02, z_03, z_04, z_05, z_12, z_13, z_14, z_15, z_20, z_21, z_23, z_24, z_25, z_30, z_31, z_32, z_34, z_35, z_40, z_41, z_42, z_43, z_45, z_50, z_51, z_52, z_53, z_54]
theorem f_muster_x1 {x y : Int32} (h : CR B i σ) (a : ¬ x < 0 ∧ ¬ σ.1 0 < x) (b : ¬ (¬ y < 0 ∧ ¬ 100000 < y)) : FRs B i σ (am_fx am_P (d + 150) 334 0 [some (.ref 64), some (.int x), some (.int y)] [] (am_wI B i)) (.inr 2) := by
  refine FRs_x h ?_
  have hF : Fc B := h.1.1
  have hY : Yd B 94 := h.1.2.1
  have e0 : i 94 0 = σ.1 0 := h.2.1.1.1
  rw [bk_334_0]
  simp (disch := first | omega | simp only [hF, hY]) only [(fun d x0 x1 x2 B i => bk_334_0 d x0 x1 x2 (am_wI B i)), (fun d x0 x1 x2 s0 B i => bk_334_31 d x0 x1 x2 s0 (am_wI B i)), c_within, e0, c_ckN0, c_ckN1, a, b, hF, hY, y_ckw, y_ck2w, y_ck2x, y_ond, y_onn, y_oI, y_oIx, y_oJ, y_oV, y_oVx, y_oR, y_oRn, y_oRx, y_b0, y_b1, y_bi, y_bid, y_wIK, y_wIL, y_wII, y_wIJ, y_wIR, y_wIN, y_wIw, y_sI, ↓reduceIte, Nat.reduceEqDiff, eq_self, true_or, or_true, false_or, or_false, and_true, true_and, false_and, and_false, not_true, not_false_eq_true, tf_T, tf_F, y_up1, y_up2, y_xx, y_nx, y_sJ, y_sR, Int32.reduceLT, y_nxK, y_nxL, y_nxR, y_sJK, y_sJL, y_sJR, y_sJN, y_sRK, y_sRL, y_sRN, Nat.add_zero, z_nat, z_lit, z_lit0, z_lit1, z_in0, z_in1, z_addl0, z_lt, z_ltl, z_llt, z_inj, z_injl, z_add, z_addl, z_ladd, z_mul, z_mull, z_lmul, z_neg, z_negl, z_in, z_inl, z_ltT, z_ltF, z_eqF, z_10, z_01, z_litne, z_ne0, z_0ne, z_ne1, z_1ne, z_lt64, z_02, z_03, z_04, z_05, z_12, z_13, z_14, z_15, z_20, z_21, z_23, z_24, z_25, z_30, z_31, z_32, z_34, z_35, z_40, z_41, z_42, z_43, z_45, z_50, z_51, z_52, z_53, z_54]
theorem m_muster_x1 {x y : Int32} (h : MR B i σ) (a : ¬ x < 0 ∧ ¬ σ.1 0 < x) (b : ¬ (¬ y < 0 ∧ ¬ 100000 < y)) : MRs B i σ (am_fx am_P (d + 150) 129 0 [some (.ref 874), some (.int x), some (.int y), none] [] (am_wI B i)) (some (.int 0)) 1 := by
  refine MRs_x h ?_
  have hM : Md B := h.1.1
  have e0 : i 875 0 = σ.1 0 := h.2.1 0 (by omega)
  rw [bk_129_0]
  simp (disch := first | omega | simp only [hM]) only [(fun d x0 x1 x2 B i => bk_129_0 d x0 x1 x2 (am_wI B i)), (fun d x0 x1 x2 s0 s1 B i => bk_129_34 d x0 x1 x2 s0 s1 (am_wI B i)), (fun d x0 x3 B i => bk_129_88 d x0 x3 (am_wI B i)), m_in, (fun d x0 B i => bk_13_0 d x0 (am_wI B i)), e0, m_thr1 hM, a, b, hM, y_ckw, y_ck2w, y_ck2x, y_ond, y_onn, y_oI, y_oIx, y_oJ, y_oV, y_oVx, y_oR, y_oRn, y_oRx, y_b0, y_b1, y_bi, y_bid, y_wIK, y_wIL, y_wII, y_wIJ, y_wIR, y_wIN, y_wIw, y_sI, ↓reduceIte, Nat.reduceEqDiff, eq_self, true_or, or_true, false_or, or_false, and_true, true_and, false_and, and_false, not_true, not_false_eq_true, tf_T, tf_F, y_up1, y_up2, y_xx, y_nx, y_sJ, y_sR, Int32.reduceLT, y_nxK, y_nxL, y_nxR, y_sJK, y_sJL, y_sJR, y_sJN, y_sRK, y_sRL, y_sRN, Nat.add_zero, z_nat, z_lit, z_lit0, z_lit1, z_in0, z_in1, z_addl0, z_lt, z_ltl, z_llt, z_inj, z_injl, z_add, z_addl, z_ladd, z_mul, z_mull, z_lmul, z_neg, z_negl, z_in, z_inl, z_ltT, z_ltF, z_eqF, z_10, z_01, z_litne, z_ne0, z_0ne, z_ne1, z_1ne, z_lt64, z_02, z_03, z_04, z_05, z_12, z_13, z_14, z_15, z_20, z_21, z_23, z_24, z_25, z_30, z_31, z_32, z_34, z_35, z_40, z_41, z_42, z_43, z_45, z_50, z_51, z_52, z_53, z_54]
theorem f_muster_full {x y : Int32} (h : CR B i σ) (a : ¬ x < 0 ∧ ¬ σ.1 0 < x) (b : ¬ y < 0 ∧ ¬ 100000 < y) (hc : σ.1 3437 = Int32.ofNat 20) : FRs B i σ (am_fx am_P (d + 150) 334 0 [some (.ref 64), some (.int x), some (.int y)] [] (am_wI B i)) (.inl (some (.int (-1)))) := by
  refine FRs_0 h ?_
  have hF : Fc B := h.1.1
  have hY : Yd B 94 := h.1.2.1
  have e0 : i 94 0 = σ.1 0 := h.2.1.1.1
  have e : i (94 + 14) 7 = Int32.ofNat 20 := h.2.1.2.2.2.2.2.2.1.1.trans hc
  have c8' : ¬ Int32.ofNat 20 < 20 := by decide
  rw [bk_334_0]
  simp (disch := first | omega | simp only [hF, hY]) only [(fun d x0 x1 x2 B i => bk_334_0 d x0 x1 x2 (am_wI B i)), (fun d x0 x1 x2 s0 B i => bk_334_31 d x0 x1 x2 s0 (am_wI B i)), c_within, e0, (fun d x0 x1 x2 B i => bk_145_0 d x0 x1 x2 (am_wI B i)), (fun d x0 B i => bk_145_31 d x0 (am_wI B i)), c_ckN1, a.1, a.2, b.1, b.2, e, c8', hF, hY, y_ckw, y_ck2w, y_ck2x, y_ond, y_onn, y_oI, y_oIx, y_oJ, y_oV, y_oVx, y_oR, y_oRn, y_oRx, y_b0, y_b1, y_bi, y_bid, y_wIK, y_wIL, y_wII, y_wIJ, y_wIR, y_wIN, y_wIw, y_sI, ↓reduceIte, Nat.reduceEqDiff, eq_self, true_or, or_true, false_or, or_false, and_true, true_and, false_and, and_false, not_true, not_false_eq_true, tf_T, tf_F, y_up1, y_up2, y_xx, y_nx, y_sJ, y_sR, Int32.reduceLT, y_nxK, y_nxL, y_nxR, y_sJK, y_sJL, y_sJR, y_sJN, y_sRK, y_sRL, y_sRN, Nat.add_zero, z_nat, z_lit, z_lit0, z_lit1, z_in0, z_in1, z_addl0, z_lt, z_ltl, z_llt, z_inj, z_injl, z_add, z_addl, z_ladd, z_mul, z_mull, z_lmul, z_neg, z_negl, z_in, z_inl, z_ltT, z_ltF, z_eqF, z_10, z_01, z_litne, z_ne0, z_0ne, z_ne1, z_1ne, z_lt64, z_02, z_03, z_04, z_05, z_12, z_13, z_14, z_15, z_20, z_21, z_23, z_24, z_25, z_30, z_31, z_32, z_34, z_35, z_40, z_41, z_42, z_43, z_45, z_50, z_51, z_52, z_53, z_54]
theorem m_muster_full {x y : Int32} (h : MR B i σ) (a : ¬ x < 0 ∧ ¬ σ.1 0 < x) (b : ¬ y < 0 ∧ ¬ 100000 < y) (hc : σ.1 3437 = Int32.ofNat 20) : MRs B i σ (am_fx am_P (d + 150) 129 0 [some (.ref 874), some (.int x), some (.int y), none] [] (am_wI B i)) (some (.int (-1))) 0 := by
  refine MRs_0 h ?_
  have hM : Md B := h.1.1
  have e0 : i 875 0 = σ.1 0 := h.2.1 0 (by omega)
  have e : i 875 3437 = Int32.ofNat 20 := (h.2.1 3437 (by omega)).trans hc
  have c8' : (Int32.ofNat 20 = (20 : Int32)) := rfl
  rw [bk_129_0]
  simp (disch := first | omega | simp only [hM]) only [(fun d x0 x1 x2 B i => bk_129_0 d x0 x1 x2 (am_wI B i)), (fun d x0 x1 x2 s0 s1 B i => bk_129_34 d x0 x1 x2 s0 s1 (am_wI B i)), (fun d x0 x3 B i => bk_129_88 d x0 x3 (am_wI B i)), m_in, (fun d x0 B i => bk_13_0 d x0 (am_wI B i)), e0, m_thr0, a.1, a.2, b.1, b.2, e, c8', hM, y_ckw, y_ck2w, y_ck2x, y_ond, y_onn, y_oI, y_oIx, y_oJ, y_oV, y_oVx, y_oR, y_oRn, y_oRx, y_b0, y_b1, y_bi, y_bid, y_wIK, y_wIL, y_wII, y_wIJ, y_wIR, y_wIN, y_wIw, y_sI, ↓reduceIte, Nat.reduceEqDiff, eq_self, true_or, or_true, false_or, or_false, and_true, true_and, false_and, and_false, not_true, not_false_eq_true, tf_T, tf_F, y_up1, y_up2, y_xx, y_nx, y_sJ, y_sR, Int32.reduceLT, y_nxK, y_nxL, y_nxR, y_sJK, y_sJL, y_sJR, y_sJN, y_sRK, y_sRL, y_sRN, Nat.add_zero, z_nat, z_lit, z_lit0, z_lit1, z_in0, z_in1, z_addl0, z_lt, z_ltl, z_llt, z_inj, z_injl, z_add, z_addl, z_ladd, z_mul, z_mull, z_lmul, z_neg, z_negl, z_in, z_inl, z_ltT, z_ltF, z_eqF, z_10, z_01, z_litne, z_ne0, z_0ne, z_ne1, z_1ne, z_lt64, z_02, z_03, z_04, z_05, z_12, z_13, z_14, z_15, z_20, z_21, z_23, z_24, z_25, z_30, z_31, z_32, z_34, z_35, z_40, z_41, z_42, z_43, z_45, z_50, z_51, z_52, z_53, z_54]
theorem f_muster {x y : Int32} {c : Nat} (h : CR B i σ) (a : ¬ x < 0 ∧ ¬ σ.1 0 < x) (b : ¬ y < 0 ∧ ¬ 100000 < y) (hc : σ.1 3437 = Int32.ofNat c) (c8 : c < 20) : FRs B i ((wu (wu (wu σ.1 (3438 + 2 * c) x) (3438 + 2 * c + 1) y) (3437) (Int32.ofNat (c + 1))), σ.2) (am_fx am_P (d + 150) 334 0 [some (.ref 64), some (.int x), some (.int y)] [] (am_wI B i)) (.inl (some (.int (Int32.ofNat (c + 1))))) := by
  have hF : Fc B := h.1.1
  have hY : Yd B 94 := h.1.2.1
  have e0 : i 94 0 = σ.1 0 := h.2.1.1.1
  have e : i (94 + 14) 7 = Int32.ofNat c := h.2.1.2.2.2.2.2.2.1.1.trans hc
  have c8' : Int32.ofNat c < 20 := by rw [show (20 : Int32) = Int32.ofNat 20 from rfl, z_lt (by omega) (by omega)]; omega
  refine FRs_w (i' := (am_up2 (am_up2 (am_up2 i (94 + 19) c x) (94 + 20) c y) (94 + 14) 7 (Int32.ofNat (c + 1)))) h ?_ ?_ (by intros; simp (disch := omega) only [y_up2])
  · rw [bk_334_0]
    simp (disch := first | omega | simp only [hF, hY]) only [(fun d x0 x1 x2 B i => bk_334_0 d x0 x1 x2 (am_wI B i)), (fun d x0 x1 x2 s0 B i => bk_334_31 d x0 x1 x2 s0 (am_wI B i)), c_within, e0, (fun d x0 x1 x2 B i => bk_145_0 d x0 x1 x2 (am_wI B i)), (fun d x0 B i => bk_145_31 d x0 (am_wI B i)), c_ckN1, a.1, a.2, b.1, b.2, e, c8', hF, hY, y_ckw, y_ck2w, y_ck2x, y_ond, y_onn, y_oI, y_oIx, y_oJ, y_oV, y_oVx, y_oR, y_oRn, y_oRx, y_b0, y_b1, y_bi, y_bid, y_wIK, y_wIL, y_wII, y_wIJ, y_wIR, y_wIN, y_wIw, y_sI, ↓reduceIte, Nat.reduceEqDiff, eq_self, true_or, or_true, false_or, or_false, and_true, true_and, false_and, and_false, not_true, not_false_eq_true, tf_T, tf_F, y_up1, y_up2, y_xx, y_nx, y_sJ, y_sR, Int32.reduceLT, y_nxK, y_nxL, y_nxR, y_sJK, y_sJL, y_sJR, y_sJN, y_sRK, y_sRL, y_sRN, Nat.add_zero, z_nat, z_lit, z_lit0, z_lit1, z_in0, z_in1, z_addl0, z_lt, z_ltl, z_llt, z_inj, z_injl, z_add, z_addl, z_ladd, z_mul, z_mull, z_lmul, z_neg, z_negl, z_in, z_inl, z_ltT, z_ltF, z_eqF, z_10, z_01, z_litne, z_ne0, z_0ne, z_ne1, z_1ne, z_lt64, z_02, z_03, z_04, z_05, z_12, z_13, z_14, z_15, z_20, z_21, z_23, z_24, z_25, z_30, z_31, z_32, z_34, z_35, z_40, z_41, z_42, z_43, z_45, z_50, z_51, z_52, z_53, z_54]
  · refine Rep_muster h.2.1 (Le.rf B) (by omega) rfl ?_ (by intros; simp (disch := omega) only [y_up2]) (by intros; simp (disch := omega) only [y_upr]) (by intros; simp (disch := omega) only [wu_ne])
    obtain ⟨a1, a2⟩ := h.2.1.2.2.2.2.2.2.1
    refine ⟨by rw [y_up1 rfl rfl, wu_at rfl], fun q hq hq8 => ?_⟩
    rw [cn_of (wu_at rfl) (by omega)] at hq
    by_cases ek : q = c
    · subst ek
      simp (disch := omega) only [y_up1, y_up2, wu_at, wu_ne, and_self]
    · have := a2 q (by rw [cn_of hc (by omega)]; omega) hq8
      simp (disch := omega) only [y_up2, wu_ne]
      exact this
theorem m_muster {x y : Int32} {c : Nat} (h : MR B i σ) (a : ¬ x < 0 ∧ ¬ σ.1 0 < x) (b : ¬ y < 0 ∧ ¬ 100000 < y) (hc : σ.1 3437 = Int32.ofNat c) (c8 : c < 20) : MRs B i ((wu (wu (wu σ.1 (3438 + 2 * c) x) (3438 + 2 * c + 1) y) (3437) (Int32.ofNat (c + 1))), σ.2) (am_fx am_P (d + 150) 129 0 [some (.ref 874), some (.int x), some (.int y), none] [] (am_wI B i)) (some (.int (Int32.ofNat (c + 1)))) 0 := by
  have hM : Md B := h.1.1
  have e0 : i 875 0 = σ.1 0 := h.2.1 0 (by omega)
  have e : i 875 3437 = Int32.ofNat c := (h.2.1 3437 (by omega)).trans hc
  have c8' : ¬ Int32.ofNat c = 20 := by rw [show (20 : Int32) = Int32.ofNat 20 from rfl, z_inj (by omega) (by omega)]; omega
  refine MRs_w (i' := (am_up2 (am_up2 (am_up2 (am_up2 i 874 0 0) 875 (3438 + 2 * c) x) 875 (3438 + 2 * c + 1) y) 875 (3437) (Int32.ofNat (c + 1)))) h ?_ (by rw [y_up2 (by omega), y_up2 (by omega), y_up2 (by omega), y_up1 rfl rfl]) (up_wu (up_wu (up_wu (up_o (by omega) h.2.1)))) (by intros; simp (disch := omega) only [y_up2])
  rw [bk_129_0]
  simp (disch := first | omega | simp only [hM]) only [(fun d x0 x1 x2 B i => bk_129_0 d x0 x1 x2 (am_wI B i)), (fun d x0 x1 x2 s0 s1 B i => bk_129_34 d x0 x1 x2 s0 s1 (am_wI B i)), (fun d x0 x3 B i => bk_129_88 d x0 x3 (am_wI B i)), m_in, (fun d x0 B i => bk_13_0 d x0 (am_wI B i)), e0, m_thr0, a.1, a.2, b.1, b.2, e, c8', hM, y_ckw, y_ck2w, y_ck2x, y_ond, y_onn, y_oI, y_oIx, y_oJ, y_oV, y_oVx, y_oR, y_oRn, y_oRx, y_b0, y_b1, y_bi, y_bid, y_wIK, y_wIL, y_wII, y_wIJ, y_wIR, y_wIN, y_wIw, y_sI, ↓reduceIte, Nat.reduceEqDiff, eq_self, true_or, or_true, false_or, or_false, and_true, true_and, false_and, and_false, not_true, not_false_eq_true, tf_T, tf_F, y_up1, y_up2, y_xx, y_nx, y_sJ, y_sR, Int32.reduceLT, y_nxK, y_nxL, y_nxR, y_sJK, y_sJL, y_sJR, y_sJN, y_sRK, y_sRL, y_sRN, Nat.add_zero, z_nat, z_lit, z_lit0, z_lit1, z_in0, z_in1, z_addl0, z_lt, z_ltl, z_llt, z_inj, z_injl, z_add, z_addl, z_ladd, z_mul, z_mull, z_lmul, z_neg, z_negl, z_in, z_inl, z_ltT, z_ltF, z_eqF, z_10, z_01, z_litne, z_ne0, z_0ne, z_ne1, z_1ne, z_lt64, z_02, z_03, z_04, z_05, z_12, z_13, z_14, z_15, z_20, z_21, z_23, z_24, z_25, z_30, z_31, z_32, z_34, z_35, z_40, z_41, z_42, z_43, z_45, z_50, z_51, z_52, z_53, z_54]
theorem k_muster (h : Sim B i σ) (hs : Sc B i L j) (hO : am_K B 892 = 22 ∧ am_L B 892 = 1) : Stq B i d 3118 j := by
  by_cases a : ¬ (i 0 (j + 1)) < 0 ∧ ¬ σ.1 0 < (i 0 (j + 1))
  rotate_left
  · exact kx_42_2 h hs hO (f_muster_x0 (d := d + 48) h.1  a) fun B0 i0 h0 => m_muster_x0 (d := d + 49) h0  a
  by_cases b : ¬ (i 0 (j + 2)) < 0 ∧ ¬ 100000 < (i 0 (j + 2))
  rotate_left
  · exact kx_42_2 h hs hO (f_muster_x1 (d := d + 48) h.1 a b) fun B0 i0 h0 => m_muster_x1 (d := d + 49) h0 a b
  have hc := h.2.2.1.1.2.2.2.2.2.2.2.1
  rcases z_cmp4 hc.2 with c4 | c4
  · refine kk_42 (σ' := ((wu (wu (wu σ.1 (3438 + 2 * cn σ.1 3437) (i 0 (j + 1))) (3438 + 2 * cn σ.1 3437 + 1) (i 0 (j + 2))) (3437) (Int32.ofNat (cn σ.1 3437 + 1))), σ.2)) h hs hO (SW_now h.2.2 ?_) (f_muster (d := d + 48) h.1 a b hc.1 c4) fun B0 i0 h0 => m_muster (d := d + 49) h0 a b hc.1 c4
    refine Wd_cnt (s := 3437) h.2.2.1 (by omega) (wu_at rfl) (show _ ≤ 20 by omega) (by omega) (fun _ q hq q20 => ?_) (by omega) fun z hz => ?_
    · rw [cn_of (wu_at rfl) (by omega)] at hq
      by_cases ek : q = cn σ.1 3437
      · rw [wu_ne (by omega), wu_ne (by omega), wu_at (by omega)]
        refine ⟨a.1, ?_⟩
        have q1 := a.2
        have q0 := h.2.2.1.1.1
        have q2 := q0.2
        rw [q0.1] at q1
        rw [Int32.lt_iff_toInt_lt, z_toInt (by omega)] at q1
        rw [Int32.lt_iff_toInt_lt, show (4001 : Int32).toInt = 4001 from by decide]
        omega
      · rw [wu_ne (by omega), wu_ne (by omega), wu_ne (by omega)]
        exact h.2.2.1.2.2.2.2.2.2.2.1 q (by omega) q20
    · have hz : z < 3437 ∨ 3478 ≤ z := hz
      simp (disch := omega) only [wu_ne]
  · have e : σ.1 3437 = Int32.ofNat 20 := by rw [hc.1, c4]
    exact kk_42 h hs hO h.2.2 (f_muster_full (d := d + 48) h.1 a b e) fun B0 i0 h0 => m_muster_full (d := d + 49) h0 a b e
theorem f_enter_x0 {x y z u : Int32} (h : CR B i σ)  (a : ¬ (¬ x < 0 ∧ ¬ 1 < x)) : FRs B i σ (am_fx am_P (d + 150) 333 0 [some (.ref 64), some (.int x), some (.int y), some (.int z), some (.int u)] [] (am_wI B i)) (.inr 2) := by
  refine FRs_x h ?_
  have hF : Fc B := h.1.1
  have hY : Yd B 94 := h.1.2.1
  have e0 : i 94 0 = σ.1 0 := h.2.1.1.1
  rw [bk_333_0]
  simp (disch := first | omega | simp only [hF, hY]) only [(fun d x0 x1 x2 x3 x4 B i => bk_333_0 d x0 x1 x2 x3 x4 (am_wI B i)), (fun d x0 x1 x2 x3 x4 s0 B i => bk_333_40 d x0 x1 x2 x3 x4 s0 (am_wI B i)), (fun d x0 x1 x2 x3 x4 s0 B i => bk_333_65 d x0 x1 x2 x3 x4 s0 (am_wI B i)), c_within, e0, c_ckN0, c_ckN1, a, hF, hY, y_ckw, y_ck2w, y_ck2x, y_ond, y_onn, y_oI, y_oIx, y_oJ, y_oV, y_oVx, y_oR, y_oRn, y_oRx, y_b0, y_b1, y_bi, y_bid, y_wIK, y_wIL, y_wII, y_wIJ, y_wIR, y_wIN, y_wIw, y_sI, ↓reduceIte, Nat.reduceEqDiff, eq_self, true_or, or_true, false_or, or_false, and_true, true_and, false_and, and_false, not_true, not_false_eq_true, tf_T, tf_F, y_up1, y_up2, y_xx, y_nx, y_sJ, y_sR, Int32.reduceLT, y_nxK, y_nxL, y_nxR, y_sJK, y_sJL, y_sJR, y_sJN, y_sRK, y_sRL, y_sRN, Nat.add_zero, z_nat, z_lit, z_lit0, z_lit1, z_in0, z_in1, z_addl0, z_lt, z_ltl, z_llt, z_inj, z_injl, z_add, z_addl, z_ladd, z_mul, z_mull, z_lmul, z_neg, z_negl, z_in, z_inl, z_ltT, z_ltF, z_eqF, z_10, z_01, z_litne, z_ne0, z_0ne, z_ne1, z_1ne, z_lt64, z_02, z_03, z_04, z_05, z_12, z_13, z_14, z_15, z_20, z_21, z_23, z_24, z_25, z_30, z_31, z_32, z_34, z_35, z_40, z_41, z_42, z_43, z_45, z_50, z_51, z_52, z_53, z_54]
theorem m_enter_x0 {x y z u : Int32} (h : MR B i σ)  (a : ¬ (¬ x < 0 ∧ ¬ 1 < x)) : MRs B i σ (am_fx am_P (d + 150) 128 0 [some (.ref 874), some (.int x), some (.int y), some (.int z), some (.int u), none] [] (am_wI B i)) (some (.int 0)) 1 := by
  refine MRs_x h ?_
  have hM : Md B := h.1.1
  have e0 : i 875 0 = σ.1 0 := h.2.1 0 (by omega)
  rw [bk_128_0]
  simp (disch := first | omega | simp only [hM]) only [(fun d x0 x1 x2 x3 x4 B i => bk_128_0 d x0 x1 x2 x3 x4 (am_wI B i)), (fun d x0 x1 x2 x3 x4 s0 s1 B i => bk_128_60 d x0 x1 x2 x3 x4 s0 s1 (am_wI B i)), (fun d x0 x3 x4 x5 B i => bk_128_118 d x0 x3 x4 x5 (am_wI B i)), (fun d x0 x5 B i => bk_128_151 d x0 x5 (am_wI B i)), m_in, (fun d x0 B i => bk_13_0 d x0 (am_wI B i)), e0, m_thr1 hM, a, hM, y_ckw, y_ck2w, y_ck2x, y_ond, y_onn, y_oI, y_oIx, y_oJ, y_oV, y_oVx, y_oR, y_oRn, y_oRx, y_b0, y_b1, y_bi, y_bid, y_wIK, y_wIL, y_wII, y_wIJ, y_wIR, y_wIN, y_wIw, y_sI, ↓reduceIte, Nat.reduceEqDiff, eq_self, true_or, or_true, false_or, or_false, and_true, true_and, false_and, and_false, not_true, not_false_eq_true, tf_T, tf_F, y_up1, y_up2, y_xx, y_nx, y_sJ, y_sR, Int32.reduceLT, y_nxK, y_nxL, y_nxR, y_sJK, y_sJL, y_sJR, y_sJN, y_sRK, y_sRL, y_sRN, Nat.add_zero, z_nat, z_lit, z_lit0, z_lit1, z_in0, z_in1, z_addl0, z_lt, z_ltl, z_llt, z_inj, z_injl, z_add, z_addl, z_ladd, z_mul, z_mull, z_lmul, z_neg, z_negl, z_in, z_inl, z_ltT, z_ltF, z_eqF, z_10, z_01, z_litne, z_ne0, z_0ne, z_ne1, z_1ne, z_lt64, z_02, z_03, z_04, z_05, z_12, z_13, z_14, z_15, z_20, z_21, z_23, z_24, z_25, z_30, z_31, z_32, z_34, z_35, z_40, z_41, z_42, z_43, z_45, z_50, z_51, z_52, z_53, z_54]
theorem f_enter_x1 {x y z u : Int32} (h : CR B i σ) (a : ¬ x < 0 ∧ ¬ 1 < x) (b : ¬ (¬ y < 0 ∧ ¬ σ.1 0 < y)) : FRs B i σ (am_fx am_P (d + 150) 333 0 [some (.ref 64), some (.int x), some (.int y), some (.int z), some (.int u)] [] (am_wI B i)) (.inr 2) := by
  refine FRs_x h ?_
  have hF : Fc B := h.1.1
  have hY : Yd B 94 := h.1.2.1
  have e0 : i 94 0 = σ.1 0 := h.2.1.1.1
  rw [bk_333_0]
  simp (disch := first | omega | simp only [hF, hY]) only [(fun d x0 x1 x2 x3 x4 B i => bk_333_0 d x0 x1 x2 x3 x4 (am_wI B i)), (fun d x0 x1 x2 x3 x4 s0 B i => bk_333_40 d x0 x1 x2 x3 x4 s0 (am_wI B i)), (fun d x0 x1 x2 x3 x4 s0 B i => bk_333_65 d x0 x1 x2 x3 x4 s0 (am_wI B i)), c_within, e0, c_ckN0, c_ckN1, a, b, hF, hY, y_ckw, y_ck2w, y_ck2x, y_ond, y_onn, y_oI, y_oIx, y_oJ, y_oV, y_oVx, y_oR, y_oRn, y_oRx, y_b0, y_b1, y_bi, y_bid, y_wIK, y_wIL, y_wII, y_wIJ, y_wIR, y_wIN, y_wIw, y_sI, ↓reduceIte, Nat.reduceEqDiff, eq_self, true_or, or_true, false_or, or_false, and_true, true_and, false_and, and_false, not_true, not_false_eq_true, tf_T, tf_F, y_up1, y_up2, y_xx, y_nx, y_sJ, y_sR, Int32.reduceLT, y_nxK, y_nxL, y_nxR, y_sJK, y_sJL, y_sJR, y_sJN, y_sRK, y_sRL, y_sRN, Nat.add_zero, z_nat, z_lit, z_lit0, z_lit1, z_in0, z_in1, z_addl0, z_lt, z_ltl, z_llt, z_inj, z_injl, z_add, z_addl, z_ladd, z_mul, z_mull, z_lmul, z_neg, z_negl, z_in, z_inl, z_ltT, z_ltF, z_eqF, z_10, z_01, z_litne, z_ne0, z_0ne, z_ne1, z_1ne, z_lt64, z_02, z_03, z_04, z_05, z_12, z_13, z_14, z_15, z_20, z_21, z_23, z_24, z_25, z_30, z_31, z_32, z_34, z_35, z_40, z_41, z_42, z_43, z_45, z_50, z_51, z_52, z_53, z_54]
theorem m_enter_x1 {x y z u : Int32} (h : MR B i σ) (a : ¬ x < 0 ∧ ¬ 1 < x) (b : ¬ (¬ y < 0 ∧ ¬ σ.1 0 < y)) : MRs B i σ (am_fx am_P (d + 150) 128 0 [some (.ref 874), some (.int x), some (.int y), some (.int z), some (.int u), none] [] (am_wI B i)) (some (.int 0)) 1 := by
  refine MRs_x h ?_
  have hM : Md B := h.1.1
  have e0 : i 875 0 = σ.1 0 := h.2.1 0 (by omega)
  rw [bk_128_0]
  simp (disch := first | omega | simp only [hM]) only [(fun d x0 x1 x2 x3 x4 B i => bk_128_0 d x0 x1 x2 x3 x4 (am_wI B i)), (fun d x0 x1 x2 x3 x4 s0 s1 B i => bk_128_60 d x0 x1 x2 x3 x4 s0 s1 (am_wI B i)), (fun d x0 x3 x4 x5 B i => bk_128_118 d x0 x3 x4 x5 (am_wI B i)), (fun d x0 x5 B i => bk_128_151 d x0 x5 (am_wI B i)), m_in, (fun d x0 B i => bk_13_0 d x0 (am_wI B i)), e0, m_thr1 hM, a, b, hM, y_ckw, y_ck2w, y_ck2x, y_ond, y_onn, y_oI, y_oIx, y_oJ, y_oV, y_oVx, y_oR, y_oRn, y_oRx, y_b0, y_b1, y_bi, y_bid, y_wIK, y_wIL, y_wII, y_wIJ, y_wIR, y_wIN, y_wIw, y_sI, ↓reduceIte, Nat.reduceEqDiff, eq_self, true_or, or_true, false_or, or_false, and_true, true_and, false_and, and_false, not_true, not_false_eq_true, tf_T, tf_F, y_up1, y_up2, y_xx, y_nx, y_sJ, y_sR, Int32.reduceLT, y_nxK, y_nxL, y_nxR, y_sJK, y_sJL, y_sJR, y_sJN, y_sRK, y_sRL, y_sRN, Nat.add_zero, z_nat, z_lit, z_lit0, z_lit1, z_in0, z_in1, z_addl0, z_lt, z_ltl, z_llt, z_inj, z_injl, z_add, z_addl, z_ladd, z_mul, z_mull, z_lmul, z_neg, z_negl, z_in, z_inl, z_ltT, z_ltF, z_eqF, z_10, z_01, z_litne, z_ne0, z_0ne, z_ne1, z_1ne, z_lt64, z_02, z_03, z_04, z_05, z_12, z_13, z_14, z_15, z_20, z_21, z_23, z_24, z_25, z_30, z_31, z_32, z_34, z_35, z_40, z_41, z_42, z_43, z_45, z_50, z_51, z_52, z_53, z_54]
theorem f_enter_x2 {x y z u : Int32} (h : CR B i σ) (a : ¬ x < 0 ∧ ¬ 1 < x) (b : ¬ y < 0 ∧ ¬ σ.1 0 < y) (g : ¬ (¬ u < 0 ∧ ¬ 9 < u)) : FRs B i σ (am_fx am_P (d + 150) 333 0 [some (.ref 64), some (.int x), some (.int y), some (.int z), some (.int u)] [] (am_wI B i)) (.inr 2) := by
  refine FRs_x h ?_
  have hF : Fc B := h.1.1
  have hY : Yd B 94 := h.1.2.1
  have e0 : i 94 0 = σ.1 0 := h.2.1.1.1
  rw [bk_333_0]
  simp (disch := first | omega | simp only [hF, hY]) only [(fun d x0 x1 x2 x3 x4 B i => bk_333_0 d x0 x1 x2 x3 x4 (am_wI B i)), (fun d x0 x1 x2 x3 x4 s0 B i => bk_333_40 d x0 x1 x2 x3 x4 s0 (am_wI B i)), (fun d x0 x1 x2 x3 x4 s0 B i => bk_333_65 d x0 x1 x2 x3 x4 s0 (am_wI B i)), c_within, e0, c_ckN0, c_ckN1, a, b, g, hF, hY, y_ckw, y_ck2w, y_ck2x, y_ond, y_onn, y_oI, y_oIx, y_oJ, y_oV, y_oVx, y_oR, y_oRn, y_oRx, y_b0, y_b1, y_bi, y_bid, y_wIK, y_wIL, y_wII, y_wIJ, y_wIR, y_wIN, y_wIw, y_sI, ↓reduceIte, Nat.reduceEqDiff, eq_self, true_or, or_true, false_or, or_false, and_true, true_and, false_and, and_false, not_true, not_false_eq_true, tf_T, tf_F, y_up1, y_up2, y_xx, y_nx, y_sJ, y_sR, Int32.reduceLT, y_nxK, y_nxL, y_nxR, y_sJK, y_sJL, y_sJR, y_sJN, y_sRK, y_sRL, y_sRN, Nat.add_zero, z_nat, z_lit, z_lit0, z_lit1, z_in0, z_in1, z_addl0, z_lt, z_ltl, z_llt, z_inj, z_injl, z_add, z_addl, z_ladd, z_mul, z_mull, z_lmul, z_neg, z_negl, z_in, z_inl, z_ltT, z_ltF, z_eqF, z_10, z_01, z_litne, z_ne0, z_0ne, z_ne1, z_1ne, z_lt64, z_02, z_03, z_04, z_05, z_12, z_13, z_14, z_15, z_20, z_21, z_23, z_24, z_25, z_30, z_31, z_32, z_34, z_35, z_40, z_41, z_42, z_43, z_45, z_50, z_51, z_52, z_53, z_54]
theorem m_enter_x2 {x y z u : Int32} (h : MR B i σ) (a : ¬ x < 0 ∧ ¬ 1 < x) (b : ¬ y < 0 ∧ ¬ σ.1 0 < y) (g : ¬ (¬ u < 0 ∧ ¬ 9 < u)) : MRs B i σ (am_fx am_P (d + 150) 128 0 [some (.ref 874), some (.int x), some (.int y), some (.int z), some (.int u), none] [] (am_wI B i)) (some (.int 0)) 1 := by
  refine MRs_x h ?_
  have hM : Md B := h.1.1
  have e0 : i 875 0 = σ.1 0 := h.2.1 0 (by omega)
  rw [bk_128_0]
  simp (disch := first | omega | simp only [hM]) only [(fun d x0 x1 x2 x3 x4 B i => bk_128_0 d x0 x1 x2 x3 x4 (am_wI B i)), (fun d x0 x1 x2 x3 x4 s0 s1 B i => bk_128_60 d x0 x1 x2 x3 x4 s0 s1 (am_wI B i)), (fun d x0 x3 x4 x5 B i => bk_128_118 d x0 x3 x4 x5 (am_wI B i)), (fun d x0 x5 B i => bk_128_151 d x0 x5 (am_wI B i)), m_in, (fun d x0 B i => bk_13_0 d x0 (am_wI B i)), e0, m_thr1 hM, a, b, g, hM, y_ckw, y_ck2w, y_ck2x, y_ond, y_onn, y_oI, y_oIx, y_oJ, y_oV, y_oVx, y_oR, y_oRn, y_oRx, y_b0, y_b1, y_bi, y_bid, y_wIK, y_wIL, y_wII, y_wIJ, y_wIR, y_wIN, y_wIw, y_sI, ↓reduceIte, Nat.reduceEqDiff, eq_self, true_or, or_true, false_or, or_false, and_true, true_and, false_and, and_false, not_true, not_false_eq_true, tf_T, tf_F, y_up1, y_up2, y_xx, y_nx, y_sJ, y_sR, Int32.reduceLT, y_nxK, y_nxL, y_nxR, y_sJK, y_sJL, y_sJR, y_sJN, y_sRK, y_sRL, y_sRN, Nat.add_zero, z_nat, z_lit, z_lit0, z_lit1, z_in0, z_in1, z_addl0, z_lt, z_ltl, z_llt, z_inj, z_injl, z_add, z_addl, z_ladd, z_mul, z_mull, z_lmul, z_neg, z_negl, z_in, z_inl, z_ltT, z_ltF, z_eqF, z_10, z_01, z_litne, z_ne0, z_0ne, z_ne1, z_1ne, z_lt64, z_02, z_03, z_04, z_05, z_12, z_13, z_14, z_15, z_20, z_21, z_23, z_24, z_25, z_30, z_31, z_32, z_34, z_35, z_40, z_41, z_42, z_43, z_45, z_50, z_51, z_52, z_53, z_54]
theorem f_enter_x3 {x y z u : Int32} (h : CR B i σ) (a : ¬ x < 0 ∧ ¬ 1 < x) (b : ¬ y < 0 ∧ ¬ σ.1 0 < y) (g : ¬ u < 0 ∧ ¬ 9 < u) (l : ¬ (¬ z = 0)) : FRs B i σ (am_fx am_P (d + 150) 333 0 [some (.ref 64), some (.int x), some (.int y), some (.int z), some (.int u)] [] (am_wI B i)) (.inr 2) := by
  refine FRs_x h ?_
  have hF : Fc B := h.1.1
  have hY : Yd B 94 := h.1.2.1
  have e0 : i 94 0 = σ.1 0 := h.2.1.1.1
  have l := Classical.not_not.mp l
  rw [bk_333_0]
  simp (disch := first | omega | simp only [hF, hY]) only [(fun d x0 x1 x2 x3 x4 B i => bk_333_0 d x0 x1 x2 x3 x4 (am_wI B i)), (fun d x0 x1 x2 x3 x4 s0 B i => bk_333_40 d x0 x1 x2 x3 x4 s0 (am_wI B i)), (fun d x0 x1 x2 x3 x4 s0 B i => bk_333_65 d x0 x1 x2 x3 x4 s0 (am_wI B i)), c_within, e0, c_ckN0, c_ckN1, a, b, g, l, hF, hY, y_ckw, y_ck2w, y_ck2x, y_ond, y_onn, y_oI, y_oIx, y_oJ, y_oV, y_oVx, y_oR, y_oRn, y_oRx, y_b0, y_b1, y_bi, y_bid, y_wIK, y_wIL, y_wII, y_wIJ, y_wIR, y_wIN, y_wIw, y_sI, ↓reduceIte, Nat.reduceEqDiff, eq_self, true_or, or_true, false_or, or_false, and_true, true_and, false_and, and_false, not_true, not_false_eq_true, tf_T, tf_F, y_up1, y_up2, y_xx, y_nx, y_sJ, y_sR, Int32.reduceLT, y_nxK, y_nxL, y_nxR, y_sJK, y_sJL, y_sJR, y_sJN, y_sRK, y_sRL, y_sRN, Nat.add_zero, z_nat, z_lit, z_lit0, z_lit1, z_in0, z_in1, z_addl0, z_lt, z_ltl, z_llt, z_inj, z_injl, z_add, z_addl, z_ladd, z_mul, z_mull, z_lmul, z_neg, z_negl, z_in, z_inl, z_ltT, z_ltF, z_eqF, z_10, z_01, z_litne, z_ne0, z_0ne, z_ne1, z_1ne, z_lt64, z_02, z_03, z_04, z_05, z_12, z_13, z_14, z_15, z_20, z_21, z_23, z_24, z_25, z_30, z_31, z_32, z_34, z_35, z_40, z_41, z_42, z_43, z_45, z_50, z_51, z_52, z_53, z_54]
theorem m_enter_x3 {x y z u : Int32} (h : MR B i σ) (a : ¬ x < 0 ∧ ¬ 1 < x) (b : ¬ y < 0 ∧ ¬ σ.1 0 < y) (g : ¬ u < 0 ∧ ¬ 9 < u) (l : ¬ (¬ z = 0)) : MRs B i σ (am_fx am_P (d + 150) 128 0 [some (.ref 874), some (.int x), some (.int y), some (.int z), some (.int u), none] [] (am_wI B i)) (some (.int 0)) 1 := by
  refine MRs_x h ?_
  have hM : Md B := h.1.1
  have e0 : i 875 0 = σ.1 0 := h.2.1 0 (by omega)
  have l := Classical.not_not.mp l
  rw [bk_128_0]
  simp (disch := first | omega | simp only [hM]) only [(fun d x0 x1 x2 x3 x4 B i => bk_128_0 d x0 x1 x2 x3 x4 (am_wI B i)), (fun d x0 x1 x2 x3 x4 s0 s1 B i => bk_128_60 d x0 x1 x2 x3 x4 s0 s1 (am_wI B i)), (fun d x0 x3 x4 x5 B i => bk_128_118 d x0 x3 x4 x5 (am_wI B i)), (fun d x0 x5 B i => bk_128_151 d x0 x5 (am_wI B i)), m_in, (fun d x0 B i => bk_13_0 d x0 (am_wI B i)), e0, m_thr1 hM, a, b, g, l, hM, y_ckw, y_ck2w, y_ck2x, y_ond, y_onn, y_oI, y_oIx, y_oJ, y_oV, y_oVx, y_oR, y_oRn, y_oRx, y_b0, y_b1, y_bi, y_bid, y_wIK, y_wIL, y_wII, y_wIJ, y_wIR, y_wIN, y_wIw, y_sI, ↓reduceIte, Nat.reduceEqDiff, eq_self, true_or, or_true, false_or, or_false, and_true, true_and, false_and, and_false, not_true, not_false_eq_true, tf_T, tf_F, y_up1, y_up2, y_xx, y_nx, y_sJ, y_sR, Int32.reduceLT, y_nxK, y_nxL, y_nxR, y_sJK, y_sJL, y_sJR, y_sJN, y_sRK, y_sRL, y_sRN, Nat.add_zero, z_nat, z_lit, z_lit0, z_lit1, z_in0, z_in1, z_addl0, z_lt, z_ltl, z_llt, z_inj, z_injl, z_add, z_addl, z_ladd, z_mul, z_mull, z_lmul, z_neg, z_negl, z_in, z_inl, z_ltT, z_ltF, z_eqF, z_10, z_01, z_litne, z_ne0, z_0ne, z_ne1, z_1ne, z_lt64, z_02, z_03, z_04, z_05, z_12, z_13, z_14, z_15, z_20, z_21, z_23, z_24, z_25, z_30, z_31, z_32, z_34, z_35, z_40, z_41, z_42, z_43, z_45, z_50, z_51, z_52, z_53, z_54]
theorem f_enter_x4 {x y z u : Int32} (h : CR B i σ) (a : ¬ x < 0 ∧ ¬ 1 < x) (b : ¬ y < 0 ∧ ¬ σ.1 0 < y) (g : ¬ u < 0 ∧ ¬ 9 < u) (l : ¬ z = 0) (r : ¬ (¬ z < (-10000) ∧ ¬ 10000 < z)) : FRs B i σ (am_fx am_P (d + 150) 333 0 [some (.ref 64), some (.int x), some (.int y), some (.int z), some (.int u)] [] (am_wI B i)) (.inr 2) := by
  refine FRs_x h ?_
  have hF : Fc B := h.1.1
  have hY : Yd B 94 := h.1.2.1
  have e0 : i 94 0 = σ.1 0 := h.2.1.1.1
  rw [bk_333_0]
  simp (disch := first | omega | simp only [hF, hY]) only [(fun d x0 x1 x2 x3 x4 B i => bk_333_0 d x0 x1 x2 x3 x4 (am_wI B i)), (fun d x0 x1 x2 x3 x4 s0 B i => bk_333_40 d x0 x1 x2 x3 x4 s0 (am_wI B i)), (fun d x0 x1 x2 x3 x4 s0 B i => bk_333_65 d x0 x1 x2 x3 x4 s0 (am_wI B i)), c_within, e0, c_ckN0, c_ckN1, a, b, g, l, r, hF, hY, y_ckw, y_ck2w, y_ck2x, y_ond, y_onn, y_oI, y_oIx, y_oJ, y_oV, y_oVx, y_oR, y_oRn, y_oRx, y_b0, y_b1, y_bi, y_bid, y_wIK, y_wIL, y_wII, y_wIJ, y_wIR, y_wIN, y_wIw, y_sI, ↓reduceIte, Nat.reduceEqDiff, eq_self, true_or, or_true, false_or, or_false, and_true, true_and, false_and, and_false, not_true, not_false_eq_true, tf_T, tf_F, y_up1, y_up2, y_xx, y_nx, y_sJ, y_sR, Int32.reduceLT, y_nxK, y_nxL, y_nxR, y_sJK, y_sJL, y_sJR, y_sJN, y_sRK, y_sRL, y_sRN, Nat.add_zero, z_nat, z_lit, z_lit0, z_lit1, z_in0, z_in1, z_addl0, z_lt, z_ltl, z_llt, z_inj, z_injl, z_add, z_addl, z_ladd, z_mul, z_mull, z_lmul, z_neg, z_negl, z_in, z_inl, z_ltT, z_ltF, z_eqF, z_10, z_01, z_litne, z_ne0, z_0ne, z_ne1, z_1ne, z_lt64, z_02, z_03, z_04, z_05, z_12, z_13, z_14, z_15, z_20, z_21, z_23, z_24, z_25, z_30, z_31, z_32, z_34, z_35, z_40, z_41, z_42, z_43, z_45, z_50, z_51, z_52, z_53, z_54]
theorem m_enter_x4 {x y z u : Int32} (h : MR B i σ) (a : ¬ x < 0 ∧ ¬ 1 < x) (b : ¬ y < 0 ∧ ¬ σ.1 0 < y) (g : ¬ u < 0 ∧ ¬ 9 < u) (l : ¬ z = 0) (r : ¬ (¬ z < (-10000) ∧ ¬ 10000 < z)) : MRs B i σ (am_fx am_P (d + 150) 128 0 [some (.ref 874), some (.int x), some (.int y), some (.int z), some (.int u), none] [] (am_wI B i)) (some (.int 0)) 1 := by
  refine MRs_x h ?_
  have hM : Md B := h.1.1
  have e0 : i 875 0 = σ.1 0 := h.2.1 0 (by omega)
  rw [bk_128_0]
  simp (disch := first | omega | simp only [hM]) only [(fun d x0 x1 x2 x3 x4 B i => bk_128_0 d x0 x1 x2 x3 x4 (am_wI B i)), (fun d x0 x1 x2 x3 x4 s0 s1 B i => bk_128_60 d x0 x1 x2 x3 x4 s0 s1 (am_wI B i)), (fun d x0 x3 x4 x5 B i => bk_128_118 d x0 x3 x4 x5 (am_wI B i)), (fun d x0 x5 B i => bk_128_151 d x0 x5 (am_wI B i)), m_in, (fun d x0 B i => bk_13_0 d x0 (am_wI B i)), e0, m_thr1 hM, a, b, g, l, r, hM, y_ckw, y_ck2w, y_ck2x, y_ond, y_onn, y_oI, y_oIx, y_oJ, y_oV, y_oVx, y_oR, y_oRn, y_oRx, y_b0, y_b1, y_bi, y_bid, y_wIK, y_wIL, y_wII, y_wIJ, y_wIR, y_wIN, y_wIw, y_sI, ↓reduceIte, Nat.reduceEqDiff, eq_self, true_or, or_true, false_or, or_false, and_true, true_and, false_and, and_false, not_true, not_false_eq_true, tf_T, tf_F, y_up1, y_up2, y_xx, y_nx, y_sJ, y_sR, Int32.reduceLT, y_nxK, y_nxL, y_nxR, y_sJK, y_sJL, y_sJR, y_sJN, y_sRK, y_sRL, y_sRN, Nat.add_zero, z_nat, z_lit, z_lit0, z_lit1, z_in0, z_in1, z_addl0, z_lt, z_ltl, z_llt, z_inj, z_injl, z_add, z_addl, z_ladd, z_mul, z_mull, z_lmul, z_neg, z_negl, z_in, z_inl, z_ltT, z_ltF, z_eqF, z_10, z_01, z_litne, z_ne0, z_0ne, z_ne1, z_1ne, z_lt64, z_02, z_03, z_04, z_05, z_12, z_13, z_14, z_15, z_20, z_21, z_23, z_24, z_25, z_30, z_31, z_32, z_34, z_35, z_40, z_41, z_42, z_43, z_45, z_50, z_51, z_52, z_53, z_54]
theorem f_enter_full {x y z u : Int32} (h : CR B i σ) (a : ¬ x < 0 ∧ ¬ 1 < x) (b : ¬ y < 0 ∧ ¬ σ.1 0 < y) (g : ¬ u < 0 ∧ ¬ 9 < u) (l : ¬ z = 0) (r : ¬ z < (-10000) ∧ ¬ 10000 < z) (hc : σ.1 3036 = Int32.ofNat 100) : FRs B i σ (am_fx am_P (d + 150) 333 0 [some (.ref 64), some (.int x), some (.int y), some (.int z), some (.int u)] [] (am_wI B i)) (.inl (some (.int (-1)))) := by
  refine FRs_0 h ?_
  have hF : Fc B := h.1.1
  have hY : Yd B 94 := h.1.2.1
  have e0 : i 94 0 = σ.1 0 := h.2.1.1.1
  have e : i (94 + 14) 4 = Int32.ofNat 100 := h.2.1.2.2.2.2.2.1.1.trans hc
  have c8' : ¬ Int32.ofNat 100 < 100 := by decide
  rw [bk_333_0]
  simp (disch := first | omega | simp only [hF, hY]) only [(fun d x0 x1 x2 x3 x4 B i => bk_333_0 d x0 x1 x2 x3 x4 (am_wI B i)), (fun d x0 x1 x2 x3 x4 s0 B i => bk_333_40 d x0 x1 x2 x3 x4 s0 (am_wI B i)), (fun d x0 x1 x2 x3 x4 s0 B i => bk_333_65 d x0 x1 x2 x3 x4 s0 (am_wI B i)), c_within, e0, (fun d x0 x1 x2 x3 x4 B i => bk_144_0 d x0 x1 x2 x3 x4 (am_wI B i)), (fun d x0 x3 x4 B i => bk_144_31 d x0 x3 x4 (am_wI B i)), (fun d x0 B i => bk_144_52 d x0 (am_wI B i)), c_ckN1, a.1, a.2, b.1, b.2, g.1, g.2, l, r.1, r.2, e, c8', hF, hY, y_ckw, y_ck2w, y_ck2x, y_ond, y_onn, y_oI, y_oIx, y_oJ, y_oV, y_oVx, y_oR, y_oRn, y_oRx, y_b0, y_b1, y_bi, y_bid, y_wIK, y_wIL, y_wII, y_wIJ, y_wIR, y_wIN, y_wIw, y_sI, ↓reduceIte, Nat.reduceEqDiff, eq_self, true_or, or_true, false_or, or_false, and_true, true_and, false_and, and_false, not_true, not_false_eq_true, tf_T, tf_F, y_up1, y_up2, y_xx, y_nx, y_sJ, y_sR, Int32.reduceLT, y_nxK, y_nxL, y_nxR, y_sJK, y_sJL, y_sJR, y_sJN, y_sRK, y_sRL, y_sRN, Nat.add_zero, z_nat, z_lit, z_lit0, z_lit1, z_in0, z_in1, z_addl0, z_lt, z_ltl, z_llt, z_inj, z_injl, z_add, z_addl, z_ladd, z_mul, z_mull, z_lmul, z_neg, z_negl, z_in, z_inl, z_ltT, z_ltF, z_eqF, z_10, z_01, z_litne, z_ne0, z_0ne, z_ne1, z_1ne, z_lt64, z_02, z_03, z_04, z_05, z_12, z_13, z_14, z_15, z_20, z_21, z_23, z_24, z_25, z_30, z_31, z_32, z_34, z_35, z_40, z_41, z_42, z_43, z_45, z_50, z_51, z_52, z_53, z_54]
theorem m_enter_full {x y z u : Int32} (h : MR B i σ) (a : ¬ x < 0 ∧ ¬ 1 < x) (b : ¬ y < 0 ∧ ¬ σ.1 0 < y) (g : ¬ u < 0 ∧ ¬ 9 < u) (l : ¬ z = 0) (r : ¬ z < (-10000) ∧ ¬ 10000 < z) (hc : σ.1 3036 = Int32.ofNat 100) : MRs B i σ (am_fx am_P (d + 150) 128 0 [some (.ref 874), some (.int x), some (.int y), some (.int z), some (.int u), none] [] (am_wI B i)) (some (.int (-1))) 0 := by
  refine MRs_0 h ?_
  have hM : Md B := h.1.1
  have e0 : i 875 0 = σ.1 0 := h.2.1 0 (by omega)
  have e : i 875 3036 = Int32.ofNat 100 := (h.2.1 3036 (by omega)).trans hc
  have c8' : (Int32.ofNat 100 = (100 : Int32)) := rfl
  rw [bk_128_0]
  simp (disch := first | omega | simp only [hM]) only [(fun d x0 x1 x2 x3 x4 B i => bk_128_0 d x0 x1 x2 x3 x4 (am_wI B i)), (fun d x0 x1 x2 x3 x4 s0 s1 B i => bk_128_60 d x0 x1 x2 x3 x4 s0 s1 (am_wI B i)), (fun d x0 x3 x4 x5 B i => bk_128_118 d x0 x3 x4 x5 (am_wI B i)), (fun d x0 x5 B i => bk_128_151 d x0 x5 (am_wI B i)), m_in, (fun d x0 B i => bk_13_0 d x0 (am_wI B i)), e0, m_thr0, a.1, a.2, b.1, b.2, g.1, g.2, l, r.1, r.2, e, c8', hM, y_ckw, y_ck2w, y_ck2x, y_ond, y_onn, y_oI, y_oIx, y_oJ, y_oV, y_oVx, y_oR, y_oRn, y_oRx, y_b0, y_b1, y_bi, y_bid, y_wIK, y_wIL, y_wII, y_wIJ, y_wIR, y_wIN, y_wIw, y_sI, ↓reduceIte, Nat.reduceEqDiff, eq_self, true_or, or_true, false_or, or_false, and_true, true_and, false_and, and_false, not_true, not_false_eq_true, tf_T, tf_F, y_up1, y_up2, y_xx, y_nx, y_sJ, y_sR, Int32.reduceLT, y_nxK, y_nxL, y_nxR, y_sJK, y_sJL, y_sJR, y_sJN, y_sRK, y_sRL, y_sRN, Nat.add_zero, z_nat, z_lit, z_lit0, z_lit1, z_in0, z_in1, z_addl0, z_lt, z_ltl, z_llt, z_inj, z_injl, z_add, z_addl, z_ladd, z_mul, z_mull, z_lmul, z_neg, z_negl, z_in, z_inl, z_ltT, z_ltF, z_eqF, z_10, z_01, z_litne, z_ne0, z_0ne, z_ne1, z_1ne, z_lt64, z_02, z_03, z_04, z_05, z_12, z_13, z_14, z_15, z_20, z_21, z_23, z_24, z_25, z_30, z_31, z_32, z_34, z_35, z_40, z_41, z_42, z_43, z_45, z_50, z_51, z_52, z_53, z_54]
theorem f_enter {x y z u : Int32} {c : Nat} (h : CR B i σ) (a : ¬ x < 0 ∧ ¬ 1 < x) (b : ¬ y < 0 ∧ ¬ σ.1 0 < y) (g : ¬ u < 0 ∧ ¬ 9 < u) (l : ¬ z = 0) (r : ¬ z < (-10000) ∧ ¬ 10000 < z) (hc : σ.1 3036 = Int32.ofNat c) (c8 : c < 100) : FRs B i ((wu (wu (wu (wu (wu σ.1 (3037 + 4 * c) x) (3037 + 4 * c + 1) y) (3037 + 4 * c + 2) z) (3037 + 4 * c + 3) u) (3036) (Int32.ofNat (c + 1))), σ.2) (am_fx am_P (d + 150) 333 0 [some (.ref 64), some (.int x), some (.int y), some (.int z), some (.int u)] [] (am_wI B i)) (.inl (some (.int (Int32.ofNat (c + 1))))) := by
  have hF : Fc B := h.1.1
  have hY : Yd B 94 := h.1.2.1
  have e0 : i 94 0 = σ.1 0 := h.2.1.1.1
  have e : i (94 + 14) 4 = Int32.ofNat c := h.2.1.2.2.2.2.2.1.1.trans hc
  have c8' : Int32.ofNat c < 100 := by rw [show (100 : Int32) = Int32.ofNat 100 from rfl, z_lt (by omega) (by omega)]; omega
  refine FRs_w (i' := (am_up2 (am_up2 (am_up2 (am_up2 (am_up2 i (94 + 15) c x) (94 + 16) c y) (94 + 17) c z) (94 + 18) c u) (94 + 14) 4 (Int32.ofNat (c + 1)))) h ?_ ?_ (by intros; simp (disch := omega) only [y_up2])
  · rw [bk_333_0]
    simp (disch := first | omega | simp only [hF, hY]) only [(fun d x0 x1 x2 x3 x4 B i => bk_333_0 d x0 x1 x2 x3 x4 (am_wI B i)), (fun d x0 x1 x2 x3 x4 s0 B i => bk_333_40 d x0 x1 x2 x3 x4 s0 (am_wI B i)), (fun d x0 x1 x2 x3 x4 s0 B i => bk_333_65 d x0 x1 x2 x3 x4 s0 (am_wI B i)), c_within, e0, (fun d x0 x1 x2 x3 x4 B i => bk_144_0 d x0 x1 x2 x3 x4 (am_wI B i)), (fun d x0 x3 x4 B i => bk_144_31 d x0 x3 x4 (am_wI B i)), (fun d x0 B i => bk_144_52 d x0 (am_wI B i)), c_ckN1, a.1, a.2, b.1, b.2, g.1, g.2, l, r.1, r.2, e, c8', hF, hY, y_ckw, y_ck2w, y_ck2x, y_ond, y_onn, y_oI, y_oIx, y_oJ, y_oV, y_oVx, y_oR, y_oRn, y_oRx, y_b0, y_b1, y_bi, y_bid, y_wIK, y_wIL, y_wII, y_wIJ, y_wIR, y_wIN, y_wIw, y_sI, ↓reduceIte, Nat.reduceEqDiff, eq_self, true_or, or_true, false_or, or_false, and_true, true_and, false_and, and_false, not_true, not_false_eq_true, tf_T, tf_F, y_up1, y_up2, y_xx, y_nx, y_sJ, y_sR, Int32.reduceLT, y_nxK, y_nxL, y_nxR, y_sJK, y_sJL, y_sJR, y_sJN, y_sRK, y_sRL, y_sRN, Nat.add_zero, z_nat, z_lit, z_lit0, z_lit1, z_in0, z_in1, z_addl0, z_lt, z_ltl, z_llt, z_inj, z_injl, z_add, z_addl, z_ladd, z_mul, z_mull, z_lmul, z_neg, z_negl, z_in, z_inl, z_ltT, z_ltF, z_eqF, z_10, z_01, z_litne, z_ne0, z_0ne, z_ne1, z_1ne, z_lt64, z_02, z_03, z_04, z_05, z_12, z_13, z_14, z_15, z_20, z_21, z_23, z_24, z_25, z_30, z_31, z_32, z_34, z_35, z_40, z_41, z_42, z_43, z_45, z_50, z_51, z_52, z_53, z_54]
  · refine Rep_entry h.2.1 (Le.rf B) (by omega) rfl ?_ (by intros; simp (disch := omega) only [y_up2]) (by intros; simp (disch := omega) only [y_upr]) (by intros; simp (disch := omega) only [wu_ne])
    obtain ⟨a1, a2⟩ := h.2.1.2.2.2.2.2.1
    refine ⟨by rw [y_up1 rfl rfl, wu_at rfl], fun q hq hq8 => ?_⟩
    rw [cn_of (wu_at rfl) (by omega)] at hq
    by_cases ek : q = c
    · subst ek
      simp (disch := omega) only [y_up1, y_up2, wu_at, wu_ne, and_self]
    · have := a2 q (by rw [cn_of hc (by omega)]; omega) hq8
      simp (disch := omega) only [y_up2, wu_ne]
      exact this
theorem m_enter {x y z u : Int32} {c : Nat} (h : MR B i σ) (a : ¬ x < 0 ∧ ¬ 1 < x) (b : ¬ y < 0 ∧ ¬ σ.1 0 < y) (g : ¬ u < 0 ∧ ¬ 9 < u) (l : ¬ z = 0) (r : ¬ z < (-10000) ∧ ¬ 10000 < z) (hc : σ.1 3036 = Int32.ofNat c) (c8 : c < 100) : MRs B i ((wu (wu (wu (wu (wu σ.1 (3037 + 4 * c) x) (3037 + 4 * c + 1) y) (3037 + 4 * c + 2) z) (3037 + 4 * c + 3) u) (3036) (Int32.ofNat (c + 1))), σ.2) (am_fx am_P (d + 150) 128 0 [some (.ref 874), some (.int x), some (.int y), some (.int z), some (.int u), none] [] (am_wI B i)) (some (.int (Int32.ofNat (c + 1)))) 0 := by
  have hM : Md B := h.1.1
  have e0 : i 875 0 = σ.1 0 := h.2.1 0 (by omega)
  have e : i 875 3036 = Int32.ofNat c := (h.2.1 3036 (by omega)).trans hc
  have c8' : ¬ Int32.ofNat c = 100 := by rw [show (100 : Int32) = Int32.ofNat 100 from rfl, z_inj (by omega) (by omega)]; omega
  refine MRs_w (i' := (am_up2 (am_up2 (am_up2 (am_up2 (am_up2 (am_up2 i 874 0 0) 875 (3037 + 4 * c) x) 875 (3037 + 4 * c + 1) y) 875 (3037 + 4 * c + 2) z) 875 (3037 + 4 * c + 3) u) 875 (3036) (Int32.ofNat (c + 1)))) h ?_ (by rw [y_up2 (by omega), y_up2 (by omega), y_up2 (by omega), y_up2 (by omega), y_up2 (by omega), y_up1 rfl rfl]) (up_wu (up_wu (up_wu (up_wu (up_wu (up_o (by omega) h.2.1)))))) (by intros; simp (disch := omega) only [y_up2])
  rw [bk_128_0]
  simp (disch := first | omega | simp only [hM]) only [(fun d x0 x1 x2 x3 x4 B i => bk_128_0 d x0 x1 x2 x3 x4 (am_wI B i)), (fun d x0 x1 x2 x3 x4 s0 s1 B i => bk_128_60 d x0 x1 x2 x3 x4 s0 s1 (am_wI B i)), (fun d x0 x3 x4 x5 B i => bk_128_118 d x0 x3 x4 x5 (am_wI B i)), (fun d x0 x5 B i => bk_128_151 d x0 x5 (am_wI B i)), m_in, (fun d x0 B i => bk_13_0 d x0 (am_wI B i)), e0, m_thr0, a.1, a.2, b.1, b.2, g.1, g.2, l, r.1, r.2, e, c8', hM, y_ckw, y_ck2w, y_ck2x, y_ond, y_onn, y_oI, y_oIx, y_oJ, y_oV, y_oVx, y_oR, y_oRn, y_oRx, y_b0, y_b1, y_bi, y_bid, y_wIK, y_wIL, y_wII, y_wIJ, y_wIR, y_wIN, y_wIw, y_sI, ↓reduceIte, Nat.reduceEqDiff, eq_self, true_or, or_true, false_or, or_false, and_true, true_and, false_and, and_false, not_true, not_false_eq_true, tf_T, tf_F, y_up1, y_up2, y_xx, y_nx, y_sJ, y_sR, Int32.reduceLT, y_nxK, y_nxL, y_nxR, y_sJK, y_sJL, y_sJR, y_sJN, y_sRK, y_sRL, y_sRN, Nat.add_zero, z_nat, z_lit, z_lit0, z_lit1, z_in0, z_in1, z_addl0, z_lt, z_ltl, z_llt, z_inj, z_injl, z_add, z_addl, z_ladd, z_mul, z_mull, z_lmul, z_neg, z_negl, z_in, z_inl, z_ltT, z_ltF, z_eqF, z_10, z_01, z_litne, z_ne0, z_0ne, z_ne1, z_1ne, z_lt64, z_02, z_03, z_04, z_05, z_12, z_13, z_14, z_15, z_20, z_21, z_23, z_24, z_25, z_30, z_31, z_32, z_34, z_35, z_40, z_41, z_42, z_43, z_45, z_50, z_51, z_52, z_53, z_54]
theorem k_enter (h : Sim B i σ) (hs : Sc B i L j) (hO : am_K B 892 = 22 ∧ am_L B 892 = 1) : Stq B i d 3026 j := by
  by_cases a : ¬ (i 0 (j + 1)) < 0 ∧ ¬ 1 < (i 0 (j + 1))
  rotate_left
  · exact kx_41_2 h hs hO (f_enter_x0 (d := d + 48) h.1  a) fun B0 i0 h0 => m_enter_x0 (d := d + 49) h0  a
  by_cases b : ¬ (i 0 (j + 2)) < 0 ∧ ¬ σ.1 0 < (i 0 (j + 2))
  rotate_left
  · exact kx_41_2 h hs hO (f_enter_x1 (d := d + 48) h.1 a b) fun B0 i0 h0 => m_enter_x1 (d := d + 49) h0 a b
  by_cases g : ¬ (i 0 (j + 4)) < 0 ∧ ¬ 9 < (i 0 (j + 4))
  rotate_left
  · exact kx_41_2 h hs hO (f_enter_x2 (d := d + 48) h.1 a b g) fun B0 i0 h0 => m_enter_x2 (d := d + 49) h0 a b g
  by_cases l : ¬ (i 0 (j + 3)) = 0
  rotate_left
  · exact kx_41_2 h hs hO (f_enter_x3 (d := d + 48) h.1 a b g l) fun B0 i0 h0 => m_enter_x3 (d := d + 49) h0 a b g l
  by_cases r : ¬ (i 0 (j + 3)) < (-10000) ∧ ¬ 10000 < (i 0 (j + 3))
  rotate_left
  · exact kx_41_2 h hs hO (f_enter_x4 (d := d + 48) h.1 a b g l r) fun B0 i0 h0 => m_enter_x4 (d := d + 49) h0 a b g l r
  have hc := h.2.2.1.1.2.2.2.2.2.2.1
  rcases z_cmp4 hc.2 with c4 | c4
  · refine kk_41 (σ' := ((wu (wu (wu (wu (wu σ.1 (3037 + 4 * cn σ.1 3036) (i 0 (j + 1))) (3037 + 4 * cn σ.1 3036 + 1) (i 0 (j + 2))) (3037 + 4 * cn σ.1 3036 + 2) (i 0 (j + 3))) (3037 + 4 * cn σ.1 3036 + 3) (i 0 (j + 4))) (3036) (Int32.ofNat (cn σ.1 3036 + 1))), σ.2)) h hs hO (SW_now h.2.2 ?_) (f_enter (d := d + 48) h.1 a b g l r hc.1 c4) fun B0 i0 h0 => m_enter (d := d + 49) h0 a b g l r hc.1 c4
    refine Wd_cnt (s := 3036) h.2.2.1 (by omega) (wu_at rfl) (show _ ≤ 100 by omega) (fun _ q hq q20 => ?_) (by omega) (by omega) fun z hz => ?_
    · rw [cn_of (wu_at rfl) (by omega)] at hq
      by_cases ek : q = cn σ.1 3036
      · rw [wu_ne (by omega), wu_at (by omega)]
        exact z_rg g.1 g.2 (by decide)
      · rw [wu_ne (by omega), wu_ne (by omega), wu_ne (by omega), wu_ne (by omega), wu_ne (by omega)]
        exact h.2.2.1.2.2.2.2.2.2.1 q (by omega) q20
    · have hz : z < 3036 ∨ 3437 ≤ z := hz
      simp (disch := omega) only [wu_ne]
  · have e : σ.1 3036 = Int32.ofNat 100 := by rw [hc.1, c4]
    exact kk_41 h hs hO h.2.2 (f_enter_full (d := d + 48) h.1 a b g l r e) fun B0 i0 h0 => m_enter_full (d := d + 49) h0 a b g l r e
end Four
