/-! WAR: the call. Made by wip/whole/math/91f.py. -/
section WarC
variable {B : am_A} {i : Nat → Nat → Int32} {w : Nat → Int32} {d L j : Nat} {σ : Sg}
theorem c_floating (hF : Fc B) (hY : Yd B 94) (hR : Rep B i 94 w) (hW : Wd w) : ∃ i', am_fx am_P (d + 18) 284 0 [some (.ref 71), some (.ref 94), none] [] (am_wI B i) = some (.inl (some (.int (Int32.ofNat (wc2 w) ||| Int32.ofNat (wbs w)))), am_wI B i') ∧ ∀ q k, (q < 67 ∨ 94 ≤ q) → i' q k = i q k := by
  have n8 : cn w 2621 ≤ 8 := hW.1.2.2.2.1.2
  obtain ⟨j1, E1, p89, p11, f71, f1⟩ := c_pool (d := d + 16) hF hY hR hW
  have k80 : ∀ z, z < 9 → am_K B (80 + z) = 21 ∧ am_L B (80 + z) = 120 := fun z hz => ⟨by simp (disch := omega) only [hF], by simp (disch := omega) only [hF]⟩
  obtain ⟨j2, E2, b2, f2⟩ := c_fill (B := B) (d := d + 17) (i := am_up2 j1 71 16 0) (q := 80) (n := 120) (v := -1) (k80 0 (by omega)).1 (k80 0 (by omega)).2 (by omega)
  have n120 : (pls w).1 ≤ 120 := Nat.le_trans pls_n hW.1.2.2.1.2
  have g2 : ∀ q k, q ≠ 80 → (q = 71 → k ≠ 16) → j2 q k = j1 q k := fun q k a1 a2 => (f2 q k a1).trans (y_up2 (by omega))
  obtain ⟨j3, b', E3, r1, r2, r3, f3⟩ := c_decide (B := B) hF hY hW (cn w 2621) (d + 9 - cn w 2621) 0 0 (fun _ => false) (fun _ => none) j2 (by omega) (Rep_fr hR (Le.rf B) rfl (fun q k _ _ _ _ _ _ => (g2 q k (by omega) (by omega)).trans (f1 q k (by omega) (by omega))) (fun q h1 _ => funext fun k => (g2 q k (by omega) (by omega)).trans (f1 q k (by omega) (by omega))) fun _ _ => rfl) ((g2 _ _ (by omega) (by omega)).trans p11) (fun k hk => (g2 _ _ (by omega) (by omega)).trans (p89 k hk)) ((f2 _ _ (by omega)).trans (y_up1 rfl rfl)) (by omega) ⟨fun k hk => absurd hk (Nat.not_lt_zero _), fun k hk => absurd hk (Nat.not_lt_zero _)⟩ (mat_0 (fun _ _ => rfl) fun u hu => absurd hu.1 (Nat.not_lt_zero _)) (fun k hk => b2 k (by omega))
  rw [show d + 9 - cn w 2621 + cn w 2621 + 8 = d + 17 by omega] at E3
  have E3' : am_fx am_P (d + 17) 286 0 [some (.ref 71), some (.ref 94), some (.int 0), some (.int 0), none, none, none] [] (am_wI B j2) = some (.inl none, am_wI B j3) := E3
  refine ⟨j3, ?_, fun q k hq => (f3 q k (by omega) (by omega) (by omega)).trans ((g2 q k (by omega) (by omega)).trans (f1 q k (by omega) (by omega)))⟩
  rw [E1, bk_284_63]
  simp (maxSteps := 1000000) (disch := omega) only [E2, E3', r1, hF, hY, y_ckd, y_ck2d, y_ond, y_onn, y_oI, y_oIx, y_oJ, y_oV, y_oVx, y_oR, y_oRn, y_oRx, y_b0, y_b1, y_bi, y_bid, y_wIK, y_wIL, y_wII, y_wIJ, y_wIR, y_wIN, y_wIw, y_sI, ↓reduceIte, Nat.reduceEqDiff, eq_self, true_or, or_true, false_or, or_false, and_true, true_and, false_and, and_false, not_true, not_false_eq_true, tf_T, tf_F, y_up1, y_up2, y_xx, y_nx, y_sJ, y_sR, Int32.reduceLT, y_nxK, y_nxL, y_nxR, y_sJK, y_sJL, y_sJR, y_sJN, y_sRK, y_sRL, y_sRN, Nat.add_zero, z_nat, z_lit, z_lit0, z_lit1, z_in0, z_in1, z_addl0, z_lt, z_ltl, z_llt, z_inj, z_injl, z_add, z_addl, z_ladd, z_mul, z_mull, z_lmul, z_neg, z_negl, z_in, z_inl, z_ltT, z_ltF, z_eqF, z_10, z_01, z_litne, z_ne0, z_0ne, z_ne1, z_1ne, z_lt64, z_02, z_03, z_04, z_05, z_12, z_13, z_14, z_15, z_20, z_21, z_23, z_24, z_25, z_30, z_31, z_32, z_34, z_35, z_40, z_41, z_42, z_43, z_45, z_50, z_51, z_52, z_53, z_54]
  rw [war_end hW r3]
theorem f_war (h : CR B i σ) (hW : Wd σ.1) : FRs B i σ (am_fx am_P (d + 150) 332 0 [some (.ref 64)] [] (am_wI B i)) (.inl (some (.int (Int32.ofNat (wc2 σ.1) ||| Int32.ofNat (wbs σ.1))))) := by
  have hF : Fc B := h.1.1
  have hY : Yd B 94 := h.1.2.1
  obtain ⟨i', E, f⟩ := c_floating (d := d + 131) hF hY h.2.1 hW
  refine FRs_s (i' := i') h ?_ fun q k a _ _ _ _ _ => f q k a
  rw [bk_332_0]
  simp (disch := omega) only [E, hF, hY, y_ckd, y_ck2d, y_ond, y_onn, y_oI, y_oIx, y_oJ, y_oV, y_oVx, y_oR, y_oRn, y_oRx, y_b0, y_b1, y_bi, y_bid, y_wIK, y_wIL, y_wII, y_wIJ, y_wIR, y_wIN, y_wIw, y_sI, ↓reduceIte, Nat.reduceEqDiff, eq_self, true_or, or_true, false_or, or_false, and_true, true_and, false_and, and_false, not_true, not_false_eq_true, tf_T, tf_F, y_up1, y_up2, y_xx, y_nx, y_sJ, y_sR, Int32.reduceLT, y_nxK, y_nxL, y_nxR, y_sJK, y_sJL, y_sJR, y_sJN, y_sRK, y_sRL, y_sRN, Nat.add_zero, z_nat, z_lit, z_lit0, z_lit1, z_in0, z_in1, z_addl0, z_lt, z_ltl, z_llt, z_inj, z_injl, z_add, z_addl, z_ladd, z_mul, z_mull, z_lmul, z_neg, z_negl, z_in, z_inl, z_ltT, z_ltF, z_eqF, z_10, z_01, z_litne, z_ne0, z_0ne, z_ne1, z_1ne, z_lt64, z_02, z_03, z_04, z_05, z_12, z_13, z_14, z_15, z_20, z_21, z_23, z_24, z_25, z_30, z_31, z_32, z_34, z_35, z_40, z_41, z_42, z_43, z_45, z_50, z_51, z_52, z_53, z_54]
theorem k_war (h : Sim B i σ) (hs : Sc B i L j) (hO : am_K B 892 = 22 ∧ am_L B 892 = 1) : Stq B i d 3013 j :=
  kk_40 h hs hO h.2.2 (f_war (d := d + 49) h.1 h.2.2.1) fun B0 i0 h0 => m_war (d := d + 49) h0 h.2.2.1
end WarC
