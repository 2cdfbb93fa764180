/-! REMEMBER, UNDO, KEEP, BACK: made by wip/whole/math/58.py. -/
section Mem
variable {B B1 : am_A} {i i1 : Nat → Nat → Int32} {σ : Sg} {w : Nat → Int32} {L j d b c : Nat}
theorem Rep_oth (h : Rep B i c w) (hS : Sr B B1 (b + 8)) (hb : b = 94 ∨ b = 354 ∨ b = 614) (hc : c = 94 ∨ c = 354 ∨ c = 614) (hne : c ≠ b) (hi : ∀ q k, 94 ≤ q → (q < b ∨ b + 260 ≤ q) → i1 q k = i q k) : Rep B1 i1 c w :=
  Rep_fr h (Sr.le hS (by omega)) (hS.2.2.2.2.2.2 (c + 8) (by omega)) (fun q k _ _ _ _ _ _ => hi q k (by omega) (by omega)) (fun q h1 _ => funext fun k => hi q k (by omega) (by omega)) fun _ _ => rfl
theorem Rep_up64 {k : Nat} {v : Int32} (h : Rep B i c w) (hc : c = 94 ∨ c = 354 ∨ c = 614) : Rep B (am_up2 i 64 k v) c w :=
  Rep_fr h (Le.rf B) rfl (fun q k _ _ _ _ _ _ => y_up2 (by omega)) (fun q h1 _ => y_upr (by omega)) fun _ _ => rfl
theorem TpC_fr {t : Nat × (Nat → Int32) × Int32} (h : TpC i t) (hi : ∀ q k, q = 65 ∨ q = 66 → i1 q k = i q k) : TpC i1 t := by
  obtain ⟨h1, h2, h3⟩ := h
  exact ⟨(hi _ _ (by omega)).trans h1, fun k hk => (hi _ _ (by omega)).trans (h2 k hk), (hi _ _ (by omega)).trans h3⟩
theorem tf_t {x : Bool} (h : x = true) : tf (x = true) = 1 := tf_p h
theorem tf_f {x : Bool} (h : x = false) : tf (x = true) = 0 := tf_n (by rw [h]; decide)
theorem c_remember (h : CR B i σ) (hW : Wd σ.1)  : ∃ B' i', am_fx am_P (d + 6) 345 0 [some (.ref 64)] [] (am_wI B i) = some ((.inl none), am_wI B' i') ∧ CR B' i' (σ.1, σ.1, σ.2.2.1, true, σ.2.2.2.2) ∧ Sr B B' 362 ∧ ∀ q k, (q < 354 ∨ 614 ≤ q) → (q = 64 → k ≠ 5) → i' q k = i q k := by
  have hF : Fc B := h.1.1
  have hY1 : Yd B 354 := h.1.2.2.1
  have hY2 : Yd B 94 := h.1.2.1
  have hN := h.1.2.2.2.2
  obtain ⟨B1, i1, E, hR, hS, hf⟩ := cp_yard (d := d) (b := 354) (b2 := 94) hY1 hY2 (by omega) (by omega) (by omega) hN h.2.1 hW
  have hL := Sr.le hS (by omega)
  have hF' := Fc_le hL hN hF
  refine ⟨B1, am_up2 i1 64 5 1, ?_, ⟨⟨hF', Yd_le hL hN (by omega) h.1.2.1, Yd_le hL hN (by omega) h.1.2.2.1, Yd_le hL hN (by omega) h.1.2.2.2.1, Nat.le_trans hN hL.1⟩, Rep_up64 (Rep_oth (h.2.1) hS (by omega) (by omega) (by omega) fun q k _ hq => hf q k hq) (by omega), fun _ => Rep_up64 hR (by omega), fun q => Rep_up64 (Rep_oth (h.2.2.2.1 q) hS (by omega) (by omega) (by omega) fun q k _ hq => hf q k hq) (by omega), by rw [y_up1 rfl rfl]; rfl, by rw [y_up2 (by omega), hf _ _ (by omega)]; exact h.2.2.2.2.2.1, TpC_fr h.2.2.2.2.2.2 fun q k hq => by rw [y_up2 (by omega), hf _ _ (by omega)]⟩, hS, fun q k h1 h2 => by rw [y_up2 (by omega), hf q k h1]⟩
  rw [bk_345_0]
  simp (disch := omega) only [E, hF, hF', hY1, hY2, y_ckd, y_ck2d, y_ond, y_onn, y_oI, y_oIx, y_oJ, y_oV, y_oVx, y_oR, y_oRn, y_oRx, y_b0, y_b1, y_bi, y_bid, y_wIK, y_wIL, y_wII, y_wIJ, y_wIR, y_wIN, y_wIw, y_sI, ↓reduceIte, Nat.reduceEqDiff, eq_self, true_or, or_true, false_or, or_false, and_true, true_and, false_and, and_false, not_true, not_false_eq_true, tf_T, tf_F, y_up1, y_up2, y_xx, y_nx, y_sJ, y_sR, Int32.reduceLT, y_nxK, y_nxL, y_nxR, y_sJK, y_sJL, y_sJR, y_sJN, y_sRK, y_sRL, y_sRN, Nat.add_zero, z_nat, z_lit, z_lit0, z_lit1, z_in0, z_in1, z_addl0, z_lt, z_ltl, z_llt, z_inj, z_injl, z_add, z_addl, z_ladd, z_mul, z_mull, z_lmul, z_neg, z_negl, z_in, z_inl, z_ltT, z_ltF, z_eqF, z_10, z_01, z_litne, z_ne0, z_0ne, z_ne1, z_1ne, z_lt64, z_02, z_03, z_04, z_05, z_12, z_13, z_14, z_15, z_20, z_21, z_23, z_24, z_25, z_30, z_31, z_32, z_34, z_35, z_40, z_41, z_42, z_43, z_45, z_50, z_51, z_52, z_53, z_54]
theorem c_undo (h : CR B i σ) (hW : Wd σ.2.1) (g : σ.2.2.2.1 = true) : ∃ B' i', am_fx am_P (d + 6) 341 0 [some (.ref 64)] [] (am_wI B i) = some ((.inl (some (.int 1))), am_wI B' i') ∧ CR B' i' (σ.2.1, σ.2.1, σ.2.2.1, false, σ.2.2.2.2) ∧ Sr B B' 102 ∧ ∀ q k, (q < 94 ∨ 354 ≤ q) → (q = 64 → k ≠ 5) → i' q k = i q k := by
  have hF : Fc B := h.1.1
  have hY1 : Yd B 94 := h.1.2.1
  have hY2 : Yd B 354 := h.1.2.2.1
  have hN := h.1.2.2.2.2
  have e5 : i 64 5 = 1 := h.2.2.2.2.1.trans (tf_t g)
  obtain ⟨B1, i1, E, hR, hS, hf⟩ := cp_yard (d := d) (b := 94) (b2 := 354) hY1 hY2 (by omega) (by omega) (by omega) hN (h.2.2.1 g) hW
  have hL := Sr.le hS (by omega)
  have hF' := Fc_le hL hN hF
  refine ⟨B1, am_up2 i1 64 5 0, ?_, ⟨⟨hF', Yd_le hL hN (by omega) h.1.2.1, Yd_le hL hN (by omega) h.1.2.2.1, Yd_le hL hN (by omega) h.1.2.2.2.1, Nat.le_trans hN hL.1⟩, Rep_up64 hR (by omega), fun q => absurd (show false = true from q) Bool.false_ne_true, fun q => Rep_up64 (Rep_oth (h.2.2.2.1 q) hS (by omega) (by omega) (by omega) fun q k _ hq => hf q k hq) (by omega), by rw [y_up1 rfl rfl]; rfl, by rw [y_up2 (by omega), hf _ _ (by omega)]; exact h.2.2.2.2.2.1, TpC_fr h.2.2.2.2.2.2 fun q k hq => by rw [y_up2 (by omega), hf _ _ (by omega)]⟩, hS, fun q k h1 h2 => by rw [y_up2 (by omega), hf q k h1]⟩
  rw [bk_341_0]
  simp (disch := omega) only [e5, E, hF, hF', hY1, hY2, y_ckd, y_ck2d, y_ond, y_onn, y_oI, y_oIx, y_oJ, y_oV, y_oVx, y_oR, y_oRn, y_oRx, y_b0, y_b1, y_bi, y_bid, y_wIK, y_wIL, y_wII, y_wIJ, y_wIR, y_wIN, y_wIw, y_sI, ↓reduceIte, Nat.reduceEqDiff, eq_self, true_or, or_true, false_or, or_false, and_true, true_and, false_and, and_false, not_true, not_false_eq_true, tf_T, tf_F, y_up1, y_up2, y_xx, y_nx, y_sJ, y_sR, Int32.reduceLT, y_nxK, y_nxL, y_nxR, y_sJK, y_sJL, y_sJR, y_sJN, y_sRK, y_sRL, y_sRN, Nat.add_zero, z_nat, z_lit, z_lit0, z_lit1, z_in0, z_in1, z_addl0, z_lt, z_ltl, z_llt, z_inj, z_injl, z_add, z_addl, z_ladd, z_mul, z_mull, z_lmul, z_neg, z_negl, z_in, z_inl, z_ltT, z_ltF, z_eqF, z_10, z_01, z_litne, z_ne0, z_0ne, z_ne1, z_1ne, z_lt64, z_02, z_03, z_04, z_05, z_12, z_13, z_14, z_15, z_20, z_21, z_23, z_24, z_25, z_30, z_31, z_32, z_34, z_35, z_40, z_41, z_42, z_43, z_45, z_50, z_51, z_52, z_53, z_54]
theorem c_keep (h : CR B i σ) (hW : Wd σ.1)  : ∃ B' i', am_fx am_P (d + 6) 342 0 [some (.ref 64)] [] (am_wI B i) = some ((.inl none), am_wI B' i') ∧ CR B' i' (σ.1, σ.2.1, σ.1, σ.2.2.2.1, true, σ.2.2.2.2.2) ∧ Sr B B' 622 ∧ ∀ q k, (q < 614 ∨ 874 ≤ q) → (q = 64 → k ≠ 6) → i' q k = i q k := by
  have hF : Fc B := h.1.1
  have hY1 : Yd B 614 := h.1.2.2.2.1
  have hY2 : Yd B 94 := h.1.2.1
  have hN := h.1.2.2.2.2
  obtain ⟨B1, i1, E, hR, hS, hf⟩ := cp_yard (d := d) (b := 614) (b2 := 94) hY1 hY2 (by omega) (by omega) (by omega) hN h.2.1 hW
  have hL := Sr.le hS (by omega)
  have hF' := Fc_le hL hN hF
  refine ⟨B1, am_up2 i1 64 6 1, ?_, ⟨⟨hF', Yd_le hL hN (by omega) h.1.2.1, Yd_le hL hN (by omega) h.1.2.2.1, Yd_le hL hN (by omega) h.1.2.2.2.1, Nat.le_trans hN hL.1⟩, Rep_up64 (Rep_oth (h.2.1) hS (by omega) (by omega) (by omega) fun q k _ hq => hf q k hq) (by omega), fun q => Rep_up64 (Rep_oth (h.2.2.1 q) hS (by omega) (by omega) (by omega) fun q k _ hq => hf q k hq) (by omega), fun _ => Rep_up64 hR (by omega), by rw [y_up2 (by omega), hf _ _ (by omega)]; exact h.2.2.2.2.1, by rw [y_up1 rfl rfl]; rfl, TpC_fr h.2.2.2.2.2.2 fun q k hq => by rw [y_up2 (by omega), hf _ _ (by omega)]⟩, hS, fun q k h1 h2 => by rw [y_up2 (by omega), hf q k h1]⟩
  rw [bk_342_0]
  simp (disch := omega) only [E, hF, hF', hY1, hY2, y_ckd, y_ck2d, y_ond, y_onn, y_oI, y_oIx, y_oJ, y_oV, y_oVx, y_oR, y_oRn, y_oRx, y_b0, y_b1, y_bi, y_bid, y_wIK, y_wIL, y_wII, y_wIJ, y_wIR, y_wIN, y_wIw, y_sI, ↓reduceIte, Nat.reduceEqDiff, eq_self, true_or, or_true, false_or, or_false, and_true, true_and, false_and, and_false, not_true, not_false_eq_true, tf_T, tf_F, y_up1, y_up2, y_xx, y_nx, y_sJ, y_sR, Int32.reduceLT, y_nxK, y_nxL, y_nxR, y_sJK, y_sJL, y_sJR, y_sJN, y_sRK, y_sRL, y_sRN, Nat.add_zero, z_nat, z_lit, z_lit0, z_lit1, z_in0, z_in1, z_addl0, z_lt, z_ltl, z_llt, z_inj, z_injl, z_add, z_addl, z_ladd, z_mul, z_mull, z_lmul, z_neg, z_negl, z_in, z_inl, z_ltT, z_ltF, z_eqF, z_10, z_01, z_litne, z_ne0, z_0ne, z_ne1, z_1ne, z_lt64, z_02, z_03, z_04, z_05, z_12, z_13, z_14, z_15, z_20, z_21, z_23, z_24, z_25, z_30, z_31, z_32, z_34, z_35, z_40, z_41, z_42, z_43, z_45, z_50, z_51, z_52, z_53, z_54]
theorem c_back (h : CR B i σ) (hW : Wd σ.2.2.1) (g : σ.2.2.2.2.1 = true) : ∃ B' i', am_fx am_P (d + 6) 343 0 [some (.ref 64)] [] (am_wI B i) = some ((.inl (some (.int 1))), am_wI B' i') ∧ CR B' i' (σ.2.2.1, σ.2.1, σ.2.2.1, false, σ.2.2.2.2) ∧ Sr B B' 102 ∧ ∀ q k, (q < 94 ∨ 354 ≤ q) → (q = 64 → k ≠ 5) → i' q k = i q k := by
  have hF : Fc B := h.1.1
  have hY1 : Yd B 94 := h.1.2.1
  have hY2 : Yd B 614 := h.1.2.2.2.1
  have hN := h.1.2.2.2.2
  have e6 : i 64 6 = 1 := h.2.2.2.2.2.1.trans (tf_t g)
  obtain ⟨B1, i1, E, hR, hS, hf⟩ := cp_yard (d := d) (b := 94) (b2 := 614) hY1 hY2 (by omega) (by omega) (by omega) hN (h.2.2.2.1 g) hW
  have hL := Sr.le hS (by omega)
  have hF' := Fc_le hL hN hF
  refine ⟨B1, am_up2 i1 64 5 0, ?_, ⟨⟨hF', Yd_le hL hN (by omega) h.1.2.1, Yd_le hL hN (by omega) h.1.2.2.1, Yd_le hL hN (by omega) h.1.2.2.2.1, Nat.le_trans hN hL.1⟩, Rep_up64 hR (by omega), fun q => absurd (show false = true from q) Bool.false_ne_true, fun q => Rep_up64 (Rep_oth (h.2.2.2.1 q) hS (by omega) (by omega) (by omega) fun q k _ hq => hf q k hq) (by omega), by rw [y_up1 rfl rfl]; rfl, by rw [y_up2 (by omega), hf _ _ (by omega)]; exact h.2.2.2.2.2.1, TpC_fr h.2.2.2.2.2.2 fun q k hq => by rw [y_up2 (by omega), hf _ _ (by omega)]⟩, hS, fun q k h1 h2 => by rw [y_up2 (by omega), hf q k h1]⟩
  rw [bk_343_0]
  simp (disch := omega) only [e6, E, hF, hF', hY1, hY2, y_ckd, y_ck2d, y_ond, y_onn, y_oI, y_oIx, y_oJ, y_oV, y_oVx, y_oR, y_oRn, y_oRx, y_b0, y_b1, y_bi, y_bid, y_wIK, y_wIL, y_wII, y_wIJ, y_wIR, y_wIN, y_wIw, y_sI, ↓reduceIte, Nat.reduceEqDiff, eq_self, true_or, or_true, false_or, or_false, and_true, true_and, false_and, and_false, not_true, not_false_eq_true, tf_T, tf_F, y_up1, y_up2, y_xx, y_nx, y_sJ, y_sR, Int32.reduceLT, y_nxK, y_nxL, y_nxR, y_sJK, y_sJL, y_sJR, y_sJN, y_sRK, y_sRL, y_sRN, Nat.add_zero, z_nat, z_lit, z_lit0, z_lit1, z_in0, z_in1, z_addl0, z_lt, z_ltl, z_llt, z_inj, z_injl, z_add, z_addl, z_ladd, z_mul, z_mull, z_lmul, z_neg, z_negl, z_in, z_inl, z_ltT, z_ltF, z_eqF, z_10, z_01, z_litne, z_ne0, z_0ne, z_ne1, z_1ne, z_lt64, z_02, z_03, z_04, z_05, z_12, z_13, z_14, z_15, z_20, z_21, z_23, z_24, z_25, z_30, z_31, z_32, z_34, z_35, z_40, z_41, z_42, z_43, z_45, z_50, z_51, z_52, z_53, z_54]
theorem mcp_deed (hM : Md B) : ∃ j, am_fx am_P d 14 2 [some (.ref 874), some (.int 0)] [] (am_wI B i) = some ((.inl none), am_wI B (am_up2 j 874 5 1)) ∧ (∀ s, s < 12042 → j 877 s = i 875 s) ∧ ∀ q k, q ≠ 877 → j q k = i q k := by
  obtain ⟨j, e, h1, h2⟩ := lp_inv (fun k j => am_fx am_P d 14 2 [some (.ref 874), some (.int (Int32.ofNat k))] [] (am_wI B j)) (fun k j => (∀ s, s < k → j 877 s = i 875 s) ∧ ∀ q k', q ≠ 877 → j q k' = i q k') 12042 (fun k j hk hI => by
    refine ⟨am_up2 j 877 k (j 875 k), ?_, fun s hs => ?_, fun q k' hq => ?_⟩
    · rw [bk_14_2]
      simp (disch := omega) only [hM, y_ckd, y_ck2d, y_ond, y_onn, y_oI, y_oIx, y_oJ, y_oV, y_oVx, y_oR, y_oRn, y_oRx, y_b0, y_b1, y_bi, y_bid, y_wIK, y_wIL, y_wII, y_wIJ, y_wIR, y_wIN, y_wIw, y_sI, ↓reduceIte, Nat.reduceEqDiff, eq_self, true_or, or_true, false_or, or_false, and_true, true_and, false_and, and_false, not_true, not_false_eq_true, tf_T, tf_F, y_up1, y_up2, y_xx, y_nx, y_sJ, y_sR, Int32.reduceLT, y_nxK, y_nxL, y_nxR, y_sJK, y_sJL, y_sJR, y_sJN, y_sRK, y_sRL, y_sRN, Nat.add_zero, z_nat, z_lit, z_lit0, z_lit1, z_in0, z_in1, z_addl0, z_lt, z_ltl, z_llt, z_inj, z_injl, z_add, z_addl, z_ladd, z_mul, z_mull, z_lmul, z_neg, z_negl, z_in, z_inl, z_ltT, z_ltF, z_eqF, z_10, z_01, z_litne, z_ne0, z_0ne, z_ne1, z_1ne, z_lt64, z_02, z_03, z_04, z_05, z_12, z_13, z_14, z_15, z_20, z_21, z_23, z_24, z_25, z_30, z_31, z_32, z_34, z_35, z_40, z_41, z_42, z_43, z_45, z_50, z_51, z_52, z_53, z_54]
    · by_cases e : s = k
      · rw [y_up1 rfl e, e]
        exact hI.2 _ _ (by omega)
      · rw [y_up2 (by omega)]
        exact hI.1 s (by omega)
    · rw [y_up2 (by omega)]
      exact hI.2 q k' hq) i ⟨fun s hs => absurd hs (Nat.not_lt_zero s), fun _ _ _ => rfl⟩
  refine ⟨j, e.trans ?_, h1, h2⟩
  rw [bk_14_2]
  simp (disch := omega) only [hM, y_ckd, y_ck2d, y_ond, y_onn, y_oI, y_oIx, y_oJ, y_oV, y_oVx, y_oR, y_oRn, y_oRx, y_b0, y_b1, y_bi, y_bid, y_wIK, y_wIL, y_wII, y_wIJ, y_wIR, y_wIN, y_wIw, y_sI, ↓reduceIte, Nat.reduceEqDiff, eq_self, true_or, or_true, false_or, or_false, and_true, true_and, false_and, and_false, not_true, not_false_eq_true, tf_T, tf_F, y_up1, y_up2, y_xx, y_nx, y_sJ, y_sR, Int32.reduceLT, y_nxK, y_nxL, y_nxR, y_sJK, y_sJL, y_sJR, y_sJN, y_sRK, y_sRL, y_sRN, Nat.add_zero, z_nat, z_lit, z_lit0, z_lit1, z_in0, z_in1, z_addl0, z_lt, z_ltl, z_llt, z_inj, z_injl, z_add, z_addl, z_ladd, z_mul, z_mull, z_lmul, z_neg, z_negl, z_in, z_inl, z_ltT, z_ltF, z_eqF, z_10, z_01, z_litne, z_ne0, z_0ne, z_ne1, z_1ne, z_lt64, z_02, z_03, z_04, z_05, z_12, z_13, z_14, z_15, z_20, z_21, z_23, z_24, z_25, z_30, z_31, z_32, z_34, z_35, z_40, z_41, z_42, z_43, z_45, z_50, z_51, z_52, z_53, z_54]
theorem m_deed (h : MR B i σ) : ∃ i', am_fx am_P d 14 0 [some (.ref 874), none] [] (am_wI B i) = some (.inl none, am_wI B i') ∧ MR B i' (σ.1, σ.1, σ.2.2.1, true, σ.2.2.2.2) ∧ ∀ q k, q ≠ 877 → (q = 874 → k ≠ 5) → i' q k = i q k := by
  obtain ⟨j, e, h1, h2⟩ := mcp_deed (d := d) (i := i) h.1.1
  refine ⟨_, (by rw [bk_14_0]; exact e), ⟨h.1, fun s hs => ?_, fun _ s hs => ?_, fun q s hs => ?_, ?_, ?_, ?_, fun k hk => ?_, ?_⟩, fun q k a b => ?_⟩
  · rw [y_up2 (by omega), h2 _ _ (by omega)]
    exact h.2.1 s hs
  · rw [y_up2 (by omega), h1 s hs]
    exact h.2.1 s hs
  · rw [y_up2 (by omega), h2 _ _ (by omega)]
    exact h.2.2.2.1 q s hs
  · rw [y_up1 rfl rfl]
    rfl
  · rw [y_up2 (by omega), h2 _ _ (by omega)]
    exact h.2.2.2.2.2.1
  · rw [y_up2 (by omega), h2 _ _ (by omega)]
    exact h.2.2.2.2.2.2.1
  · rw [y_up2 (by omega), h2 _ _ (by omega)]
    exact h.2.2.2.2.2.2.2.1 k hk
  · rw [y_up2 (by omega), h2 _ _ (by omega)]
    exact h.2.2.2.2.2.2.2.2
  · rw [y_up2 (by omega), h2 _ _ (by omega)]
theorem mcp_undo (hM : Md B) : ∃ j, am_fx am_P d 15 16 [some (.ref 874), some (.int 0)] [] (am_wI B i) = some ((.inl (some (.int 1))), am_wI B (am_up2 j 874 5 0)) ∧ (∀ s, s < 12042 → j 875 s = i 877 s) ∧ ∀ q k, q ≠ 875 → j q k = i q k := by
  obtain ⟨j, e, h1, h2⟩ := lp_inv (fun k j => am_fx am_P d 15 16 [some (.ref 874), some (.int (Int32.ofNat k))] [] (am_wI B j)) (fun k j => (∀ s, s < k → j 875 s = i 877 s) ∧ ∀ q k', q ≠ 875 → j q k' = i q k') 12042 (fun k j hk hI => by
    refine ⟨am_up2 j 875 k (j 877 k), ?_, fun s hs => ?_, fun q k' hq => ?_⟩
    · rw [bk_15_16]
      simp (disch := omega) only [hM, y_ckd, y_ck2d, y_ond, y_onn, y_oI, y_oIx, y_oJ, y_oV, y_oVx, y_oR, y_oRn, y_oRx, y_b0, y_b1, y_bi, y_bid, y_wIK, y_wIL, y_wII, y_wIJ, y_wIR, y_wIN, y_wIw, y_sI, ↓reduceIte, Nat.reduceEqDiff, eq_self, true_or, or_true, false_or, or_false, and_true, true_and, false_and, and_false, not_true, not_false_eq_true, tf_T, tf_F, y_up1, y_up2, y_xx, y_nx, y_sJ, y_sR, Int32.reduceLT, y_nxK, y_nxL, y_nxR, y_sJK, y_sJL, y_sJR, y_sJN, y_sRK, y_sRL, y_sRN, Nat.add_zero, z_nat, z_lit, z_lit0, z_lit1, z_in0, z_in1, z_addl0, z_lt, z_ltl, z_llt, z_inj, z_injl, z_add, z_addl, z_ladd, z_mul, z_mull, z_lmul, z_neg, z_negl, z_in, z_inl, z_ltT, z_ltF, z_eqF, z_10, z_01, z_litne, z_ne0, z_0ne, z_ne1, z_1ne, z_lt64, z_02, z_03, z_04, z_05, z_12, z_13, z_14, z_15, z_20, z_21, z_23, z_24, z_25, z_30, z_31, z_32, z_34, z_35, z_40, z_41, z_42, z_43, z_45, z_50, z_51, z_52, z_53, z_54]
    · by_cases e : s = k
      · rw [y_up1 rfl e, e]
        exact hI.2 _ _ (by omega)
      · rw [y_up2 (by omega)]
        exact hI.1 s (by omega)
    · rw [y_up2 (by omega)]
      exact hI.2 q k' hq) i ⟨fun s hs => absurd hs (Nat.not_lt_zero s), fun _ _ _ => rfl⟩
  refine ⟨j, e.trans ?_, h1, h2⟩
  rw [bk_15_16]
  simp (disch := omega) only [hM, y_ckd, y_ck2d, y_ond, y_onn, y_oI, y_oIx, y_oJ, y_oV, y_oVx, y_oR, y_oRn, y_oRx, y_b0, y_b1, y_bi, y_bid, y_wIK, y_wIL, y_wII, y_wIJ, y_wIR, y_wIN, y_wIw, y_sI, ↓reduceIte, Nat.reduceEqDiff, eq_self, true_or, or_true, false_or, or_false, and_true, true_and, false_and, and_false, not_true, not_false_eq_true, tf_T, tf_F, y_up1, y_up2, y_xx, y_nx, y_sJ, y_sR, Int32.reduceLT, y_nxK, y_nxL, y_nxR, y_sJK, y_sJL, y_sJR, y_sJN, y_sRK, y_sRL, y_sRN, Nat.add_zero, z_nat, z_lit, z_lit0, z_lit1, z_in0, z_in1, z_addl0, z_lt, z_ltl, z_llt, z_inj, z_injl, z_add, z_addl, z_ladd, z_mul, z_mull, z_lmul, z_neg, z_negl, z_in, z_inl, z_ltT, z_ltF, z_eqF, z_10, z_01, z_litne, z_ne0, z_0ne, z_ne1, z_1ne, z_lt64, z_02, z_03, z_04, z_05, z_12, z_13, z_14, z_15, z_20, z_21, z_23, z_24, z_25, z_30, z_31, z_32, z_34, z_35, z_40, z_41, z_42, z_43, z_45, z_50, z_51, z_52, z_53, z_54]
theorem m_undo (h : MR B i σ) (g : σ.2.2.2.1 = true) : MRs B i (σ.2.1, σ.2.1, σ.2.2.1, false, σ.2.2.2.2) (am_fx am_P (d + 150) 15 0 [some (.ref 874), none] [] (am_wI B i)) (some (.int 1)) 0 := by
  have hM : Md B := h.1.1
  have e5 : i 874 5 = 1 := h.2.2.2.2.1.trans (tf_t g)
  obtain ⟨j, E, h1, h2⟩ := mcp_undo (d := d + 150) (i := am_up2 i 874 0 0) hM
  refine ⟨B, am_up2 j 874 5 0, (by rw [bk_15_0]; simp (disch := omega) only [e5, E, hM, y_ckd, y_ck2d, y_ond, y_onn, y_oI, y_oIx, y_oJ, y_oV, y_oVx, y_oR, y_oRn, y_oRx, y_b0, y_b1, y_bi, y_bid, y_wIK, y_wIL, y_wII, y_wIJ, y_wIR, y_wIN, y_wIw, y_sI, ↓reduceIte, Nat.reduceEqDiff, eq_self, true_or, or_true, false_or, or_false, and_true, true_and, false_and, and_false, not_true, not_false_eq_true, tf_T, tf_F, y_up1, y_up2, y_xx, y_nx, y_sJ, y_sR, Int32.reduceLT, y_nxK, y_nxL, y_nxR, y_sJK, y_sJL, y_sJR, y_sJN, y_sRK, y_sRL, y_sRN, Nat.add_zero, z_nat, z_lit, z_lit0, z_lit1, z_in0, z_in1, z_addl0, z_lt, z_ltl, z_llt, z_inj, z_injl, z_add, z_addl, z_ladd, z_mul, z_mull, z_lmul, z_neg, z_negl, z_in, z_inl, z_ltT, z_ltF, z_eqF, z_10, z_01, z_litne, z_ne0, z_0ne, z_ne1, z_1ne, z_lt64, z_02, z_03, z_04, z_05, z_12, z_13, z_14, z_15, z_20, z_21, z_23, z_24, z_25, z_30, z_31, z_32, z_34, z_35, z_40, z_41, z_42, z_43, z_45, z_50, z_51, z_52, z_53, z_54]), ?_, ⟨h.1, fun s hs => ?_, fun q s hs => ?_, fun q s hs => ?_, ?_, ?_, ?_, fun k hk => ?_, ?_⟩, Jq.rf B, fun q k hq => ?_⟩
  · rw [y_up2 (by omega), h2 _ _ (by omega), y_up1 rfl rfl]
  · rw [y_up2 (by omega), h1 s hs, y_up2 (by omega)]
    exact (h.2.2.1 g s hs)
  · exact absurd (show false = true from q) Bool.false_ne_true
  · rw [y_up2 (by omega), h2 _ _ (by omega), y_up2 (by omega)]
    exact h.2.2.2.1 q s hs
  · rw [y_up1 rfl rfl]
    rfl
  · rw [y_up2 (by omega), h2 _ _ (by omega), y_up2 (by omega)]
    exact h.2.2.2.2.2.1
  · rw [y_up2 (by omega), h2 _ _ (by omega), y_up2 (by omega)]
    exact h.2.2.2.2.2.2.1
  · rw [y_up2 (by omega), h2 _ _ (by omega), y_up2 (by omega)]
    exact h.2.2.2.2.2.2.2.1 k hk
  · rw [y_up2 (by omega), h2 _ _ (by omega), y_up2 (by omega)]
    exact h.2.2.2.2.2.2.2.2
  · rw [y_up2 (by omega), h2 _ _ (by omega), y_up2 (by omega)]
theorem mcp_keep (hM : Md B) : ∃ j, am_fx am_P d 16 7 [some (.ref 874), some (.int 0)] [] (am_wI B i) = some ((.inl none), am_wI B (am_up2 j 874 4 1)) ∧ (∀ s, s < 12042 → j 876 s = i 875 s) ∧ ∀ q k, q ≠ 876 → j q k = i q k := by
  obtain ⟨j, e, h1, h2⟩ := lp_inv (fun k j => am_fx am_P d 16 7 [some (.ref 874), some (.int (Int32.ofNat k))] [] (am_wI B j)) (fun k j => (∀ s, s < k → j 876 s = i 875 s) ∧ ∀ q k', q ≠ 876 → j q k' = i q k') 12042 (fun k j hk hI => by
    refine ⟨am_up2 j 876 k (j 875 k), ?_, fun s hs => ?_, fun q k' hq => ?_⟩
    · rw [bk_16_7]
      simp (disch := omega) only [hM, y_ckd, y_ck2d, y_ond, y_onn, y_oI, y_oIx, y_oJ, y_oV, y_oVx, y_oR, y_oRn, y_oRx, y_b0, y_b1, y_bi, y_bid, y_wIK, y_wIL, y_wII, y_wIJ, y_wIR, y_wIN, y_wIw, y_sI, ↓reduceIte, Nat.reduceEqDiff, eq_self, true_or, or_true, false_or, or_false, and_true, true_and, false_and, and_false, not_true, not_false_eq_true, tf_T, tf_F, y_up1, y_up2, y_xx, y_nx, y_sJ, y_sR, Int32.reduceLT, y_nxK, y_nxL, y_nxR, y_sJK, y_sJL, y_sJR, y_sJN, y_sRK, y_sRL, y_sRN, Nat.add_zero, z_nat, z_lit, z_lit0, z_lit1, z_in0, z_in1, z_addl0, z_lt, z_ltl, z_llt, z_inj, z_injl, z_add, z_addl, z_ladd, z_mul, z_mull, z_lmul, z_neg, z_negl, z_in, z_inl, z_ltT, z_ltF, z_eqF, z_10, z_01, z_litne, z_ne0, z_0ne, z_ne1, z_1ne, z_lt64, z_02, z_03, z_04, z_05, z_12, z_13, z_14, z_15, z_20, z_21, z_23, z_24, z_25, z_30, z_31, z_32, z_34, z_35, z_40, z_41, z_42, z_43, z_45, z_50, z_51, z_52, z_53, z_54]
    · by_cases e : s = k
      · rw [y_up1 rfl e, e]
        exact hI.2 _ _ (by omega)
      · rw [y_up2 (by omega)]
        exact hI.1 s (by omega)
    · rw [y_up2 (by omega)]
      exact hI.2 q k' hq) i ⟨fun s hs => absurd hs (Nat.not_lt_zero s), fun _ _ _ => rfl⟩
  refine ⟨j, e.trans ?_, h1, h2⟩
  rw [bk_16_7]
  simp (disch := omega) only [hM, y_ckd, y_ck2d, y_ond, y_onn, y_oI, y_oIx, y_oJ, y_oV, y_oVx, y_oR, y_oRn, y_oRx, y_b0, y_b1, y_bi, y_bid, y_wIK, y_wIL, y_wII, y_wIJ, y_wIR, y_wIN, y_wIw, y_sI, ↓reduceIte, Nat.reduceEqDiff, eq_self, true_or, or_true, false_or, or_false, and_true, true_and, false_and, and_false, not_true, not_false_eq_true, tf_T, tf_F, y_up1, y_up2, y_xx, y_nx, y_sJ, y_sR, Int32.reduceLT, y_nxK, y_nxL, y_nxR, y_sJK, y_sJL, y_sJR, y_sJN, y_sRK, y_sRL, y_sRN, Nat.add_zero, z_nat, z_lit, z_lit0, z_lit1, z_in0, z_in1, z_addl0, z_lt, z_ltl, z_llt, z_inj, z_injl, z_add, z_addl, z_ladd, z_mul, z_mull, z_lmul, z_neg, z_negl, z_in, z_inl, z_ltT, z_ltF, z_eqF, z_10, z_01, z_litne, z_ne0, z_0ne, z_ne1, z_1ne, z_lt64, z_02, z_03, z_04, z_05, z_12, z_13, z_14, z_15, z_20, z_21, z_23, z_24, z_25, z_30, z_31, z_32, z_34, z_35, z_40, z_41, z_42, z_43, z_45, z_50, z_51, z_52, z_53, z_54]
theorem m_keep (h : MR B i σ)  : MRs B i (σ.1, σ.2.1, σ.1, σ.2.2.2.1, true, σ.2.2.2.2.2) (am_fx am_P (d + 150) 16 0 [some (.ref 874), none] [] (am_wI B i)) none 0 := by
  have hM : Md B := h.1.1
  obtain ⟨j, E, h1, h2⟩ := mcp_keep (d := d + 150) (i := am_up2 i 874 0 0) hM
  refine ⟨B, am_up2 j 874 4 1, (by rw [bk_16_0]; simp (disch := omega) only [E, hM, y_ckd, y_ck2d, y_ond, y_onn, y_oI, y_oIx, y_oJ, y_oV, y_oVx, y_oR, y_oRn, y_oRx, y_b0, y_b1, y_bi, y_bid, y_wIK, y_wIL, y_wII, y_wIJ, y_wIR, y_wIN, y_wIw, y_sI, ↓reduceIte, Nat.reduceEqDiff, eq_self, true_or, or_true, false_or, or_false, and_true, true_and, false_and, and_false, not_true, not_false_eq_true, tf_T, tf_F, y_up1, y_up2, y_xx, y_nx, y_sJ, y_sR, Int32.reduceLT, y_nxK, y_nxL, y_nxR, y_sJK, y_sJL, y_sJR, y_sJN, y_sRK, y_sRL, y_sRN, Nat.add_zero, z_nat, z_lit, z_lit0, z_lit1, z_in0, z_in1, z_addl0, z_lt, z_ltl, z_llt, z_inj, z_injl, z_add, z_addl, z_ladd, z_mul, z_mull, z_lmul, z_neg, z_negl, z_in, z_inl, z_ltT, z_ltF, z_eqF, z_10, z_01, z_litne, z_ne0, z_0ne, z_ne1, z_1ne, z_lt64, z_02, z_03, z_04, z_05, z_12, z_13, z_14, z_15, z_20, z_21, z_23, z_24, z_25, z_30, z_31, z_32, z_34, z_35, z_40, z_41, z_42, z_43, z_45, z_50, z_51, z_52, z_53, z_54]), ?_, ⟨h.1, fun s hs => ?_, fun q s hs => ?_, fun q s hs => ?_, ?_, ?_, ?_, fun k hk => ?_, ?_⟩, Jq.rf B, fun q k hq => ?_⟩
  · rw [y_up2 (by omega), h2 _ _ (by omega), y_up1 rfl rfl]
  · rw [y_up2 (by omega), h2 _ _ (by omega), y_up2 (by omega)]
    exact h.2.1 s hs
  · rw [y_up2 (by omega), h2 _ _ (by omega), y_up2 (by omega)]
    exact h.2.2.1 q s hs
  · rw [y_up2 (by omega), h1 s hs, y_up2 (by omega)]
    exact h.2.1 s hs
  · rw [y_up2 (by omega), h2 _ _ (by omega), y_up2 (by omega)]
    exact h.2.2.2.2.1
  · rw [y_up1 rfl rfl]
    rfl
  · rw [y_up2 (by omega), h2 _ _ (by omega), y_up2 (by omega)]
    exact h.2.2.2.2.2.2.1
  · rw [y_up2 (by omega), h2 _ _ (by omega), y_up2 (by omega)]
    exact h.2.2.2.2.2.2.2.1 k hk
  · rw [y_up2 (by omega), h2 _ _ (by omega), y_up2 (by omega)]
    exact h.2.2.2.2.2.2.2.2
  · rw [y_up2 (by omega), h2 _ _ (by omega), y_up2 (by omega)]
theorem mcp_back (hM : Md B) : ∃ j, am_fx am_P d 17 16 [some (.ref 874), some (.int 0)] [] (am_wI B i) = some ((.inl (some (.int 1))), am_wI B (am_up2 j 874 5 0)) ∧ (∀ s, s < 12042 → j 875 s = i 876 s) ∧ ∀ q k, q ≠ 875 → j q k = i q k := by
  obtain ⟨j, e, h1, h2⟩ := lp_inv (fun k j => am_fx am_P d 17 16 [some (.ref 874), some (.int (Int32.ofNat k))] [] (am_wI B j)) (fun k j => (∀ s, s < k → j 875 s = i 876 s) ∧ ∀ q k', q ≠ 875 → j q k' = i q k') 12042 (fun k j hk hI => by
    refine ⟨am_up2 j 875 k (j 876 k), ?_, fun s hs => ?_, fun q k' hq => ?_⟩
    · rw [bk_17_16]
      simp (disch := omega) only [hM, y_ckd, y_ck2d, y_ond, y_onn, y_oI, y_oIx, y_oJ, y_oV, y_oVx, y_oR, y_oRn, y_oRx, y_b0, y_b1, y_bi, y_bid, y_wIK, y_wIL, y_wII, y_wIJ, y_wIR, y_wIN, y_wIw, y_sI, ↓reduceIte, Nat.reduceEqDiff, eq_self, true_or, or_true, false_or, or_false, and_true, true_and, false_and, and_false, not_true, not_false_eq_true, tf_T, tf_F, y_up1, y_up2, y_xx, y_nx, y_sJ, y_sR, Int32.reduceLT, y_nxK, y_nxL, y_nxR, y_sJK, y_sJL, y_sJR, y_sJN, y_sRK, y_sRL, y_sRN, Nat.add_zero, z_nat, z_lit, z_lit0, z_lit1, z_in0, z_in1, z_addl0, z_lt, z_ltl, z_llt, z_inj, z_injl, z_add, z_addl, z_ladd, z_mul, z_mull, z_lmul, z_neg, z_negl, z_in, z_inl, z_ltT, z_ltF, z_eqF, z_10, z_01, z_litne, z_ne0, z_0ne, z_ne1, z_1ne, z_lt64, z_02, z_03, z_04, z_05, z_12, z_13, z_14, z_15, z_20, z_21, z_23, z_24, z_25, z_30, z_31, z_32, z_34, z_35, z_40, z_41, z_42, z_43, z_45, z_50, z_51, z_52, z_53, z_54]
    · by_cases e : s = k
      · rw [y_up1 rfl e, e]
        exact hI.2 _ _ (by omega)
      · rw [y_up2 (by omega)]
        exact hI.1 s (by omega)
    · rw [y_up2 (by omega)]
      exact hI.2 q k' hq) i ⟨fun s hs => absurd hs (Nat.not_lt_zero s), fun _ _ _ => rfl⟩
  refine ⟨j, e.trans ?_, h1, h2⟩
  rw [bk_17_16]
  simp (disch := omega) only [hM, y_ckd, y_ck2d, y_ond, y_onn, y_oI, y_oIx, y_oJ, y_oV, y_oVx, y_oR, y_oRn, y_oRx, y_b0, y_b1, y_bi, y_bid, y_wIK, y_wIL, y_wII, y_wIJ, y_wIR, y_wIN, y_wIw, y_sI, ↓reduceIte, Nat.reduceEqDiff, eq_self, true_or, or_true, false_or, or_false, and_true, true_and, false_and, and_false, not_true, not_false_eq_true, tf_T, tf_F, y_up1, y_up2, y_xx, y_nx, y_sJ, y_sR, Int32.reduceLT, y_nxK, y_nxL, y_nxR, y_sJK, y_sJL, y_sJR, y_sJN, y_sRK, y_sRL, y_sRN, Nat.add_zero, z_nat, z_lit, z_lit0, z_lit1, z_in0, z_in1, z_addl0, z_lt, z_ltl, z_llt, z_inj, z_injl, z_add, z_addl, z_ladd, z_mul, z_mull, z_lmul, z_neg, z_negl, z_in, z_inl, z_ltT, z_ltF, z_eqF, z_10, z_01, z_litne, z_ne0, z_0ne, z_ne1, z_1ne, z_lt64, z_02, z_03, z_04, z_05, z_12, z_13, z_14, z_15, z_20, z_21, z_23, z_24, z_25, z_30, z_31, z_32, z_34, z_35, z_40, z_41, z_42, z_43, z_45, z_50, z_51, z_52, z_53, z_54]
theorem m_back (h : MR B i σ) (g : σ.2.2.2.2.1 = true) : MRs B i (σ.2.2.1, σ.2.1, σ.2.2.1, false, σ.2.2.2.2) (am_fx am_P (d + 150) 17 0 [some (.ref 874), none] [] (am_wI B i)) (some (.int 1)) 0 := by
  have hM : Md B := h.1.1
  have e5 : i 874 4 = 1 := h.2.2.2.2.2.1.trans (tf_t g)
  obtain ⟨j, E, h1, h2⟩ := mcp_back (d := d + 150) (i := am_up2 i 874 0 0) hM
  refine ⟨B, am_up2 j 874 5 0, (by rw [bk_17_0]; simp (disch := omega) only [e5, E, hM, y_ckd, y_ck2d, y_ond, y_onn, y_oI, y_oIx, y_oJ, y_oV, y_oVx, y_oR, y_oRn, y_oRx, y_b0, y_b1, y_bi, y_bid, y_wIK, y_wIL, y_wII, y_wIJ, y_wIR, y_wIN, y_wIw, y_sI, ↓reduceIte, Nat.reduceEqDiff, eq_self, true_or, or_true, false_or, or_false, and_true, true_and, false_and, and_false, not_true, not_false_eq_true, tf_T, tf_F, y_up1, y_up2, y_xx, y_nx, y_sJ, y_sR, Int32.reduceLT, y_nxK, y_nxL, y_nxR, y_sJK, y_sJL, y_sJR, y_sJN, y_sRK, y_sRL, y_sRN, Nat.add_zero, z_nat, z_lit, z_lit0, z_lit1, z_in0, z_in1, z_addl0, z_lt, z_ltl, z_llt, z_inj, z_injl, z_add, z_addl, z_ladd, z_mul, z_mull, z_lmul, z_neg, z_negl, z_in, z_inl, z_ltT, z_ltF, z_eqF, z_10, z_01, z_litne, z_ne0, z_0ne, z_ne1, z_1ne, z_lt64, z_02, z_03, z_04, z_05, z_12, z_13, z_14, z_15, z_20, z_21, z_23, z_24, z_25, z_30, z_31, z_32, z_34, z_35, z_40, z_41, z_42, z_43, z_45, z_50, z_51, z_52, z_53, z_54]), ?_, ⟨h.1, fun s hs => ?_, fun q s hs => ?_, fun q s hs => ?_, ?_, ?_, ?_, fun k hk => ?_, ?_⟩, Jq.rf B, fun q k hq => ?_⟩
  · rw [y_up2 (by omega), h2 _ _ (by omega), y_up1 rfl rfl]
  · rw [y_up2 (by omega), h1 s hs, y_up2 (by omega)]
    exact (h.2.2.2.1 g s hs)
  · exact absurd (show false = true from q) Bool.false_ne_true
  · rw [y_up2 (by omega), h2 _ _ (by omega), y_up2 (by omega)]
    exact h.2.2.2.1 q s hs
  · rw [y_up1 rfl rfl]
    rfl
  · rw [y_up2 (by omega), h2 _ _ (by omega), y_up2 (by omega)]
    exact h.2.2.2.2.2.1
  · rw [y_up2 (by omega), h2 _ _ (by omega), y_up2 (by omega)]
    exact h.2.2.2.2.2.2.1
  · rw [y_up2 (by omega), h2 _ _ (by omega), y_up2 (by omega)]
    exact h.2.2.2.2.2.2.2.1 k hk
  · rw [y_up2 (by omega), h2 _ _ (by omega), y_up2 (by omega)]
    exact h.2.2.2.2.2.2.2.2
  · rw [y_up2 (by omega), h2 _ _ (by omega), y_up2 (by omega)]
theorem f_undo (h : CR B i σ) (hW : Wd σ.2.1) (g : σ.2.2.2.1 = true) : FRs B i (σ.2.1, σ.2.1, σ.2.2.1, false, σ.2.2.2.2) (am_fx am_P (d + 150) 341 0 [some (.ref 64)] [] (am_wI B i)) (.inl (some (.int 1))) := by
  obtain ⟨B1, i1, E, hC, hS, hf⟩ := c_undo (d := d + 144) h hW g
  exact ⟨B1, i1, E, hC, Sr.le hS (by omega), ⟨by rw [hS.2.2.2.1]; omega, by rw [hS.2.2.2.2.1]; omega⟩, fun q k hq => hf q k (by omega) (by omega)⟩
theorem f_undo0 (h : CR B i σ) (g : σ.2.2.2.1 = false) : FRs B i σ (am_fx am_P (d + 150) 341 0 [some (.ref 64)] [] (am_wI B i)) (.inl (some (.int 0))) := by
  refine FRs_0 h ?_
  have hF : Fc B := h.1.1
  have e5 : i 64 5 = 0 := h.2.2.2.2.1.trans (tf_f g)
  rw [bk_341_0]
  simp (disch := omega) only [e5, hF, y_ckd, y_ck2d, y_ond, y_onn, y_oI, y_oIx, y_oJ, y_oV, y_oVx, y_oR, y_oRn, y_oRx, y_b0, y_b1, y_bi, y_bid, y_wIK, y_wIL, y_wII, y_wIJ, y_wIR, y_wIN, y_wIw, y_sI, ↓reduceIte, Nat.reduceEqDiff, eq_self, true_or, or_true, false_or, or_false, and_true, true_and, false_and, and_false, not_true, not_false_eq_true, tf_T, tf_F, y_up1, y_up2, y_xx, y_nx, y_sJ, y_sR, Int32.reduceLT, y_nxK, y_nxL, y_nxR, y_sJK, y_sJL, y_sJR, y_sJN, y_sRK, y_sRL, y_sRN, Nat.add_zero, z_nat, z_lit, z_lit0, z_lit1, z_in0, z_in1, z_addl0, z_lt, z_ltl, z_llt, z_inj, z_injl, z_add, z_addl, z_ladd, z_mul, z_mull, z_lmul, z_neg, z_negl, z_in, z_inl, z_ltT, z_ltF, z_eqF, z_10, z_01, z_litne, z_ne0, z_0ne, z_ne1, z_1ne, z_lt64, z_02, z_03, z_04, z_05, z_12, z_13, z_14, z_15, z_20, z_21, z_23, z_24, z_25, z_30, z_31, z_32, z_34, z_35, z_40, z_41, z_42, z_43, z_45, z_50, z_51, z_52, z_53, z_54]
theorem m_undo0 (h : MR B i σ) (g : σ.2.2.2.1 = false) : MRs B i σ (am_fx am_P (d + 150) 15 0 [some (.ref 874), none] [] (am_wI B i)) (some (.int 0)) 0 := by
  refine MRs_0 h ?_
  have hM : Md B := h.1.1
  have e5 : i 874 5 = 0 := h.2.2.2.2.1.trans (tf_f g)
  rw [bk_15_0]
  simp (disch := omega) only [e5, hM, y_ckd, y_ck2d, y_ond, y_onn, y_oI, y_oIx, y_oJ, y_oV, y_oVx, y_oR, y_oRn, y_oRx, y_b0, y_b1, y_bi, y_bid, y_wIK, y_wIL, y_wII, y_wIJ, y_wIR, y_wIN, y_wIw, y_sI, ↓reduceIte, Nat.reduceEqDiff, eq_self, true_or, or_true, false_or, or_false, and_true, true_and, false_and, and_false, not_true, not_false_eq_true, tf_T, tf_F, y_up1, y_up2, y_xx, y_nx, y_sJ, y_sR, Int32.reduceLT, y_nxK, y_nxL, y_nxR, y_sJK, y_sJL, y_sJR, y_sJN, y_sRK, y_sRL, y_sRN, Nat.add_zero, z_nat, z_lit, z_lit0, z_lit1, z_in0, z_in1, z_addl0, z_lt, z_ltl, z_llt, z_inj, z_injl, z_add, z_addl, z_ladd, z_mul, z_mull, z_lmul, z_neg, z_negl, z_in, z_inl, z_ltT, z_ltF, z_eqF, z_10, z_01, z_litne, z_ne0, z_0ne, z_ne1, z_1ne, z_lt64, z_02, z_03, z_04, z_05, z_12, z_13, z_14, z_15, z_20, z_21, z_23, z_24, z_25, z_30, z_31, z_32, z_34, z_35, z_40, z_41, z_42, z_43, z_45, z_50, z_51, z_52, z_53, z_54]
theorem k_undo (h : Sim B i σ) (hs : Sc B i L j) (hO : am_K B 892 = 22 ∧ am_L B 892 = 1) : Stq B i d 3584 j := by
  by_cases g : σ.2.2.2.1 = true
  · exact kk_50 (σ' := (σ.2.1, σ.2.1, σ.2.2.1, false, σ.2.2.2.2)) h hs hO ⟨h.2.2.2.1 g, fun q => absurd (show false = true from q) Bool.false_ne_true, h.2.2.2.2.1, h.2.2.2.2.2⟩ (f_undo (d := d + 49) h.1 (h.2.2.2.1 g) g) fun B0 i0 h0 => m_undo (d := d + 49) h0 g
  · have g : σ.2.2.2.1 = false := Bool.eq_false_iff.mpr g
    exact kk_50 h hs hO h.2.2 (f_undo0 (d := d + 49) h.1 g) fun B0 i0 h0 => m_undo0 (d := d + 49) h0 g
theorem f_keep (h : CR B i σ) (hW : Wd σ.1)  : FRs B i (σ.1, σ.2.1, σ.1, σ.2.2.2.1, true, σ.2.2.2.2.2) (am_fx am_P (d + 150) 342 0 [some (.ref 64)] [] (am_wI B i)) (.inl none) := by
  obtain ⟨B1, i1, E, hC, hS, hf⟩ := c_keep (d := d + 144) h hW 
  exact ⟨B1, i1, E, hC, Sr.le hS (by omega), ⟨by rw [hS.2.2.2.1]; omega, by rw [hS.2.2.2.2.1]; omega⟩, fun q k hq => hf q k (by omega) (by omega)⟩
theorem k_keep (h : Sim B i σ) (hs : Sc B i L j) (hO : am_K B 892 = 22 ∧ am_L B 892 = 1) : Stq B i d 3597 j :=
  kk_51 (σ' := (σ.1, σ.2.1, σ.1, σ.2.2.2.1, true, σ.2.2.2.2.2)) h hs hO ⟨h.2.2.1, h.2.2.2.1, fun _ => h.2.2.1, h.2.2.2.2.2⟩ (f_keep (d := d + 49) h.1 h.2.2.1) fun B0 i0 h0 => m_keep (d := d + 49) h0
theorem f_back (h : CR B i σ) (hW : Wd σ.2.2.1) (g : σ.2.2.2.2.1 = true) : FRs B i (σ.2.2.1, σ.2.1, σ.2.2.1, false, σ.2.2.2.2) (am_fx am_P (d + 150) 343 0 [some (.ref 64)] [] (am_wI B i)) (.inl (some (.int 1))) := by
  obtain ⟨B1, i1, E, hC, hS, hf⟩ := c_back (d := d + 144) h hW g
  exact ⟨B1, i1, E, hC, Sr.le hS (by omega), ⟨by rw [hS.2.2.2.1]; omega, by rw [hS.2.2.2.2.1]; omega⟩, fun q k hq => hf q k (by omega) (by omega)⟩
theorem f_back0 (h : CR B i σ) (g : σ.2.2.2.2.1 = false) : FRs B i σ (am_fx am_P (d + 150) 343 0 [some (.ref 64)] [] (am_wI B i)) (.inl (some (.int 0))) := by
  refine FRs_0 h ?_
  have hF : Fc B := h.1.1
  have e5 : i 64 6 = 0 := h.2.2.2.2.2.1.trans (tf_f g)
  rw [bk_343_0]
  simp (disch := omega) only [e5, hF, y_ckd, y_ck2d, y_ond, y_onn, y_oI, y_oIx, y_oJ, y_oV, y_oVx, y_oR, y_oRn, y_oRx, y_b0, y_b1, y_bi, y_bid, y_wIK, y_wIL, y_wII, y_wIJ, y_wIR, y_wIN, y_wIw, y_sI, ↓reduceIte, Nat.reduceEqDiff, eq_self, true_or, or_true, false_or, or_false, and_true, true_and, false_and, and_false, not_true, not_false_eq_true, tf_T, tf_F, y_up1, y_up2, y_xx, y_nx, y_sJ, y_sR, Int32.reduceLT, y_nxK, y_nxL, y_nxR, y_sJK, y_sJL, y_sJR, y_sJN, y_sRK, y_sRL, y_sRN, Nat.add_zero, z_nat, z_lit, z_lit0, z_lit1, z_in0, z_in1, z_addl0, z_lt, z_ltl, z_llt, z_inj, z_injl, z_add, z_addl, z_ladd, z_mul, z_mull, z_lmul, z_neg, z_negl, z_in, z_inl, z_ltT, z_ltF, z_eqF, z_10, z_01, z_litne, z_ne0, z_0ne, z_ne1, z_1ne, z_lt64, z_02, z_03, z_04, z_05, z_12, z_13, z_14, z_15, z_20, z_21, z_23, z_24, z_25, z_30, z_31, z_32, z_34, z_35, z_40, z_41, z_42, z_43, z_45, z_50, z_51, z_52, z_53, z_54]
theorem m_back0 (h : MR B i σ) (g : σ.2.2.2.2.1 = false) : MRs B i σ (am_fx am_P (d + 150) 17 0 [some (.ref 874), none] [] (am_wI B i)) (some (.int 0)) 0 := by
  refine MRs_0 h ?_
  have hM : Md B := h.1.1
  have e5 : i 874 4 = 0 := h.2.2.2.2.2.1.trans (tf_f g)
  rw [bk_17_0]
  simp (disch := omega) only [e5, hM, y_ckd, y_ck2d, y_ond, y_onn, y_oI, y_oIx, y_oJ, y_oV, y_oVx, y_oR, y_oRn, y_oRx, y_b0, y_b1, y_bi, y_bid, y_wIK, y_wIL, y_wII, y_wIJ, y_wIR, y_wIN, y_wIw, y_sI, ↓reduceIte, Nat.reduceEqDiff, eq_self, true_or, or_true, false_or, or_false, and_true, true_and, false_and, and_false, not_true, not_false_eq_true, tf_T, tf_F, y_up1, y_up2, y_xx, y_nx, y_sJ, y_sR, Int32.reduceLT, y_nxK, y_nxL, y_nxR, y_sJK, y_sJL, y_sJR, y_sJN, y_sRK, y_sRL, y_sRN, Nat.add_zero, z_nat, z_lit, z_lit0, z_lit1, z_in0, z_in1, z_addl0, z_lt, z_ltl, z_llt, z_inj, z_injl, z_add, z_addl, z_ladd, z_mul, z_mull, z_lmul, z_neg, z_negl, z_in, z_inl, z_ltT, z_ltF, z_eqF, z_10, z_01, z_litne, z_ne0, z_0ne, z_ne1, z_1ne, z_lt64, z_02, z_03, z_04, z_05, z_12, z_13, z_14, z_15, z_20, z_21, z_23, z_24, z_25, z_30, z_31, z_32, z_34, z_35, z_40, z_41, z_42, z_43, z_45, z_50, z_51, z_52, z_53, z_54]
theorem k_back (h : Sim B i σ) (hs : Sc B i L j) (hO : am_K B 892 = 22 ∧ am_L B 892 = 1) : Stq B i d 3608 j := by
  by_cases g : σ.2.2.2.2.1 = true
  · exact kk_52 (σ' := (σ.2.2.1, σ.2.1, σ.2.2.1, false, σ.2.2.2.2)) h hs hO ⟨h.2.2.2.2.1 g, fun q => absurd (show false = true from q) Bool.false_ne_true, h.2.2.2.2.1, h.2.2.2.2.2⟩ (f_back (d := d + 49) h.1 (h.2.2.2.2.1 g) g) fun B0 i0 h0 => m_back (d := d + 49) h0 g
  · have g : σ.2.2.2.2.1 = false := Bool.eq_false_iff.mpr g
    exact kk_52 h hs hO h.2.2 (f_back0 (d := d + 49) h.1 g) fun B0 i0 h0 => m_back0 (d := d + 49) h0 g
end Mem
