/-! A SHIP OPENS UP, THE CLASS: made by wip/whole/math/90b.py. -/
/-- the ship opens or not -/
def opS (t : Option Nat) (s : Nat) (w : Nat → Int32) : Nat → Int32 := if w (2622 + 49 * s) = 4 ∧ 80 < wrst w s then opB w s t else w
section Opens2
variable {B : am_A} {i j : Nat → Nat → Int32} {w v : Nat → Int32} {d b q n p s k : Nat} {x y z D : Int32} {t : Option Nat}
theorem ShW_v (h : Wd w) (hs : s < cn w 2621) (s8 : s < 8) : isc w (2622 + 49 * s + 8) 8 ∧ ∀ n, n < cn w (2622 + 49 * s + 8) → n < 8 → w (2622 + 49 * s + 9 + 5 * n + 4) = -1 ∨ ¬ w (2622 + 49 * s + 9 + 5 * n + 4) < 0 ∧ w (2622 + 49 * s + 9 + 5 * n + 4) < w 460 := by
  obtain ⟨a0, a1, a3, a4, a5, a6, a7, a8, a9⟩ := h.2.2.2.2.1.1 s hs s8
  exact ⟨a8, fun n hn n8 => (a9 n hn n8).2⟩
theorem Rep_tf (h : Rep B i b w) (hb : b + 260 ≤ 874) (hj : ∀ k, k ≠ 3 → j (b + 7) k = i (b + 7) k) (hq : ∀ q k, q ≠ b + 7 → q ≠ b + 10 → j q k = i q k) : Rep B j b w := by
  refine Rep_fr h (Le.rf B) rfl (fun q k h1 h2 h3 h4 h5 h6 => ?_) (fun q h1 _ => funext fun k => hq q k (by omega) (by omega)) fun _ _ => rfl
  by_cases e : q = b + 7
  · rw [e]
    exact hj k (h3 e)
  · exact hq q k e h4
theorem c_openUp (hY : Yd B b) (hb : b + 260 ≤ 874) (hR : Rep B i b w) (hW : Wd w) (hs : s < cn w 2621) (s8 : s < 8) (g4 : w (2622 + 49 * s) = 4) (ht : ∀ k, t = some k → k < cn w 3541 ∧ k < 10) : ∃ j, am_fx am_P (d + 4) 246 0 [some (.ref b), some (.int (Int32.ofNat s)), some (txq B b t), none] [] (am_wI B i) = some (.inl none, am_wI B j) ∧ Rep B j b (opB w s t) ∧ ∀ q k, (q < b ∨ b + 260 ≤ q) → j q k = i q k := by
  have hRA := Rep_opA hR hb s8
  have hWA := Wd_opA hW hs s8 g4
  have c21 : cn (opA w s) 2621 = cn w 2621 := by unfold cn; rw [opA_ne (by omega)]
  have c41 : cn (opA w s) 3541 = cn w 3541 := by unfold cn; rw [opA_ne (by omega)]
  obtain ⟨a3, a1, a0, a2, a4, a5, a6, a7, a8, a9⟩ := hR.2.2.2.1.2 s hs s8
  have k14 := hR.1.2.2.2.2.1
  have k0 := hR.1.1
  have h3 := (hW.2.2.2.2.1.1 s hs s8).2.2.1
  generalize ei : am_up2 (am_up2 (am_up2 i (b + 212 + 6 * s) 3 2) (b + 212 + 6 * s) 6 1) b 14 (w 4 + 1) = i1 at hRA
  have fo : ∀ q k, (q < b ∨ b + 260 ≤ q) → i1 q k = i q k := fun q k hq => by rw [← ei]; simp (disch := omega) only [y_up2]
  have e2 : i1 (b + 212 + 6 * s) 2 = w (2622 + 49 * s + 3) := by rw [← ei]; simp (disch := omega) only [y_up2]; exact a2
  have e5 : i1 (b + 212 + 6 * s) 5 = w (2622 + 49 * s + 5) := by rw [← ei]; simp (disch := omega) only [y_up2]; exact a5
  have e7 : i1 (b + 212 + 6 * s) 7 = w (2622 + 49 * s + 7) := by rw [← ei]; simp (disch := omega) only [y_up2]; exact a7
  have e0 : i1 b 0 = w 0 := by rw [← ei]; simp (disch := omega) only [y_up2]; exact k0
  have hc21 := hWA.1.2.2.2.1
  have h460 := hWA.1.2.2.1
  obtain ⟨hn, hv⟩ := ShW_v hWA (by omega : s < cn (opA w s) 2621) s8
  unfold opB
  by_cases g : w (2622 + 49 * s + 3) = 0
  · rw [if_pos g]
    refine ⟨i1, ?_, hRA, fo⟩
    cases t with
    | none =>
      simp only [txq]
      rw [bk_246_0]
      simp (disch := omega) only [bk_246_17, k14, a2, g, hY, y_ckd, y_ck2d, y_ond, y_onn, y_oI, y_oIx, y_oJ, y_oV, y_oVx, y_oR, y_oRn, y_oRx, y_b0, y_b1, y_bi, y_bid, y_wIK, y_wIL, y_wII, y_wIJ, y_wIR, y_wIN, y_wIw, y_sI, ↓reduceIte, Nat.reduceEqDiff, eq_self, true_or, or_true, false_or, or_false, and_true, true_and, false_and, and_false, not_true, not_false_eq_true, tf_T, tf_F, y_up1, y_up2, y_xx, y_nx, y_sJ, y_sR, Int32.reduceLT, y_nxK, y_nxL, y_nxR, y_sJK, y_sJL, y_sJR, y_sJN, y_sRK, y_sRL, y_sRN, Nat.add_zero, z_nat, z_lit, z_lit0, z_lit1, z_in0, z_in1, z_addl0, z_lt, z_ltl, z_llt, z_inj, z_injl, z_add, z_addl, z_ladd, z_mul, z_mull, z_lmul, z_neg, z_negl, z_in, z_inl, z_ltT, z_ltF, z_eqF, z_10, z_01, z_litne, z_ne0, z_0ne, z_ne1, z_1ne, z_lt64, z_02, z_03, z_04, z_05, z_12, z_13, z_14, z_15, z_20, z_21, z_23, z_24, z_25, z_30, z_31, z_32, z_34, z_35, z_40, z_41, z_42, z_43, z_45, z_50, z_51, z_52, z_53, z_54]
      rw [ei]
    | some k =>
      obtain ⟨kc, k10⟩ := ht k rfl
      obtain ⟨-, q, eq, -⟩ := hR.2.2.2.2.2.2.2.2.2 k kc k10
      simp only [txq, eq]
      rw [bk_246_0_RIR_]
      simp (disch := omega) only [bk_246_17_RIRR_, k14, a2, g, hY, y_ckd, y_ck2d, y_ond, y_onn, y_oI, y_oIx, y_oJ, y_oV, y_oVx, y_oR, y_oRn, y_oRx, y_b0, y_b1, y_bi, y_bid, y_wIK, y_wIL, y_wII, y_wIJ, y_wIR, y_wIN, y_wIw, y_sI, ↓reduceIte, Nat.reduceEqDiff, eq_self, true_or, or_true, false_or, or_false, and_true, true_and, false_and, and_false, not_true, not_false_eq_true, tf_T, tf_F, y_up1, y_up2, y_xx, y_nx, y_sJ, y_sR, Int32.reduceLT, y_nxK, y_nxL, y_nxR, y_sJK, y_sJL, y_sJR, y_sJN, y_sRK, y_sRL, y_sRN, Nat.add_zero, z_nat, z_lit, z_lit0, z_lit1, z_in0, z_in1, z_addl0, z_lt, z_ltl, z_llt, z_inj, z_injl, z_add, z_addl, z_ladd, z_mul, z_mull, z_lmul, z_neg, z_negl, z_in, z_inl, z_ltT, z_ltF, z_eqF, z_10, z_01, z_litne, z_ne0, z_0ne, z_ne1, z_1ne, z_lt64, z_02, z_03, z_04, z_05, z_12, z_13, z_14, z_15, z_20, z_21, z_23, z_24, z_25, z_30, z_31, z_32, z_34, z_35, z_40, z_41, z_42, z_43, z_45, z_50, z_51, z_52, z_53, z_54]
      rw [ei]
  · rw [if_neg g]
    cases t with
    | none =>
      dsimp only
      refine ⟨i1, ?_, hRA, fo⟩
      simp only [txq]
      rw [bk_246_0]
      simp (disch := omega) only [bk_246_17, k14, a2, g, hY, y_ckd, y_ck2d, y_ond, y_onn, y_oI, y_oIx, y_oJ, y_oV, y_oVx, y_oR, y_oRn, y_oRx, y_b0, y_b1, y_bi, y_bid, y_wIK, y_wIL, y_wII, y_wIJ, y_wIR, y_wIN, y_wIw, y_sI, ↓reduceIte, Nat.reduceEqDiff, eq_self, true_or, or_true, false_or, or_false, and_true, true_and, false_and, and_false, not_true, not_false_eq_true, tf_T, tf_F, y_up1, y_up2, y_xx, y_nx, y_sJ, y_sR, Int32.reduceLT, y_nxK, y_nxL, y_nxR, y_sJK, y_sJL, y_sJR, y_sJN, y_sRK, y_sRL, y_sRN, Nat.add_zero, z_nat, z_lit, z_lit0, z_lit1, z_in0, z_in1, z_addl0, z_lt, z_ltl, z_llt, z_inj, z_injl, z_add, z_addl, z_ladd, z_mul, z_mull, z_lmul, z_neg, z_negl, z_in, z_inl, z_ltT, z_ltF, z_eqF, z_10, z_01, z_litne, z_ne0, z_0ne, z_ne1, z_1ne, z_lt64, z_02, z_03, z_04, z_05, z_12, z_13, z_14, z_15, z_20, z_21, z_23, z_24, z_25, z_30, z_31, z_32, z_34, z_35, z_40, z_41, z_42, z_43, z_45, z_50, z_51, z_52, z_53, z_54]
      rw [ei]
    | some k =>
      dsimp only
      obtain ⟨kc, k10⟩ := ht k rfl
      obtain ⟨-, q, eq, -, hL4, hT⟩ := hRA.2.2.2.2.2.2.2.2.2 k (by omega) k10
      have hX := hWA.2.2.2.2.2.2.2.2.1 k (by omega) k10
      obtain ⟨j4, E4, b3, bf, bk, bq⟩ := c_tellO (B := B) (d := d + 1) (i := i1) (x := w 0 - w (2622 + 49 * s + 5)) (y := ldr (opA w s) s) (z := wrst (opA w s) s) hY
      have hR4 : Rep B j4 b (opA w s) := Rep_tf hRA hb bk bq
      have E5 := c_gangsOn (d := d + 3) (x := Int32.ofNat s) hY hR4.2.2.2.2.1 hWA.1.2.2.2.2.2.1
      have E6 := c_tellShip (B := B) (i := j4) (d := d + 3) (x := 1) (y := ngg (opA w s) (Int32.ofNat s)) hY
      generalize ej : am_up2 (am_up2 j4 (b + 7) 3 (j4 (b + 7) 3 ||| if (1 : Int32) = 0 then 0 else 8)) (b + 10) 5 (ngg (opA w s) (Int32.ofNat s)) = j5 at E6
      have j5q : ∀ q k, q ≠ b + 7 → q ≠ b + 10 → j5 q k = j4 q k := fun q k h1 h2 => by rw [← ej]; simp (disch := omega) only [y_up2]
      have j5k : ∀ k, k ≠ 3 → j5 (b + 7) k = j4 (b + 7) k := fun k h => by rw [← ej]; simp (disch := omega) only [y_up2]
      have hR5 : Rep B j5 b (opA w s) := Rep_tf hR4 hb j5k j5q
      have hTg : TgC (j5 (b + 7) 3) (opF w s).1 := by
        have e : j5 (b + 7) 3 = (0 : Int32) ||| if (1 : Int32) = 0 then 0 else 8 := by rw [← ej, y_up2 (by omega), y_up1 rfl rfl, b3]
        rw [e]
        have e3 : opA w s (2622 + 49 * s + 3) = 1 := by rw [opA_ne (by omega)]; exact h3.resolve_left g
        exact tgo_ok e3.symm (Or.inr e3)
      have hf : ∀ m, m < 6 → j5 (b + 10) m = (opF w s).2 m := by
        intro m hm
        unfold opF fctO
        dsimp only
        by_cases m5 : m = 5
        · subst m5
          rw [← ej, y_up1 rfl rfl]
          rfl
        · rw [← ej, y_up2 (by omega), y_up2 (by omega), bf m hm, if_neg m5]
      obtain ⟨-, q', eq', -, hL5, hT5⟩ := hR5.2.2.2.2.2.2.2.2.2 k (by omega) k10
      obtain rfl : q = q' := Option.some.inj (eq.symm.trans eq')
      have E7 := c_sum (d := d + 1) (x := 2) (fc := opF w s) hY hT5 hX hL5 hTg hf
      have f7 : j5 (b + 212 + 6 * s) 7 = w (2622 + 49 * s + 7) := by rw [j5q _ _ (by omega) (by omega), bq _ _ (by omega) (by omega)]; exact e7
      have hRo := Rep_owe (x := mn 2000000000 (w (2622 + 49 * s + 7) + smO (opA w s) (3542 + 850 * k) (opF w s) 2)) hR5 hb (by omega : s < cn (opA w s) 2621) s8
      refine ⟨_, ?_, hRo, fun q k hq => ?_⟩
      · have El := c_ldry (d := d) hY hRA.2.2.2.1 hc21 (by omega : s < cn (opA w s) 2621) hn hRA.2.2.1 h460 hv
        have Ew := c_worst (d := d) hY hRA.2.2.2.1 hc21 (by omega : s < cn (opA w s) 2621) hn hRA.2.2.1 h460 hv
        have h77 : am_fx am_P (d + 4) 246 77 [some (.ref b), none, some (.ref q), some (.ref (b + 212 + 6 * s))] [] (am_wI B j5) = some (.inl none, am_wI B (am_up2 j5 (b + 212 + 6 * s) 7 (mn 2000000000 (w (2622 + 49 * s + 7) + smO (opA w s) (3542 + 850 * k) (opF w s) 2)))) := by
          have k9 := hT5.2.2.1.1
          rw [bk_246_77]
          by_cases g2 : w (2622 + 49 * s + 7) + smO (opA w s) (3542 + 850 * k) (opF w s) 2 < 2000000000
          · rw [show mn 2000000000 (w (2622 + 49 * s + 7) + smO (opA w s) (3542 + 850 * k) (opF w s) 2) = w (2622 + 49 * s + 7) + smO (opA w s) (3542 + 850 * k) (opF w s) 2 from if_pos g2]
            simp (disch := omega) only [E7, f7, k9, g2, bk_0_0, hY, y_ckd, y_ck2d, y_ond, y_onn, y_oI, y_oIx, y_oJ, y_oV, y_oVx, y_oR, y_oRn, y_oRx, y_b0, y_b1, y_bi, y_bid, y_wIK, y_wIL, y_wII, y_wIJ, y_wIR, y_wIN, y_wIw, y_sI, ↓reduceIte, Nat.reduceEqDiff, eq_self, true_or, or_true, false_or, or_false, and_true, true_and, false_and, and_false, not_true, not_false_eq_true, tf_T, tf_F, y_up1, y_up2, y_xx, y_nx, y_sJ, y_sR, Int32.reduceLT, y_nxK, y_nxL, y_nxR, y_sJK, y_sJL, y_sJR, y_sJN, y_sRK, y_sRL, y_sRN, Nat.add_zero, z_nat, z_lit, z_lit0, z_lit1, z_in0, z_in1, z_addl0, z_lt, z_ltl, z_llt, z_inj, z_injl, z_add, z_addl, z_ladd, z_mul, z_mull, z_lmul, z_neg, z_negl, z_in, z_inl, z_ltT, z_ltF, z_eqF, z_10, z_01, z_litne, z_ne0, z_0ne, z_ne1, z_1ne, z_lt64, z_02, z_03, z_04, z_05, z_12, z_13, z_14, z_15, z_20, z_21, z_23, z_24, z_25, z_30, z_31, z_32, z_34, z_35, z_40, z_41, z_42, z_43, z_45, z_50, z_51, z_52, z_53, z_54]
          · rw [show mn 2000000000 (w (2622 + 49 * s + 7) + smO (opA w s) (3542 + 850 * k) (opF w s) 2) = 2000000000 from if_neg g2]
            simp (disch := omega) only [E7, f7, k9, g2, bk_0_0, hY, y_ckd, y_ck2d, y_ond, y_onn, y_oI, y_oIx, y_oJ, y_oV, y_oVx, y_oR, y_oRn, y_oRx, y_b0, y_b1, y_bi, y_bid, y_wIK, y_wIL, y_wII, y_wIJ, y_wIR, y_wIN, y_wIw, y_sI, ↓reduceIte, Nat.reduceEqDiff, eq_self, true_or, or_true, false_or, or_false, and_true, true_and, false_and, and_false, not_true, not_false_eq_true, tf_T, tf_F, y_up1, y_up2, y_xx, y_nx, y_sJ, y_sR, Int32.reduceLT, y_nxK, y_nxL, y_nxR, y_sJK, y_sJL, y_sJR, y_sJN, y_sRK, y_sRL, y_sRN, Nat.add_zero, z_nat, z_lit, z_lit0, z_lit1, z_in0, z_in1, z_addl0, z_lt, z_ltl, z_llt, z_inj, z_injl, z_add, z_addl, z_ladd, z_mul, z_mull, z_lmul, z_neg, z_negl, z_in, z_inl, z_ltT, z_ltF, z_eqF, z_10, z_01, z_litne, z_ne0, z_0ne, z_ne1, z_1ne, z_lt64, z_02, z_03, z_04, z_05, z_12, z_13, z_14, z_15, z_20, z_21, z_23, z_24, z_25, z_30, z_31, z_32, z_34, z_35, z_40, z_41, z_42, z_43, z_45, z_50, z_51, z_52, z_53, z_54]
        have eqB : am_R B (b + 8) k = some q := eq
        simp only [txq, eqB]
        rw [bk_246_0_RIR_]
        have h17 : am_fx am_P (d + 4) 246 17 [some (.ref b), some (.int (Int32.ofNat s)), some (.ref q), some (.ref (b + 212 + 6 * s))] [] (am_wI B (am_up2 (am_up2 i (b + 212 + 6 * s) 3 2) (b + 212 + 6 * s) 6 1)) = some (.inl none, am_wI B (am_up2 j5 (b + 212 + 6 * s) 7 (mn 2000000000 (w (2622 + 49 * s + 7) + smO (opA w s) (3542 + 850 * k) (opF w s) 2)))) := by
          rw [bk_246_17_RIRR_]
          simp (disch := omega) only [k14, hY, y_ckd, y_ck2d, y_ond, y_onn, y_oI, y_oIx, y_oJ, y_oV, y_oVx, y_oR, y_oRn, y_oRx, y_b0, y_b1, y_bi, y_bid, y_wIK, y_wIL, y_wII, y_wIJ, y_wIR, y_wIN, y_wIw, y_sI, ↓reduceIte, Nat.reduceEqDiff, eq_self, true_or, or_true, false_or, or_false, and_true, true_and, false_and, and_false, not_true, not_false_eq_true, tf_T, tf_F, y_up1, y_up2, y_xx, y_nx, y_sJ, y_sR, Int32.reduceLT, y_nxK, y_nxL, y_nxR, y_sJK, y_sJL, y_sJR, y_sJN, y_sRK, y_sRL, y_sRN, Nat.add_zero, z_nat, z_lit, z_lit0, z_lit1, z_in0, z_in1, z_addl0, z_lt, z_ltl, z_llt, z_inj, z_injl, z_add, z_addl, z_ladd, z_mul, z_mull, z_lmul, z_neg, z_negl, z_in, z_inl, z_ltT, z_ltF, z_eqF, z_10, z_01, z_litne, z_ne0, z_0ne, z_ne1, z_1ne, z_lt64, z_02, z_03, z_04, z_05, z_12, z_13, z_14, z_15, z_20, z_21, z_23, z_24, z_25, z_30, z_31, z_32, z_34, z_35, z_40, z_41, z_42, z_43, z_45, z_50, z_51, z_52, z_53, z_54]
          rw [ei]
          simp (disch := omega) only [e2, e5, e0, a2, a5, k0, g, El, Ew, E4, E5, E6, h77, hY, y_ckd, y_ck2d, y_ond, y_onn, y_oI, y_oIx, y_oJ, y_oV, y_oVx, y_oR, y_oRn, y_oRx, y_b0, y_b1, y_bi, y_bid, y_wIK, y_wIL, y_wII, y_wIJ, y_wIR, y_wIN, y_wIw, y_sI, ↓reduceIte, Nat.reduceEqDiff, eq_self, true_or, or_true, false_or, or_false, and_true, true_and, false_and, and_false, not_true, not_false_eq_true, tf_T, tf_F, y_up1, y_up2, y_xx, y_nx, y_sJ, y_sR, Int32.reduceLT, y_nxK, y_nxL, y_nxR, y_sJK, y_sJL, y_sJR, y_sJN, y_sRK, y_sRL, y_sRN, Nat.add_zero, z_nat, z_lit, z_lit0, z_lit1, z_in0, z_in1, z_addl0, z_lt, z_ltl, z_llt, z_inj, z_injl, z_add, z_addl, z_ladd, z_mul, z_mull, z_lmul, z_neg, z_negl, z_in, z_inl, z_ltT, z_ltF, z_eqF, z_10, z_01, z_litne, z_ne0, z_0ne, z_ne1, z_1ne, z_lt64, z_02, z_03, z_04, z_05, z_12, z_13, z_14, z_15, z_20, z_21, z_23, z_24, z_25, z_30, z_31, z_32, z_34, z_35, z_40, z_41, z_42, z_43, z_45, z_50, z_51, z_52, z_53, z_54]
        simp (disch := omega) only [h17, hY, y_ckd, y_ck2d, y_ond, y_onn, y_oI, y_oIx, y_oJ, y_oV, y_oVx, y_oR, y_oRn, y_oRx, y_b0, y_b1, y_bi, y_bid, y_wIK, y_wIL, y_wII, y_wIJ, y_wIR, y_wIN, y_wIw, y_sI, ↓reduceIte, Nat.reduceEqDiff, eq_self, true_or, or_true, false_or, or_false, and_true, true_and, false_and, and_false, not_true, not_false_eq_true, tf_T, tf_F, y_up1, y_up2, y_xx, y_nx, y_sJ, y_sR, Int32.reduceLT, y_nxK, y_nxL, y_nxR, y_sJK, y_sJL, y_sJR, y_sJN, y_sRK, y_sRL, y_sRN, Nat.add_zero, z_nat, z_lit, z_lit0, z_lit1, z_in0, z_in1, z_addl0, z_lt, z_ltl, z_llt, z_inj, z_injl, z_add, z_addl, z_ladd, z_mul, z_mull, z_lmul, z_neg, z_negl, z_in, z_inl, z_ltT, z_ltF, z_eqF, z_10, z_01, z_litne, z_ne0, z_0ne, z_ne1, z_1ne, z_lt64, z_02, z_03, z_04, z_05, z_12, z_13, z_14, z_15, z_20, z_21, z_23, z_24, z_25, z_30, z_31, z_32, z_34, z_35, z_40, z_41, z_42, z_43, z_45, z_50, z_51, z_52, z_53, z_54]
      · rw [y_up2 (by omega), j5q _ _ (by omega) (by omega), bq _ _ (by omega) (by omega)]
        exact fo q k hq
end Opens2
