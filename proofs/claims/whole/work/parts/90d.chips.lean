/-! CHIPS CARRIED AND A GANG'S WORK, THE CLASS: made by wip/whole/math/90d.py. -/
def lwA (w : Nat → Int32) (g s : Nat) : Nat → Int32 := if (w (2622 + 49 * s) = 1 ∨ w (2622 + 49 * s) = 3) ∧ nfit w s = w (2622 + 49 * s + 8) then wu w (2622 + 49 * s + 1) (mx 0 (w (2622 + 49 * s + 1) - w (3020 + 2 * g))) else w
def lwB (t : Option Nat) (w : Nat → Int32) (s : Nat) : Nat → Int32 := match t with
  | none => w
  | some k => if w (2622 + 49 * s) = 1 ∨ w (2622 + 49 * s) = 2 ∨ w (2622 + 49 * s) = 3 then chW w (smO w (3542 + 850 * k) (fctO w s 0 0 0) 1) else w
def gaS (t : Option Nat) (g : Nat) (w : Nat → Int32) : Nat → Int32 := if w (3020 + 2 * g + 1) < 0 then w else lwB t (lwA w g (cn w (3020 + 2 * g + 1))) (cn w (3020 + 2 * g + 1))
section Gang
variable {B : am_A} {i j : Nat → Nat → Int32} {w v : Nat → Int32} {d b q n p s k g : Nat} {x y z D : Int32} {t : Option Nat}
theorem itr_ch_ne {a : (Nat → Int32) × Int32} {z : Nat} (h : ∀ p, p < n → z ≠ 461 + 18 * p + 1) : (itr chS n a).1 z = a.1 z := by
  induction n with
  | zero => rfl
  | succ n ih =>
    show (chS n (itr chS n a)).1 z = a.1 z
    rw [chS_ne (h n (Nat.lt_succ_self n))]
    exact ih fun p hp => h p (by omega)
theorem chW_ne {z : Nat} (h3 : z ≠ 3) (h : z < 461 ∨ 461 + 18 * cn w 460 ≤ z) : chW w x z = w z := by
  unfold chW
  rw [itr_ch_ne fun p hp => by omega]
  exact wu_ne h3
theorem c_chips (hY : Yd B b) (hb : b + 260 ≤ 874) (hR : Rep B i b w) (hW : Wd w) : ∃ j, am_fx am_P d 248 0 [some (.ref b), some (.int x), none, none] [] (am_wI B i) = some (.inl none, am_wI B j) ∧ Rep B j b (chW w x) ∧ Wd (chW w x) ∧ ∀ q k, (q < b ∨ b + 260 ≤ q) → j q k = i q k := by
  have h4 := hW.1.2.2.1
  have n4 := h4.2
  have n100 : ∀ {r : am_X}, am_nz 100 r = r := y_nz (by decide)
  have k13 : i b 13 = w 3 := hR.1.2.2.2.1
  have hR0 : Rep B (am_up2 i b 13 (w 3 + x)) b (wu w 3 (w 3 + x)) := by
    obtain ⟨r0, r1, r2, r3, r4, r5, r6, r7, r8⟩ := hR.1
    refine Rep_base hR (Le.rf B) (by omega) rfl ⟨?_, ?_, ?_, ?_, ?_, fun k hk => ?_, fun k hk => ?_, ?_, fun k hk => ?_⟩ (by intros; simp (disch := omega) only [y_up2]) (by intros; simp (disch := omega) only [y_upr]) (by intros; simp (disch := omega) only [wu_ne])
    · rw [y_up2 (by omega), r0]; exact (wu_ne (by omega)).symm
    · rw [y_up2 (by omega), r1]; exact (wu_ne (by omega)).symm
    · rw [y_up2 (by omega), r2]; exact (wu_ne (by omega)).symm
    · rw [y_up1 rfl rfl]; exact (wu_at rfl).symm
    · rw [y_up2 (by omega), r4]; exact (wu_ne (by omega)).symm
    · rw [y_up2 (by omega), r5 k hk]; exact (wu_ne (by omega)).symm
    · rw [y_up2 (by omega), r6 k hk]; exact (wu_ne (by omega)).symm
    · rw [y_up2 (by omega), r7]; exact (wu_ne (by omega)).symm
    · rw [y_up2 (by omega), r8 k hk]; exact (wu_ne (by omega)).symm
  have hW0 : Wd (wu w 3 (w 3 + x)) := Wd_base hW (fun k hk => by rw [wu_ne (by omega)]; exact hW.2.1 k hk) fun z h1 h2 h3 => wu_ne (by omega)
  have hstop : ∀ (k : Nat) (y : Int32) (j : Nat → Nat → Int32), k ≤ cn w 460 → j b 5 = Int32.ofNat (cn w 460) → ¬ 0 < y → am_fx am_P d 248 30 [some (.ref b), none, some (.int y), some (.int (Int32.ofNat k))] [] (am_wI B j) = some (.inl none, am_wI B j) := by
    intro k y j hk e5 hy
    rw [bk_248_30]
    by_cases g : k < cn w 460
    · simp (disch := omega) only [e5, hy, hY, y_ckd, y_ck2d, y_ond, y_onn, y_oI, y_oIx, y_oJ, y_oV, y_oVx, y_oR, y_oRn, y_oRx, y_b0, y_b1, y_bi, y_bid, y_wIK, y_wIL, y_wII, y_wIJ, y_wIR, y_wIN, y_wIw, y_sI, ↓reduceIte, Nat.reduceEqDiff, eq_self, true_or, or_true, false_or, or_false, and_true, true_and, false_and, and_false, not_true, not_false_eq_true, tf_T, tf_F, y_up1, y_up2, y_xx, y_nx, y_sJ, y_sR, Int32.reduceLT, y_nxK, y_nxL, y_nxR, y_sJK, y_sJL, y_sJR, y_sJN, y_sRK, y_sRL, y_sRN, Nat.add_zero, z_nat, z_lit, z_lit0, z_lit1, z_in0, z_in1, z_addl0, z_lt, z_ltl, z_llt, z_inj, z_injl, z_add, z_addl, z_ladd, z_mul, z_mull, z_lmul, z_neg, z_negl, z_in, z_inl, z_ltT, z_ltF, z_eqF, z_10, z_01, z_litne, z_ne0, z_0ne, z_ne1, z_1ne, z_lt64, z_02, z_03, z_04, z_05, z_12, z_13, z_14, z_15, z_20, z_21, z_23, z_24, z_25, z_30, z_31, z_32, z_34, z_35, z_40, z_41, z_42, z_43, z_45, z_50, z_51, z_52, z_53, z_54]
    · rw [show k = cn w 460 by omega]
      simp (disch := omega) only [e5, hY, y_ckd, y_ck2d, y_ond, y_onn, y_oI, y_oIx, y_oJ, y_oV, y_oVx, y_oR, y_oRn, y_oRx, y_b0, y_b1, y_bi, y_bid, y_wIK, y_wIL, y_wII, y_wIJ, y_wIR, y_wIN, y_wIw, y_sI, ↓reduceIte, Nat.reduceEqDiff, eq_self, true_or, or_true, false_or, or_false, and_true, true_and, false_and, and_false, not_true, not_false_eq_true, tf_T, tf_F, y_up1, y_up2, y_xx, y_nx, y_sJ, y_sR, Int32.reduceLT, y_nxK, y_nxL, y_nxR, y_sJK, y_sJL, y_sJR, y_sJN, y_sRK, y_sRL, y_sRN, Nat.add_zero, z_nat, z_lit, z_lit0, z_lit1, z_in0, z_in1, z_addl0, z_lt, z_ltl, z_llt, z_inj, z_injl, z_add, z_addl, z_ladd, z_mul, z_mull, z_lmul, z_neg, z_negl, z_in, z_inl, z_ltT, z_ltF, z_eqF, z_10, z_01, z_litne, z_ne0, z_0ne, z_ne1, z_1ne, z_lt64, z_02, z_03, z_04, z_05, z_12, z_13, z_14, z_15, z_20, z_21, z_23, z_24, z_25, z_30, z_31, z_32, z_34, z_35, z_40, z_41, z_42, z_43, z_45, z_50, z_51, z_52, z_53, z_54]
  obtain ⟨⟨a, j⟩, E, ha, hRa, hWa, hc, fo⟩ := lp_inv (fun k (s : ((Nat → Int32) × Int32) × (Nat → Nat → Int32)) => if 0 < s.1.2 then am_fx am_P d 248 30 [some (.ref b), none, some (.int s.1.2), some (.int (Int32.ofNat k))] [] (am_wI B s.2) else some (.inl none, am_wI B s.2)) (fun k s => s.1 = itr chS k (ch0 w x) ∧ Rep B s.2 b s.1.1 ∧ Wd s.1.1 ∧ cn s.1.1 460 = cn w 460 ∧ ∀ q k, (q < b ∨ b + 260 ≤ q) → s.2 q k = i q k) (cn w 460) (fun k s hk hI => by
    obtain ⟨⟨v, y⟩, j⟩ := s
    obtain ⟨ha, hRa, hWa, hc, fo⟩ := hI
    dsimp only at ha hRa hWa hc fo
    have hst : itr chS (k + 1) (ch0 w x) = chS k (v, y) := by rw [ha]; rfl
    have e5 : j b 5 = Int32.ofNat (cn w 460) := (hRa.2.2.1.1.trans hWa.1.2.2.1.1).trans (by rw [hc])
    obtain ⟨a0, a9, -⟩ := hRa.2.2.1.2 k (by omega) (by omega)
    by_cases g : 0 < y ∧ v (461 + 18 * k) = 0 ∧ v (461 + 18 * k + 1) = 2
    · have eS : chS k (v, y) = (wu v (461 + 18 * k + 1) 4, y + (-1)) := if_pos g
      have hR2 := Rep_chp hRa hb (by omega : k < cn v 460) (by omega)
      have e5' : (am_up2 j (b + 92 + k) 9 4) b 5 = Int32.ofNat (cn w 460) := by rw [y_up2 (by omega)]; exact e5
      refine ⟨((wu v (461 + 18 * k + 1) 4, y + (-1)), am_up2 j (b + 92 + k) 9 4), ?_, by rw [hst, eS], hR2, Wd_chp hWa (by omega) (by omega) g.2.2, by show cn (wu v (461 + 18 * k + 1) 4) 460 = _; unfold cn at hc ⊢; rw [wu_ne (by omega)]; exact hc, fun q m hq => (y_up2 (by omega)).trans (fo q m hq)⟩
      dsimp only
      rw [if_pos g.1]
      have er : am_fx am_P d 248 30 [some (.ref b), none, some (.int y), some (.int (Int32.ofNat k))] [] (am_wI B j) = am_fx am_P d 248 30 [some (.ref b), none, some (.int (y + (-1))), some (.int (Int32.ofNat (k + 1)))] [] (am_wI B (am_up2 j (b + 92 + k) 9 4)) := by
        rw [bk_248_30]
        simp (disch := omega) only [e5, a0, a9, g.1, g.2.1, g.2.2, hY, y_ckd, y_ck2d, y_ond, y_onn, y_oI, y_oIx, y_oJ, y_oV, y_oVx, y_oR, y_oRn, y_oRx, y_b0, y_b1, y_bi, y_bid, y_wIK, y_wIL, y_wII, y_wIJ, y_wIR, y_wIN, y_wIw, y_sI, ↓reduceIte, Nat.reduceEqDiff, eq_self, true_or, or_true, false_or, or_false, and_true, true_and, false_and, and_false, not_true, not_false_eq_true, tf_T, tf_F, y_up1, y_up2, y_xx, y_nx, y_sJ, y_sR, Int32.reduceLT, y_nxK, y_nxL, y_nxR, y_sJK, y_sJL, y_sJR, y_sJN, y_sRK, y_sRL, y_sRN, Nat.add_zero, z_nat, z_lit, z_lit0, z_lit1, z_in0, z_in1, z_addl0, z_lt, z_ltl, z_llt, z_inj, z_injl, z_add, z_addl, z_ladd, z_mul, z_mull, z_lmul, z_neg, z_negl, z_in, z_inl, z_ltT, z_ltF, z_eqF, z_10, z_01, z_litne, z_ne0, z_0ne, z_ne1, z_1ne, z_lt64, z_02, z_03, z_04, z_05, z_12, z_13, z_14, z_15, z_20, z_21, z_23, z_24, z_25, z_30, z_31, z_32, z_34, z_35, z_40, z_41, z_42, z_43, z_45, z_50, z_51, z_52, z_53, z_54]
      by_cases g1 : 0 < y + (-1)
      · rw [if_pos g1]
        exact er
      · rw [if_neg g1]
        exact er.trans (hstop (k + 1) _ _ (by omega) e5' g1)
    · have eS : chS k (v, y) = (v, y) := if_neg g
      refine ⟨((v, y), j), ?_, by rw [hst, eS], hRa, hWa, hc, fo⟩
      dsimp only
      by_cases g1 : 0 < y
      · rw [if_pos g1, if_pos g1]
        rw [bk_248_30]
        by_cases g2 : v (461 + 18 * k) = 0
        · have g3 : ¬ v (461 + 18 * k + 1) = 2 := fun q => g ⟨g1, g2, q⟩
          simp (disch := omega) only [e5, a0, a9, g1, g2, g3, hY, y_ckd, y_ck2d, y_ond, y_onn, y_oI, y_oIx, y_oJ, y_oV, y_oVx, y_oR, y_oRn, y_oRx, y_b0, y_b1, y_bi, y_bid, y_wIK, y_wIL, y_wII, y_wIJ, y_wIR, y_wIN, y_wIw, y_sI, ↓reduceIte, Nat.reduceEqDiff, eq_self, true_or, or_true, false_or, or_false, and_true, true_and, false_and, and_false, not_true, not_false_eq_true, tf_T, tf_F, y_up1, y_up2, y_xx, y_nx, y_sJ, y_sR, Int32.reduceLT, y_nxK, y_nxL, y_nxR, y_sJK, y_sJL, y_sJR, y_sJN, y_sRK, y_sRL, y_sRN, Nat.add_zero, z_nat, z_lit, z_lit0, z_lit1, z_in0, z_in1, z_addl0, z_lt, z_ltl, z_llt, z_inj, z_injl, z_add, z_addl, z_ladd, z_mul, z_mull, z_lmul, z_neg, z_negl, z_in, z_inl, z_ltT, z_ltF, z_eqF, z_10, z_01, z_litne, z_ne0, z_0ne, z_ne1, z_1ne, z_lt64, z_02, z_03, z_04, z_05, z_12, z_13, z_14, z_15, z_20, z_21, z_23, z_24, z_25, z_30, z_31, z_32, z_34, z_35, z_40, z_41, z_42, z_43, z_45, z_50, z_51, z_52, z_53, z_54]
        · simp (disch := omega) only [e5, a0, g1, g2, hY, y_ckd, y_ck2d, y_ond, y_onn, y_oI, y_oIx, y_oJ, y_oV, y_oVx, y_oR, y_oRn, y_oRx, y_b0, y_b1, y_bi, y_bid, y_wIK, y_wIL, y_wII, y_wIJ, y_wIR, y_wIN, y_wIw, y_sI, ↓reduceIte, Nat.reduceEqDiff, eq_self, true_or, or_true, false_or, or_false, and_true, true_and, false_and, and_false, not_true, not_false_eq_true, tf_T, tf_F, y_up1, y_up2, y_xx, y_nx, y_sJ, y_sR, Int32.reduceLT, y_nxK, y_nxL, y_nxR, y_sJK, y_sJL, y_sJR, y_sJN, y_sRK, y_sRL, y_sRN, Nat.add_zero, z_nat, z_lit, z_lit0, z_lit1, z_in0, z_in1, z_addl0, z_lt, z_ltl, z_llt, z_inj, z_injl, z_add, z_addl, z_ladd, z_mul, z_mull, z_lmul, z_neg, z_negl, z_in, z_inl, z_ltT, z_ltF, z_eqF, z_10, z_01, z_litne, z_ne0, z_0ne, z_ne1, z_1ne, z_lt64, z_02, z_03, z_04, z_05, z_12, z_13, z_14, z_15, z_20, z_21, z_23, z_24, z_25, z_30, z_31, z_32, z_34, z_35, z_40, z_41, z_42, z_43, z_45, z_50, z_51, z_52, z_53, z_54]
      · rw [if_neg g1, if_neg g1]) (ch0 w x, am_up2 i b 13 (w 3 + x)) ⟨rfl, hR0, hW0, by show cn (wu w 3 (w 3 + x)) 460 = _; unfold cn; rw [wu_ne (by omega)], fun q m hq => y_up2 (by omega)⟩
  dsimp only at E ha hRa hWa hc fo
  have e5 : j b 5 = Int32.ofNat (cn w 460) := (hRa.2.2.1.1.trans hWa.1.2.2.1.1).trans (by rw [hc])
  have e50 : (am_up2 i b 13 (w 3 + x)) b 5 = Int32.ofNat (cn w 460) := by rw [y_up2 (by omega)]; exact hR.2.2.1.1.trans h4.1
  have eW : chW w x = a.1 := by unfold chW; rw [← ha]
  rw [eW]
  refine ⟨j, ?_, hRa, hWa, fo⟩
  rw [bk_248_0]
  simp (disch := omega) only [k13, n100, hY, y_ckd, y_ck2d, y_ond, y_onn, y_oI, y_oIx, y_oJ, y_oV, y_oVx, y_oR, y_oRn, y_oRx, y_b0, y_b1, y_bi, y_bid, y_wIK, y_wIL, y_wII, y_wIJ, y_wIR, y_wIN, y_wIw, y_sI, ↓reduceIte, Nat.reduceEqDiff, eq_self, true_or, or_true, false_or, or_false, and_true, true_and, false_and, and_false, not_true, not_false_eq_true, tf_T, tf_F, y_up1, y_up2, y_xx, y_nx, y_sJ, y_sR, Int32.reduceLT, y_nxK, y_nxL, y_nxR, y_sJK, y_sJL, y_sJR, y_sJN, y_sRK, y_sRL, y_sRN, Nat.add_zero, z_nat, z_lit, z_lit0, z_lit1, z_in0, z_in1, z_addl0, z_lt, z_ltl, z_llt, z_inj, z_injl, z_add, z_addl, z_ladd, z_mul, z_mull, z_lmul, z_neg, z_negl, z_in, z_inl, z_ltT, z_ltF, z_eqF, z_10, z_01, z_litne, z_ne0, z_0ne, z_ne1, z_1ne, z_lt64, z_02, z_03, z_04, z_05, z_12, z_13, z_14, z_15, z_20, z_21, z_23, z_24, z_25, z_30, z_31, z_32, z_34, z_35, z_40, z_41, z_42, z_43, z_45, z_50, z_51, z_52, z_53, z_54]
  have e1 : am_fx am_P d 248 30 [some (.ref b), none, some (.int (ch0 w x).2), some (.int (Int32.ofNat 0))] [] (am_wI B (am_up2 i b 13 (w 3 + x))) = if 0 < (ch0 w x).2 then am_fx am_P d 248 30 [some (.ref b), none, some (.int (ch0 w x).2), some (.int (Int32.ofNat 0))] [] (am_wI B (am_up2 i b 13 (w 3 + x))) else some (.inl none, am_wI B (am_up2 i b 13 (w 3 + x))) := by
    by_cases g : 0 < (ch0 w x).2
    · rw [if_pos g]
    · rw [if_neg g]
      exact hstop 0 _ _ (by omega) e50 g
  refine e1.trans (E.trans ?_)
  by_cases g : 0 < a.2
  · rw [if_pos g, bk_248_30]
    simp (disch := omega) only [e5, hY, y_ckd, y_ck2d, y_ond, y_onn, y_oI, y_oIx, y_oJ, y_oV, y_oVx, y_oR, y_oRn, y_oRx, y_b0, y_b1, y_bi, y_bid, y_wIK, y_wIL, y_wII, y_wIJ, y_wIR, y_wIN, y_wIw, y_sI, ↓reduceIte, Nat.reduceEqDiff, eq_self, true_or, or_true, false_or, or_false, and_true, true_and, false_and, and_false, not_true, not_false_eq_true, tf_T, tf_F, y_up1, y_up2, y_xx, y_nx, y_sJ, y_sR, Int32.reduceLT, y_nxK, y_nxL, y_nxR, y_sJK, y_sJL, y_sJR, y_sJN, y_sRK, y_sRL, y_sRN, Nat.add_zero, z_nat, z_lit, z_lit0, z_lit1, z_in0, z_in1, z_addl0, z_lt, z_ltl, z_llt, z_inj, z_injl, z_add, z_addl, z_ladd, z_mul, z_mull, z_lmul, z_neg, z_negl, z_in, z_inl, z_ltT, z_ltF, z_eqF, z_10, z_01, z_litne, z_ne0, z_0ne, z_ne1, z_1ne, z_lt64, z_02, z_03, z_04, z_05, z_12, z_13, z_14, z_15, z_20, z_21, z_23, z_24, z_25, z_30, z_31, z_32, z_34, z_35, z_40, z_41, z_42, z_43, z_45, z_50, z_51, z_52, z_53, z_54]
  · rw [if_neg g]
theorem Rep_wrk (h : Rep B i b w) (hb : b + 260 ≤ 874) (hs : s < cn w 2621) (s8 : s < 8) : Rep B (am_up2 i (b + 212 + 6 * s) 1 x) b (wu w (2622 + 49 * s + 1) x) := by
  obtain ⟨a3, a1, a0, a2, a4, a5, a6, a7, a8, a9⟩ := h.2.2.2.1.2 s hs s8
  refine Rep_sh h hb s8 (fun q k hq => by simp (disch := omega) only [y_up2]) (fun z hz => by simp (disch := omega) only [wu_ne]) ⟨?_, ?_, ?_, ?_, ?_, ?_, ?_, ?_, ?_, fun m hm m8 => ?_⟩
  · simp (disch := omega) only [y_up1, y_up2, wu_at, wu_ne]; exact a3
  · simp (disch := omega) only [y_up1, y_up2, wu_at, wu_ne]
  · simp (disch := omega) only [y_up1, y_up2, wu_at, wu_ne]; exact a0
  · simp (disch := omega) only [y_up1, y_up2, wu_at, wu_ne]; exact a2
  · simp (disch := omega) only [y_up1, y_up2, wu_at, wu_ne]; exact a4
  · simp (disch := omega) only [y_up1, y_up2, wu_at, wu_ne]; exact a5
  · simp (disch := omega) only [y_up1, y_up2, wu_at, wu_ne]; exact a6
  · simp (disch := omega) only [y_up1, y_up2, wu_at, wu_ne]; exact a7
  · simp (disch := omega) only [y_up1, y_up2, wu_at, wu_ne]; exact a8
  · have e8 : cn (wu w (2622 + 49 * s + 1) x) (2622 + 49 * s + 8) = cn w (2622 + 49 * s + 8) := by unfold cn; simp (disch := omega) only [wu_ne]
    have := a9 m (by omega) m8
    unfold NdR at this ⊢
    simp (disch := omega) only [y_up2, wu_ne]
    exact this
theorem Wd_wrk (h : Wd w) (hs : s < cn w 2621) (s8 : s < 8) (hx : ¬ x < 0 ∧ x < 5001) : Wd (wu w (2622 + 49 * s + 1) x) := by
  obtain ⟨a0, a1, a3, a4, a5, a6, a7, a8, a9⟩ := h.2.2.2.2.1.1 s hs s8
  refine Wd_sh8 h hs s8 (fun z hz => by simp (disch := omega) only [wu_ne]) ?_ ?_ ?_ ?_ ?_ ?_ ?_
  · simp (disch := omega) only [wu_at, wu_ne]; exact a0
  · simp (disch := omega) only [wu_at, wu_ne]; exact hx
  · simp (disch := omega) only [wu_at, wu_ne]; exact a3
  · simp (disch := omega) only [wu_at, wu_ne]; exact a4
  · simp (disch := omega) only [wu_at, wu_ne]; exact a5
  · simp (disch := omega) only [wu_at, wu_ne]; exact a6
  · simp (disch := omega) only [wu_at, wu_ne]; exact a7
theorem wrk_r (hx : ¬ x < 0 ∧ x < 5001) (hy : ¬ y < 1 ∧ y < 41) : ¬ mx 0 (x - y) < 0 ∧ mx 0 (x - y) < 5001 := by
  obtain ⟨X, eX, hX⟩ := z_lk 5001 (by omega) hx.1 hx.2
  have y0 : ¬ y < 0 := fun q => hy.1 (by
    rw [Int32.lt_iff_toInt_lt] at q ⊢
    have e1 : (0 : Int32).toInt = 0 := by decide
    have e2 : (1 : Int32).toInt = 1 := by decide
    omega)
  obtain ⟨Y, eY, hY⟩ := z_lk 41 (by omega) y0 hy.2
  have e : (x - y).toInt = X - Y := by
    rw [eX, eY]
    exact z_tsub (by omega) (by omega)
  have g0 : (0 : Int32).toInt = 0 := by decide
  have g5 : (5001 : Int32).toInt = 5001 := by decide
  by_cases g : 0 < x - y
  · rw [show mx 0 (x - y) = x - y from if_pos g]
    rw [Int32.lt_iff_toInt_lt, e, g0] at g
    rw [Int32.lt_iff_toInt_lt, Int32.lt_iff_toInt_lt, e, g0, g5]
    omega
  · rw [show mx 0 (x - y) = 0 from if_neg g]
    decide
end Gang
