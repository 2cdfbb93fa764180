/-! THE SHIPS OF A DAY, THE CLASS; CHIPS: made by wip/whole/math/90c.py. -/
/-- one piece of planks carried, where some are to be -/
def chS (p : Nat) (a : (Nat → Int32) × Int32) : (Nat → Int32) × Int32 := if 0 < a.2 ∧ a.1 (461 + 18 * p) = 0 ∧ a.1 (461 + 18 * p + 1) = 2 then (wu a.1 (461 + 18 * p + 1) 4, a.2 + (-1)) else a
def ch0 (w : Nat → Int32) (x : Int32) : (Nat → Int32) × Int32 := (wu w 3 (w 3 + x), (w 3 + x) / 100 - w 3 / 100)
def chW (w : Nat → Int32) (x : Int32) : Nat → Int32 := (itr chS (cn w 460) (ch0 w x)).1
section Ships
variable {B : am_A} {i j : Nat → Nat → Int32} {w v : Nat → Int32} {d b q n p s k : Nat} {x y z D : Int32} {t : Option Nat}
theorem opS_ne {z : Nat} (h : z ≠ 4 ∧ z ≠ 2622 + 49 * s ∧ z ≠ 2622 + 49 * s + 6 ∧ z ≠ 2622 + 49 * s + 7) : opS t s w z = w z := by
  unfold opS
  split
  · exact opB_ne h
  · rfl
theorem Wd_opS (h : Wd w) (hs : s < cn w 2621) (s8 : s < 8) (ht : ∀ k, t = some k → k < cn w 3541 ∧ k < 10) : Wd (opS t s w) := by
  unfold opS
  split
  · exact Wd_opB h hs s8 (by rename_i g; exact g.1) ht
  · exact h
theorem c_ships (hY : Yd B b) (hb : b + 260 ≤ 874) (hR : Rep B i b w) (hW : Wd w) (ht : ∀ k, t = some k → k < cn w 3541 ∧ k < 10) : ∃ j, am_fx am_P (d + 5) 245 53 [some (.ref b), some (txq B b t), some (.int 0)] [] (am_wI B i) = am_fx am_P (d + 5) 245 103 [some (.ref b), some (txq B b t), some (.int 0)] [] (am_wI B j) ∧ Rep B j b (itr (opS t) (cn w 2621) w) ∧ Wd (itr (opS t) (cn w 2621) w) ∧ (cn (itr (opS t) (cn w 2621) w) 3541 = cn w 3541 ∧ cn (itr (opS t) (cn w 2621) w) 2621 = cn w 2621 ∧ cn (itr (opS t) (cn w 2621) w) 3019 = cn w 3019) ∧ ∀ q k, (q < b ∨ b + 260 ≤ q) → j q k = i q k := by
  have h21 := hW.1.2.2.2.1
  have n21 := h21.2
  have htx : ∀ {P : Value → Prop}, (∀ q, t = some q → ∀ r, txq B b t = .ref r → P (.ref r)) → (t = none → P .null) → P (txq B b t) := by
    intro P h1 h2
    cases t with
    | none => exact h2 rfl
    | some k =>
      obtain ⟨kc, k10⟩ := ht k rfl
      obtain ⟨-, q, eq, -⟩ := hR.2.2.2.2.2.2.2.2.2 k kc k10
      have e : txq B b (some k) = .ref q := by simp only [txq, eq]
      rw [e]
      exact h1 k rfl q e
  obtain ⟨⟨v, j⟩, E, hv, hRv, hWv, ⟨c1, c2, c3⟩, fo⟩ := lp_inv (fun k (a : (Nat → Int32) × (Nat → Nat → Int32)) => am_fx am_P (d + 5) 245 53 [some (.ref b), some (txq B b t), some (.int (Int32.ofNat k))] [] (am_wI B a.2)) (fun k a => a.1 = itr (opS t) k w ∧ Rep B a.2 b a.1 ∧ Wd a.1 ∧ (cn a.1 3541 = cn w 3541 ∧ cn a.1 2621 = cn w 2621 ∧ cn a.1 3019 = cn w 3019) ∧ ∀ q k, (q < b ∨ b + 260 ≤ q) → a.2 q k = i q k) (cn w 2621) (fun k a hk hI => by
    obtain ⟨v, j⟩ := a
    obtain ⟨hv, hRv, hWv, ⟨c1, c2, c3⟩, fo⟩ := hI
    dsimp only at hv hRv hWv c1 c2 c3 fo
    have hc := hWv.1.2.2.2.1
    have h460 := hWv.1.2.2.1
    obtain ⟨hn, hvv⟩ := ShW_v hWv (by omega : k < cn v 2621) (by omega)
    have hst : itr (opS t) (k + 1) w = opS t k v := by rw [hv]; rfl
    have e8 : j b 8 = Int32.ofNat (cn w 2621) := (hRv.2.2.2.1.1.trans hc.1).trans (by rw [c2])
    have e3 : j (b + 212 + 6 * k) 3 = v (2622 + 49 * k) := (hRv.2.2.2.1.2 k (by omega) (by omega)).1
    have Ew := c_worst (d := d + 1) hY hRv.2.2.2.1 hc (by omega : k < cn v 2621) hn hRv.2.2.1 h460 hvv
    have hcc : ∀ z, z = 3541 ∨ z = 2621 ∨ z = 3019 → opS t k v z = v z := fun z hz => opS_ne (by omega)
    have cc : cn (opS t k v) 3541 = cn w 3541 ∧ cn (opS t k v) 2621 = cn w 2621 ∧ cn (opS t k v) 3019 = cn w 3019 := by
      unfold cn at c1 c2 c3 ⊢
      rw [hcc 3541 (by omega), hcc 2621 (by omega), hcc 3019 (by omega)]
      exact ⟨c1, c2, c3⟩
    have hWo := Wd_opS (t := t) hWv (by omega : k < cn v 2621) (by omega) (fun m hm => by have := ht m hm; omega)
    by_cases g : v (2622 + 49 * k) = 4 ∧ 80 < wrst v k
    · have eS : opS t k v = opB v k t := if_pos g
      obtain ⟨j2, E2, hR2, f2⟩ := c_openUp (t := t) (d := d) hY hb hRv hWv (by omega : k < cn v 2621) (by omega) g.1 (fun m hm => by have := ht m hm; omega)
      refine ⟨(opS t k v, j2), ?_, hst.symm, by rw [eS]; exact hR2, hWo, cc, fun q m hq => (f2 q m hq).trans (fo q m hq)⟩
      dsimp only
      revert E2
      refine htx (P := fun T => am_fx am_P (d + 4) 246 0 [some (.ref b), some (.int (Int32.ofNat k)), some T, none] [] (am_wI B j) = some (.inl none, am_wI B j2) → am_fx am_P (d + 5) 245 53 [some (.ref b), some T, some (.int (Int32.ofNat k))] [] (am_wI B j) = am_fx am_P (d + 5) 245 53 [some (.ref b), some T, some (.int (Int32.ofNat (k + 1)))] [] (am_wI B j2)) (fun _ _ r _ E2 => ?_) (fun _ E2 => ?_)
      · rw [bk_245_53_RRI_]
        simp (disch := omega) only [e8, e3, g.1, g.2, Ew, E2, hY, y_ckd, y_ck2d, y_ond, y_onn, y_oI, y_oIx, y_oJ, y_oV, y_oVx, y_oR, y_oRn, y_oRx, y_b0, y_b1, y_bi, y_bid, y_wIK, y_wIL, y_wII, y_wIJ, y_wIR, y_wIN, y_wIw, y_sI, ↓reduceIte, Nat.reduceEqDiff, eq_self, true_or, or_true, false_or, or_false, and_true, true_and, false_and, and_false, not_true, not_false_eq_true, tf_T, tf_F, y_up1, y_up2, y_xx, y_nx, y_sJ, y_sR, Int32.reduceLT, y_nxK, y_nxL, y_nxR, y_sJK, y_sJL, y_sJR, y_sJN, y_sRK, y_sRL, y_sRN, Nat.add_zero, z_nat, z_lit, z_lit0, z_lit1, z_in0, z_in1, z_addl0, z_lt, z_ltl, z_llt, z_inj, z_injl, z_add, z_addl, z_ladd, z_mul, z_mull, z_lmul, z_neg, z_negl, z_in, z_inl, z_ltT, z_ltF, z_eqF, z_10, z_01, z_litne, z_ne0, z_0ne, z_ne1, z_1ne, z_lt64, z_02, z_03, z_04, z_05, z_12, z_13, z_14, z_15, z_20, z_21, z_23, z_24, z_25, z_30, z_31, z_32, z_34, z_35, z_40, z_41, z_42, z_43, z_45, z_50, z_51, z_52, z_53, z_54]
      · rw [bk_245_53]
        simp (disch := omega) only [e8, e3, g.1, g.2, Ew, E2, hY, y_ckd, y_ck2d, y_ond, y_onn, y_oI, y_oIx, y_oJ, y_oV, y_oVx, y_oR, y_oRn, y_oRx, y_b0, y_b1, y_bi, y_bid, y_wIK, y_wIL, y_wII, y_wIJ, y_wIR, y_wIN, y_wIw, y_sI, ↓reduceIte, Nat.reduceEqDiff, eq_self, true_or, or_true, false_or, or_false, and_true, true_and, false_and, and_false, not_true, not_false_eq_true, tf_T, tf_F, y_up1, y_up2, y_xx, y_nx, y_sJ, y_sR, Int32.reduceLT, y_nxK, y_nxL, y_nxR, y_sJK, y_sJL, y_sJR, y_sJN, y_sRK, y_sRL, y_sRN, Nat.add_zero, z_nat, z_lit, z_lit0, z_lit1, z_in0, z_in1, z_addl0, z_lt, z_ltl, z_llt, z_inj, z_injl, z_add, z_addl, z_ladd, z_mul, z_mull, z_lmul, z_neg, z_negl, z_in, z_inl, z_ltT, z_ltF, z_eqF, z_10, z_01, z_litne, z_ne0, z_0ne, z_ne1, z_1ne, z_lt64, z_02, z_03, z_04, z_05, z_12, z_13, z_14, z_15, z_20, z_21, z_23, z_24, z_25, z_30, z_31, z_32, z_34, z_35, z_40, z_41, z_42, z_43, z_45, z_50, z_51, z_52, z_53, z_54]
    · have eS : opS t k v = v := if_neg g
      refine ⟨(opS t k v, j), ?_, hst.symm, by rw [eS]; exact hRv, hWo, cc, fo⟩
      dsimp only
      refine htx (P := fun T => am_fx am_P (d + 5) 245 53 [some (.ref b), some T, some (.int (Int32.ofNat k))] [] (am_wI B j) = am_fx am_P (d + 5) 245 53 [some (.ref b), some T, some (.int (Int32.ofNat (k + 1)))] [] (am_wI B j)) (fun _ _ r _ => ?_) (fun _ => ?_)
      · rw [bk_245_53_RRI_]
        by_cases g4 : v (2622 + 49 * k) = 4
        · have g8 : ¬ 80 < wrst v k := fun q => g ⟨g4, q⟩
          simp (disch := omega) only [e8, e3, g4, g8, Ew, hY, y_ckd, y_ck2d, y_ond, y_onn, y_oI, y_oIx, y_oJ, y_oV, y_oVx, y_oR, y_oRn, y_oRx, y_b0, y_b1, y_bi, y_bid, y_wIK, y_wIL, y_wII, y_wIJ, y_wIR, y_wIN, y_wIw, y_sI, ↓reduceIte, Nat.reduceEqDiff, eq_self, true_or, or_true, false_or, or_false, and_true, true_and, false_and, and_false, not_true, not_false_eq_true, tf_T, tf_F, y_up1, y_up2, y_xx, y_nx, y_sJ, y_sR, Int32.reduceLT, y_nxK, y_nxL, y_nxR, y_sJK, y_sJL, y_sJR, y_sJN, y_sRK, y_sRL, y_sRN, Nat.add_zero, z_nat, z_lit, z_lit0, z_lit1, z_in0, z_in1, z_addl0, z_lt, z_ltl, z_llt, z_inj, z_injl, z_add, z_addl, z_ladd, z_mul, z_mull, z_lmul, z_neg, z_negl, z_in, z_inl, z_ltT, z_ltF, z_eqF, z_10, z_01, z_litne, z_ne0, z_0ne, z_ne1, z_1ne, z_lt64, z_02, z_03, z_04, z_05, z_12, z_13, z_14, z_15, z_20, z_21, z_23, z_24, z_25, z_30, z_31, z_32, z_34, z_35, z_40, z_41, z_42, z_43, z_45, z_50, z_51, z_52, z_53, z_54]
        · simp (disch := omega) only [e8, e3, g4, hY, y_ckd, y_ck2d, y_ond, y_onn, y_oI, y_oIx, y_oJ, y_oV, y_oVx, y_oR, y_oRn, y_oRx, y_b0, y_b1, y_bi, y_bid, y_wIK, y_wIL, y_wII, y_wIJ, y_wIR, y_wIN, y_wIw, y_sI, ↓reduceIte, Nat.reduceEqDiff, eq_self, true_or, or_true, false_or, or_false, and_true, true_and, false_and, and_false, not_true, not_false_eq_true, tf_T, tf_F, y_up1, y_up2, y_xx, y_nx, y_sJ, y_sR, Int32.reduceLT, y_nxK, y_nxL, y_nxR, y_sJK, y_sJL, y_sJR, y_sJN, y_sRK, y_sRL, y_sRN, Nat.add_zero, z_nat, z_lit, z_lit0, z_lit1, z_in0, z_in1, z_addl0, z_lt, z_ltl, z_llt, z_inj, z_injl, z_add, z_addl, z_ladd, z_mul, z_mull, z_lmul, z_neg, z_negl, z_in, z_inl, z_ltT, z_ltF, z_eqF, z_10, z_01, z_litne, z_ne0, z_0ne, z_ne1, z_1ne, z_lt64, z_02, z_03, z_04, z_05, z_12, z_13, z_14, z_15, z_20, z_21, z_23, z_24, z_25, z_30, z_31, z_32, z_34, z_35, z_40, z_41, z_42, z_43, z_45, z_50, z_51, z_52, z_53, z_54]
      · rw [bk_245_53]
        by_cases g4 : v (2622 + 49 * k) = 4
        · have g8 : ¬ 80 < wrst v k := fun q => g ⟨g4, q⟩
          simp (disch := omega) only [e8, e3, g4, g8, Ew, hY, y_ckd, y_ck2d, y_ond, y_onn, y_oI, y_oIx, y_oJ, y_oV, y_oVx, y_oR, y_oRn, y_oRx, y_b0, y_b1, y_bi, y_bid, y_wIK, y_wIL, y_wII, y_wIJ, y_wIR, y_wIN, y_wIw, y_sI, ↓reduceIte, Nat.reduceEqDiff, eq_self, true_or, or_true, false_or, or_false, and_true, true_and, false_and, and_false, not_true, not_false_eq_true, tf_T, tf_F, y_up1, y_up2, y_xx, y_nx, y_sJ, y_sR, Int32.reduceLT, y_nxK, y_nxL, y_nxR, y_sJK, y_sJL, y_sJR, y_sJN, y_sRK, y_sRL, y_sRN, Nat.add_zero, z_nat, z_lit, z_lit0, z_lit1, z_in0, z_in1, z_addl0, z_lt, z_ltl, z_llt, z_inj, z_injl, z_add, z_addl, z_ladd, z_mul, z_mull, z_lmul, z_neg, z_negl, z_in, z_inl, z_ltT, z_ltF, z_eqF, z_10, z_01, z_litne, z_ne0, z_0ne, z_ne1, z_1ne, z_lt64, z_02, z_03, z_04, z_05, z_12, z_13, z_14, z_15, z_20, z_21, z_23, z_24, z_25, z_30, z_31, z_32, z_34, z_35, z_40, z_41, z_42, z_43, z_45, z_50, z_51, z_52, z_53, z_54]
        · simp (disch := omega) only [e8, e3, g4, hY, y_ckd, y_ck2d, y_ond, y_onn, y_oI, y_oIx, y_oJ, y_oV, y_oVx, y_oR, y_oRn, y_oRx, y_b0, y_b1, y_bi, y_bid, y_wIK, y_wIL, y_wII, y_wIJ, y_wIR, y_wIN, y_wIw, y_sI, ↓reduceIte, Nat.reduceEqDiff, eq_self, true_or, or_true, false_or, or_false, and_true, true_and, false_and, and_false, not_true, not_false_eq_true, tf_T, tf_F, y_up1, y_up2, y_xx, y_nx, y_sJ, y_sR, Int32.reduceLT, y_nxK, y_nxL, y_nxR, y_sJK, y_sJL, y_sJR, y_sJN, y_sRK, y_sRL, y_sRN, Nat.add_zero, z_nat, z_lit, z_lit0, z_lit1, z_in0, z_in1, z_addl0, z_lt, z_ltl, z_llt, z_inj, z_injl, z_add, z_addl, z_ladd, z_mul, z_mull, z_lmul, z_neg, z_negl, z_in, z_inl, z_ltT, z_ltF, z_eqF, z_10, z_01, z_litne, z_ne0, z_0ne, z_ne1, z_1ne, z_lt64, z_02, z_03, z_04, z_05, z_12, z_13, z_14, z_15, z_20, z_21, z_23, z_24, z_25, z_30, z_31, z_32, z_34, z_35, z_40, z_41, z_42, z_43, z_45, z_50, z_51, z_52, z_53, z_54]) (w, i) ⟨rfl, hR, hW, ⟨rfl, rfl, rfl⟩, fun _ _ _ => rfl⟩
  dsimp only at E hv hRv hWv c1 c2 c3 fo
  rw [← hv]
  refine ⟨j, E.trans ?_, hRv, hWv, ⟨c1, c2, c3⟩, fo⟩
  have e8 : j b 8 = Int32.ofNat (cn w 2621) := (hRv.2.2.2.1.1.trans hWv.1.2.2.2.1.1).trans (by rw [c2])
  refine htx (P := fun T => am_fx am_P (d + 5) 245 53 [some (.ref b), some T, some (.int (Int32.ofNat (cn w 2621)))] [] (am_wI B j) = am_fx am_P (d + 5) 245 103 [some (.ref b), some T, some (.int 0)] [] (am_wI B j)) (fun _ _ r _ => ?_) (fun _ => ?_)
  · rw [bk_245_53_RRI_]
    simp (disch := omega) only [e8, hY, y_ckd, y_ck2d, y_ond, y_onn, y_oI, y_oIx, y_oJ, y_oV, y_oVx, y_oR, y_oRn, y_oRx, y_b0, y_b1, y_bi, y_bid, y_wIK, y_wIL, y_wII, y_wIJ, y_wIR, y_wIN, y_wIw, y_sI, ↓reduceIte, Nat.reduceEqDiff, eq_self, true_or, or_true, false_or, or_false, and_true, true_and, false_and, and_false, not_true, not_false_eq_true, tf_T, tf_F, y_up1, y_up2, y_xx, y_nx, y_sJ, y_sR, Int32.reduceLT, y_nxK, y_nxL, y_nxR, y_sJK, y_sJL, y_sJR, y_sJN, y_sRK, y_sRL, y_sRN, Nat.add_zero, z_nat, z_lit, z_lit0, z_lit1, z_in0, z_in1, z_addl0, z_lt, z_ltl, z_llt, z_inj, z_injl, z_add, z_addl, z_ladd, z_mul, z_mull, z_lmul, z_neg, z_negl, z_in, z_inl, z_ltT, z_ltF, z_eqF, z_10, z_01, z_litne, z_ne0, z_0ne, z_ne1, z_1ne, z_lt64, z_02, z_03, z_04, z_05, z_12, z_13, z_14, z_15, z_20, z_21, z_23, z_24, z_25, z_30, z_31, z_32, z_34, z_35, z_40, z_41, z_42, z_43, z_45, z_50, z_51, z_52, z_53, z_54]
  · rw [bk_245_53]
    simp (disch := omega) only [e8, hY, y_ckd, y_ck2d, y_ond, y_onn, y_oI, y_oIx, y_oJ, y_oV, y_oVx, y_oR, y_oRn, y_oRx, y_b0, y_b1, y_bi, y_bid, y_wIK, y_wIL, y_wII, y_wIJ, y_wIR, y_wIN, y_wIw, y_sI, ↓reduceIte, Nat.reduceEqDiff, eq_self, true_or, or_true, false_or, or_false, and_true, true_and, false_and, and_false, not_true, not_false_eq_true, tf_T, tf_F, y_up1, y_up2, y_xx, y_nx, y_sJ, y_sR, Int32.reduceLT, y_nxK, y_nxL, y_nxR, y_sJK, y_sJL, y_sJR, y_sJN, y_sRK, y_sRL, y_sRN, Nat.add_zero, z_nat, z_lit, z_lit0, z_lit1, z_in0, z_in1, z_addl0, z_lt, z_ltl, z_llt, z_inj, z_injl, z_add, z_addl, z_ladd, z_mul, z_mull, z_lmul, z_neg, z_negl, z_in, z_inl, z_ltT, z_ltF, z_eqF, z_10, z_01, z_litne, z_ne0, z_0ne, z_ne1, z_1ne, z_lt64, z_02, z_03, z_04, z_05, z_12, z_13, z_14, z_15, z_20, z_21, z_23, z_24, z_25, z_30, z_31, z_32, z_34, z_35, z_40, z_41, z_42, z_43, z_45, z_50, z_51, z_52, z_53, z_54]
theorem chS_ne {a : (Nat → Int32) × Int32} {z : Nat} (h : z ≠ 461 + 18 * p + 1) : (chS p a).1 z = a.1 z := by
  unfold chS
  split
  · exact wu_ne h
  · rfl
theorem Wd_chp (h : Wd w) (hp : p < cn w 460) (h120 : p < 120) (g0 : w (461 + 18 * p + 1) = 2) : Wd (wu w (461 + 18 * p + 1) 4) := by
  obtain ⟨a1, a2, a3, a4, a5, a6, a7, a8, a9, a10, a11, a12, a13⟩ := h.2.2.2.1.1 p hp h120
  refine Wd_pc h hp h120 (fun z hz => by simp (disch := omega) only [wu_ne]) ⟨?_, ?_, ?_, ?_, ?_, ?_, ?_, ?_, ?_, ?_, ?_, ?_, ?_⟩ (lnt_pl (by simp (disch := omega) only [wu_ne]) (by simp (disch := omega) only [wu_ne]) (Or.inl (by rw [g0]; decide))) (fun t m ht t8 hm m8 g e => WdI_no h.2.2.2.2.2.2.2.2.2.2 h120 (by rw [g0]; decide) t m ht t8 hm m8 g e)
  · unfold cn
    simp (disch := omega) only [wu_ne]
    exact a1
  all_goals try (simp (disch := omega) only [wu_ne]; assumption)
  · simp (disch := omega) only [wu_at, wu_ne]
    decide
  · simp (disch := omega) only [wu_at, wu_ne]
    exact fun q => absurd q (by decide)
theorem Rep_chp (h : Rep B i b w) (hb : b + 260 ≤ 874) (hp : p < cn w 460) (h120 : p < 120) : Rep B (am_up2 i (b + 92 + p) 9 4) b (wu w (461 + 18 * p + 1) 4) := by
  obtain ⟨a0, a9, a2, a3, a4, a1, a10, a11, a14, a5, a7, a16, a17, a18, a15, a12, a13, a8, a6⟩ := h.2.2.1.2 p hp h120
  refine Rep_pc h hb h120 (fun q k hq => by simp (disch := omega) only [y_up2]) (fun z hz => by simp (disch := omega) only [wu_ne]) ⟨?_, ?_, ?_, ?_, ?_, ?_, ?_, ?_, ?_, ?_, ?_, ?_, ?_, ?_, ?_, ?_, ?_, ?_, ?_⟩
  all_goals try (rw [y_up2 (by omega), wu_ne (by omega)]; assumption)
  · rw [y_up1 rfl rfl, wu_at rfl]
  · intro q
    rw [wu_at rfl] at q
    exact absurd q (by decide)
  · rw [y_up2 (by omega), wu_ne (by omega), a6]
    exact (hrt_fr (fun t ht => wu_ne (by omega)) _).symm
end Ships
