/-! A DAY, BOTH SIDES: made by wip/whole/math/90j.py. -/
section Day2
variable {B : am_A} {i j : Nat → Nat → Int32} {w v : Nat → Int32} {d b q n p s k g : Nat} {x y z D : Int32} {t : Option Nat} {σ : Sg}
theorem dy2_c460 : cn (dy1 w) 460 = cn w 460 := by unfold cn; rw [dy1_ne (by omega)]
theorem dy2_e : dyW (dy1 w) (cn (dy1 w) 460) = dy2 w := by unfold dy2; rw [dy2_c460]
theorem dy2_z (h : Wd w) {z : Nat} (h1 : z ≠ 0) (h2 : z < 461 ∨ 2621 ≤ z) : dy2 w z = w z := by
  have := h.1.2.2.1.2
  exact dy2_ne h1 (by omega)
theorem dy3_z (h : Wd w) {z : Nat} (h1 : z ≠ 0) (h2 : z = 2621 ∨ 3014 ≤ z) : dy3 w z = w z := by
  have h21 := h.1.2.2.2.1.2
  refine Eq.trans ?_ (dy2_z h h1 (by omega))
  unfold dy3
  have : ∀ n, n ≤ 8 → itr (opS (dyt w)) n (dy2 w) z = dy2 w z := by
    intro n
    induction n with
    | zero => exact fun _ => rfl
    | succ n ih => exact fun hn => (opS_ne (by omega)).trans (ih (by omega))
  exact this _ h21
theorem Wd_dy3 (h : Wd w) (hd : cn w 0 < 4000) : Wd (dy3 w) := by
  have h2 := Wd_dy2 h hd
  have ht := dyt_lt h
  have h21 := h.1.2.2.2.1.2
  have e21 : cn (dy2 w) 2621 = cn w 2621 := by unfold cn; rw [dy2_z h (by omega) (by omega)]
  have hP : Wd (dy3 w) ∧ cn (dy3 w) 2621 = cn w 2621 ∧ cn (dy3 w) 3541 = cn (dy2 w) 3541 := by
    refine itr_inv (P := fun _ v => Wd v ∧ cn v 2621 = cn w 2621 ∧ cn v 3541 = cn (dy2 w) 3541) ⟨h2, e21, rfl⟩ fun k hk v hv => ?_
    obtain ⟨v1, v2, v3⟩ := hv
    refine ⟨Wd_opS v1 (by omega) (by omega) (fun m hm => by have := ht m hm; omega), ?_, ?_⟩
    · unfold cn at v2 ⊢
      rw [opS_ne (by omega)]
      exact v2
    · unfold cn at v3 ⊢
      rw [opS_ne (by omega)]
      exact v3
  exact hP.1
theorem Wd_dyZ (h : Wd w) (hd : cn w 0 < 4000) : Wd (dyZ w) := by
  have h3 := Wd_dy3 h hd
  have h19 := h.1.2.2.2.2.2.1.2
  have hP : Wd (dyZ w) ∧ cn (dyZ w) 3019 = cn w 3019 := by
    refine itr_inv (P := fun _ v => Wd v ∧ cn v 3019 = cn w 3019) ⟨h3, by unfold cn; rw [dy3_z h (by omega) (by omega)]⟩ fun k hk v hv => ?_
    obtain ⟨v1, v2⟩ := hv
    have e := gaS_cc (t := dyt w) (g := k) (z := 3019) v1 (by omega) (by omega) (by omega) (by omega)
    refine ⟨Wd_gaS v1 (by omega) (by omega), ?_⟩
    unfold cn at v2 ⊢
    rw [e]
    exact v2
  exact hP.1
theorem c_day (hY : Yd B b) (hb : b + 260 ≤ 874) (hR : Rep B i b w) (hW : Wd w) (hd : cn w 0 < 4000) : ∃ j, am_fx am_P (d + 5) 245 0 [some (.ref b), none, none] [] (am_wI B i) = some (.inl none, am_wI B j) ∧ Rep B j b (dyZ w) ∧ ∀ q k, (q < b ∨ b + 260 ≤ q) → j q k = i q k := by
  have hW1 := Wd_dy1 hW hd
  have hW2 := Wd_dy2 hW hd
  have k0 := hR.1.1
  have h4 := hW.1.2.2.1
  have n4 := h4.2
  have hR1 : Rep B (am_up2 i b 0 (w 0 + 1)) b (dy1 w) := by
    obtain ⟨r0, r1, r2, r3, r4, r5, r6, r7, r8⟩ := hR.1
    refine Rep_base hR (Le.rf B) (by omega) rfl ⟨?_, ?_, ?_, ?_, ?_, fun k hk => ?_, fun k hk => ?_, ?_, fun k hk => ?_⟩ (by intros; simp (disch := omega) only [y_up2]) (by intros; simp (disch := omega) only [y_upr]) (by intros; exact dy1_ne (by omega))
    · rw [y_up1 rfl rfl]; exact (wu_at rfl).symm
    · rw [y_up2 (by omega), r1]; exact (wu_ne (by omega)).symm
    · rw [y_up2 (by omega), r2]; exact (wu_ne (by omega)).symm
    · rw [y_up2 (by omega), r3]; exact (wu_ne (by omega)).symm
    · rw [y_up2 (by omega), r4]; exact (wu_ne (by omega)).symm
    · rw [y_up2 (by omega), r5 k hk]; exact (wu_ne (by omega)).symm
    · rw [y_up2 (by omega), r6 k hk]; exact (wu_ne (by omega)).symm
    · rw [y_up2 (by omega), r7]; exact (wu_ne (by omega)).symm
    · rw [y_up2 (by omega), r8 k hk]; exact (wu_ne (by omega)).symm
  obtain ⟨j2, E2, R2, f2⟩ := c_pcs (d := d + 2) hY hb hW1.1.2.2.1 hR1
  rw [dy2_e] at R2
  rw [dy2_c460] at E2
  have e5 : j2 b 5 = Int32.ofNat (cn w 460) := (R2.2.2.1.1.trans (dy2_z hW (by omega) (by omega))).trans h4.1
  have e0 : j2 b 0 = dy2 w 0 := R2.1.1
  have EF := c_inForce (B := B) (d := d + 4) (x := dy2 w 0) hY R2.2.2.2.2.2.2.2.2 hW2.1.2.2.2.2.2.2.2.2.2 hW2.2.2.2.2.2.2.2.2.1
  have ht := dyt_lt hW
  have E3 : am_fx am_P (d + 5) 245 12 [some (.ref b), some (.int (Int32.ofNat (cn w 460))), none] [] (am_wI B j2) = am_fx am_P (d + 5) 245 53 [some (.ref b), some (txq B b (dyt w)), some (.int 0)] [] (am_wI B j2) := by
    have et : txi (dy2 w) (dy2 w 0) (cn (dy2 w) 3541) = dyt w := rfl
    rw [et] at EF
    cases e : dyt w with
    | none =>
      rw [e] at EF
      simp only [txq] at EF ⊢
      rw [bk_245_12]
      simp (disch := omega) only [e5, e0, EF, hY, y_ckd, y_ck2d, y_ond, y_onn, y_oI, y_oIx, y_oJ, y_oV, y_oVx, y_oR, y_oRn, y_oRx, y_b0, y_b1, y_bi, y_bid, y_wIK, y_wIL, y_wII, y_wIJ, y_wIR, y_wIN, y_wIw, y_sI, ↓reduceIte, Nat.reduceEqDiff, eq_self, true_or, or_true, false_or, or_false, and_true, true_and, false_and, and_false, not_true, not_false_eq_true, tf_T, tf_F, y_up1, y_up2, y_xx, y_nx, y_sJ, y_sR, Int32.reduceLT, y_nxK, y_nxL, y_nxR, y_sJK, y_sJL, y_sJR, y_sJN, y_sRK, y_sRL, y_sRN, Nat.add_zero, z_nat, z_lit, z_lit0, z_lit1, z_in0, z_in1, z_addl0, z_lt, z_ltl, z_llt, z_inj, z_injl, z_add, z_addl, z_ladd, z_mul, z_mull, z_lmul, z_neg, z_negl, z_in, z_inl, z_ltT, z_ltF, z_eqF, z_10, z_01, z_litne, z_ne0, z_0ne, z_ne1, z_1ne, z_lt64, z_02, z_03, z_04, z_05, z_12, z_13, z_14, z_15, z_20, z_21, z_23, z_24, z_25, z_30, z_31, z_32, z_34, z_35, z_40, z_41, z_42, z_43, z_45, z_50, z_51, z_52, z_53, z_54]
    | some k =>
      obtain ⟨kc, k10⟩ := ht k e
      obtain ⟨-, r, er, -⟩ := R2.2.2.2.2.2.2.2.2.2 k kc k10
      rw [e] at EF
      simp only [txq, er] at EF ⊢
      rw [bk_245_12]
      simp (disch := omega) only [e5, e0, EF, hY, y_ckd, y_ck2d, y_ond, y_onn, y_oI, y_oIx, y_oJ, y_oV, y_oVx, y_oR, y_oRn, y_oRx, y_b0, y_b1, y_bi, y_bid, y_wIK, y_wIL, y_wII, y_wIJ, y_wIR, y_wIN, y_wIw, y_sI, ↓reduceIte, Nat.reduceEqDiff, eq_self, true_or, or_true, false_or, or_false, and_true, true_and, false_and, and_false, not_true, not_false_eq_true, tf_T, tf_F, y_up1, y_up2, y_xx, y_nx, y_sJ, y_sR, Int32.reduceLT, y_nxK, y_nxL, y_nxR, y_sJK, y_sJL, y_sJR, y_sJN, y_sRK, y_sRL, y_sRN, Nat.add_zero, z_nat, z_lit, z_lit0, z_lit1, z_in0, z_in1, z_addl0, z_lt, z_ltl, z_llt, z_inj, z_injl, z_add, z_addl, z_ladd, z_mul, z_mull, z_lmul, z_neg, z_negl, z_in, z_inl, z_ltT, z_ltF, z_eqF, z_10, z_01, z_litne, z_ne0, z_0ne, z_ne1, z_1ne, z_lt64, z_02, z_03, z_04, z_05, z_12, z_13, z_14, z_15, z_20, z_21, z_23, z_24, z_25, z_30, z_31, z_32, z_34, z_35, z_40, z_41, z_42, z_43, z_45, z_50, z_51, z_52, z_53, z_54]
  obtain ⟨j4, E4, R4, W4, ⟨c1, c2, c3⟩, f4⟩ := c_ships (d := d) (t := dyt w) hY hb R2 hW2 ht
  have e21 : cn (dy2 w) 2621 = cn w 2621 := by unfold cn; rw [dy2_z hW (by omega) (by omega)]
  rw [e21] at R4 W4 c1 c2 c3
  have ed3 : itr (opS (dyt w)) (cn w 2621) (dy2 w) = dy3 w := rfl
  rw [ed3] at R4 W4 c1 c2 c3
  obtain ⟨j5, E5, R5, W5, f5⟩ := c_gangsD (d := d + 1) (t := dyt w) hY hb R4 W4 (fun m hm => by have := ht m hm; omega)
  have e19 : cn (dy3 w) 3019 = cn w 3019 := by unfold cn; rw [dy3_z hW (by omega) (by omega)]
  rw [e19] at R5
  refine ⟨j5, ?_, R5, fun q k hq => (f5 q k hq).trans ((f4 q k hq).trans ((f2 q k (by omega)).trans (y_up2 (by omega))))⟩
  rw [bk_245_0]
  simp (disch := omega) only [k0, hY, y_ckd, y_ck2d, y_ond, y_onn, y_oI, y_oIx, y_oJ, y_oV, y_oVx, y_oR, y_oRn, y_oRx, y_b0, y_b1, y_bi, y_bid, y_wIK, y_wIL, y_wII, y_wIJ, y_wIR, y_wIN, y_wIw, y_sI, ↓reduceIte, Nat.reduceEqDiff, eq_self, true_or, or_true, false_or, or_false, and_true, true_and, false_and, and_false, not_true, not_false_eq_true, tf_T, tf_F, y_up1, y_up2, y_xx, y_nx, y_sJ, y_sR, Int32.reduceLT, y_nxK, y_nxL, y_nxR, y_sJK, y_sJL, y_sJR, y_sJN, y_sRK, y_sRL, y_sRN, Nat.add_zero, z_nat, z_lit, z_lit0, z_lit1, z_in0, z_in1, z_addl0, z_lt, z_ltl, z_llt, z_inj, z_injl, z_add, z_addl, z_ladd, z_mul, z_mull, z_lmul, z_neg, z_negl, z_in, z_inl, z_ltT, z_ltF, z_eqF, z_10, z_01, z_litne, z_ne0, z_0ne, z_ne1, z_1ne, z_lt64, z_02, z_03, z_04, z_05, z_12, z_13, z_14, z_15, z_20, z_21, z_23, z_24, z_25, z_30, z_31, z_32, z_34, z_35, z_40, z_41, z_42, z_43, z_45, z_50, z_51, z_52, z_53, z_54]
  exact E2.trans (E3.trans (E4.trans E5))
theorem m_day (hM : Md B) (hw : ∀ z, z < 12042 → i 875 z = w z) (hW : Wd w) (hd : cn w 0 < 4000) : ∃ j, am_fx am_P (d + 5) 120 0 [some (.ref 874), none, none] [] (am_wI B i) = some (.inl none, am_wI B j) ∧ (∀ z, z < 12042 → j 875 z = dyZ w z) ∧ ∀ q k, q ≠ 875 → q ≠ 880 → q ≠ 881 → q ≠ 882 → j q k = i q k := by
  have k0 := hw 0 (by omega)
  have hw1 : ∀ z, z < 12042 → am_up2 i 875 0 (w 0 + 1) 875 z = dy1 w z := up_wu hw
  obtain ⟨j2, E2, h2, f2⟩ := m_pcs (B := B) (d := d + 1) hM hw1 (Wd_dy1 hW hd)
  rw [dy2_e] at h2
  obtain ⟨j3, E3, h3, W3, T3, c3, f3⟩ := m_ships (B := B) (d := d) (t := dyt w) hM h2 (Wd_dy2 hW hd) rfl
  have e21 : cn (dy2 w) 2621 = cn w 2621 := by unfold cn; rw [dy2_z hW (by omega) (by omega)]
  rw [e21] at h3 W3 T3
  obtain ⟨j4, E4, h4, f4⟩ := m_gangsD (B := B) (d := d) (t := dyt w) hM h3 W3 T3
  have e19 : cn (itr (opS (dyt w)) (cn w 2621) (dy2 w)) 3019 = cn w 3019 := by
    have e := dy3_z hW (z := 3019) (by omega) (by omega)
    unfold dy3 at e
    unfold cn at e ⊢
    rw [e]
  rw [e19] at h4
  refine ⟨j4, ?_, h4, fun q k a1 a2 a3 a4 => (f4 q k a1 a2 a3 a4).trans ((f3 q k a1 a2 a3 a4).trans ((f2 q k a1).trans (y_up2 (by omega))))⟩
  rw [bk_120_0]
  simp (disch := omega) only [k0, hM, y_ckd, y_ck2d, y_ond, y_onn, y_oI, y_oIx, y_oJ, y_oV, y_oVx, y_oR, y_oRn, y_oRx, y_b0, y_b1, y_bi, y_bid, y_wIK, y_wIL, y_wII, y_wIJ, y_wIR, y_wIN, y_wIw, y_sI, ↓reduceIte, Nat.reduceEqDiff, eq_self, true_or, or_true, false_or, or_false, and_true, true_and, false_and, and_false, not_true, not_false_eq_true, tf_T, tf_F, y_up1, y_up2, y_xx, y_nx, y_sJ, y_sR, Int32.reduceLT, y_nxK, y_nxL, y_nxR, y_sJK, y_sJL, y_sJR, y_sJN, y_sRK, y_sRL, y_sRN, Nat.add_zero, z_nat, z_lit, z_lit0, z_lit1, z_in0, z_in1, z_addl0, z_lt, z_ltl, z_llt, z_inj, z_injl, z_add, z_addl, z_ladd, z_mul, z_mull, z_lmul, z_neg, z_negl, z_in, z_inl, z_ltT, z_ltF, z_eqF, z_10, z_01, z_litne, z_ne0, z_0ne, z_ne1, z_1ne, z_lt64, z_02, z_03, z_04, z_05, z_12, z_13, z_14, z_15, z_20, z_21, z_23, z_24, z_25, z_30, z_31, z_32, z_34, z_35, z_40, z_41, z_42, z_43, z_45, z_50, z_51, z_52, z_53, z_54]
  exact E2.trans (E3.trans E4)
def dyN (n : Nat) (w : Nat → Int32) : Nat → Int32 := itr (fun _ v => dyZ v) n w
theorem dyN_ok (h : Wd w) : ∀ n, cn w 0 + n ≤ 4000 → Wd (dyN n w) ∧ dyN n w 0 = Int32.ofNat (cn w 0 + n) := by
  intro n
  induction n with
  | zero => exact fun _ => ⟨h, h.1.1.1⟩
  | succ n ih =>
    intro hn
    obtain ⟨h1, h2⟩ := ih (by omega)
    have e : cn (dyN n w) 0 = cn w 0 + n := by
      show (dyN n w 0).toNatClampNeg = _
      rw [h2, z_nat (by omega)]
    have h3 := Wd_dyZ h1 (by omega)
    have h4 := dyZ_d h1 (by omega)
    rw [e] at h4
    exact ⟨h3, h4⟩
theorem CR_94 (h : CR B i σ) (hR : Rep B j 94 w) (hi : ∀ q k, (q < 94 ∨ 94 + 260 ≤ q) → j q k = i q k) : CR B j (w, σ.2) := by
  obtain ⟨hf, -, h2, h3, h5, h6, hT⟩ := h
  exact ⟨hf, hR, fun t => Rep_oth (h2 t) Sr.rf (Or.inl rfl) (Or.inr (Or.inl rfl)) (by omega) (fun q k _ hq => hi q k (by omega)), fun t => Rep_oth (h3 t) Sr.rf (Or.inl rfl) (Or.inr (Or.inr rfl)) (by omega) (fun q k _ hq => hi q k (by omega)), (hi 64 5 (by omega)).trans h5, (hi 64 6 (by omega)).trans h6, TpC_fr hT fun q k hq => hi q k (by omega)⟩
end Day2
