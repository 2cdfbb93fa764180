/-! WARRANT: the class. Made by wip/whole/math/949.py. -/
/-- the tape's bytes as numbers -/
def nyb (σ : Sg) : Nat → Nat := fun k => nby (σ.2.2.2.2.2.2.1 k)
/-- the tape is used up -/
def sgt (σ : Sg) (w' : Nat → Int32) (f : Int32) : Sg := (w', σ.2.1, σ.2.2.1, σ.2.2.2.1, σ.2.2.2.2.1, 0, σ.2.2.2.2.2.2.1, f)
section War1
variable {B B1 : am_A} {i i1 j : Nat → Nat → Int32} {σ : Sg} {w' u : Nat → Int32} {d f : Nat} {x : Int32} {r : Nat × PS}
theorem y_sRo {a k q : Nat} {v : Option Nat} (h : q ≠ a) : am_R (am_sR B a k v) q = am_R B q := funext fun l => y_up2 (Or.inl h)
theorem CT_of (h : CR B i σ) (hS : SW σ) : CT (nyb σ) σ.2.2.2.2.2.1 i := by
  obtain ⟨t1, t2, -⟩ := h.2.2.2.2.2.2
  obtain ⟨-, -, -, l400, hb⟩ := hS
  exact ⟨t1, l400, fun k hk => (t2 k hk).trans (nby_ok (hb k hk)).1, fun k hk => (nby_ok (hb k hk)).2.1⟩
theorem FRs_g {X : am_X} {O : Option Value ⊕ Nat} {tp : Nat × (Nat → Int32) × Int32} (h : CR B i σ) (hx : X = some (O, am_wI B1 i1)) (hL : Le B B1) (hR8 : am_R B1 362 = am_R B 362 ∧ am_R B1 622 = am_R B 622) (hb : am_C B1 ≤ am_C B + 9 ∧ am_S B1 ≤ am_S B + 590) (hR : Rep B1 i1 94 w') (ht : TpC i1 tp) (hi : ∀ q k, q < am_N B → (q < 65 ∨ 354 ≤ q) → i1 q k = i q k) : FRs B i (w', σ.2.1, σ.2.2.1, σ.2.2.2.1, σ.2.2.2.2.1, tp) X O := by
  obtain ⟨⟨h1, h2, h3, h4, hN⟩, h5, h6, h7, h8, h9, h10⟩ := h
  have hT : ∀ q, 893 ≤ q → q < am_N B → i1 q = i q := fun q hq hq2 => funext fun k => hi q k hq2 (by omega)
  exact ⟨B1, i1, hx, ⟨⟨Fc_le hL hN h1, Yd_le hL hN (by omega) h2, Yd_le hL hN (by omega) h3, Yd_le hL hN (by omega) h4, Nat.le_trans hN hL.1⟩, hR, fun q => Rep_fr (h6 q) hL hR8.1 (fun q k _ _ _ _ _ _ => hi q k (by omega) (by omega)) hT fun _ _ => rfl, fun q => Rep_fr (h7 q) hL hR8.2 (fun q k _ _ _ _ _ _ => hi q k (by omega) (by omega)) hT fun _ _ => rfl, (hi _ _ (by omega) (by omega)).trans h8, (hi _ _ (by omega) (by omega)).trans h9, ht⟩, hL, hb, fun q k hq => hi q k (by omega) (by omega)⟩
/-- a tape that is empty -/
theorem TpC_0 {t : Nat → Int32} {y : Int32} (h1 : j 65 1 = 0) (h2 : j 65 2 = y) : TpC j (0, t, y) := ⟨h1, fun k hk => absurd hk (Nat.not_lt_zero k), h2⟩
/-- it raises, the heap of the yard as it was -/
theorem FRs_gx {X : am_X} {e : Nat} {y : Int32} (h : CR B i σ) (hx : X = some (.inr e, am_wI (am_xx B1 1 6) j)) (hL : Le B B1) (hR : ∀ q, q < am_N B → am_R B1 q = am_R B q) (hb : am_C B1 ≤ am_C B + 8 ∧ am_S B1 ≤ am_S B + 580) (h1 : j 65 1 = 0) (h2 : j 65 2 = y) (hi : ∀ q k, q < am_N B → (q < 65 ∨ 71 ≤ q) → j q k = i q k) : FRs B i (sgt σ σ.1 y) X (.inr e) := by
  have hN := h.1.2.2.2.2
  refine FRs_g h hx (Le.tr hL Le.xx) ⟨hR 362 (by omega), hR 622 (by omega)⟩ ⟨?_, ?_⟩ (Rep_fr h.2.1 (Le.tr hL Le.xx) (hR 102 (by omega)) (fun q k _ _ _ _ _ _ => hi q k (by omega) (by omega)) (fun q _ hq => funext fun k => hi q k hq (by omega)) fun _ _ => rfl) (TpC_0 h1 h2) (fun q k hq hq2 => hi q k hq (by omega))
  · show am_C B1 + 1 ≤ _
    omega
  · show am_S B1 + 6 ≤ _
    omega
theorem f_warr_x (h : CR B i σ) (g : x < σ.1 0 ∨ 4000 < x) : FRs B i (sgt σ σ.1 σ.2.2.2.2.2.2.2) (am_fx am_P (d + 150) 301 0 [some (.ref 64), some (.int x), none] [] (am_wI B i)) (.inr 2) := by
  have hF : Fc B := h.1.1
  have hY : Yd B 94 := h.1.2.1
  have r0 := h.2.1.1.1
  refine FRs_gx (B1 := B) (j := am_up2 i 65 1 0) h ?_ (Le.rf B) (fun _ _ => rfl) ⟨by omega, by omega⟩ (y_up1 rfl rfl) ((y_up2 (by omega)).trans h.2.2.2.2.2.2.2.2) (fun q k _ hq => y_up2 (by omega))
  rw [bk_301_0]
  by_cases g1 : x < σ.1 0
  · simp (disch := omega) only [bk_352_0, bk_199_0, r0, g1, hF, hY, y_ckd, y_ck2d, y_ond, y_onn, y_oI, y_oIx, y_oJ, y_oV, y_oVx, y_oR, y_oRn, y_oRx, y_b0, y_b1, y_bi, y_bid, y_wIK, y_wIL, y_wII, y_wIJ, y_wIR, y_wIN, y_wIw, y_sI, ↓reduceIte, Nat.reduceEqDiff, eq_self, true_or, or_true, false_or, or_false, and_true, true_and, false_and, and_false, not_true, not_false_eq_true, tf_T, tf_F, y_up1, y_up2, y_xx, y_nx, y_sJ, y_sR, Int32.reduceLT, y_nxK, y_nxL, y_nxR, y_sJK, y_sJL, y_sJR, y_sJN, y_sRK, y_sRL, y_sRN, Nat.add_zero, z_nat, z_lit, z_lit0, z_lit1, z_in0, z_in1, z_addl0, z_lt, z_ltl, z_llt, z_inj, z_injl, z_add, z_addl, z_ladd, z_mul, z_mull, z_lmul, z_neg, z_negl, z_in, z_inl, z_ltT, z_ltF, z_eqF, z_10, z_01, z_litne, z_ne0, z_0ne, z_ne1, z_1ne, z_lt64, z_02, z_03, z_04, z_05, z_12, z_13, z_14, z_15, z_20, z_21, z_23, z_24, z_25, z_30, z_31, z_32, z_34, z_35, z_40, z_41, z_42, z_43, z_45, z_50, z_51, z_52, z_53, z_54]
  · have g2 := g.resolve_left g1
    simp (disch := omega) only [bk_352_0, bk_199_0, r0, g1, g2, hF, hY, y_ckd, y_ck2d, y_ond, y_onn, y_oI, y_oIx, y_oJ, y_oV, y_oVx, y_oR, y_oRn, y_oRx, y_b0, y_b1, y_bi, y_bid, y_wIK, y_wIL, y_wII, y_wIJ, y_wIR, y_wIN, y_wIw, y_sI, ↓reduceIte, Nat.reduceEqDiff, eq_self, true_or, or_true, false_or, or_false, and_true, true_and, false_and, and_false, not_true, not_false_eq_true, tf_T, tf_F, y_up1, y_up2, y_xx, y_nx, y_sJ, y_sR, Int32.reduceLT, y_nxK, y_nxL, y_nxR, y_sJK, y_sJL, y_sJR, y_sJN, y_sRK, y_sRL, y_sRN, Nat.add_zero, z_nat, z_lit, z_lit0, z_lit1, z_in0, z_in1, z_addl0, z_lt, z_ltl, z_llt, z_inj, z_injl, z_add, z_addl, z_ladd, z_mul, z_mull, z_lmul, z_neg, z_negl, z_in, z_inl, z_ltT, z_ltF, z_eqF, z_10, z_01, z_litne, z_ne0, z_0ne, z_ne1, z_1ne, z_lt64, z_02, z_03, z_04, z_05, z_12, z_13, z_14, z_15, z_20, z_21, z_23, z_24, z_25, z_30, z_31, z_32, z_34, z_35, z_40, z_41, z_42, z_43, z_45, z_50, z_51, z_52, z_53, z_54]
theorem f_warr_f (h : CR B i σ) (hS : SW σ) (hX : Stx B i) (g : ¬ (x < σ.1 0 ∨ 4000 < x)) (ht : txtS (nyb σ) σ.2.2.2.2.2.1 u = .inl f) : FRs B i (sgt σ σ.1 (Int32.ofNat f)) (am_fx am_P (d + 150) 301 0 [some (.ref 64), some (.int x), none] [] (am_wI B i)) (.inr 2) := by
  have hF : Fc B := h.1.1
  have hY : Yd B 94 := h.1.2.1
  have r0 := h.2.1.1.1
  have R := c_text (d := d + 119) (u := u) hF hX (CT_of h hS) h.1.2.2.2.2
  rw [ht, show d + 119 + 30 = d + 149 by omega] at R
  obtain ⟨j, E, ⟨j1, j2⟩, fj⟩ := R
  obtain ⟨g1, g2⟩ := not_or.mp g
  refine FRs_gx (B1 := B) (j := j) h ?_ (Le.rf B) (fun _ _ => rfl) ⟨by omega, by omega⟩ j1 j2 (fun q k _ hq => fj q k (by omega))
  rw [bk_301_0]
  simp (disch := omega) only [bk_352_0, r0, g1, g2, E, z_39, z_390, hF, hY, y_ckd, y_ck2d, y_ond, y_onn, y_oI, y_oIx, y_oJ, y_oV, y_oVx, y_oR, y_oRn, y_oRx, y_b0, y_b1, y_bi, y_bid, y_wIK, y_wIL, y_wII, y_wIJ, y_wIR, y_wIN, y_wIw, y_sI, ↓reduceIte, Nat.reduceEqDiff, eq_self, true_or, or_true, false_or, or_false, and_true, true_and, false_and, and_false, not_true, not_false_eq_true, tf_T, tf_F, y_up1, y_up2, y_xx, y_nx, y_sJ, y_sR, Int32.reduceLT, y_nxK, y_nxL, y_nxR, y_sJK, y_sJL, y_sJR, y_sJN, y_sRK, y_sRL, y_sRN, Nat.add_zero, z_nat, z_lit, z_lit0, z_lit1, z_in0, z_in1, z_addl0, z_lt, z_ltl, z_llt, z_inj, z_injl, z_add, z_addl, z_ladd, z_mul, z_mull, z_lmul, z_neg, z_negl, z_in, z_inl, z_ltT, z_ltF, z_eqF, z_10, z_01, z_litne, z_ne0, z_0ne, z_ne1, z_1ne, z_lt64, z_02, z_03, z_04, z_05, z_12, z_13, z_14, z_15, z_20, z_21, z_23, z_24, z_25, z_30, z_31, z_32, z_34, z_35, z_40, z_41, z_42, z_43, z_45, z_50, z_51, z_52, z_53, z_54]
theorem Le_5 (h : am_N B1 = am_N B + 5) (hN : 893 ≤ am_N B) (hq : ∀ q, q < am_N B → am_J B1 q = am_J B q ∧ am_K B1 q = am_K B q ∧ am_L B1 q = am_L B q ∧ am_R B1 q = am_R B q) : Le B B1 := ⟨by omega, fun q h1 => ⟨(hq q h1).2.1, (hq q h1).2.2.1, fun _ _ _ => (hq q h1).2.2.2⟩, (hq 1 (by omega)).1⟩
theorem f_warr_3 (h : CR B i σ) (hS : SW σ) (hX : Stx B i) (g : ¬ (x < σ.1 0 ∨ 4000 < x)) (ht : txtS (nyb σ) σ.2.2.2.2.2.1 u = .inr r) (g10 : ¬ cn σ.1 3541 < 10) : FRs B i (sgt σ σ.1 (-1)) (am_fx am_P (d + 150) 301 0 [some (.ref 64), some (.int x), none] [] (am_wI B i)) (.inr 3) := by
  have hF : Fc B := h.1.1
  have hY : Yd B 94 := h.1.2.1
  have hN := h.1.2.2.2.2
  have r0 := h.2.1.1.1
  have hc := hS.1.1.2.2.2.2.2.2.2.2.2
  have rX : i 101 2 = Int32.ofNat (cn σ.1 3541) := h.2.1.2.2.2.2.2.2.2.2.1.trans hc.1
  have R := c_text (d := d + 119) (u := u) hF hX (CT_of h hS) hN
  rw [ht, show d + 119 + 30 = d + 149 by omega] at R
  obtain ⟨B1, j, E, ⟨j1, j2⟩, fj, ⟨n1, n2, n3, n4⟩, T, l4⟩ := R
  have hL := Le_5 n1 hN n4
  have hF1 : Fc B1 := Fc_le hL hN hF
  have hY1 : Yd B1 94 := Yd_le hL hN (by omega) hY
  obtain ⟨g1, g2⟩ := not_or.mp g
  have rX1 : j 101 2 = Int32.ofNat (cn σ.1 3541) := (fj _ _ (by omega) (by omega)).trans rX
  refine FRs_gx (B1 := B1) (j := j) h ?_ hL (fun q hq => (n4 q hq).2.2.2) ⟨by omega, by omega⟩ j1 j2 (fun q k hq h2 => fj q k hq (by omega))
  rw [bk_301_0]
  simp (disch := omega) only [bk_352_0, r0, g1, g2, E, z_39, z_390, hF, hY, y_ckd, y_ck2d, y_ond, y_onn, y_oI, y_oIx, y_oJ, y_oV, y_oVx, y_oR, y_oRn, y_oRx, y_b0, y_b1, y_bi, y_bid, y_wIK, y_wIL, y_wII, y_wIJ, y_wIR, y_wIN, y_wIw, y_sI, ↓reduceIte, Nat.reduceEqDiff, eq_self, true_or, or_true, false_or, or_false, and_true, true_and, false_and, and_false, not_true, not_false_eq_true, tf_T, tf_F, y_up1, y_up2, y_xx, y_nx, y_sJ, y_sR, Int32.reduceLT, y_nxK, y_nxL, y_nxR, y_sJK, y_sJL, y_sJR, y_sJN, y_sRK, y_sRL, y_sRN, Nat.add_zero, z_nat, z_lit, z_lit0, z_lit1, z_in0, z_in1, z_addl0, z_lt, z_ltl, z_llt, z_inj, z_injl, z_add, z_addl, z_ladd, z_mul, z_mull, z_lmul, z_neg, z_negl, z_in, z_inl, z_ltT, z_ltF, z_eqF, z_10, z_01, z_litne, z_ne0, z_0ne, z_ne1, z_1ne, z_lt64, z_02, z_03, z_04, z_05, z_12, z_13, z_14, z_15, z_20, z_21, z_23, z_24, z_25, z_30, z_31, z_32, z_34, z_35, z_40, z_41, z_42, z_43, z_45, z_50, z_51, z_52, z_53, z_54]
  simp (disch := omega) only [bk_351_0, rX1, g10, hF1, hY1, y_ckd, y_ck2d, y_ond, y_onn, y_oI, y_oIx, y_oJ, y_oV, y_oVx, y_oR, y_oRn, y_oRx, y_b0, y_b1, y_bi, y_bid, y_wIK, y_wIL, y_wII, y_wIJ, y_wIR, y_wIN, y_wIw, y_sI, ↓reduceIte, Nat.reduceEqDiff, eq_self, true_or, or_true, false_or, or_false, and_true, true_and, false_and, and_false, not_true, not_false_eq_true, tf_T, tf_F, y_up1, y_up2, y_xx, y_nx, y_sJ, y_sR, Int32.reduceLT, y_nxK, y_nxL, y_nxR, y_sJK, y_sJL, y_sJR, y_sJN, y_sRK, y_sRL, y_sRN, Nat.add_zero, z_nat, z_lit, z_lit0, z_lit1, z_in0, z_in1, z_addl0, z_lt, z_ltl, z_llt, z_inj, z_injl, z_add, z_addl, z_ladd, z_mul, z_mull, z_lmul, z_neg, z_negl, z_in, z_inl, z_ltT, z_ltF, z_eqF, z_10, z_01, z_litne, z_ne0, z_0ne, z_ne1, z_1ne, z_lt64, z_02, z_03, z_04, z_05, z_12, z_13, z_14, z_15, z_20, z_21, z_23, z_24, z_25, z_30, z_31, z_32, z_34, z_35, z_40, z_41, z_42, z_43, z_45, z_50, z_51, z_52, z_53, z_54]
theorem c_wadd {k M : Nat} (hY1 : Yd B1 94) (rX1 : j 101 2 = Int32.ofNat k) (g10 : k < 10) (kT : am_K B1 M = 9) : am_fx am_P d 188 0 [some (.ref 101), some (.ref M), some (.int x)] [] (am_wI B1 j) = some (.inl none, am_wI (am_sR B1 102 k (some M)) (am_up2 (am_up2 j 103 k x) 101 2 (Int32.ofNat (k + 1)))) := by
  have e1 : am_R (am_sR B1 102 k (some M)) 101 = am_R B1 101 := y_sRo (by decide)
  rw [bk_188_0]
  simp (disch := omega) only [bk_188_29, rX1, g10, kT, e1, hY1, y_ckd, y_ck2d, y_ond, y_onn, y_oI, y_oIx, y_oJ, y_oV, y_oVx, y_oR, y_oRn, y_oRx, y_b0, y_b1, y_bi, y_bid, y_wIK, y_wIL, y_wII, y_wIJ, y_wIR, y_wIN, y_wIw, y_sI, ↓reduceIte, Nat.reduceEqDiff, eq_self, true_or, or_true, false_or, or_false, and_true, true_and, false_and, and_false, not_true, not_false_eq_true, tf_T, tf_F, y_up1, y_up2, y_xx, y_nx, y_sJ, y_sR, Int32.reduceLT, y_nxK, y_nxL, y_nxR, y_sJK, y_sJL, y_sJR, y_sJN, y_sRK, y_sRL, y_sRN, Nat.add_zero, z_nat, z_lit, z_lit0, z_lit1, z_in0, z_in1, z_addl0, z_lt, z_ltl, z_llt, z_inj, z_injl, z_add, z_addl, z_ladd, z_mul, z_mull, z_lmul, z_neg, z_negl, z_in, z_inl, z_ltT, z_ltF, z_eqF, z_10, z_01, z_litne, z_ne0, z_0ne, z_ne1, z_1ne, z_lt64, z_02, z_03, z_04, z_05, z_12, z_13, z_14, z_15, z_20, z_21, z_23, z_24, z_25, z_30, z_31, z_32, z_34, z_35, z_40, z_41, z_42, z_43, z_45, z_50, z_51, z_52, z_53, z_54]
theorem f_warr (h : CR B i σ) (hS : SW σ) (hX : Stx B i) (g : ¬ (x < σ.1 0 ∨ 4000 < x)) (ht : txtS (nyb σ) σ.2.2.2.2.2.1 u = .inr r) (g10 : cn σ.1 3541 < 10) : FRs B i (sgt σ (wtx σ.1 (wu r.2.2.2 12043 (Int32.ofNat r.1)) x) (-1)) (am_fx am_P (d + 150) 301 0 [some (.ref 64), some (.int x), none] [] (am_wI B i)) (.inl (some (.int (Int32.ofNat r.1)))) := by
  have hF : Fc B := h.1.1
  have hY : Yd B 94 := h.1.2.1
  have hN := h.1.2.2.2.2
  have r0 := h.2.1.1.1
  have hc := hS.1.1.2.2.2.2.2.2.2.2.2
  have rXX := h.2.1.2.2.2.2.2.2.2.2
  have rX : i 101 2 = Int32.ofNat (cn σ.1 3541) := rXX.1.trans hc.1
  have R := c_text (d := d + 119) (u := u) hF hX (CT_of h hS) hN
  rw [ht, show d + 119 + 30 = d + 149 by omega] at R
  obtain ⟨B1, j, E, ⟨j1, j2⟩, fj, ⟨n1, n2, n3, n4⟩, T, l4⟩ := R
  have hL := Le_5 n1 hN n4
  have hF1 : Fc B1 := Fc_le hL hN hF
  have hY1 : Yd B1 94 := Yd_le hL hN (by omega) hY
  obtain ⟨g1, g2⟩ := not_or.mp g
  have rX1 : j 101 2 = Int32.ofNat (cn σ.1 3541) := (fj _ _ (by omega) (by omega)).trans rX
  generalize hk : cn σ.1 3541 = k at g10 rX rX1 hc
  generalize hM : am_N B = M at hN fj n1 n4 T l4 E
  have hL2 : Le B (am_sR B1 102 k (some M)) := ⟨hL.1, fun q hq => ⟨(hL.2.1 q hq).1, (hL.2.1 q hq).2.1, fun a b c => (y_sRo a).trans ((hL.2.1 q hq).2.2 a b c)⟩, hL.2.2⟩
  have fi : ∀ q l, q < M → (q < 65 ∨ 71 ≤ q) → (q = 101 → l ≠ 2) → q ≠ 103 → am_up2 (am_up2 j 103 k x) 101 2 (Int32.ofNat (k + 1)) q l = i q l := fun q l h1 h2 h3 h4 => by
    rw [y_up2 (by omega), y_up2 (by omega)]
    exact fj q l h1 (by omega)
  have wlo : ∀ z, z < 3541 → wtx σ.1 (wu r.2.2.2 12043 (Int32.ofNat r.1)) x z = σ.1 z := fun z hz => wtx_lo hz
  have eT : j M 0 = Int32.ofNat r.1 := by
    rw [T.2.2.2.1]
    exact wu_at rfl
  have kT : am_K B1 M = 9 := T.2.2.1.1
  have r12 := txt_12 ht
  have cT : cn (wu r.2.2.2 12043 (Int32.ofNat r.1)) (12042 + 1) ≤ 12 := by
    unfold cn
    rw [show wu r.2.2.2 12043 (Int32.ofNat r.1) (12042 + 1) = Int32.ofNat r.1 from wu_at rfl, z_nat (by omega)]
    exact r12
  refine FRs_g (B1 := am_sR B1 102 k (some M)) (i1 := am_up2 (am_up2 j 103 k x) 101 2 (Int32.ofNat (k + 1))) h ?_ hL2 ⟨?_, ?_⟩ ⟨?_, ?_⟩ ?_ (TpC_0 ?_ ?_) (fun q l hq h2 => fi q l (by omega) (by omega) (by omega) (by omega))
  · rw [bk_301_0]
    simp (disch := omega) only [bk_352_0, r0, g1, g2, E, z_39, z_390, hF, hY, y_ckd, y_ck2d, y_ond, y_onn, y_oI, y_oIx, y_oJ, y_oV, y_oVx, y_oR, y_oRn, y_oRx, y_b0, y_b1, y_bi, y_bid, y_wIK, y_wIL, y_wII, y_wIJ, y_wIR, y_wIN, y_wIw, y_sI, ↓reduceIte, Nat.reduceEqDiff, eq_self, true_or, or_true, false_or, or_false, and_true, true_and, false_and, and_false, not_true, not_false_eq_true, tf_T, tf_F, y_up1, y_up2, y_xx, y_nx, y_sJ, y_sR, Int32.reduceLT, y_nxK, y_nxL, y_nxR, y_sJK, y_sJL, y_sJR, y_sJN, y_sRK, y_sRL, y_sRN, Nat.add_zero, z_nat, z_lit, z_lit0, z_lit1, z_in0, z_in1, z_addl0, z_lt, z_ltl, z_llt, z_inj, z_injl, z_add, z_addl, z_ladd, z_mul, z_mull, z_lmul, z_neg, z_negl, z_in, z_inl, z_ltT, z_ltF, z_eqF, z_10, z_01, z_litne, z_ne0, z_0ne, z_ne1, z_1ne, z_lt64, z_02, z_03, z_04, z_05, z_12, z_13, z_14, z_15, z_20, z_21, z_23, z_24, z_25, z_30, z_31, z_32, z_34, z_35, z_40, z_41, z_42, z_43, z_45, z_50, z_51, z_52, z_53, z_54]
    have eA := c_wadd (d := d + 149) (x := x) hY1 rX1 g10 kT
    have eM : am_up2 (am_up2 j 103 k x) 101 2 (Int32.ofNat (k + 1)) M 0 = Int32.ofNat r.1 := by
      rw [y_up2 (by omega), y_up2 (by omega)]
      exact eT
    generalize am_up2 (am_up2 j 103 k x) 101 2 (Int32.ofNat (k + 1)) = j9 at eA eM
    simp (disch := omega) only [bk_351_0, rX1, g10, eA, hF1, hY1, y_ckd, y_ck2d, y_ond, y_onn, y_oI, y_oIx, y_oJ, y_oV, y_oVx, y_oR, y_oRn, y_oRx, y_b0, y_b1, y_bi, y_bid, y_wIK, y_wIL, y_wII, y_wIJ, y_wIR, y_wIN, y_wIw, y_sI, ↓reduceIte, Nat.reduceEqDiff, eq_self, true_or, or_true, false_or, or_false, and_true, true_and, false_and, and_false, not_true, not_false_eq_true, tf_T, tf_F, y_up1, y_up2, y_xx, y_nx, y_sJ, y_sR, Int32.reduceLT, y_nxK, y_nxL, y_nxR, y_sJK, y_sJL, y_sJR, y_sJN, y_sRK, y_sRL, y_sRN, Nat.add_zero, z_nat, z_lit, z_lit0, z_lit1, z_in0, z_in1, z_addl0, z_lt, z_ltl, z_llt, z_inj, z_injl, z_add, z_addl, z_ladd, z_mul, z_mull, z_lmul, z_neg, z_negl, z_in, z_inl, z_ltT, z_ltF, z_eqF, z_10, z_01, z_litne, z_ne0, z_0ne, z_ne1, z_1ne, z_lt64, z_02, z_03, z_04, z_05, z_12, z_13, z_14, z_15, z_20, z_21, z_23, z_24, z_25, z_30, z_31, z_32, z_34, z_35, z_40, z_41, z_42, z_43, z_45, z_50, z_51, z_52, z_53, z_54]
    simp (disch := omega) only [eM, kT, y_ckd, y_ck2d, y_ond, y_onn, y_oI, y_oIx, y_oJ, y_oV, y_oVx, y_oR, y_oRn, y_oRx, y_b0, y_b1, y_bi, y_bid, y_wIK, y_wIL, y_wII, y_wIJ, y_wIR, y_wIN, y_wIw, y_sI, ↓reduceIte, Nat.reduceEqDiff, eq_self, true_or, or_true, false_or, or_false, and_true, true_and, false_and, and_false, not_true, not_false_eq_true, tf_T, tf_F, y_up1, y_up2, y_xx, y_nx, y_sJ, y_sR, Int32.reduceLT, y_nxK, y_nxL, y_nxR, y_sJK, y_sJL, y_sJR, y_sJN, y_sRK, y_sRL, y_sRN, Nat.add_zero, z_nat, z_lit, z_lit0, z_lit1, z_in0, z_in1, z_addl0, z_lt, z_ltl, z_llt, z_inj, z_injl, z_add, z_addl, z_ladd, z_mul, z_mull, z_lmul, z_neg, z_negl, z_in, z_inl, z_ltT, z_ltF, z_eqF, z_10, z_01, z_litne, z_ne0, z_0ne, z_ne1, z_1ne, z_lt64, z_02, z_03, z_04, z_05, z_12, z_13, z_14, z_15, z_20, z_21, z_23, z_24, z_25, z_30, z_31, z_32, z_34, z_35, z_40, z_41, z_42, z_43, z_45, z_50, z_51, z_52, z_53, z_54]
  · exact (y_sRo (by omega)).trans ((n4 362 (by omega)).2.2.2)
  · exact (y_sRo (by omega)).trans ((n4 622 (by omega)).2.2.2)
  · show am_C B1 ≤ _
    omega
  · show am_S B1 ≤ _
    omega
  · obtain ⟨b1, b2, b3, b4, b5, b6, b7, b8, b9⟩ := h.2.1
    refine ⟨RB_fr b1 (fun q l hq => fi q l (by omega) (by omega) (by omega) (by omega)) fun s hs => wlo s (by omega), RT_fr b2 (fun q l hq => fi q l (by omega) (by omega) (by omega) (by omega)) fun s hs => wlo s (by omega), RP_fr b3 (fun q l hq => fi q l (by omega) (by omega) (by omega) (by omega)) (fun s hs => wlo s (by omega)) fun t ht => wlo _ (by omega), RS_fr b4 (fun q l hq => fi q l (by omega) (by omega) (by omega) (by omega)) fun s hs => wlo s (by omega), RG_fr b5 (fun q l hq => fi q l (by omega) (by omega) (by omega) (by omega)) fun s hs => wlo s (by omega), RE_fr b6 (fun q l hq => fi q l (by omega) (by omega) (by omega) (by omega)) fun s hs => wlo s (by omega), RM_fr b7 (fun q l hq => fi q l (by omega) (by omega) (by omega) (by omega)) fun s hs => wlo s (by omega), RC_fr b8 (fun q l hq => fi q l (by omega) (by omega) (by omega) (by omega)) fun s hs => wlo s (by omega), ?_⟩
    have w41 : wtx σ.1 (wu r.2.2.2 12043 (Int32.ofNat r.1)) x 3541 = Int32.ofNat (k + 1) := by rw [← hk]; exact wtx_n
    refine ⟨by rw [w41]; exact y_up1 rfl rfl, fun t ht1 h6 => ?_⟩
    have ht2 : t < k + 1 := by
      unfold cn at ht1
      rw [w41, z_nat (by omega)] at ht1
      exact ht1
    by_cases q : t = k
    · subst q
      have e0 : wtx σ.1 (wu r.2.2.2 12043 (Int32.ofNat r.1)) x (3542 + 850 * t) = x := by rw [← hk]; exact wtx_0
      have ez : ∀ z, 1 ≤ z → z < 850 → wtx σ.1 (wu r.2.2.2 12043 (Int32.ofNat r.1)) x (3542 + 850 * t + z) = wu r.2.2.2 12043 (Int32.ofNat r.1) (12042 + z) := by rw [← hk]; exact fun z => wtx_z
      refine ⟨?_, M, ?_, ?_, l4, ?_⟩
      · rw [e0]
        exact (y_up2 (by omega)).trans (y_up1 rfl rfl)
      · show am_up2 (am_R B1) 102 t (some M) 102 t = some M
        exact y_up1 rfl rfl
      · have c1 : cn (wtx σ.1 (wu r.2.2.2 12043 (Int32.ofNat r.1)) x) (3542 + 850 * t + 1) = cn (wu r.2.2.2 12043 (Int32.ofNat r.1)) (12042 + 1) := by
          unfold cn
          rw [ez 1 (by omega) (by omega)]
        rw [c1]
        exact cT
      · exact TxR_mv T (Nat.le_refl _) (fun y h1 h2 => ⟨rfl, rfl, y_sRo (by omega)⟩) (fun y l h1 h2 => by rw [y_up2 (by omega), y_up2 (by omega)]) cT l4 ez
    · obtain ⟨a1, q', a2, a3, a4, a5⟩ := b9.2 t (by omega) h6
      have eo : ∀ z, 3542 + 850 * t ≤ z → z < 3542 + 850 * t + 850 → wtx σ.1 (wu r.2.2.2 12043 (Int32.ofNat r.1)) x z = σ.1 z := fun z h1 h2 => wtx_old (by omega) (by omega)
      have q'N := a5.2.1
      refine ⟨?_, q', ?_, ?_, ?_, ?_⟩
      · rw [eo _ (by omega) (by omega), ← a1]
        rw [y_up2 (by omega), y_up2 (by omega)]
        exact fj _ _ (by omega) (by omega)
      · rw [← a2, ← (n4 102 (by omega)).2.2.2]
        exact y_up2 (by omega)
      · have c1 : cn (wtx σ.1 (wu r.2.2.2 12043 (Int32.ofNat r.1)) x) (3542 + 850 * t + 1) = cn σ.1 (3542 + 850 * t + 1) := by
          unfold cn
          rw [eo _ (by omega) (by omega)]
        rw [c1]
        exact a3
      · show am_L B1 (q' + 4) ≤ 400
        rw [hL.L (by omega)]
        exact a4
      · exact TxR_fr a5 hL2 (fun y h1 h2 => funext fun l => fi y l (by omega) (by omega) (by omega) (by omega)) (fun s hs => eo s (by omega) (by omega)) a3 a4
  · rw [y_up2 (by omega), y_up2 (by omega)]
    exact j1
  · rw [y_up2 (by omega), y_up2 (by omega)]
    exact j2
end War1
