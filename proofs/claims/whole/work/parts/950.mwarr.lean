/-! WARRANT: the model, and both. Made by wip/whole/math/950.py. -/
section WarM1
variable {B B1 : am_A} {i i1 j : Nat → Nat → Int32} {σ : Sg} {w' u : Nat → Int32} {d f k n L : Nat} {x : Int32} {r : Nat × PS}
/-- the tape is taken up -/
def tkup (i : Nat → Nat → Int32) : Nat → Nat → Int32 := am_up2 (am_up2 (am_up2 (am_up2 i 874 0 0) 874 9 (i 874 7)) 874 7 0) 874 8 0
theorem m_uses (hM : Md B) : am_fx am_P d 38 0 [some (.ref 874)] [] (am_wI B i) = some (.inl none, am_wI B (tkup i)) := by
  rw [bk_38_0]
  simp (disch := omega) only [bk_38_13, bk_38_23, hM, y_ckd, y_ck2d, y_ond, y_onn, y_oI, y_oIx, y_oJ, y_oV, y_oVx, y_oR, y_oRn, y_oRx, y_b0, y_b1, y_bi, y_bid, y_wIK, y_wIL, y_wII, y_wIJ, y_wIR, y_wIN, y_wIw, y_sI, ↓reduceIte, Nat.reduceEqDiff, eq_self, true_or, or_true, false_or, or_false, and_true, true_and, false_and, and_false, not_true, not_false_eq_true, tf_T, tf_F, y_up1, y_up2, y_xx, y_nx, y_sJ, y_sR, Int32.reduceLT, y_nxK, y_nxL, y_nxR, y_sJK, y_sJL, y_sJR, y_sJN, y_sRK, y_sRL, y_sRN, Nat.add_zero, z_nat, z_lit, z_lit0, z_lit1, z_in0, z_in1, z_addl0, z_lt, z_ltl, z_llt, z_inj, z_injl, z_add, z_addl, z_ladd, z_mul, z_mull, z_lmul, z_neg, z_negl, z_in, z_inl, z_ltT, z_ltF, z_eqF, z_10, z_01, z_litne, z_ne0, z_0ne, z_ne1, z_1ne, z_lt64, z_02, z_03, z_04, z_05, z_12, z_13, z_14, z_15, z_20, z_21, z_23, z_24, z_25, z_30, z_31, z_32, z_34, z_35, z_40, z_41, z_42, z_43, z_45, z_50, z_51, z_52, z_53, z_54]
  rfl
theorem tku_0 : tkup i 874 0 = 0 := by
  unfold tkup
  rw [y_up2 (by omega), y_up2 (by omega), y_up2 (by omega), y_up1 rfl rfl]
theorem tku_7 : tkup i 874 7 = 0 := by
  unfold tkup
  rw [y_up2 (by omega), y_up1 rfl rfl]
theorem tku_8 : tkup i 874 8 = 0 := by
  unfold tkup
  rw [y_up1 rfl rfl]
theorem tku_9 : tkup i 874 9 = i 874 7 := by
  unfold tkup
  rw [y_up2 (by omega), y_up2 (by omega), y_up1 rfl rfl]
theorem tku_o {q l : Nat} (h : q = 874 → l ≠ 0 ∧ l ≠ 7 ∧ l ≠ 8 ∧ l ≠ 9) : tkup i q l = i q l := by
  unfold tkup
  rw [y_up2 (by omega), y_up2 (by omega), y_up2 (by omega), y_up2 (by omega)]
theorem MT_of (h : MR B i σ) (hS : SW σ) : MT (nyb σ) σ.2.2.2.2.2.1 (tkup i) := by
  obtain ⟨t1, t2, -⟩ := h.2.2.2.2.2.2
  obtain ⟨-, -, -, l400, hb⟩ := hS
  refine ⟨tku_9.trans t1, l400, fun k hk => ?_⟩
  rw [tku_o (by omega), t2 k hk]
  exact ⟨hb k hk, rfl⟩
theorem Stx_tku (h : Stx B i) : Stx B (tkup i) := fun q h1 h2 => ⟨(h q h1 h2).1, (h q h1 h2).2.1, fun k hk => (tku_o (by omega)).trans ((h q h1 h2).2.2 k hk)⟩
theorem MRs_g {X : am_X} {v : Option Value} {t : Int32} {tp : Nat × (Nat → Int32) × Int32} (h : MR B i σ) (hx : X = some (.inl v, am_wI B i1)) (ht : i1 874 0 = t) (hw : ∀ s, s < 12042 → i1 875 s = w' s) (htp : TpM i1 tp) (hi : ∀ q k, ((q < 874 ∨ (876 ≤ q ∧ q < 878) ∨ 893 ≤ q) ∨ (q = 874 ∧ (k = 4 ∨ k = 5))) → i1 q k = i q k) : MRs B i (w', σ.2.1, σ.2.2.1, σ.2.2.2.1, σ.2.2.2.2.1, tp) X v t := by
  obtain ⟨h1, h2, h3, h4, h5, h6, h7⟩ := h
  exact ⟨B, i1, hx, ht, ⟨h1, hw, fun q s hs => (hi _ _ (by omega)).trans (h3 q s hs), fun q s hs => (hi _ _ (by omega)).trans (h4 q s hs), (hi _ _ (by omega)).trans h5, (hi _ _ (by omega)).trans h6, htp⟩, Jq.rf B, fun q k hq => hi q k (by omega)⟩
theorem TpM_0 {t : Nat → Int32} {y : Int32} (h1 : j 874 7 = 0) (h2 : j 874 12 = y) : TpM j (0, t, y) := ⟨h1, fun k hk => absurd hk (Nat.not_lt_zero k), h2⟩
/-- nothing of the world has changed -/
theorem MRs_gx {X : am_X} {v : Option Value} {t y : Int32} (h : MR B i σ) (hx : X = some (.inl v, am_wI B (am_up2 j 874 0 t))) (h7 : j 874 7 = 0) (h12 : j 874 12 = y) (hi : ∀ q k, q ≠ 875 → (q = 874 → k ≠ 0 ∧ k ≠ 7 ∧ k ≠ 8 ∧ k ≠ 9 ∧ k ≠ 10 ∧ k ≠ 11 ∧ k ≠ 12 ∧ k ≠ 14) → j q k = i q k) (hz : ∀ z, z < 12042 → j 875 z = i 875 z) : MRs B i (sgt σ σ.1 y) X v t :=
  MRs_g h hx (y_up1 rfl rfl) (fun s hs => (y_up2 (by omega)).trans ((hz s hs).trans (h.2.1 s hs))) (TpM_0 ((y_up2 (by omega)).trans h7) ((y_up2 (by omega)).trans h12)) fun q k hq => (y_up2 (by omega)).trans (hi q k (by omega) (by omega))
theorem m_warr_x (h : MR B i σ) (g : x < σ.1 0 ∨ 4000 < x) : MRs B i (sgt σ σ.1 σ.2.2.2.2.2.2.2) (am_fx am_P (d + 150) 56 0 [some (.ref 874), some (.int x), none, none, none] [] (am_wI B i)) (some (.int 0)) 1 := by
  have hM : Md B := h.1.1
  have e0 := m_uses (d := d + 149) (i := i) hM
  have k0 : tkup i 875 0 = σ.1 0 := (tku_o (by omega)).trans (h.2.1 0 (by omega))
  refine MRs_gx (j := tkup i) h ?_ tku_7 ((tku_o (by omega)).trans h.2.2.2.2.2.2.2.2) (fun q k h1 h2 => tku_o (by omega)) (fun z _ => tku_o (by omega))
  rw [bk_56_0]
  by_cases g1 : x < σ.1 0
  · simp (disch := omega) only [e0, bk_13_0, bk_11_0, bk_10_0, bk_56_24, k0, g1, z_39, z_390, hM, y_ckd, y_ck2d, y_ond, y_onn, y_oI, y_oIx, y_oJ, y_oV, y_oVx, y_oR, y_oRn, y_oRx, y_b0, y_b1, y_bi, y_bid, y_wIK, y_wIL, y_wII, y_wIJ, y_wIR, y_wIN, y_wIw, y_sI, ↓reduceIte, Nat.reduceEqDiff, eq_self, true_or, or_true, false_or, or_false, and_true, true_and, false_and, and_false, not_true, not_false_eq_true, tf_T, tf_F, y_up1, y_up2, y_xx, y_nx, y_sJ, y_sR, Int32.reduceLT, y_nxK, y_nxL, y_nxR, y_sJK, y_sJL, y_sJR, y_sJN, y_sRK, y_sRL, y_sRN, Nat.add_zero, z_nat, z_lit, z_lit0, z_lit1, z_in0, z_in1, z_addl0, z_lt, z_ltl, z_llt, z_inj, z_injl, z_add, z_addl, z_ladd, z_mul, z_mull, z_lmul, z_neg, z_negl, z_in, z_inl, z_ltT, z_ltF, z_eqF, z_10, z_01, z_litne, z_ne0, z_0ne, z_ne1, z_1ne, z_lt64, z_02, z_03, z_04, z_05, z_12, z_13, z_14, z_15, z_20, z_21, z_23, z_24, z_25, z_30, z_31, z_32, z_34, z_35, z_40, z_41, z_42, z_43, z_45, z_50, z_51, z_52, z_53, z_54]
  · have g2 := g.resolve_left g1
    simp (disch := omega) only [e0, bk_13_0, bk_11_0, bk_10_0, bk_56_24, k0, g1, g2, z_39, z_390, hM, y_ckd, y_ck2d, y_ond, y_onn, y_oI, y_oIx, y_oJ, y_oV, y_oVx, y_oR, y_oRn, y_oRx, y_b0, y_b1, y_bi, y_bid, y_wIK, y_wIL, y_wII, y_wIJ, y_wIR, y_wIN, y_wIw, y_sI, ↓reduceIte, Nat.reduceEqDiff, eq_self, true_or, or_true, false_or, or_false, and_true, true_and, false_and, and_false, not_true, not_false_eq_true, tf_T, tf_F, y_up1, y_up2, y_xx, y_nx, y_sJ, y_sR, Int32.reduceLT, y_nxK, y_nxL, y_nxR, y_sJK, y_sJL, y_sJR, y_sJN, y_sRK, y_sRL, y_sRN, Nat.add_zero, z_nat, z_lit, z_lit0, z_lit1, z_in0, z_in1, z_addl0, z_lt, z_ltl, z_llt, z_inj, z_injl, z_add, z_addl, z_ladd, z_mul, z_mull, z_lmul, z_neg, z_negl, z_in, z_inl, z_ltT, z_ltF, z_eqF, z_10, z_01, z_litne, z_ne0, z_0ne, z_ne1, z_1ne, z_lt64, z_02, z_03, z_04, z_05, z_12, z_13, z_14, z_15, z_20, z_21, z_23, z_24, z_25, z_30, z_31, z_32, z_34, z_35, z_40, z_41, z_42, z_43, z_45, z_50, z_51, z_52, z_53, z_54]
theorem m_warr24 (h : MR B i σ) (g : ¬ (x < σ.1 0 ∨ 4000 < x)) : (am_fx am_P (d + 150) 56 0 [some (.ref 874), some (.int x), none, none, none] [] (am_wI B i)) = am_fx am_P (d + 150) 56 24 [some (.ref 874), some (.int x), none, none, none] [.int 0, .ref 874] (am_wI B (tkup i)) := by
  have hM : Md B := h.1.1
  have e0 := m_uses (d := d + 149) (i := i) hM
  have k0 : tkup i 875 0 = σ.1 0 := (tku_o (by omega)).trans (h.2.1 0 (by omega))
  obtain ⟨g1, g2⟩ := not_or.mp g
  rw [bk_56_0]
  simp (disch := omega) only [e0, bk_13_0, bk_11_0, k0, g1, g2, z_39, z_390, hM, y_ckd, y_ck2d, y_ond, y_onn, y_oI, y_oIx, y_oJ, y_oV, y_oVx, y_oR, y_oRn, y_oRx, y_b0, y_b1, y_bi, y_bid, y_wIK, y_wIL, y_wII, y_wIJ, y_wIR, y_wIN, y_wIw, y_sI, ↓reduceIte, Nat.reduceEqDiff, eq_self, true_or, or_true, false_or, or_false, and_true, true_and, false_and, and_false, not_true, not_false_eq_true, tf_T, tf_F, y_up1, y_up2, y_xx, y_nx, y_sJ, y_sR, Int32.reduceLT, y_nxK, y_nxL, y_nxR, y_sJK, y_sJL, y_sJR, y_sJN, y_sRK, y_sRL, y_sRN, Nat.add_zero, z_nat, z_lit, z_lit0, z_lit1, z_in0, z_in1, z_addl0, z_lt, z_ltl, z_llt, z_inj, z_injl, z_add, z_addl, z_ladd, z_mul, z_mull, z_lmul, z_neg, z_negl, z_in, z_inl, z_ltT, z_ltF, z_eqF, z_10, z_01, z_litne, z_ne0, z_0ne, z_ne1, z_1ne, z_lt64, z_02, z_03, z_04, z_05, z_12, z_13, z_14, z_15, z_20, z_21, z_23, z_24, z_25, z_30, z_31, z_32, z_34, z_35, z_40, z_41, z_42, z_43, z_45, z_50, z_51, z_52, z_53, z_54]
theorem m_warr_f (h : MR B i σ) (hS : SW σ) (hX : Stx B i) (hu : ∀ z, i 875 z = u z) (g : ¬ (x < σ.1 0 ∨ 4000 < x)) (ht : txtS (nyb σ) σ.2.2.2.2.2.1 u = .inl f) : MRs B i (sgt σ σ.1 (Int32.ofNat f)) (am_fx am_P (d + 150) 56 0 [some (.ref 874), some (.int x), none, none, none] [] (am_wI B i)) (some (.int 0)) 1 := by
  have hM : Md B := h.1.1
  have R := m_reads (d := d + 122) (u := u) hM (Stx_tku hX) (MT_of h hS) tku_8 (fun z => (tku_o (by omega)).trans (hu z))
  rw [ht, show d + 122 + 26 + 1 = d + 149 by omega] at R
  obtain ⟨j, E, j12, fj, zj⟩ := R
  have nn : (-1 : Int32) < 0 := by decide
  refine MRs_gx (j := j) h ?_ ((fj _ _ (by omega) (by omega)).trans tku_7) j12 (fun q k h1 h2 => (fj q k h1 (by omega)).trans (tku_o (by omega))) (fun z hz => (zj z hz).trans (tku_o (by omega)))
  rw [m_warr24 h g, bk_56_24]
  simp (disch := omega) only [bk_10_0, E, nn, bk_56_48, z_39, z_390, hM, y_ckd, y_ck2d, y_ond, y_onn, y_oI, y_oIx, y_oJ, y_oV, y_oVx, y_oR, y_oRn, y_oRx, y_b0, y_b1, y_bi, y_bid, y_wIK, y_wIL, y_wII, y_wIJ, y_wIR, y_wIN, y_wIw, y_sI, ↓reduceIte, Nat.reduceEqDiff, eq_self, true_or, or_true, false_or, or_false, and_true, true_and, false_and, and_false, not_true, not_false_eq_true, tf_T, tf_F, y_up1, y_up2, y_xx, y_nx, y_sJ, y_sR, Int32.reduceLT, y_nxK, y_nxL, y_nxR, y_sJK, y_sJL, y_sJR, y_sJN, y_sRK, y_sRL, y_sRN, Nat.add_zero, z_nat, z_lit, z_lit0, z_lit1, z_in0, z_in1, z_addl0, z_lt, z_ltl, z_llt, z_inj, z_injl, z_add, z_addl, z_ladd, z_mul, z_mull, z_lmul, z_neg, z_negl, z_in, z_inl, z_ltT, z_ltF, z_eqF, z_10, z_01, z_litne, z_ne0, z_0ne, z_ne1, z_1ne, z_lt64, z_02, z_03, z_04, z_05, z_12, z_13, z_14, z_15, z_20, z_21, z_23, z_24, z_25, z_30, z_31, z_32, z_34, z_35, z_40, z_41, z_42, z_43, z_45, z_50, z_51, z_52, z_53, z_54]
theorem m_warr74 (h : MR B i σ) (hS : SW σ) (hX : Stx B i) (hu : ∀ z, i 875 z = u z) (g : ¬ (x < σ.1 0 ∨ 4000 < x)) (ht : txtS (nyb σ) σ.2.2.2.2.2.1 u = .inr r) : ∃ j, (∀ y : Int32, (if cn σ.1 3541 < 10 then (0 : Int32) else 1) = y → (am_fx am_P (d + 150) 56 0 [some (.ref 874), some (.int x), none, none, none] [] (am_wI B i)) = am_fx am_P (d + 150) 56 74 [some (.ref 874), some (.int x), some (.int (Int32.ofNat r.1)), none, none] [.int y, .ref 874] (am_wI B j)) ∧ j 874 0 = 0 ∧ j 874 7 = 0 ∧ j 874 12 = -1 ∧ (∀ z, j 875 z = wu r.2.2.2 12043 (Int32.ofNat r.1) z) ∧ (∀ q k, q ≠ 875 → (q = 874 → k ≠ 0 ∧ k ≠ 7 ∧ k ≠ 8 ∧ k ≠ 9 ∧ k ≠ 10 ∧ k ≠ 11 ∧ k ≠ 12 ∧ k ≠ 14) → j q k = i q k) ∧ ∀ z, z < 12042 → j 875 z = i 875 z := by
  have hM : Md B := h.1.1
  have R := m_reads (d := d + 122) (u := u) hM (Stx_tku hX) (MT_of h hS) tku_8 (fun z => (tku_o (by omega)).trans (hu z))
  rw [ht, show d + 122 + 26 + 1 = d + 149 by omega] at R
  obtain ⟨j, E, ⟨j12, ju⟩, fj, zj⟩ := R
  have r12 := txt_12 ht
  have hc := hS.1.1.2.2.2.2.2.2.2.2.2
  have k41 : j 875 3541 = Int32.ofNat (cn σ.1 3541) := (zj _ (by omega)).trans ((tku_o (by omega)).trans ((h.2.1 3541 (by omega)).trans hc.1))
  have nr : ¬ Int32.ofNat r.1 < 0 := by rw [z_neg (by omega)]; exact id
  refine ⟨j, fun y hy => ?_, (fj _ _ (by omega) (by omega)).trans tku_0, (fj _ _ (by omega) (by omega)).trans tku_7, j12, ju, fun q k h1 h2 => (fj q k h1 (by omega)).trans (tku_o (by omega)), fun z hz => (zj z hz).trans (tku_o (by omega))⟩
  rw [m_warr24 h g, bk_56_24]
  by_cases g10 : cn σ.1 3541 < 10
  · rw [if_pos g10] at hy
    subst hy
    have n10 : ¬ cn σ.1 3541 = 10 := by omega
    simp (disch := omega) only [bk_10_0, E, nr, bk_56_48, k41, n10, z_39, z_390, hM, y_ckd, y_ck2d, y_ond, y_onn, y_oI, y_oIx, y_oJ, y_oV, y_oVx, y_oR, y_oRn, y_oRx, y_b0, y_b1, y_bi, y_bid, y_wIK, y_wIL, y_wII, y_wIJ, y_wIR, y_wIN, y_wIw, y_sI, ↓reduceIte, Nat.reduceEqDiff, eq_self, true_or, or_true, false_or, or_false, and_true, true_and, false_and, and_false, not_true, not_false_eq_true, tf_T, tf_F, y_up1, y_up2, y_xx, y_nx, y_sJ, y_sR, Int32.reduceLT, y_nxK, y_nxL, y_nxR, y_sJK, y_sJL, y_sJR, y_sJN, y_sRK, y_sRL, y_sRN, Nat.add_zero, z_nat, z_lit, z_lit0, z_lit1, z_in0, z_in1, z_addl0, z_lt, z_ltl, z_llt, z_inj, z_injl, z_add, z_addl, z_ladd, z_mul, z_mull, z_lmul, z_neg, z_negl, z_in, z_inl, z_ltT, z_ltF, z_eqF, z_10, z_01, z_litne, z_ne0, z_0ne, z_ne1, z_1ne, z_lt64, z_02, z_03, z_04, z_05, z_12, z_13, z_14, z_15, z_20, z_21, z_23, z_24, z_25, z_30, z_31, z_32, z_34, z_35, z_40, z_41, z_42, z_43, z_45, z_50, z_51, z_52, z_53, z_54]
  · rw [if_neg g10] at hy
    subst hy
    have n10 : cn σ.1 3541 = 10 := by have := hc.2; omega
    rw [n10] at k41
    simp (disch := omega) only [bk_10_0, E, nr, bk_56_48, k41, z_39, z_390, hM, y_ckd, y_ck2d, y_ond, y_onn, y_oI, y_oIx, y_oJ, y_oV, y_oVx, y_oR, y_oRn, y_oRx, y_b0, y_b1, y_bi, y_bid, y_wIK, y_wIL, y_wII, y_wIJ, y_wIR, y_wIN, y_wIw, y_sI, ↓reduceIte, Nat.reduceEqDiff, eq_self, true_or, or_true, false_or, or_false, and_true, true_and, false_and, and_false, not_true, not_false_eq_true, tf_T, tf_F, y_up1, y_up2, y_xx, y_nx, y_sJ, y_sR, Int32.reduceLT, y_nxK, y_nxL, y_nxR, y_sJK, y_sJL, y_sJR, y_sJN, y_sRK, y_sRL, y_sRN, Nat.add_zero, z_nat, z_lit, z_lit0, z_lit1, z_in0, z_in1, z_addl0, z_lt, z_ltl, z_llt, z_inj, z_injl, z_add, z_addl, z_ladd, z_mul, z_mull, z_lmul, z_neg, z_negl, z_in, z_inl, z_ltT, z_ltF, z_eqF, z_10, z_01, z_litne, z_ne0, z_0ne, z_ne1, z_1ne, z_lt64, z_02, z_03, z_04, z_05, z_12, z_13, z_14, z_15, z_20, z_21, z_23, z_24, z_25, z_30, z_31, z_32, z_34, z_35, z_40, z_41, z_42, z_43, z_45, z_50, z_51, z_52, z_53, z_54]
theorem m_warr_3 (h : MR B i σ) (hS : SW σ) (hX : Stx B i) (hu : ∀ z, i 875 z = u z) (g : ¬ (x < σ.1 0 ∨ 4000 < x)) (ht : txtS (nyb σ) σ.2.2.2.2.2.1 u = .inr r) (g10 : ¬ cn σ.1 3541 < 10) : MRs B i (sgt σ σ.1 (-1)) (am_fx am_P (d + 150) 56 0 [some (.ref 874), some (.int x), none, none, none] [] (am_wI B i)) (some (.int 0)) 2 := by
  have hM : Md B := h.1.1
  obtain ⟨j, E, j0, j7, j12, ju, fj, zj⟩ := m_warr74 (d := d) h hS hX hu g ht
  refine MRs_gx (j := j) h ?_ j7 j12 fj zj
  rw [E 1 (if_neg g10), bk_56_74]
  simp (disch := omega) only [bk_10_0, z_39, z_390, hM, y_ckd, y_ck2d, y_ond, y_onn, y_oI, y_oIx, y_oJ, y_oV, y_oVx, y_oR, y_oRn, y_oRx, y_b0, y_b1, y_bi, y_bid, y_wIK, y_wIL, y_wII, y_wIJ, y_wIR, y_wIN, y_wIw, y_sI, ↓reduceIte, Nat.reduceEqDiff, eq_self, true_or, or_true, false_or, or_false, and_true, true_and, false_and, and_false, not_true, not_false_eq_true, tf_T, tf_F, y_up1, y_up2, y_xx, y_nx, y_sJ, y_sR, Int32.reduceLT, y_nxK, y_nxL, y_nxR, y_sJK, y_sJL, y_sJR, y_sJN, y_sRK, y_sRL, y_sRN, Nat.add_zero, z_nat, z_lit, z_lit0, z_lit1, z_in0, z_in1, z_addl0, z_lt, z_ltl, z_llt, z_inj, z_injl, z_add, z_addl, z_ladd, z_mul, z_mull, z_lmul, z_neg, z_negl, z_in, z_inl, z_ltT, z_ltF, z_eqF, z_10, z_01, z_litne, z_ne0, z_0ne, z_ne1, z_1ne, z_lt64, z_02, z_03, z_04, z_05, z_12, z_13, z_14, z_15, z_20, z_21, z_23, z_24, z_25, z_30, z_31, z_32, z_34, z_35, z_40, z_41, z_42, z_43, z_45, z_50, z_51, z_52, z_53, z_54]
theorem m_warr (h : MR B i σ) (hS : SW σ) (hX : Stx B i) (hu : ∀ z, i 875 z = u z) (g : ¬ (x < σ.1 0 ∨ 4000 < x)) (ht : txtS (nyb σ) σ.2.2.2.2.2.1 u = .inr r) (g10 : cn σ.1 3541 < 10) : MRs B i (sgt σ (wtx σ.1 (wu r.2.2.2 12043 (Int32.ofNat r.1)) x) (-1)) (am_fx am_P (d + 150) 56 0 [some (.ref 874), some (.int x), none, none, none] [] (am_wI B i)) (some (.int (Int32.ofNat r.1))) 0 := by
  have hM : Md B := h.1.1
  obtain ⟨j, E, j0, j7, j12, ju, fj, zj⟩ := m_warr74 (d := d) h hS hX hu g ht
  have hc := hS.1.1.2.2.2.2.2.2.2.2.2
  have k41 : j 875 3541 = Int32.ofNat (cn σ.1 3541) := (zj _ (by omega)).trans ((h.2.1 3541 (by omega)).trans hc.1)
  generalize eu' : wu r.2.2.2 12043 (Int32.ofNat r.1) = v at ju
  have e10 : am_fx am_P (d + 149) 10 0 [some (.ref 874), some (.int 0), some (.int 2)] [] (am_wI B j) = some (.inl (some (.int 0)), am_wI B j) := by
    rw [bk_10_0]
    simp (disch := omega) only [y_ckd, y_ck2d, y_ond, y_onn, y_oI, y_oIx, y_oJ, y_oV, y_oVx, y_oR, y_oRn, y_oRx, y_b0, y_b1, y_bi, y_bid, y_wIK, y_wIL, y_wII, y_wIJ, y_wIR, y_wIN, y_wIw, y_sI, ↓reduceIte, Nat.reduceEqDiff, eq_self, true_or, or_true, false_or, or_false, and_true, true_and, false_and, and_false, not_true, not_false_eq_true, tf_T, tf_F, y_up1, y_up2, y_xx, y_nx, y_sJ, y_sR, Int32.reduceLT, y_nxK, y_nxL, y_nxR, y_sJK, y_sJL, y_sJR, y_sJN, y_sRK, y_sRL, y_sRN, Nat.add_zero, z_nat, z_lit, z_lit0, z_lit1, z_in0, z_in1, z_addl0, z_lt, z_ltl, z_llt, z_inj, z_injl, z_add, z_addl, z_ladd, z_mul, z_mull, z_lmul, z_neg, z_negl, z_in, z_inl, z_ltT, z_ltF, z_eqF, z_10, z_01, z_litne, z_ne0, z_0ne, z_ne1, z_1ne, z_lt64, z_02, z_03, z_04, z_05, z_12, z_13, z_14, z_15, z_20, z_21, z_23, z_24, z_25, z_30, z_31, z_32, z_34, z_35, z_40, z_41, z_42, z_43, z_45, z_50, z_51, z_52, z_53, z_54]
  obtain ⟨j2, E2, z2, f2⟩ := lp_inv (fun n s => am_fx am_P (d + 150) 56 107 [some (.ref 874), some (.int x), some (.int (Int32.ofNat r.1)), some (.int (Int32.ofNat (cn σ.1 3541))), some (.int (Int32.ofNat n))] [] (am_wI B s)) (fun n s => (∀ z, s 875 z = if 3542 + 850 * cn σ.1 3541 ≤ z ∧ z < 3542 + 850 * cn σ.1 3541 + n then v (12042 + (z - (3542 + 850 * cn σ.1 3541))) else am_up2 j 875 3541 (Int32.ofNat (cn σ.1 3541 + 1)) 875 z) ∧ ∀ q l, q ≠ 875 → s q l = j q l) 850 (fun n s hn hI => by
    obtain ⟨hz, hf⟩ := hI
    have src : s 875 (12042 + n) = v (12042 + n) := by
      rw [hz, if_neg (by omega), y_up2 (by omega), ju]
    refine ⟨am_up2 s 875 (3542 + 850 * cn σ.1 3541 + n) (v (12042 + n)), ?_, fun z => ?_, fun q l hq => by rw [y_up2 (by omega)]; exact hf q l hq⟩
    · have em : (3542 : Int32) + 850 * 10 = Int32.ofNat 12042 := by decide
      rw [bk_56_107]
      simp (disch := omega) only [bk_47_0, em, src, hM, y_ckd, y_ck2d, y_ond, y_onn, y_oI, y_oIx, y_oJ, y_oV, y_oVx, y_oR, y_oRn, y_oRx, y_b0, y_b1, y_bi, y_bid, y_wIK, y_wIL, y_wII, y_wIJ, y_wIR, y_wIN, y_wIw, y_sI, ↓reduceIte, Nat.reduceEqDiff, eq_self, true_or, or_true, false_or, or_false, and_true, true_and, false_and, and_false, not_true, not_false_eq_true, tf_T, tf_F, y_up1, y_up2, y_xx, y_nx, y_sJ, y_sR, Int32.reduceLT, y_nxK, y_nxL, y_nxR, y_sJK, y_sJL, y_sJR, y_sJN, y_sRK, y_sRL, y_sRN, Nat.add_zero, z_nat, z_lit, z_lit0, z_lit1, z_in0, z_in1, z_addl0, z_lt, z_ltl, z_llt, z_inj, z_injl, z_add, z_addl, z_ladd, z_mul, z_mull, z_lmul, z_neg, z_negl, z_in, z_inl, z_ltT, z_ltF, z_eqF, z_10, z_01, z_litne, z_ne0, z_0ne, z_ne1, z_1ne, z_lt64, z_02, z_03, z_04, z_05, z_12, z_13, z_14, z_15, z_20, z_21, z_23, z_24, z_25, z_30, z_31, z_32, z_34, z_35, z_40, z_41, z_42, z_43, z_45, z_50, z_51, z_52, z_53, z_54]
    · by_cases q : z = 3542 + 850 * cn σ.1 3541 + n
      · rw [q, y_up1 rfl rfl, if_pos (by omega)]
        exact congrArg v (by omega)
      · rw [y_up2 (by omega), hz]
        by_cases q2 : 3542 + 850 * cn σ.1 3541 ≤ z ∧ z < 3542 + 850 * cn σ.1 3541 + n
        · rw [if_pos q2, if_pos (by omega)]
        · rw [if_neg q2, if_neg (by omega)]) (am_up2 j 875 3541 (Int32.ofNat (cn σ.1 3541 + 1))) ⟨fun z => by rw [if_neg (by omega)], fun q l hq => y_up2 (by omega)⟩
  refine MRs_g (i1 := am_up2 j2 875 (3542 + 850 * cn σ.1 3541) x) h ?_ ?_ (fun z hz => ?_) (TpM_0 ?_ ?_) (fun q l hq => ?_)
  · rw [E 0 (if_pos g10), bk_56_74]
    simp (disch := omega) only [e10, k41, hM, y_ckd, y_ck2d, y_ond, y_onn, y_oI, y_oIx, y_oJ, y_oV, y_oVx, y_oR, y_oRn, y_oRx, y_b0, y_b1, y_bi, y_bid, y_wIK, y_wIL, y_wII, y_wIJ, y_wIR, y_wIN, y_wIw, y_sI, ↓reduceIte, Nat.reduceEqDiff, eq_self, true_or, or_true, false_or, or_false, and_true, true_and, false_and, and_false, not_true, not_false_eq_true, tf_T, tf_F, y_up1, y_up2, y_xx, y_nx, y_sJ, y_sR, Int32.reduceLT, y_nxK, y_nxL, y_nxR, y_sJK, y_sJL, y_sJR, y_sJN, y_sRK, y_sRL, y_sRN, Nat.add_zero, z_nat, z_lit, z_lit0, z_lit1, z_in0, z_in1, z_addl0, z_lt, z_ltl, z_llt, z_inj, z_injl, z_add, z_addl, z_ladd, z_mul, z_mull, z_lmul, z_neg, z_negl, z_in, z_inl, z_ltT, z_ltF, z_eqF, z_10, z_01, z_litne, z_ne0, z_0ne, z_ne1, z_1ne, z_lt64, z_02, z_03, z_04, z_05, z_12, z_13, z_14, z_15, z_20, z_21, z_23, z_24, z_25, z_30, z_31, z_32, z_34, z_35, z_40, z_41, z_42, z_43, z_45, z_50, z_51, z_52, z_53, z_54]
    refine E2.trans ?_
    rw [bk_56_107]
    simp (disch := omega) only [bk_47_0, hM, y_ckd, y_ck2d, y_ond, y_onn, y_oI, y_oIx, y_oJ, y_oV, y_oVx, y_oR, y_oRn, y_oRx, y_b0, y_b1, y_bi, y_bid, y_wIK, y_wIL, y_wII, y_wIJ, y_wIR, y_wIN, y_wIw, y_sI, ↓reduceIte, Nat.reduceEqDiff, eq_self, true_or, or_true, false_or, or_false, and_true, true_and, false_and, and_false, not_true, not_false_eq_true, tf_T, tf_F, y_up1, y_up2, y_xx, y_nx, y_sJ, y_sR, Int32.reduceLT, y_nxK, y_nxL, y_nxR, y_sJK, y_sJL, y_sJR, y_sJN, y_sRK, y_sRL, y_sRN, Nat.add_zero, z_nat, z_lit, z_lit0, z_lit1, z_in0, z_in1, z_addl0, z_lt, z_ltl, z_llt, z_inj, z_injl, z_add, z_addl, z_ladd, z_mul, z_mull, z_lmul, z_neg, z_negl, z_in, z_inl, z_ltT, z_ltF, z_eqF, z_10, z_01, z_litne, z_ne0, z_0ne, z_ne1, z_1ne, z_lt64, z_02, z_03, z_04, z_05, z_12, z_13, z_14, z_15, z_20, z_21, z_23, z_24, z_25, z_30, z_31, z_32, z_34, z_35, z_40, z_41, z_42, z_43, z_45, z_50, z_51, z_52, z_53, z_54]
  · rw [y_up2 (by omega), f2 _ _ (by omega)]
    exact j0
  · show am_up2 j2 875 (3542 + 850 * cn σ.1 3541) x 875 z = wtx σ.1 v x z
    unfold wtx
    by_cases q1 : z = 3541
    · rw [if_pos q1, y_up2 (by omega), z2, if_neg (by omega), q1, y_up1 rfl rfl]
    · rw [if_neg q1]
      by_cases q2 : 3542 + 850 * cn σ.1 3541 ≤ z ∧ z < 3542 + 850 * cn σ.1 3541 + 850
      · rw [if_pos q2]
        by_cases q3 : z = 3542 + 850 * cn σ.1 3541
        · rw [if_pos q3, q3, y_up1 rfl rfl]
        · rw [if_neg q3, y_up2 (by omega), z2, if_pos q2]
      · rw [if_neg q2, y_up2 (by omega), z2, if_neg q2, y_up2 (by omega), zj z hz]
        exact h.2.1 z hz
  · rw [y_up2 (by omega), f2 _ _ (by omega)]
    exact j7
  · rw [y_up2 (by omega), f2 _ _ (by omega)]
    exact j12
  · rw [y_up2 (by omega), f2 _ _ (by omega)]
    exact fj q l (by omega) (by omega)
end WarM1
