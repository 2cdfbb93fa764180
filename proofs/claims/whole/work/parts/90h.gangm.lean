/-! THE GANGS OF A DAY, THE MODEL: made by wip/whole/math/90h.py. -/
section DayM2
variable {B : am_A} {i j : Nat → Nat → Int32} {w v : Nat → Int32} {d b q n p s k g : Nat} {x y z D : Int32} {t : Option Nat}
theorem m_wk249 (hM : Md B) (hw : ∀ z, z < 12042 → i 875 z = w z) (hW : Wd w) (s8 : s < 8) (c : w (2622 + 49 * s) = 1 ∨ w (2622 + 49 * s) = 2 ∨ w (2622 + 49 * s) = 3) (hT : txi w (w 0) (cn w 3541) = t) : ∃ j, am_fx am_P (d + 5) 120 249 [some (.ref 874), some (.int x), some (.int (Int32.ofNat s))] [] (am_wI B i) = am_fx am_P (d + 5) 120 271 [some (.ref 874), some (.int x), none] [] (am_wI B j) ∧ (∀ z, z < 12042 → j 875 z = lwB t w s z) ∧ ∀ q k, q ≠ 875 → q ≠ 880 → q ≠ 881 → q ≠ 882 → j q k = i q k := by
  obtain ⟨j1, E1, t1, u1, f1⟩ := m_looks (d := d + 1) hM hw s8 hW.1.2.2.2.2.2.1
  have hw1 : ∀ z, z < 12042 → j1 875 z = w z := fun z hz => (f1 _ _ (by omega) (by omega)).trans (hw z hz)
  have q0 := hw1 0 (by omega)
  have Et := m_textOf (B := B) (d := d + 2) (i := j1) (x := w 0) hM hw1 hW.1.2.2.2.2.2.2.2.2.2
  rw [hT] at Et
  cases t with
  | none =>
    have E6 := m_sum0 (B := B) (d := d + 1) (i := j1) (x := 1) hM
    obtain ⟨j2, E2, h2, f2⟩ := m_carries (B := B) (d := d + 2) (i := j1) (x := 0) hM hw1 hW.1.2.2.1
    simp only [txn] at Et
    refine ⟨j2, ?_, fun z hz => by rw [h2 z hz, chW_0]; rfl, fun q k h1 h3 h4 _ => (f2 q k h1).trans (f1 q k h3 h4)⟩
    rw [bk_120_249]
    simp (disch := omega) only [bk_13_0, E1, q0, Et, E6, E2, hM, y_ckd, y_ck2d, y_ond, y_onn, y_oI, y_oIx, y_oJ, y_oV, y_oVx, y_oR, y_oRn, y_oRx, y_b0, y_b1, y_bi, y_bid, y_wIK, y_wIL, y_wII, y_wIJ, y_wIR, y_wIN, y_wIw, y_sI, ↓reduceIte, Nat.reduceEqDiff, eq_self, true_or, or_true, false_or, or_false, and_true, true_and, false_and, and_false, not_true, not_false_eq_true, tf_T, tf_F, y_up1, y_up2, y_xx, y_nx, y_sJ, y_sR, Int32.reduceLT, y_nxK, y_nxL, y_nxR, y_sJK, y_sJL, y_sJR, y_sJN, y_sRK, y_sRL, y_sRN, Nat.add_zero, z_nat, z_lit, z_lit0, z_lit1, z_in0, z_in1, z_addl0, z_lt, z_ltl, z_llt, z_inj, z_injl, z_add, z_addl, z_ladd, z_mul, z_mull, z_lmul, z_neg, z_negl, z_in, z_inl, z_ltT, z_ltF, z_eqF, z_10, z_01, z_litne, z_ne0, z_0ne, z_ne1, z_1ne, z_lt64, z_02, z_03, z_04, z_05, z_12, z_13, z_14, z_15, z_20, z_21, z_23, z_24, z_25, z_30, z_31, z_32, z_34, z_35, z_40, z_41, z_42, z_43, z_45, z_50, z_51, z_52, z_53, z_54]
  | some k =>
    have hk := txi_lt _ hT
    have k10 : k < 10 := by have := hW.1.2.2.2.2.2.2.2.2.2.2; omega
    have hX := hW.2.2.2.2.2.2.2.2.1 k hk k10
    have hTg : ∀ k, k < 5 → j1 880 k = if (fctO w s 0 0 0).1 k = true then 1 else 0 := by
      intro k hk
      rw [t1 k hk]
      by_cases k3 : k = 3
      · rw [if_pos k3, show (fctO w s 0 0 0).1 k = decide (w (2622 + 49 * s + 3) = 1) from if_pos k3]
        by_cases e : w (2622 + 49 * s + 3) = 1
        · rw [if_pos e, if_pos (decide_eq_true e)]
        · rw [if_neg e, if_neg (by rw [decide_eq_false e]; exact Bool.false_ne_true)]
      · rw [if_neg k3, show (fctO w s 0 0 0).1 k = false from if_neg k3]
        exact (if_neg Bool.false_ne_true).symm
    have hf : ∀ m, m < 6 → j1 881 m = (fctO w s 0 0 0).2 m := by
      intro m hm
      rw [u1 m hm]
      unfold fctO
      dsimp only
      by_cases m5 : m = 5
      · subst m5
        rfl
      · rw [if_neg m5]
        (repeat' split) <;> rfl
    obtain ⟨j2, E2, f2⟩ := m_sumN (B := B) (d := d + 1) (i := j1) (wt := w) (tt := k) (fc := fctO w s 0 0 0) (x := 1) hM (by omega) (fun z h1 h2 => hw1 z (by omega)) hX hTg hf
    have hw2 : ∀ z, z < 12042 → j2 875 z = w z := fun z hz => (f2 _ _ (by omega)).trans (hw1 z hz)
    obtain ⟨j3, E3, h3, f3⟩ := m_carries (B := B) (d := d + 2) (i := j2) (x := smO w (3542 + 850 * k) (fctO w s 0 0 0) 1) hM hw2 hW.1.2.2.1
    simp only [txn] at Et
    have eB : lwB (some k) w s = chW w (smO w (3542 + 850 * k) (fctO w s 0 0 0) 1) := if_pos c
    refine ⟨j3, ?_, fun z hz => by rw [eB]; exact h3 z hz, fun q k h1 h3 h4 h5 => (f3 q k h1).trans ((f2 q k h5).trans (f1 q k h3 h4))⟩
    rw [bk_120_249]
    simp (disch := omega) only [bk_13_0, E1, q0, Et, E2, E3, hM, y_ckd, y_ck2d, y_ond, y_onn, y_oI, y_oIx, y_oJ, y_oV, y_oVx, y_oR, y_oRn, y_oRx, y_b0, y_b1, y_bi, y_bid, y_wIK, y_wIL, y_wII, y_wIJ, y_wIR, y_wIN, y_wIw, y_sI, ↓reduceIte, Nat.reduceEqDiff, eq_self, true_or, or_true, false_or, or_false, and_true, true_and, false_and, and_false, not_true, not_false_eq_true, tf_T, tf_F, y_up1, y_up2, y_xx, y_nx, y_sJ, y_sR, Int32.reduceLT, y_nxK, y_nxL, y_nxR, y_sJK, y_sJL, y_sJR, y_sJN, y_sRK, y_sRL, y_sRN, Nat.add_zero, z_nat, z_lit, z_lit0, z_lit1, z_in0, z_in1, z_addl0, z_lt, z_ltl, z_llt, z_inj, z_injl, z_add, z_addl, z_ladd, z_mul, z_mull, z_lmul, z_neg, z_negl, z_in, z_inl, z_ltT, z_ltF, z_eqF, z_10, z_01, z_litne, z_ne0, z_0ne, z_ne1, z_1ne, z_lt64, z_02, z_03, z_04, z_05, z_12, z_13, z_14, z_15, z_20, z_21, z_23, z_24, z_25, z_30, z_31, z_32, z_34, z_35, z_40, z_41, z_42, z_43, z_45, z_50, z_51, z_52, z_53, z_54]
theorem lwA_x (h : ¬ (w (2622 + 49 * s) = 1 ∨ w (2622 + 49 * s) = 2 ∨ w (2622 + 49 * s) = 3)) : lwB t (lwA w g s) s = w := by
  have e : lwA w g s = w := if_neg fun q => h (q.1.elim Or.inl fun q => Or.inr (Or.inr q))
  rw [e]
  cases t with
  | none => rfl
  | some k => exact if_neg h
theorem sta13 (h : ¬ x < 0 ∧ x < 6) (c : ¬ x < 1 ∧ ¬ 3 < x) : x = 1 ∨ x = 2 ∨ x = 3 := by
  obtain ⟨n, e, hn⟩ := z_lk 6 (by omega) h.1 h.2
  rw [e] at c ⊢
  have : n = 0 ∨ n = 1 ∨ n = 2 ∨ n = 3 ∨ n = 4 ∨ n = 5 := by omega
  rcases this with rfl | rfl | rfl | rfl | rfl | rfl
  · exact absurd (by decide) c.1
  · exact Or.inl rfl
  · exact Or.inr (Or.inl rfl)
  · exact Or.inr (Or.inr rfl)
  · exact absurd (by decide) c.2
  · exact absurd (by decide) c.2
theorem m_wk (hM : Md B) (hw : ∀ z, z < 12042 → i 875 z = w z) (hW : Wd w) (hg : g < cn w 3019) (hT : txi w (w 0) (cn w 3541) = t) : ∃ j, am_fx am_P (d + 5) 120 156 [some (.ref 874), some (.int (Int32.ofNat g)), none] [] (am_wI B i) = am_fx am_P (d + 5) 120 156 [some (.ref 874), some (.int (Int32.ofNat (g + 1))), none] [] (am_wI B j) ∧ (∀ z, z < 12042 → j 875 z = gaS t g w z) ∧ ∀ q k, q ≠ 875 → q ≠ 880 → q ≠ 881 → q ≠ 882 → j q k = i q k := by
  have h19 := hW.1.2.2.2.2.2.1
  have n19 := h19.2
  have h21 := hW.1.2.2.2.1
  have n21 := h21.2
  have k19 : i 875 3019 = Int32.ofNat (cn w 3019) := (hw 3019 (by omega)).trans h19.1
  have kg := hw (3020 + 2 * g + 1) (by omega)
  have kS := hw (3020 + 2 * g) (by omega)
  have e271 : ∀ j : Nat → Nat → Int32, am_fx am_P (d + 5) 120 271 [some (.ref 874), some (.int (Int32.ofNat g)), none] [] (am_wI B j) = am_fx am_P (d + 5) 120 156 [some (.ref 874), some (.int (Int32.ofNat (g + 1))), none] [] (am_wI B j) := by
    intro j
    rw [bk_120_271]
    simp (disch := omega) only [y_ckd, y_ck2d, y_ond, y_onn, y_oI, y_oIx, y_oJ, y_oV, y_oVx, y_oR, y_oRn, y_oRx, y_b0, y_b1, y_bi, y_bid, y_wIK, y_wIL, y_wII, y_wIJ, y_wIR, y_wIN, y_wIw, y_sI, ↓reduceIte, Nat.reduceEqDiff, eq_self, true_or, or_true, false_or, or_false, and_true, true_and, false_and, and_false, not_true, not_false_eq_true, tf_T, tf_F, y_up1, y_up2, y_xx, y_nx, y_sJ, y_sR, Int32.reduceLT, y_nxK, y_nxL, y_nxR, y_sJK, y_sJL, y_sJR, y_sJN, y_sRK, y_sRL, y_sRN, Nat.add_zero, z_nat, z_lit, z_lit0, z_lit1, z_in0, z_in1, z_addl0, z_lt, z_ltl, z_llt, z_inj, z_injl, z_add, z_addl, z_ladd, z_mul, z_mull, z_lmul, z_neg, z_negl, z_in, z_inl, z_ltT, z_ltF, z_eqF, z_10, z_01, z_litne, z_ne0, z_0ne, z_ne1, z_1ne, z_lt64, z_02, z_03, z_04, z_05, z_12, z_13, z_14, z_15, z_20, z_21, z_23, z_24, z_25, z_30, z_31, z_32, z_34, z_35, z_40, z_41, z_42, z_43, z_45, z_50, z_51, z_52, z_53, z_54]
  by_cases g0 : w (3020 + 2 * g + 1) < 0
  · have eS : gaS t g w = w := if_pos g0
    refine ⟨i, ?_, by rw [eS]; exact hw, fun _ _ _ _ _ _ => rfl⟩
    rw [bk_120_156]
    simp (disch := omega) only [k19, kg, g0, e271, hM, y_ckd, y_ck2d, y_ond, y_onn, y_oI, y_oIx, y_oJ, y_oV, y_oVx, y_oR, y_oRn, y_oRx, y_b0, y_b1, y_bi, y_bid, y_wIK, y_wIL, y_wII, y_wIJ, y_wIR, y_wIN, y_wIw, y_sI, ↓reduceIte, Nat.reduceEqDiff, eq_self, true_or, or_true, false_or, or_false, and_true, true_and, false_and, and_false, not_true, not_false_eq_true, tf_T, tf_F, y_up1, y_up2, y_xx, y_nx, y_sJ, y_sR, Int32.reduceLT, y_nxK, y_nxL, y_nxR, y_sJK, y_sJL, y_sJR, y_sJN, y_sRK, y_sRL, y_sRN, Nat.add_zero, z_nat, z_lit, z_lit0, z_lit1, z_in0, z_in1, z_addl0, z_lt, z_ltl, z_llt, z_inj, z_injl, z_add, z_addl, z_ladd, z_mul, z_mull, z_lmul, z_neg, z_negl, z_in, z_inl, z_ltT, z_ltF, z_eqF, z_10, z_01, z_litne, z_ne0, z_0ne, z_ne1, z_1ne, z_lt64, z_02, z_03, z_04, z_05, z_12, z_13, z_14, z_15, z_20, z_21, z_23, z_24, z_25, z_30, z_31, z_32, z_34, z_35, z_40, z_41, z_42, z_43, z_45, z_50, z_51, z_52, z_53, z_54]
  · obtain ⟨eg, hs⟩ := nn_of (hW.2.2.2.2.2.1 g hg (by omega)).2 h21.1 (by omega) (fun q => g0 (by rw [q]; decide))
    have eS : gaS t g w = lwB t (lwA w g (cn w (3020 + 2 * g + 1))) (cn w (3020 + 2 * g + 1)) := if_neg g0
    generalize es : cn w (3020 + 2 * g + 1) = s at *
    have s8 : s < 8 := by omega
    have kg' : i 875 (3020 + 2 * g + 1) = Int32.ofNat s := kg.trans eg
    have gs : ¬ Int32.ofNat s < 0 := by rw [z_neg (by omega)]; exact id
    have k0 := hw (2622 + 49 * s) (by omega)
    have k1 := hw (2622 + 49 * s + 1) (by omega)
    have k8 := hw (2622 + 49 * s + 8) (by omega)
    have st := (hW.2.2.2.2.1.1 s hs s8).1
    obtain ⟨hn, hv⟩ := ShW_v hW hs s8
    have Ef := m_fitOf (B := B) (d := d) (i := i) hM hw h21 hs hn hv hW.1.2.2.1
    by_cases c : w (2622 + 49 * s) = 1 ∨ w (2622 + 49 * s) = 2 ∨ w (2622 + 49 * s) = 3
    · have hWA := Wd_lwA (g := g) (s := s) hW hg (by omega) hs s8
      have hTA : txi (lwA w g s) (lwA w g s 0) (cn (lwA w g s) 3541) = t := (txi_S fun z hz => lwA_ne (by omega)).trans hT
      have hst : ∃ j1, am_fx am_P (d + 5) 120 156 [some (.ref 874), some (.int (Int32.ofNat g)), none] [] (am_wI B i) = am_fx am_P (d + 5) 120 249 [some (.ref 874), some (.int (Int32.ofNat g)), some (.int (Int32.ofNat s))] [] (am_wI B j1) ∧ (∀ z, z < 12042 → j1 875 z = lwA w g s z) ∧ ∀ q k, q ≠ 875 → j1 q k = i q k := by
        by_cases c2 : nfit w s = w (2622 + 49 * s + 8)
        · by_cases c13 : w (2622 + 49 * s) = 1 ∨ w (2622 + 49 * s) = 3
          · have eA : lwA w g s = wu w (2622 + 49 * s + 1) (mx 0 (w (2622 + 49 * s + 1) - w (3020 + 2 * g))) := if_pos ⟨c13, c2⟩
            rw [eA]
            refine ⟨am_up2 i 875 (2622 + 49 * s + 1) (mx 0 (w (2622 + 49 * s + 1) - w (3020 + 2 * g))), ?_, fun z hz => ?_, fun q k hq => y_up2 (by omega)⟩
            · by_cases gx : 0 < w (2622 + 49 * s + 1) - w (3020 + 2 * g)
              · rw [show mx 0 (w (2622 + 49 * s + 1) - w (3020 + 2 * g)) = w (2622 + 49 * s + 1) - w (3020 + 2 * g) from if_pos gx]
                rw [bk_120_156]
                rcases c13 with c1 | c1
                · simp (maxSteps := 1000000) (disch := omega) only [bk_67_0, bk_66_0, bk_68_0, bk_11_0, bk_77_0, bk_84_0, bk_1_0, k19, kg', kS, k0, k1, k8, c1, c2, gs, gx, Ef, z_39, z_390, hM, y_ckd, y_ck2d, y_ond, y_onn, y_oI, y_oIx, y_oJ, y_oV, y_oVx, y_oR, y_oRn, y_oRx, y_b0, y_b1, y_bi, y_bid, y_wIK, y_wIL, y_wII, y_wIJ, y_wIR, y_wIN, y_wIw, y_sI, ↓reduceIte, Nat.reduceEqDiff, eq_self, true_or, or_true, false_or, or_false, and_true, true_and, false_and, and_false, not_true, not_false_eq_true, tf_T, tf_F, y_up1, y_up2, y_xx, y_nx, y_sJ, y_sR, Int32.reduceLT, y_nxK, y_nxL, y_nxR, y_sJK, y_sJL, y_sJR, y_sJN, y_sRK, y_sRL, y_sRN, Nat.add_zero, z_nat, z_lit, z_lit0, z_lit1, z_in0, z_in1, z_addl0, z_lt, z_ltl, z_llt, z_inj, z_injl, z_add, z_addl, z_ladd, z_mul, z_mull, z_lmul, z_neg, z_negl, z_in, z_inl, z_ltT, z_ltF, z_eqF, z_10, z_01, z_litne, z_ne0, z_0ne, z_ne1, z_1ne, z_lt64, z_02, z_03, z_04, z_05, z_12, z_13, z_14, z_15, z_20, z_21, z_23, z_24, z_25, z_30, z_31, z_32, z_34, z_35, z_40, z_41, z_42, z_43, z_45, z_50, z_51, z_52, z_53, z_54]
                · simp (maxSteps := 1000000) (disch := omega) only [bk_67_0, bk_66_0, bk_68_0, bk_11_0, bk_77_0, bk_84_0, bk_1_0, k19, kg', kS, k0, k1, k8, c1, c2, gs, gx, Ef, z_39, z_390, hM, y_ckd, y_ck2d, y_ond, y_onn, y_oI, y_oIx, y_oJ, y_oV, y_oVx, y_oR, y_oRn, y_oRx, y_b0, y_b1, y_bi, y_bid, y_wIK, y_wIL, y_wII, y_wIJ, y_wIR, y_wIN, y_wIw, y_sI, ↓reduceIte, Nat.reduceEqDiff, eq_self, true_or, or_true, false_or, or_false, and_true, true_and, false_and, and_false, not_true, not_false_eq_true, tf_T, tf_F, y_up1, y_up2, y_xx, y_nx, y_sJ, y_sR, Int32.reduceLT, y_nxK, y_nxL, y_nxR, y_sJK, y_sJL, y_sJR, y_sJN, y_sRK, y_sRL, y_sRN, Nat.add_zero, z_nat, z_lit, z_lit0, z_lit1, z_in0, z_in1, z_addl0, z_lt, z_ltl, z_llt, z_inj, z_injl, z_add, z_addl, z_ladd, z_mul, z_mull, z_lmul, z_neg, z_negl, z_in, z_inl, z_ltT, z_ltF, z_eqF, z_10, z_01, z_litne, z_ne0, z_0ne, z_ne1, z_1ne, z_lt64, z_02, z_03, z_04, z_05, z_12, z_13, z_14, z_15, z_20, z_21, z_23, z_24, z_25, z_30, z_31, z_32, z_34, z_35, z_40, z_41, z_42, z_43, z_45, z_50, z_51, z_52, z_53, z_54]
              · rw [show mx 0 (w (2622 + 49 * s + 1) - w (3020 + 2 * g)) = 0 from if_neg gx]
                rw [bk_120_156]
                rcases c13 with c1 | c1
                · simp (maxSteps := 1000000) (disch := omega) only [bk_67_0, bk_66_0, bk_68_0, bk_11_0, bk_77_0, bk_84_0, bk_1_0, k19, kg', kS, k0, k1, k8, c1, c2, gs, gx, Ef, z_39, z_390, hM, y_ckd, y_ck2d, y_ond, y_onn, y_oI, y_oIx, y_oJ, y_oV, y_oVx, y_oR, y_oRn, y_oRx, y_b0, y_b1, y_bi, y_bid, y_wIK, y_wIL, y_wII, y_wIJ, y_wIR, y_wIN, y_wIw, y_sI, ↓reduceIte, Nat.reduceEqDiff, eq_self, true_or, or_true, false_or, or_false, and_true, true_and, false_and, and_false, not_true, not_false_eq_true, tf_T, tf_F, y_up1, y_up2, y_xx, y_nx, y_sJ, y_sR, Int32.reduceLT, y_nxK, y_nxL, y_nxR, y_sJK, y_sJL, y_sJR, y_sJN, y_sRK, y_sRL, y_sRN, Nat.add_zero, z_nat, z_lit, z_lit0, z_lit1, z_in0, z_in1, z_addl0, z_lt, z_ltl, z_llt, z_inj, z_injl, z_add, z_addl, z_ladd, z_mul, z_mull, z_lmul, z_neg, z_negl, z_in, z_inl, z_ltT, z_ltF, z_eqF, z_10, z_01, z_litne, z_ne0, z_0ne, z_ne1, z_1ne, z_lt64, z_02, z_03, z_04, z_05, z_12, z_13, z_14, z_15, z_20, z_21, z_23, z_24, z_25, z_30, z_31, z_32, z_34, z_35, z_40, z_41, z_42, z_43, z_45, z_50, z_51, z_52, z_53, z_54]
                · simp (maxSteps := 1000000) (disch := omega) only [bk_67_0, bk_66_0, bk_68_0, bk_11_0, bk_77_0, bk_84_0, bk_1_0, k19, kg', kS, k0, k1, k8, c1, c2, gs, gx, Ef, z_39, z_390, hM, y_ckd, y_ck2d, y_ond, y_onn, y_oI, y_oIx, y_oJ, y_oV, y_oVx, y_oR, y_oRn, y_oRx, y_b0, y_b1, y_bi, y_bid, y_wIK, y_wIL, y_wII, y_wIJ, y_wIR, y_wIN, y_wIw, y_sI, ↓reduceIte, Nat.reduceEqDiff, eq_self, true_or, or_true, false_or, or_false, and_true, true_and, false_and, and_false, not_true, not_false_eq_true, tf_T, tf_F, y_up1, y_up2, y_xx, y_nx, y_sJ, y_sR, Int32.reduceLT, y_nxK, y_nxL, y_nxR, y_sJK, y_sJL, y_sJR, y_sJN, y_sRK, y_sRL, y_sRN, Nat.add_zero, z_nat, z_lit, z_lit0, z_lit1, z_in0, z_in1, z_addl0, z_lt, z_ltl, z_llt, z_inj, z_injl, z_add, z_addl, z_ladd, z_mul, z_mull, z_lmul, z_neg, z_negl, z_in, z_inl, z_ltT, z_ltF, z_eqF, z_10, z_01, z_litne, z_ne0, z_0ne, z_ne1, z_1ne, z_lt64, z_02, z_03, z_04, z_05, z_12, z_13, z_14, z_15, z_20, z_21, z_23, z_24, z_25, z_30, z_31, z_32, z_34, z_35, z_40, z_41, z_42, z_43, z_45, z_50, z_51, z_52, z_53, z_54]
            · by_cases ez : z = 2622 + 49 * s + 1
              · rw [y_up1 rfl ez, wu_at ez]
              · rw [y_up2 (by omega), wu_ne ez]
                exact hw z hz
          · have eA : lwA w g s = w := if_neg fun q => c13 q.1
            have c1 : w (2622 + 49 * s) = 2 := c.elim (fun q => absurd (Or.inl q) c13) (fun q => q.elim id fun q => absurd (Or.inr q) c13)
            rw [eA]
            refine ⟨i, ?_, hw, fun _ _ _ => rfl⟩
            rw [bk_120_156]
            simp (maxSteps := 1000000) (disch := omega) only [bk_67_0, bk_66_0, bk_11_0, bk_77_0, k19, kg', k0, c1, gs, z_39, z_390, hM, y_ckd, y_ck2d, y_ond, y_onn, y_oI, y_oIx, y_oJ, y_oV, y_oVx, y_oR, y_oRn, y_oRx, y_b0, y_b1, y_bi, y_bid, y_wIK, y_wIL, y_wII, y_wIJ, y_wIR, y_wIN, y_wIw, y_sI, ↓reduceIte, Nat.reduceEqDiff, eq_self, true_or, or_true, false_or, or_false, and_true, true_and, false_and, and_false, not_true, not_false_eq_true, tf_T, tf_F, y_up1, y_up2, y_xx, y_nx, y_sJ, y_sR, Int32.reduceLT, y_nxK, y_nxL, y_nxR, y_sJK, y_sJL, y_sJR, y_sJN, y_sRK, y_sRL, y_sRN, Nat.add_zero, z_nat, z_lit, z_lit0, z_lit1, z_in0, z_in1, z_addl0, z_lt, z_ltl, z_llt, z_inj, z_injl, z_add, z_addl, z_ladd, z_mul, z_mull, z_lmul, z_neg, z_negl, z_in, z_inl, z_ltT, z_ltF, z_eqF, z_10, z_01, z_litne, z_ne0, z_0ne, z_ne1, z_1ne, z_lt64, z_02, z_03, z_04, z_05, z_12, z_13, z_14, z_15, z_20, z_21, z_23, z_24, z_25, z_30, z_31, z_32, z_34, z_35, z_40, z_41, z_42, z_43, z_45, z_50, z_51, z_52, z_53, z_54]
        · have eA : lwA w g s = w := if_neg fun q => c2 q.2
          rw [eA]
          refine ⟨i, ?_, hw, fun _ _ _ => rfl⟩
          rw [bk_120_156]
          rcases c with c1 | c1 | c1
          · simp (maxSteps := 1000000) (disch := omega) only [bk_67_0, bk_66_0, bk_11_0, bk_77_0, bk_84_0, k19, kg', k0, k8, c1, c2, gs, Ef, z_39, z_390, hM, y_ckd, y_ck2d, y_ond, y_onn, y_oI, y_oIx, y_oJ, y_oV, y_oVx, y_oR, y_oRn, y_oRx, y_b0, y_b1, y_bi, y_bid, y_wIK, y_wIL, y_wII, y_wIJ, y_wIR, y_wIN, y_wIw, y_sI, ↓reduceIte, Nat.reduceEqDiff, eq_self, true_or, or_true, false_or, or_false, and_true, true_and, false_and, and_false, not_true, not_false_eq_true, tf_T, tf_F, y_up1, y_up2, y_xx, y_nx, y_sJ, y_sR, Int32.reduceLT, y_nxK, y_nxL, y_nxR, y_sJK, y_sJL, y_sJR, y_sJN, y_sRK, y_sRL, y_sRN, Nat.add_zero, z_nat, z_lit, z_lit0, z_lit1, z_in0, z_in1, z_addl0, z_lt, z_ltl, z_llt, z_inj, z_injl, z_add, z_addl, z_ladd, z_mul, z_mull, z_lmul, z_neg, z_negl, z_in, z_inl, z_ltT, z_ltF, z_eqF, z_10, z_01, z_litne, z_ne0, z_0ne, z_ne1, z_1ne, z_lt64, z_02, z_03, z_04, z_05, z_12, z_13, z_14, z_15, z_20, z_21, z_23, z_24, z_25, z_30, z_31, z_32, z_34, z_35, z_40, z_41, z_42, z_43, z_45, z_50, z_51, z_52, z_53, z_54]
          · simp (maxSteps := 1000000) (disch := omega) only [bk_67_0, bk_66_0, bk_11_0, bk_77_0, bk_84_0, k19, kg', k0, k8, c1, c2, gs, Ef, z_39, z_390, hM, y_ckd, y_ck2d, y_ond, y_onn, y_oI, y_oIx, y_oJ, y_oV, y_oVx, y_oR, y_oRn, y_oRx, y_b0, y_b1, y_bi, y_bid, y_wIK, y_wIL, y_wII, y_wIJ, y_wIR, y_wIN, y_wIw, y_sI, ↓reduceIte, Nat.reduceEqDiff, eq_self, true_or, or_true, false_or, or_false, and_true, true_and, false_and, and_false, not_true, not_false_eq_true, tf_T, tf_F, y_up1, y_up2, y_xx, y_nx, y_sJ, y_sR, Int32.reduceLT, y_nxK, y_nxL, y_nxR, y_sJK, y_sJL, y_sJR, y_sJN, y_sRK, y_sRL, y_sRN, Nat.add_zero, z_nat, z_lit, z_lit0, z_lit1, z_in0, z_in1, z_addl0, z_lt, z_ltl, z_llt, z_inj, z_injl, z_add, z_addl, z_ladd, z_mul, z_mull, z_lmul, z_neg, z_negl, z_in, z_inl, z_ltT, z_ltF, z_eqF, z_10, z_01, z_litne, z_ne0, z_0ne, z_ne1, z_1ne, z_lt64, z_02, z_03, z_04, z_05, z_12, z_13, z_14, z_15, z_20, z_21, z_23, z_24, z_25, z_30, z_31, z_32, z_34, z_35, z_40, z_41, z_42, z_43, z_45, z_50, z_51, z_52, z_53, z_54]
          · simp (maxSteps := 1000000) (disch := omega) only [bk_67_0, bk_66_0, bk_11_0, bk_77_0, bk_84_0, k19, kg', k0, k8, c1, c2, gs, Ef, z_39, z_390, hM, y_ckd, y_ck2d, y_ond, y_onn, y_oI, y_oIx, y_oJ, y_oV, y_oVx, y_oR, y_oRn, y_oRx, y_b0, y_b1, y_bi, y_bid, y_wIK, y_wIL, y_wII, y_wIJ, y_wIR, y_wIN, y_wIw, y_sI, ↓reduceIte, Nat.reduceEqDiff, eq_self, true_or, or_true, false_or, or_false, and_true, true_and, false_and, and_false, not_true, not_false_eq_true, tf_T, tf_F, y_up1, y_up2, y_xx, y_nx, y_sJ, y_sR, Int32.reduceLT, y_nxK, y_nxL, y_nxR, y_sJK, y_sJL, y_sJR, y_sJN, y_sRK, y_sRL, y_sRN, Nat.add_zero, z_nat, z_lit, z_lit0, z_lit1, z_in0, z_in1, z_addl0, z_lt, z_ltl, z_llt, z_inj, z_injl, z_add, z_addl, z_ladd, z_mul, z_mull, z_lmul, z_neg, z_negl, z_in, z_inl, z_ltT, z_ltF, z_eqF, z_10, z_01, z_litne, z_ne0, z_0ne, z_ne1, z_1ne, z_lt64, z_02, z_03, z_04, z_05, z_12, z_13, z_14, z_15, z_20, z_21, z_23, z_24, z_25, z_30, z_31, z_32, z_34, z_35, z_40, z_41, z_42, z_43, z_45, z_50, z_51, z_52, z_53, z_54]
      obtain ⟨j1, E1, h1, f1⟩ := hst
      have cA : lwA w g s (2622 + 49 * s) = 1 ∨ lwA w g s (2622 + 49 * s) = 2 ∨ lwA w g s (2622 + 49 * s) = 3 := by rw [lwA_ne (by omega)]; exact c
      obtain ⟨j2, E2, h2, f2⟩ := m_wk249 (B := B) (d := d) (i := j1) (x := Int32.ofNat g) hM h1 hWA s8 cA hTA
      rw [eS]
      exact ⟨j2, E1.trans (E2.trans (e271 j2)), h2, fun q k a1 a2 a3 a4 => (f2 q k a1 a2 a3 a4).trans (f1 q k a1)⟩
    · rw [eS, lwA_x c]
      refine ⟨i, ?_, hw, fun _ _ _ _ _ _ => rfl⟩
      rw [bk_120_156]
      by_cases c1 : w (2622 + 49 * s) < 1
      · simp (maxSteps := 1000000) (disch := omega) only [bk_67_0, bk_66_0, bk_11_0, k19, kg', k0, c1, gs, e271, z_39, z_390, hM, y_ckd, y_ck2d, y_ond, y_onn, y_oI, y_oIx, y_oJ, y_oV, y_oVx, y_oR, y_oRn, y_oRx, y_b0, y_b1, y_bi, y_bid, y_wIK, y_wIL, y_wII, y_wIJ, y_wIR, y_wIN, y_wIw, y_sI, ↓reduceIte, Nat.reduceEqDiff, eq_self, true_or, or_true, false_or, or_false, and_true, true_and, false_and, and_false, not_true, not_false_eq_true, tf_T, tf_F, y_up1, y_up2, y_xx, y_nx, y_sJ, y_sR, Int32.reduceLT, y_nxK, y_nxL, y_nxR, y_sJK, y_sJL, y_sJR, y_sJN, y_sRK, y_sRL, y_sRN, Nat.add_zero, z_nat, z_lit, z_lit0, z_lit1, z_in0, z_in1, z_addl0, z_lt, z_ltl, z_llt, z_inj, z_injl, z_add, z_addl, z_ladd, z_mul, z_mull, z_lmul, z_neg, z_negl, z_in, z_inl, z_ltT, z_ltF, z_eqF, z_10, z_01, z_litne, z_ne0, z_0ne, z_ne1, z_1ne, z_lt64, z_02, z_03, z_04, z_05, z_12, z_13, z_14, z_15, z_20, z_21, z_23, z_24, z_25, z_30, z_31, z_32, z_34, z_35, z_40, z_41, z_42, z_43, z_45, z_50, z_51, z_52, z_53, z_54]
      · by_cases c3 : 3 < w (2622 + 49 * s)
        · simp (maxSteps := 1000000) (disch := omega) only [bk_67_0, bk_66_0, bk_11_0, k19, kg', k0, c1, c3, gs, e271, z_39, z_390, hM, y_ckd, y_ck2d, y_ond, y_onn, y_oI, y_oIx, y_oJ, y_oV, y_oVx, y_oR, y_oRn, y_oRx, y_b0, y_b1, y_bi, y_bid, y_wIK, y_wIL, y_wII, y_wIJ, y_wIR, y_wIN, y_wIw, y_sI, ↓reduceIte, Nat.reduceEqDiff, eq_self, true_or, or_true, false_or, or_false, and_true, true_and, false_and, and_false, not_true, not_false_eq_true, tf_T, tf_F, y_up1, y_up2, y_xx, y_nx, y_sJ, y_sR, Int32.reduceLT, y_nxK, y_nxL, y_nxR, y_sJK, y_sJL, y_sJR, y_sJN, y_sRK, y_sRL, y_sRN, Nat.add_zero, z_nat, z_lit, z_lit0, z_lit1, z_in0, z_in1, z_addl0, z_lt, z_ltl, z_llt, z_inj, z_injl, z_add, z_addl, z_ladd, z_mul, z_mull, z_lmul, z_neg, z_negl, z_in, z_inl, z_ltT, z_ltF, z_eqF, z_10, z_01, z_litne, z_ne0, z_0ne, z_ne1, z_1ne, z_lt64, z_02, z_03, z_04, z_05, z_12, z_13, z_14, z_15, z_20, z_21, z_23, z_24, z_25, z_30, z_31, z_32, z_34, z_35, z_40, z_41, z_42, z_43, z_45, z_50, z_51, z_52, z_53, z_54]
        · exact absurd (sta13 st ⟨c1, c3⟩) c
end DayM2
