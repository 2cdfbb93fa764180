/-! A SHIP OPENS UP, THE MODEL: made by wip/whole/math/90f.py. -/
section OpensM
variable {B : am_A} {i j : Nat → Nat → Int32} {w v : Nat → Int32} {d b q n p s k : Nat} {x y z D : Int32} {t : Option Nat}
theorem z_owe {a m : Nat} (ha : a ≤ 2000000000) (hm : m ≤ 1200000) : ∃ V : Int64, (∀ A : am_A, am_fx am_P d 3 0 [some (.long 2000000000), none, some (.long ((Int32.ofNat a).toInt64 + (Int32.ofNat m).toInt64)), none] [] A = some (.inl (some (.long V)), A)) ∧ V.toInt32 = mn 2000000000 (Int32.ofNat a + Int32.ofNat m) := by
  have eL : ((Int32.ofNat a).toInt64 + (Int32.ofNat m).toInt64).toInt = (a : Int) + m := by
    rw [Int64.toInt_add, Int32.toInt_toInt64, Int32.toInt_toInt64, z_toInt (by omega), z_toInt (by omega)]
    unfold Int.bmod
    simp only [Nat.reducePow]
    split <;> omega
  have e2 : (2000000000 : Int64).toInt = 2000000000 := by decide
  have em : Int32.ofNat a + Int32.ofNat m = Int32.ofNat (a + m) := z_add a m
  have e32 : ((Int32.ofNat a).toInt64 + (Int32.ofNat m).toInt64).toInt32 = Int32.ofNat (a + m) := by
    apply Int32.toInt_inj.mp
    rw [Int64.toInt_toInt32, eL, z_toInt (by omega)]
    unfold Int.bmod
    simp only [Nat.reducePow]
    split <;> omega
  rw [em]
  by_cases g : a + m < 2000000000
  · refine ⟨(Int32.ofNat a).toInt64 + (Int32.ofNat m).toInt64, fun A => ?_, ?_⟩
    · rw [bk_3_0]
      have g1 : ¬ (2000000000 : Int64) < (Int32.ofNat a).toInt64 + (Int32.ofNat m).toInt64 := by
        rw [Int64.lt_iff_toInt_lt, eL, e2]
        omega
      have g2 : ¬ (2000000000 : Int64) = (Int32.ofNat a).toInt64 + (Int32.ofNat m).toInt64 := by
        intro q
        have := congrArg Int64.toInt q
        rw [eL, e2] at this
        omega
      rw [if_neg g1, if_neg g2, if_pos (by decide)]
    · rw [e32]
      refine (if_pos ?_).symm
      rw [show (2000000000 : Int32) = Int32.ofNat 2000000000 from rfl, z_lt (by omega) (by omega)]
      exact g
  · refine ⟨2000000000, fun A => ?_, ?_⟩
    · rw [bk_3_0]
      refine if_neg ?_
      by_cases g1 : (2000000000 : Int64) < (Int32.ofNat a).toInt64 + (Int32.ofNat m).toInt64
      · rw [if_pos g1]
        decide
      · rw [if_neg g1]
        have g2 : (2000000000 : Int64) = (Int32.ofNat a).toInt64 + (Int32.ofNat m).toInt64 := by
          apply Int64.toInt_inj.mp
          rw [Int64.lt_iff_toInt_lt, eL, e2] at g1
          rw [eL, e2]
          omega
        rw [if_pos g2]
        decide
    · refine Eq.trans (by decide) (if_neg ?_).symm
      rw [show (2000000000 : Int32) = Int32.ofNat 2000000000 from rfl, z_lt (by omega) (by omega)]
      omega
theorem txi_0 : txi w x 0 = none := rfl
theorem txi_fr (n : Nat) (h : ∀ k, k < n → v (3542 + 850 * k) = w (3542 + 850 * k)) : txi v x n = txi w x n := by
  induction n with
  | zero => exact (txi_0 (w := v)).trans (txi_0 (w := w)).symm
  | succ n ih =>
    have ih := ih fun k hk => h k (Nat.lt_succ_of_lt hk)
    rw [txi_s, txi_s, ih, h n (Nat.lt_succ_self n)]
    by_cases g : x < w (3542 + 850 * n)
    · rw [if_pos g, if_pos g]
    · rw [if_neg g, if_neg g]
      cases e : txi w x n with
      | none => rfl
      | some k =>
        have := txi_lt n e
        dsimp only
        rw [h k (Nat.lt_succ_of_lt this)]
theorem m_opens (hM : Md B) (hw : ∀ z, z < 12042 → i 875 z = w z) (hW : Wd w) (hs : s < cn w 2621) (s8 : s < 8) (g4 : w (2622 + 49 * s) = 4) (ht : txi w (w 0) (cn w 3541) = t) : ∃ j, am_fx am_P (d + 4) 118 0 [some (.ref 874), some (.int (Int32.ofNat s))] [] (am_wI B i) = some (.inl none, am_wI B j) ∧ (∀ z, z < 12042 → j 875 z = opB w s t z) ∧ ∀ q k, q ≠ 875 → q ≠ 880 → q ≠ 881 → q ≠ 882 → j q k = i q k := by
  have hWA := Wd_opA hW hs s8 g4
  have c21 : cn (opA w s) 2621 = cn w 2621 := by unfold cn; rw [opA_ne (by omega)]
  have c41 : cn (opA w s) 3541 = cn w 3541 := by unfold cn; rw [opA_ne (by omega)]
  have k4 := hw 4 (by omega)
  obtain ⟨a0, a1, a3, a4, a5, a6, a7, a8, a9⟩ := hW.2.2.2.2.1.1 s hs s8
  generalize ei : am_up2 (am_up2 (am_up2 i 875 (2622 + 49 * s) 2) 875 (2622 + 49 * s + 6) 1) 875 4 (w 4 + 1) = i1
  have hw1 : ∀ z, z < 12042 → i1 875 z = opA w s z := by
    intro z hz
    rw [← ei]
    unfold opA
    by_cases z4 : z = 4
    · rw [y_up1 rfl z4, wu_at z4]
    · rw [y_up2 (by omega), wu_ne z4]
      by_cases z6 : z = 2622 + 49 * s + 6
      · rw [y_up1 rfl z6, wu_at z6]
      · rw [y_up2 (by omega), wu_ne z6]
        by_cases z0 : z = 2622 + 49 * s
        · rw [y_up1 rfl z0, wu_at z0]
        · rw [y_up2 (by omega), wu_ne z0]
          exact hw z hz
  have fo1 : ∀ q k, q ≠ 875 → i1 q k = i q k := fun q k hq => by rw [← ei]; simp (disch := omega) only [y_up2]
  have k3 : i1 875 (2622 + 49 * s + 3) = w (2622 + 49 * s + 3) := (hw1 _ (by omega)).trans (opA_ne (by omega))
  have k3' := hw (2622 + 49 * s + 3) (by omega)
  have k40 : i 875 4 = w 4 := k4
  unfold opB
  by_cases g : w (2622 + 49 * s + 3) = 0
  · rw [if_pos g]
    refine ⟨i1, ?_, hw1, fun q k h _ _ _ => fo1 q k h⟩
    rw [bk_118_0]
    simp (disch := omega) only [bk_67_0, bk_66_0, bk_68_0, k40, k3', g, z_39, z_390, hM, y_ckd, y_ck2d, y_ond, y_onn, y_oI, y_oIx, y_oJ, y_oV, y_oVx, y_oR, y_oRn, y_oRx, y_b0, y_b1, y_bi, y_bid, y_wIK, y_wIL, y_wII, y_wIJ, y_wIR, y_wIN, y_wIw, y_sI, ↓reduceIte, Nat.reduceEqDiff, eq_self, true_or, or_true, false_or, or_false, and_true, true_and, false_and, and_false, not_true, not_false_eq_true, tf_T, tf_F, y_up1, y_up2, y_xx, y_nx, y_sJ, y_sR, Int32.reduceLT, y_nxK, y_nxL, y_nxR, y_sJK, y_sJL, y_sJR, y_sJN, y_sRK, y_sRL, y_sRN, Nat.add_zero, z_nat, z_lit, z_lit0, z_lit1, z_in0, z_in1, z_addl0, z_lt, z_ltl, z_llt, z_inj, z_injl, z_add, z_addl, z_ladd, z_mul, z_mull, z_lmul, z_neg, z_negl, z_in, z_inl, z_ltT, z_ltF, z_eqF, z_10, z_01, z_litne, z_ne0, z_0ne, z_ne1, z_1ne, z_lt64, z_02, z_03, z_04, z_05, z_12, z_13, z_14, z_15, z_20, z_21, z_23, z_24, z_25, z_30, z_31, z_32, z_34, z_35, z_40, z_41, z_42, z_43, z_45, z_50, z_51, z_52, z_53, z_54]
    rw [ei]
  · rw [if_neg g]
    obtain ⟨j2, E2, t2, u2, f2⟩ := m_looks (d := d) hM hw1 s8 hWA.1.2.2.2.2.2.1
    obtain ⟨hn, hv⟩ := ShW_v hWA (by omega : s < cn (opA w s) 2621) s8
    have hd : ∀ p, p < cn (opA w s) 460 → p < 120 → ¬ opA w s (461 + 18 * p + 6) < 0 := fun p hp h120 => (hWA.2.2.2.1.1 p hp h120).2.2.2.2.2.1.1
    have hw2 : ∀ z, z < 12042 → j2 875 z = opA w s z := fun z hz => (f2 _ _ (by omega) (by omega)).trans (hw1 z hz)
    have El := m_ldry (B := B) (d := d) (i := j2) hM hw2 hWA.1.2.2.2.1 (by omega : s < cn (opA w s) 2621) hn hv hWA.1.2.2.1 hd
    have hw3 : ∀ z, z < 12042 → am_up2 j2 881 0 (ldr (opA w s) s) 875 z = opA w s z := fun z hz => by rw [y_up2 (by omega)]; exact hw2 z hz
    have Ew := m_worstOf (B := B) (d := d) (i := am_up2 j2 881 0 (ldr (opA w s) s)) hM hw3 hWA.1.2.2.2.1 (by omega : s < cn (opA w s) 2621) hn hv hWA.1.2.2.1
    have q0 : j2 875 0 = w 0 := (hw2 0 (by omega)).trans (opA_ne (by omega))
    have q5 : j2 875 (2622 + 49 * s + 5) = w (2622 + 49 * s + 5) := (hw2 _ (by omega)).trans (opA_ne (by omega))
    generalize ej : am_up2 (am_up2 (am_up2 j2 881 0 (ldr (opA w s) s)) 881 1 (wrst (opA w s) s)) 881 4 (w 0 - w (2622 + 49 * s + 5)) = j3
    have hw4 : ∀ z, z < 12042 → j3 875 z = opA w s z := fun z hz => by rw [← ej]; simp (disch := omega) only [y_up2]; exact hw2 z hz
    have fo3 : ∀ q k, q ≠ 875 → q ≠ 880 → q ≠ 881 → j3 q k = i q k := fun q k h1 h2 h3 => by rw [← ej]; simp (disch := omega) only [y_up2]; rw [f2 _ _ h2 h3]; exact fo1 q k h1
    have hTg : ∀ k, k < 5 → j3 880 k = if (opF w s).1 k = true then 1 else 0 := by
      intro k hk
      rw [← ej, y_up2 (by omega), y_up2 (by omega), y_up2 (by omega), t2 k hk]
      by_cases k3 : k = 3
      · rw [if_pos k3, show (opF w s).1 k = decide (opA w s (2622 + 49 * s + 3) = 1) from if_pos k3]
        by_cases e : opA w s (2622 + 49 * s + 3) = 1
        · rw [if_pos e, if_pos (decide_eq_true e)]
        · rw [if_neg e, if_neg (by rw [decide_eq_false e]; exact Bool.false_ne_true)]
      · rw [if_neg k3, show (opF w s).1 k = false from if_neg k3]
        exact (if_neg Bool.false_ne_true).symm
    have hf : ∀ m, m < 6 → j3 881 m = (opF w s).2 m := by
      intro m hm
      have h6 : m = 0 ∨ m = 1 ∨ m = 2 ∨ m = 3 ∨ m = 4 ∨ m = 5 := by omega
      rw [← ej]
      rcases h6 with rfl | rfl | rfl | rfl | rfl | rfl
      · rw [y_up2 (by omega), y_up2 (by omega), y_up1 rfl rfl]
        rfl
      · rw [y_up2 (by omega), y_up1 rfl rfl]
        rfl
      · rw [y_up2 (by omega), y_up2 (by omega), y_up2 (by omega), u2 2 (by omega)]
        rfl
      · rw [y_up2 (by omega), y_up2 (by omega), y_up2 (by omega), u2 3 (by omega)]
        rfl
      · rw [y_up1 rfl rfl]
        rfl
      · rw [y_up2 (by omega), y_up2 (by omega), y_up2 (by omega), u2 5 (by omega)]
        rfl
    have E118 : am_fx am_P (d + 4) 118 0 [some (.ref 874), some (.int (Int32.ofNat s))] [] (am_wI B i) = am_fx am_P (d + 4) 118 79 [some (.ref 874), some (.int (Int32.ofNat s))] [] (am_wI B j3) := by
      rw [bk_118_0]
      simp (disch := omega) only [bk_67_0, bk_66_0, bk_68_0, bk_13_0, k40, k3', g, z_39, z_390, hM, y_ckd, y_ck2d, y_ond, y_onn, y_oI, y_oIx, y_oJ, y_oV, y_oVx, y_oR, y_oRn, y_oRx, y_b0, y_b1, y_bi, y_bid, y_wIK, y_wIL, y_wII, y_wIJ, y_wIR, y_wIN, y_wIw, y_sI, ↓reduceIte, Nat.reduceEqDiff, eq_self, true_or, or_true, false_or, or_false, and_true, true_and, false_and, and_false, not_true, not_false_eq_true, tf_T, tf_F, y_up1, y_up2, y_xx, y_nx, y_sJ, y_sR, Int32.reduceLT, y_nxK, y_nxL, y_nxR, y_sJK, y_sJL, y_sJR, y_sJN, y_sRK, y_sRL, y_sRN, Nat.add_zero, z_nat, z_lit, z_lit0, z_lit1, z_in0, z_in1, z_addl0, z_lt, z_ltl, z_llt, z_inj, z_injl, z_add, z_addl, z_ladd, z_mul, z_mull, z_lmul, z_neg, z_negl, z_in, z_inl, z_ltT, z_ltF, z_eqF, z_10, z_01, z_litne, z_ne0, z_0ne, z_ne1, z_1ne, z_lt64, z_02, z_03, z_04, z_05, z_12, z_13, z_14, z_15, z_20, z_21, z_23, z_24, z_25, z_30, z_31, z_32, z_34, z_35, z_40, z_41, z_42, z_43, z_45, z_50, z_51, z_52, z_53, z_54]
      rw [ei]
      simp (disch := omega) only [E2, El, Ew, bk_67_0, bk_66_0, bk_13_0, q0, q5, z_39, z_390, hM, y_ckd, y_ck2d, y_ond, y_onn, y_oI, y_oIx, y_oJ, y_oV, y_oVx, y_oR, y_oRn, y_oRx, y_b0, y_b1, y_bi, y_bid, y_wIK, y_wIL, y_wII, y_wIJ, y_wIR, y_wIN, y_wIw, y_sI, ↓reduceIte, Nat.reduceEqDiff, eq_self, true_or, or_true, false_or, or_false, and_true, true_and, false_and, and_false, not_true, not_false_eq_true, tf_T, tf_F, y_up1, y_up2, y_xx, y_nx, y_sJ, y_sR, Int32.reduceLT, y_nxK, y_nxL, y_nxR, y_sJK, y_sJL, y_sJR, y_sJN, y_sRK, y_sRL, y_sRN, Nat.add_zero, z_nat, z_lit, z_lit0, z_lit1, z_in0, z_in1, z_addl0, z_lt, z_ltl, z_llt, z_inj, z_injl, z_add, z_addl, z_ladd, z_mul, z_mull, z_lmul, z_neg, z_negl, z_in, z_inl, z_ltT, z_ltF, z_eqF, z_10, z_01, z_litne, z_ne0, z_0ne, z_ne1, z_1ne, z_lt64, z_02, z_03, z_04, z_05, z_12, z_13, z_14, z_15, z_20, z_21, z_23, z_24, z_25, z_30, z_31, z_32, z_34, z_35, z_40, z_41, z_42, z_43, z_45, z_50, z_51, z_52, z_53, z_54]
      rw [ej]
    have r0 : j3 875 0 = w 0 := (hw4 0 (by omega)).trans (opA_ne (by omega))
    have r7 : j3 875 (2622 + 49 * s + 7) = w (2622 + 49 * s + 7) := (hw4 _ (by omega)).trans (opA_ne (by omega))
    have Et := m_textOf (B := B) (d := d + 1) (i := j3) (x := w 0) hM hw4 hWA.1.2.2.2.2.2.2.2.2.2
    have et : txi (opA w s) (w 0) (cn (opA w s) 3541) = t := by
      rw [c41, txi_fr (w := w) _ fun k hk => opA_ne (by omega)]
      exact ht
    rw [et] at Et
    obtain ⟨a, ea, ha⟩ := z_lk 2000000001 (by omega) a7.1 a7.2
    cases t with
    | none =>
      dsimp only
      have E6 := m_sum0 (B := B) (d := d) (i := j3) (x := 2) hM
      obtain ⟨V, EV, eV⟩ := z_owe (d := d + 3) (a := a) (m := 0) (by omega) (by omega)
      have EV' : ∀ A : am_A, am_fx am_P (d + 3) 3 0 [some (.long 2000000000), none, some (.long ((Int32.ofNat a).toInt64 + (0 : Int32).toInt64)), none] [] A = some (.inl (some (.long V)), A) := EV
      have e0 : V.toInt32 = Int32.ofNat a := by
        rw [eV]
        have e1 : Int32.ofNat a + Int32.ofNat 0 = Int32.ofNat a := z_add a 0
        rw [e1]
        by_cases g2 : Int32.ofNat a < 2000000000
        · exact if_pos g2
        · rw [show mn 2000000000 (Int32.ofNat a) = 2000000000 from if_neg g2]
          rw [show (2000000000 : Int32) = Int32.ofNat 2000000000 from rfl, z_lt (by omega) (by omega)] at g2
          rw [show a = 2000000000 by omega]
          rfl
      have r7' : j3 875 (2622 + 49 * s + 7) = Int32.ofNat a := r7.trans ea
      refine ⟨am_up2 j3 875 (2622 + 49 * s + 7) (Int32.ofNat a), E118.trans ?_, fun z hz => ?_, fun q k h1 h2 h3 _ => by rw [y_up2 (by omega)]; exact fo3 q k h1 h2 h3⟩
      · rw [bk_118_79]
        simp only [txn] at Et
        simp (disch := omega) only [bk_67_0, bk_66_0, bk_68_0, bk_13_0, bk_118_116, r0, r7', Et, E6, EV', e0, z_39, z_390, hM, y_ckd, y_ck2d, y_ond, y_onn, y_oI, y_oIx, y_oJ, y_oV, y_oVx, y_oR, y_oRn, y_oRx, y_b0, y_b1, y_bi, y_bid, y_wIK, y_wIL, y_wII, y_wIJ, y_wIR, y_wIN, y_wIw, y_sI, ↓reduceIte, Nat.reduceEqDiff, eq_self, true_or, or_true, false_or, or_false, and_true, true_and, false_and, and_false, not_true, not_false_eq_true, tf_T, tf_F, y_up1, y_up2, y_xx, y_nx, y_sJ, y_sR, Int32.reduceLT, y_nxK, y_nxL, y_nxR, y_sJK, y_sJL, y_sJR, y_sJN, y_sRK, y_sRL, y_sRN, Nat.add_zero, z_nat, z_lit, z_lit0, z_lit1, z_in0, z_in1, z_addl0, z_lt, z_ltl, z_llt, z_inj, z_injl, z_add, z_addl, z_ladd, z_mul, z_mull, z_lmul, z_neg, z_negl, z_in, z_inl, z_ltT, z_ltF, z_eqF, z_10, z_01, z_litne, z_ne0, z_0ne, z_ne1, z_1ne, z_lt64, z_02, z_03, z_04, z_05, z_12, z_13, z_14, z_15, z_20, z_21, z_23, z_24, z_25, z_30, z_31, z_32, z_34, z_35, z_40, z_41, z_42, z_43, z_45, z_50, z_51, z_52, z_53, z_54]
      · by_cases z7 : z = 2622 + 49 * s + 7
        · rw [y_up1 rfl z7, z7, opA_ne (by omega), ea]
        · rw [y_up2 (by omega)]
          exact hw4 z hz
    | some k =>
      dsimp only
      have hk := txi_lt _ et
      have k10 : k < 10 := by have := hWA.1.2.2.2.2.2.2.2.2.2.2; omega
      have hX := hWA.2.2.2.2.2.2.2.2.1 k hk k10
      obtain ⟨j4, E4, f4⟩ := m_sumN (B := B) (d := d) (i := j3) (wt := opA w s) (tt := k) (fc := opF w s) (x := 2) hM (by omega) (fun z h1 h2 => hw4 z (by omega)) hX hTg hf
      obtain ⟨m, em, hm⟩ := smO_lt (fc := opF w s) (x := 2) hX
      rw [em] at E4 ⊢
      obtain ⟨V, EV, eV⟩ := z_owe (d := d + 3) (a := a) (m := m) (by omega) (by omega)
      have r7' : j3 875 (2622 + 49 * s + 7) = Int32.ofNat a := r7.trans ea
      rw [ea, ← eV]
      refine ⟨am_up2 j4 875 (2622 + 49 * s + 7) V.toInt32, E118.trans ?_, fun z hz => ?_, fun q k h1 h2 h3 h4 => by rw [y_up2 (by omega), f4 _ _ h4]; exact fo3 q k h1 h2 h3⟩
      · rw [bk_118_79]
        simp only [txn] at Et
        simp (disch := omega) only [bk_67_0, bk_66_0, bk_68_0, bk_13_0, bk_118_116, r0, r7', Et, E4, EV, z_39, z_390, hM, y_ckd, y_ck2d, y_ond, y_onn, y_oI, y_oIx, y_oJ, y_oV, y_oVx, y_oR, y_oRn, y_oRx, y_b0, y_b1, y_bi, y_bid, y_wIK, y_wIL, y_wII, y_wIJ, y_wIR, y_wIN, y_wIw, y_sI, ↓reduceIte, Nat.reduceEqDiff, eq_self, true_or, or_true, false_or, or_false, and_true, true_and, false_and, and_false, not_true, not_false_eq_true, tf_T, tf_F, y_up1, y_up2, y_xx, y_nx, y_sJ, y_sR, Int32.reduceLT, y_nxK, y_nxL, y_nxR, y_sJK, y_sJL, y_sJR, y_sJN, y_sRK, y_sRL, y_sRN, Nat.add_zero, z_nat, z_lit, z_lit0, z_lit1, z_in0, z_in1, z_addl0, z_lt, z_ltl, z_llt, z_inj, z_injl, z_add, z_addl, z_ladd, z_mul, z_mull, z_lmul, z_neg, z_negl, z_in, z_inl, z_ltT, z_ltF, z_eqF, z_10, z_01, z_litne, z_ne0, z_0ne, z_ne1, z_1ne, z_lt64, z_02, z_03, z_04, z_05, z_12, z_13, z_14, z_15, z_20, z_21, z_23, z_24, z_25, z_30, z_31, z_32, z_34, z_35, z_40, z_41, z_42, z_43, z_45, z_50, z_51, z_52, z_53, z_54]
      · by_cases z7 : z = 2622 + 49 * s + 7
        · rw [y_up1 rfl z7, wu_at z7]
        · rw [y_up2 (by omega), wu_ne z7, f4 _ _ (by omega)]
          exact hw4 z hz
end OpensM
