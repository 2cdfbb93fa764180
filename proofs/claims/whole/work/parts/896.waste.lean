/-! WASTE, WHICH: the calls. Made by wip/whole/math/896.py. -/
section Waste
variable {B B1 : am_A} {i i1 : Nat → Nat → Int32} {σ σ' : Sg} {w : Nat → Int32} {L j d b m n T : Nat} {x y z : Int32}
theorem MRs_j {x : am_X} {v : Option Value} {t : Int32} {s : am_A × (Nat → Nat → Int32)} (h : MR B i σ) (hx : x = some (.inl v, am_wI s.1 s.2)) (hB : Jy 884 B s.1) (ht : s.2 874 0 = t) (hi : ∀ q k, (q < 879 ∨ 893 ≤ q) → (q = 874 → k = 4 ∨ k = 5 ∨ k = 7 ∨ k = 12) → s.2 q k = i q k) : MRs B i σ x v t :=
  ⟨s.1, s.2, hx, ht, MR_fr h (hB.le (by omega)) (fun q k _ => hi q k (by omega) (by omega)), hB.jq, fun q k _ => hi q k (by omega) (by omega)⟩
abbrev SkM (B : am_A) (i : Nat → Nat → Int32) (s : am_A × (Nat → Nat → Int32)) : Prop := Jy 884 B s.1 ∧ ∀ q k, (q < 880 ∨ 884 ≤ q) → s.2 q k = i q k
theorem m_allP {s : Nat} {f : Nat → Nat} {t : Option Nat} (hM : Md B) (hw : ∀ z, z < 12042 → i 875 z = w z) (hW : Wd w) (ht : ∀ k, t = some k → k < cn w 3541 ∧ k < 10) (m8 : m ≤ 8) (hs : s < cn w 2621) (hf : ∀ n, n < m → f n < cn w (2622 + 49 * s + 8)) (e21 : i 874 21 = Int32.ofNat m) (e5 : ∀ n, n < m → i 885 n = Int32.ofNat (f n)) (hC : ∀ T, T < 2 ^ m → CsT 883 884 B i T (U0.1 T, U0.2 T)) : ∃ s' : am_A × (Nat → Nat → Int32), am_fx am_P (d + 5) 87 114 [some (.ref 874), some (.int (Int32.ofNat s)), some (.int 0), some (.int (txn t)), some (.int (Int32.ofNat 0)), none, none, none, none, none, none] [] (am_wI B i) = some (.inl none, am_wI s'.1 s'.2) ∧ SkM B i s' ∧ ∀ T, T < 2 ^ m → CsT 883 884 s'.1 s'.2 T ((skP w s t m f (cn w 460)).1 T, (skP w s t m f (cn w 460)).2 T) := by
  have hc := hW.1.2.2.1
  have h120 := hc.2
  have h8 := hW.1.2.2.2.1.2
  obtain ⟨-, -, -, -, -, -, -, hnc, -⟩ := hW.2.2.2.2.1.1 s hs (by omega)
  have n8 := hnc.2
  have e60 : i 875 460 = Int32.ofNat (cn w 460) := (hw _ (by omega)).trans hc.1
  have hf8 : ∀ n, n < m → f n < 8 := fun n hn => by have := hf n hn; omega
  obtain ⟨s1, E1, hI1, hC1⟩ := lp_inv (fun p (u : am_A × (Nat → Nat → Int32)) => am_fx am_P (d + 5) 87 114 [some (.ref 874), some (.int (Int32.ofNat s)), some (.int 0), some (.int (txn t)), some (.int (Int32.ofNat p)), none, none, none, none, none, none] [] (am_wI u.1 u.2)) (fun p u => SkM B i u ∧ ∀ T, T < 2 ^ m → CsT 883 884 u.1 u.2 T ((skP w s t m f p).1 T, (skP w s t m f p).2 T)) (cn w 460) (fun p u hp hI => by
    obtain ⟨⟨hB, hf1⟩, hC1⟩ := hI
    have hMu := hB.md hM
    have hwu : ∀ z, z < 12042 → u.2 875 z = w z := fun z hz => (hf1 _ _ (by omega)).trans (hw z hz)
    have eu60 := (hf1 875 460 (by omega)).trans e60
    have b1 := hwu (461 + 18 * p + 1) (by omega)
    rw [skP_s]
    unfold fskP
    by_cases g1 : w (461 + 18 * p + 1) = 2
    rotate_left
    · rw [if_neg (c := ofdP w s t p) (fun q => g1 q.1)]
      refine ⟨u, ?_, ⟨hB, hf1⟩, hC1⟩
      rw [bk_87_114]
      simp (maxSteps := 1000000) (disch := omega) only [(fun d x0 x1 x2 x3 x4 s0 s1 s2 B i => bk_87_132 d x0 x1 x2 x3 x4 s0 s1 s2 (am_wI B i)), (fun d x0 x1 x2 B i => bk_24_0 d x0 x1 x2 (am_wI B i)), (fun d x0 x1 B i => bk_23_0 d x0 x1 (am_wI B i)), eu60, b1, g1, hMu, y_ckd, y_ck2d, y_ond, y_onn, y_oI, y_oIx, y_oJ, y_oV, y_oVx, y_oR, y_oRn, y_oRx, y_b0, y_b1, y_bi, y_bid, y_wIK, y_wIL, y_wII, y_wIJ, y_wIR, y_wIN, y_wIw, y_sI, ↓reduceIte, Nat.reduceEqDiff, eq_self, true_or, or_true, false_or, or_false, and_true, true_and, false_and, and_false, not_true, not_false_eq_true, tf_T, tf_F, y_up1, y_up2, y_xx, y_nx, y_sJ, y_sR, Int32.reduceLT, y_nxK, y_nxL, y_nxR, y_sJK, y_sJL, y_sJR, y_sJN, y_sRK, y_sRL, y_sRN, Nat.add_zero, z_nat, z_lit, z_lit0, z_lit1, z_in0, z_in1, z_addl0, z_lt, z_ltl, z_llt, z_inj, z_injl, z_add, z_addl, z_ladd, z_mul, z_mull, z_lmul, z_neg, z_negl, z_in, z_inl, z_ltT, z_ltF, z_eqF, z_10, z_01, z_litne, z_ne0, z_0ne, z_ne1, z_1ne, z_lt64, z_02, z_03, z_04, z_05, z_12, z_13, z_14, z_15, z_20, z_21, z_23, z_24, z_25, z_30, z_31, z_32, z_34, z_35, z_40, z_41, z_42, z_43, z_45, z_50, z_51, z_52, z_53, z_54]
    obtain ⟨j1, E2, f2⟩ := m_why (B := u.1) (i := u.2) (d := d) (p := p) (s := s) (t := t) hMu hwu hW.2.2.2.2.2.2.2.2.1 ht (by omega) (by omega) hW.1.2.2.2.2.2.1
    have hCj : ∀ T, T < 2 ^ m → CsT 883 884 u.1 j1 T ((skP w s t m f p).1 T, (skP w s t m f p).2 T) := fun T hT => ⟨(f2 _ _ (by omega) (by omega) (by omega)).trans (hC1 T hT).1, (hC1 T hT).2⟩
    by_cases g2 : whT w p s t = -1
    · rw [if_neg (c := ofdP w s t p) (fun q => q.2 g2)]
      rw [g2] at E2
      refine ⟨(u.1, j1), ?_, ⟨hB, fun q k h1 => (f2 q k (by omega) (by omega) (by omega)).trans (hf1 q k h1)⟩, hCj⟩
      have lm : ((-1 : Int32) < 0) = True := eq_true (by decide)
      rw [bk_87_114]
      simp (maxSteps := 1000000) (disch := omega) only [(fun d x0 x1 x2 x3 x4 s0 s1 s2 B i => bk_87_132 d x0 x1 x2 x3 x4 s0 s1 s2 (am_wI B i)), (fun d x0 x1 x2 B i => bk_24_0 d x0 x1 x2 (am_wI B i)), (fun d x0 x1 B i => bk_23_0 d x0 x1 (am_wI B i)), eu60, b1, g1, E2, lm, hMu, y_ckd, y_ck2d, y_ond, y_onn, y_oI, y_oIx, y_oJ, y_oV, y_oVx, y_oR, y_oRn, y_oRx, y_b0, y_b1, y_bi, y_bid, y_wIK, y_wIL, y_wII, y_wIJ, y_wIR, y_wIN, y_wIw, y_sI, ↓reduceIte, Nat.reduceEqDiff, eq_self, true_or, or_true, false_or, or_false, and_true, true_and, false_and, and_false, not_true, not_false_eq_true, tf_T, tf_F, y_up1, y_up2, y_xx, y_nx, y_sJ, y_sR, Int32.reduceLT, y_nxK, y_nxL, y_nxR, y_sJK, y_sJL, y_sJR, y_sJN, y_sRK, y_sRL, y_sRN, Nat.add_zero, z_nat, z_lit, z_lit0, z_lit1, z_in0, z_in1, z_addl0, z_lt, z_ltl, z_llt, z_inj, z_injl, z_add, z_addl, z_ladd, z_mul, z_mull, z_lmul, z_neg, z_negl, z_in, z_inl, z_ltT, z_ltF, z_eqF, z_10, z_01, z_litne, z_ne0, z_0ne, z_ne1, z_1ne, z_lt64, z_02, z_03, z_04, z_05, z_12, z_13, z_14, z_15, z_20, z_21, z_23, z_24, z_25, z_30, z_31, z_32, z_34, z_35, z_40, z_41, z_42, z_43, z_45, z_50, z_51, z_52, z_53, z_54]
    rw [if_pos (c := ofdP w s t p) ⟨g1, g2⟩]
    have g3 : ¬ whT w p s t < 0 := by
      rcases whT_v (w := w) (p := p) (s := s) (t := t) hW.2.2.2.2.2.2.2.2.1 ht with q | ⟨n, hn, q⟩
      · exact absurd q g2
      · rw [q, z_neg (by omega)]
        exact id
    have hwj : ∀ z, z < 12042 → j1 875 z = w z := fun z hz => (f2 _ _ (by omega) (by omega) (by omega)).trans (hwu z hz)
    have ej21 : j1 874 21 = Int32.ofNat m := (f2 _ _ (by omega) (by omega) (by omega)).trans ((hf1 _ _ (by omega)).trans e21)
    have ej5 : ∀ n, n < m → j1 885 n = Int32.ofNat (f n) := fun n hn => (f2 _ _ (by omega) (by omega) (by omega)).trans ((hf1 _ _ (by omega)).trans (e5 n hn))
    obtain ⟨s3, E3, hB3, f3, hC3⟩ := m_offer (B := u.1) (i := j1) (d := d) (ss := Int32.ofNat s) (tr := 0) (tt := txn t) (x := p) (wd := wdP w s f p) (U := skP w s t m f p) hMu m8 ej21 (skP_sm m8 hW hs hf p (by omega)) (wdP_sm hW hs hp hf) hCj fun B' i' T j hB' hf' hT hj hn => m_stepP (d := d) (hB'.md hMu) (fun z hz => (hf' _ _ (by omega)).trans (hwj z hz)) m8 ((hf' _ _ (by omega)).trans ej21) (fun n hn => (hf' _ _ (by omega)).trans (ej5 n hn)) hf8 (by omega) (by omega) hT hj hn fun n hn q => by
      obtain ⟨v, e, hv⟩ := wst_nn hW hs (by omega) (hf n hn) (hf8 n hn) hp (by omega) q
      rw [e]
      exact z_nm1 (by omega)
    refine ⟨s3, ?_, ⟨hB.tr hB3, fun q k h1 => (f3 q k (by omega)).trans ((f2 q k (by omega) (by omega) (by omega)).trans (hf1 q k h1))⟩, hC3⟩
    rw [bk_87_114]
    simp (maxSteps := 1000000) (disch := omega) only [(fun d x0 x1 x2 x3 x4 s0 s1 s2 B i => bk_87_132 d x0 x1 x2 x3 x4 s0 s1 s2 (am_wI B i)), (fun d x0 x1 x2 B i => bk_24_0 d x0 x1 x2 (am_wI B i)), (fun d x0 x1 B i => bk_23_0 d x0 x1 (am_wI B i)), eu60, b1, g1, E2, g3, hMu, y_ckd, y_ck2d, y_ond, y_onn, y_oI, y_oIx, y_oJ, y_oV, y_oVx, y_oR, y_oRn, y_oRx, y_b0, y_b1, y_bi, y_bid, y_wIK, y_wIL, y_wII, y_wIJ, y_wIR, y_wIN, y_wIw, y_sI, ↓reduceIte, Nat.reduceEqDiff, eq_self, true_or, or_true, false_or, or_false, and_true, true_and, false_and, and_false, not_true, not_false_eq_true, tf_T, tf_F, y_up1, y_up2, y_xx, y_nx, y_sJ, y_sR, Int32.reduceLT, y_nxK, y_nxL, y_nxR, y_sJK, y_sJL, y_sJR, y_sJN, y_sRK, y_sRL, y_sRN, Nat.add_zero, z_nat, z_lit, z_lit0, z_lit1, z_in0, z_in1, z_addl0, z_lt, z_ltl, z_llt, z_inj, z_injl, z_add, z_addl, z_ladd, z_mul, z_mull, z_lmul, z_neg, z_negl, z_in, z_inl, z_ltT, z_ltF, z_eqF, z_10, z_01, z_litne, z_ne0, z_0ne, z_ne1, z_1ne, z_lt64, z_02, z_03, z_04, z_05, z_12, z_13, z_14, z_15, z_20, z_21, z_23, z_24, z_25, z_30, z_31, z_32, z_34, z_35, z_40, z_41, z_42, z_43, z_45, z_50, z_51, z_52, z_53, z_54]
    exact E3) (B, i) ⟨⟨Jy.rf, fun _ _ _ => rfl⟩, hC⟩
  refine ⟨s1, E1.trans ?_, hI1, hC1⟩
  have hM1 := hI1.1.md hM
  have e61 := (hI1.2 875 460 (by omega)).trans e60
  rw [bk_87_114]
  simp (maxSteps := 1000000) (disch := omega) only [(fun d x0 x1 x2 x3 x4 s0 s1 s2 B i => bk_87_132 d x0 x1 x2 x3 x4 s0 s1 s2 (am_wI B i)), e61, hM1, y_ckd, y_ck2d, y_ond, y_onn, y_oI, y_oIx, y_oJ, y_oV, y_oVx, y_oR, y_oRn, y_oRx, y_b0, y_b1, y_bi, y_bid, y_wIK, y_wIL, y_wII, y_wIJ, y_wIR, y_wIN, y_wIw, y_sI, ↓reduceIte, Nat.reduceEqDiff, eq_self, true_or, or_true, false_or, or_false, and_true, true_and, false_and, and_false, not_true, not_false_eq_true, tf_T, tf_F, y_up1, y_up2, y_xx, y_nx, y_sJ, y_sR, Int32.reduceLT, y_nxK, y_nxL, y_nxR, y_sJK, y_sJL, y_sJR, y_sJN, y_sRK, y_sRL, y_sRN, Nat.add_zero, z_nat, z_lit, z_lit0, z_lit1, z_in0, z_in1, z_addl0, z_lt, z_ltl, z_llt, z_inj, z_injl, z_add, z_addl, z_ladd, z_mul, z_mull, z_lmul, z_neg, z_negl, z_in, z_inl, z_ltT, z_ltF, z_eqF, z_10, z_01, z_litne, z_ne0, z_0ne, z_ne1, z_1ne, z_lt64, z_02, z_03, z_04, z_05, z_12, z_13, z_14, z_15, z_20, z_21, z_23, z_24, z_25, z_30, z_31, z_32, z_34, z_35, z_40, z_41, z_42, z_43, z_45, z_50, z_51, z_52, z_53, z_54]
theorem m_allT {s : Nat} {tr : Int32} {f : Nat → Nat} {t : Option Nat} (htr : ¬ tr = 0) (hM : Md B) (hw : ∀ z, z < 12042 → i 875 z = w z) (hW : Wd w) (m8 : m ≤ 8) (hs : s < cn w 2621) (hf : ∀ n, n < m → f n < cn w (2622 + 49 * s + 8)) (e21 : i 874 21 = Int32.ofNat m) (e5 : ∀ n, n < m → i 885 n = Int32.ofNat (f n)) (hC : ∀ T, T < 2 ^ m → CsT 883 884 B i T (U0.1 T, U0.2 T)) : ∃ s' : am_A × (Nat → Nat → Int32), am_fx am_P (d + 5) 87 114 [some (.ref 874), some (.int (Int32.ofNat s)), some (.int tr), some (.int (txn t)), some (.int (Int32.ofNat 0)), none, none, none, none, none, none] [] (am_wI B i) = some (.inl none, am_wI s'.1 s'.2) ∧ SkM B i s' ∧ ∀ T, T < 2 ^ m → CsT 883 884 s'.1 s'.2 T ((skT w s m f (cn w 39)).1 T, (skT w s m f (cn w 39)).2 T) := by
  have hc := hW.1.2.1
  have h60 := hc.2
  have h8 := hW.1.2.2.2.1.2
  obtain ⟨-, -, -, -, -, -, -, hnc, -⟩ := hW.2.2.2.2.1.1 s hs (by omega)
  have n8 := hnc.2
  have e39 : i 875 39 = Int32.ofNat (cn w 39) := (hw _ (by omega)).trans hc.1
  have hf8 : ∀ n, n < m → f n < 8 := fun n hn => by have := hf n hn; omega
  obtain ⟨s1, E1, hI1, hC1⟩ := lp_inv (fun p (u : am_A × (Nat → Nat → Int32)) => am_fx am_P (d + 5) 87 114 [some (.ref 874), some (.int (Int32.ofNat s)), some (.int tr), some (.int (txn t)), some (.int (Int32.ofNat p)), none, none, none, none, none, none] [] (am_wI u.1 u.2)) (fun p u => SkM B i u ∧ ∀ T, T < 2 ^ m → CsT 883 884 u.1 u.2 T ((skT w s m f p).1 T, (skT w s m f p).2 T)) (cn w 39) (fun p u hp hI => by
    obtain ⟨⟨hB, hf1⟩, hC1⟩ := hI
    have hMu := hB.md hM
    have hwu : ∀ z, z < 12042 → u.2 875 z = w z := fun z hz => (hf1 _ _ (by omega)).trans (hw z hz)
    have eu39 := (hf1 875 39 (by omega)).trans e39
    have b6 := hwu (40 + 7 * p + 6) (by omega)
    rw [skT_s]
    unfold fskT
    have hfl := (hW.2.2.1.1 p hp (by omega)).2.2.2.1
    by_cases g1 : w (40 + 7 * p + 6) = 0
    rotate_left
    · rw [if_neg g1]
      rw [hfl.resolve_left g1] at b6
      refine ⟨u, ?_, ⟨hB, hf1⟩, hC1⟩
      rw [bk_87_114]
      simp (maxSteps := 1000000) (disch := omega) only [(fun d x0 x1 x2 x3 x4 s0 s1 s2 B i => bk_87_132 d x0 x1 x2 x3 x4 s0 s1 s2 (am_wI B i)), (fun d x0 x1 x2 B i => bk_20_0 d x0 x1 x2 (am_wI B i)), htr, eu39, b6, hMu, y_ckd, y_ck2d, y_ond, y_onn, y_oI, y_oIx, y_oJ, y_oV, y_oVx, y_oR, y_oRn, y_oRx, y_b0, y_b1, y_bi, y_bid, y_wIK, y_wIL, y_wII, y_wIJ, y_wIR, y_wIN, y_wIw, y_sI, ↓reduceIte, Nat.reduceEqDiff, eq_self, true_or, or_true, false_or, or_false, and_true, true_and, false_and, and_false, not_true, not_false_eq_true, tf_T, tf_F, y_up1, y_up2, y_xx, y_nx, y_sJ, y_sR, Int32.reduceLT, y_nxK, y_nxL, y_nxR, y_sJK, y_sJL, y_sJR, y_sJN, y_sRK, y_sRL, y_sRN, Nat.add_zero, z_nat, z_lit, z_lit0, z_lit1, z_in0, z_in1, z_addl0, z_lt, z_ltl, z_llt, z_inj, z_injl, z_add, z_addl, z_ladd, z_mul, z_mull, z_lmul, z_neg, z_negl, z_in, z_inl, z_ltT, z_ltF, z_eqF, z_10, z_01, z_litne, z_ne0, z_0ne, z_ne1, z_1ne, z_lt64, z_02, z_03, z_04, z_05, z_12, z_13, z_14, z_15, z_20, z_21, z_23, z_24, z_25, z_30, z_31, z_32, z_34, z_35, z_40, z_41, z_42, z_43, z_45, z_50, z_51, z_52, z_53, z_54]
    rw [if_pos g1]
    rw [g1] at b6
    have eu21 : u.2 874 21 = Int32.ofNat m := (hf1 _ _ (by omega)).trans e21
    have eu5 : ∀ n, n < m → u.2 885 n = Int32.ofNat (f n) := fun n hn => (hf1 _ _ (by omega)).trans (e5 n hn)
    obtain ⟨s3, E3, hB3, f3, hC3⟩ := m_offer (B := u.1) (i := u.2) (d := d) (ss := Int32.ofNat s) (tr := tr) (tt := txn t) (x := p) (wd := wdT w s f p) (U := skT w s m f p) hMu m8 eu21 (skT_sm m8 hW hs hf p (by omega)) (wdT_sm hW hs hp hf) hC1 fun B' i' T j hB' hf' hT hj hn => m_stepT (d := d) htr (hB'.md hMu) (fun z hz => (hf' _ _ (by omega)).trans (hwu z hz)) m8 ((hf' _ _ (by omega)).trans eu21) (fun n hn => (hf' _ _ (by omega)).trans (eu5 n hn)) hf8 (by omega) (by omega) hT hj hn fun n hn q => by
      rcases wdT_sm hW hs hp hf n hn with e | ⟨v, e, hv⟩
      · obtain ⟨⟨z1, z2⟩, z3, z4, z5⟩ := hW.2.2.2.2.2.2.2.2.2.1.1 p hp (by omega)
        obtain ⟨-, -, ⟨a1, a2⟩, -⟩ := hW.2.2.1.1 p hp (by omega)
        obtain ⟨l, el, l5, l100⟩ := lnx_ok (x := w (2622 + 49 * s + 9 + 5 * f n)) ⟨z1, z2⟩ ⟨z4, z5⟩
        obtain ⟨v, ev, hv⟩ := z_lk 61 (by omega) a1 a2
        have q2 := q.2
        unfold lnT at *
        rw [el, ev] at *
        obtain ⟨r, er, hr⟩ := ws4_nn hW hs (by omega) (hf n hn) (hf8 n hn) (show l ≤ 12000 by omega) (show v ≤ 60 by omega) q2
        rw [er]
        exact z_nm1 (by omega)
      · rw [show wdT w s f p n = _ from if_pos q] at e
        rw [e]
        exact z_nm1 (by omega)
    refine ⟨s3, ?_, ⟨hB.tr hB3, fun q k h1 => (f3 q k (by omega)).trans (hf1 q k h1)⟩, hC3⟩
    rw [bk_87_114]
    simp (maxSteps := 1000000) (disch := omega) only [(fun d x0 x1 x2 x3 x4 s0 s1 s2 B i => bk_87_132 d x0 x1 x2 x3 x4 s0 s1 s2 (am_wI B i)), (fun d x0 x1 x2 B i => bk_20_0 d x0 x1 x2 (am_wI B i)), htr, eu39, b6, hMu, y_ckd, y_ck2d, y_ond, y_onn, y_oI, y_oIx, y_oJ, y_oV, y_oVx, y_oR, y_oRn, y_oRx, y_b0, y_b1, y_bi, y_bid, y_wIK, y_wIL, y_wII, y_wIJ, y_wIR, y_wIN, y_wIw, y_sI, ↓reduceIte, Nat.reduceEqDiff, eq_self, true_or, or_true, false_or, or_false, and_true, true_and, false_and, and_false, not_true, not_false_eq_true, tf_T, tf_F, y_up1, y_up2, y_xx, y_nx, y_sJ, y_sR, Int32.reduceLT, y_nxK, y_nxL, y_nxR, y_sJK, y_sJL, y_sJR, y_sJN, y_sRK, y_sRL, y_sRN, Nat.add_zero, z_nat, z_lit, z_lit0, z_lit1, z_in0, z_in1, z_addl0, z_lt, z_ltl, z_llt, z_inj, z_injl, z_add, z_addl, z_ladd, z_mul, z_mull, z_lmul, z_neg, z_negl, z_in, z_inl, z_ltT, z_ltF, z_eqF, z_10, z_01, z_litne, z_ne0, z_0ne, z_ne1, z_1ne, z_lt64, z_02, z_03, z_04, z_05, z_12, z_13, z_14, z_15, z_20, z_21, z_23, z_24, z_25, z_30, z_31, z_32, z_34, z_35, z_40, z_41, z_42, z_43, z_45, z_50, z_51, z_52, z_53, z_54]
    exact E3) (B, i) ⟨⟨Jy.rf, fun _ _ _ => rfl⟩, hC⟩
  refine ⟨s1, E1.trans ?_, hI1, hC1⟩
  have hM1 := hI1.1.md hM
  have e391 := (hI1.2 875 39 (by omega)).trans e39
  rw [bk_87_114]
  simp (maxSteps := 1000000) (disch := omega) only [(fun d x0 x1 x2 x3 x4 s0 s1 s2 B i => bk_87_132 d x0 x1 x2 x3 x4 s0 s1 s2 (am_wI B i)), htr, e391, hM1, y_ckd, y_ck2d, y_ond, y_onn, y_oI, y_oIx, y_oJ, y_oV, y_oVx, y_oR, y_oRn, y_oRx, y_b0, y_b1, y_bi, y_bid, y_wIK, y_wIL, y_wII, y_wIJ, y_wIR, y_wIN, y_wIw, y_sI, ↓reduceIte, Nat.reduceEqDiff, eq_self, true_or, or_true, false_or, or_false, and_true, true_and, false_and, and_false, not_true, not_false_eq_true, tf_T, tf_F, y_up1, y_up2, y_xx, y_nx, y_sJ, y_sR, Int32.reduceLT, y_nxK, y_nxL, y_nxR, y_sJK, y_sJL, y_sJR, y_sJN, y_sRK, y_sRL, y_sRN, Nat.add_zero, z_nat, z_lit, z_lit0, z_lit1, z_in0, z_in1, z_addl0, z_lt, z_ltl, z_llt, z_inj, z_injl, z_add, z_addl, z_ladd, z_mul, z_mull, z_lmul, z_neg, z_negl, z_in, z_inl, z_ltT, z_ltF, z_eqF, z_10, z_01, z_litne, z_ne0, z_0ne, z_ne1, z_1ne, z_lt64, z_02, z_03, z_04, z_05, z_12, z_13, z_14, z_15, z_20, z_21, z_23, z_24, z_25, z_30, z_31, z_32, z_34, z_35, z_40, z_41, z_42, z_43, z_45, z_50, z_51, z_52, z_53, z_54]
theorem m_seeks {s : Nat} {tr : Int32} (hM : Md B) (hw : ∀ z, z < 12042 → i 875 z = w z) (hW : Wd w) (hs : s < cn w 2621) : ∃ s' : am_A × (Nat → Nat → Int32), am_fx am_P (d + 5) 87 0 [some (.ref 874), some (.int (Int32.ofNat s)), some (.int tr), none, none, none, none, none, none, none, none] [] (am_wI B i) = some (.inl none, am_wI s'.1 s'.2) ∧ Jy 884 B s'.1 ∧ (∀ q k, (q < 880 ∨ 886 ≤ q) → (q = 874 → k ≠ 21) → s'.2 q k = i q k) ∧ s'.2 874 21 = Int32.ofNat (opm w s) ∧ (∀ n, n < opm w s → s'.2 885 n = Int32.ofNat (opf w s n)) ∧ CsT 883 884 s'.1 s'.2 (2 ^ opm w s - 1) ((fnl w s tr).1 (2 ^ opm w s - 1), (fnl w s tr).2 (2 ^ opm w s - 1)) := by
  obtain ⟨m8, hf⟩ := opm_8 hW hs
  obtain ⟨p1, p2⟩ := p2_le m8
  have hx := hW.1.2.2.2.2.2.2.2.2.2
  obtain ⟨i1, E1, f1, e1, e2⟩ := m_open (B := B) (i := i) (d := d + 2) (tr := tr) hM hw hW hs
  have hw1 : ∀ z, z < 12042 → i1 875 z = w z := fun z hz => (f1 _ _ (by omega) (by omega)).trans (hw z hz)
  obtain ⟨s2, E2, hB2, f2, hC2⟩ := m_fillS (B := B) (i := i1) (d := d + 2) (s := s) (tr := tr) hM hw1 hx m8 e1
  have hM2 := hB2.md hM
  have hw2 : ∀ z, z < 12042 → s2.2 875 z = w z := fun z hz => (f2 _ _ (by omega)).trans (hw1 z hz)
  have e12 := (f2 874 21 (by omega)).trans e1
  have e22 : ∀ n, n < opm w s → s2.2 885 n = Int32.ofNat (opf w s n) := fun n hn => (f2 _ _ (by omega)).trans (e2 n hn)
  have ht : ∀ k, txi w (w 0) (cn w 3541) = some k → k < cn w 3541 ∧ k < 10 := fun k q => ⟨txi_lt _ q, by have := txi_lt _ q; have := hx.2; omega⟩
  unfold fnl
  by_cases g : tr = 0
  · subst g
    obtain ⟨s3, E3, hI3, hC3⟩ := m_allP (B := s2.1) (i := s2.2) (d := d) hM2 hw2 hW ht m8 hs hf e12 e22 hC2
    rw [if_pos rfl]
    exact ⟨s3, E1.trans (E2.trans E3), hB2.tr hI3.1, fun q k h1 h2 => (hI3.2 q k (by omega)).trans ((f2 q k (by omega)).trans (f1 q k (by omega) h2)), (hI3.2 _ _ (by omega)).trans e12, fun n hn => (hI3.2 _ _ (by omega)).trans (e22 n hn), hC3 _ (by omega)⟩
  · obtain ⟨s3, E3, hI3, hC3⟩ := m_allT (B := s2.1) (i := s2.2) (d := d) (t := txi w (w 0) (cn w 3541)) g hM2 hw2 hW m8 hs hf e12 e22 hC2
    rw [if_neg g]
    exact ⟨s3, E1.trans (E2.trans E3), hB2.tr hI3.1, fun q k h1 h2 => (hI3.2 q k (by omega)).trans ((f2 q k (by omega)).trans (f1 q k (by omega) h2)), (hI3.2 _ _ (by omega)).trans e12, fun n hn => (hI3.2 _ _ (by omega)).trans (e22 n hn), hC3 _ (by omega)⟩
theorem fnl_sm {s : Nat} {tr : Int32} (hW : Wd w) (hs : s < cn w 2621) : Csm (fnl w s tr) (opm w s) := by
  obtain ⟨m8, hf⟩ := opm_8 hW hs
  unfold fnl
  split
  · exact skP_sm m8 hW hs hf _ (Nat.le_refl _)
  · exact skT_sm m8 hW hs hf _ (Nat.le_refl _)
theorem m_waste_x0 (h : MR B i σ) (hc : isc σ.1 2621 8) (g : ¬ (¬ x < 0 ∧ x < σ.1 2621)) : MRs B i σ (am_fx am_P (d + 150) 88 0 [some (.ref 874), some (.int x), some (.int y)] [] (am_wI B i)) (some (.int 0)) 1 := by
  refine MRs_x h ?_
  have hM : Md B := h.1.1
  have e5 := h.2.1 2621 (by omega)
  rw [bk_88_0]
  simp (maxSteps := 1000000) (disch := omega) only [bk_69_0, m_in, z_pred hc.1, Classical.not_not, g, m_thr1 hM, e5, hM, y_ckd, y_ck2d, y_ond, y_onn, y_oI, y_oIx, y_oJ, y_oV, y_oVx, y_oR, y_oRn, y_oRx, y_b0, y_b1, y_bi, y_bid, y_wIK, y_wIL, y_wII, y_wIJ, y_wIR, y_wIN, y_wIw, y_sI, ↓reduceIte, Nat.reduceEqDiff, eq_self, true_or, or_true, false_or, or_false, and_true, true_and, false_and, and_false, not_true, not_false_eq_true, tf_T, tf_F, y_up1, y_up2, y_xx, y_nx, y_sJ, y_sR, Int32.reduceLT, y_nxK, y_nxL, y_nxR, y_sJK, y_sJL, y_sJR, y_sJN, y_sRK, y_sRL, y_sRN, Nat.add_zero, z_nat, z_lit, z_lit0, z_lit1, z_in0, z_in1, z_addl0, z_lt, z_ltl, z_llt, z_inj, z_injl, z_add, z_addl, z_ladd, z_mul, z_mull, z_lmul, z_neg, z_negl, z_in, z_inl, z_ltT, z_ltF, z_eqF, z_10, z_01, z_litne, z_ne0, z_0ne, z_ne1, z_1ne, z_lt64, z_02, z_03, z_04, z_05, z_12, z_13, z_14, z_15, z_20, z_21, z_23, z_24, z_25, z_30, z_31, z_32, z_34, z_35, z_40, z_41, z_42, z_43, z_45, z_50, z_51, z_52, z_53, z_54]
theorem m_waste {s : Nat} {tr : Int32} (h : MR B i σ) (hW : Wd σ.1) (hs : s < cn σ.1 2621) : MRs B i σ (am_fx am_P (d + 151) 88 0 [some (.ref 874), some (.int (Int32.ofNat s)), some (.int tr)] [] (am_wI B i)) (some (.int ((fnl σ.1 s tr).1 (2 ^ opm σ.1 s - 1)))) 0 := by
  have hM : Md B := h.1.1
  have hc := hW.1.2.2.2.1
  have h8 := hc.2
  obtain ⟨m8, hf⟩ := opm_8 hW hs
  obtain ⟨p1, p2⟩ := p2_le m8
  have eP := z_pow m8
  have z0 : Int32.ofNat (2 ^ opm σ.1 s) - 1 = Int32.ofNat (2 ^ opm σ.1 s - 1) := by
    rw [show (1 : Int32) = Int32.ofNat 1 from rfl, z_sub (by omega)]
  have e5 := h.2.1 2621 (by omega)
  have t3 : (Int32.ofNat s < 0) = False := z_neg (by omega)
  have t4 := eq_true (ck_nat hc (by omega) hs).2
  have hw := up_o (q := 874) (k := 0) (v := 0) (by omega) h.2.1
  obtain ⟨s1, E1, hB1, f1, e1, e2, eC⟩ := m_seeks (d := d + 145) (tr := tr) hM hw hW hs
  have hM1 := hB1.md hM
  have eC1 : s1.2 883 (2 ^ opm σ.1 s - 1) = (fnl σ.1 s tr).1 (2 ^ opm σ.1 s - 1) := eC.1
  refine MRs_j h ?_ hB1 (by rw [f1 _ _ (by omega) (by omega), y_up1 rfl rfl]) fun q k h1 h2 => by rw [f1 _ _ (by omega) (by omega), y_up2 (by omega)]
  rw [bk_88_0]
  have hK : 2 ^ opm σ.1 s - 1 < 256 := by omega
  generalize 2 ^ opm σ.1 s - 1 = K at *
  simp (maxSteps := 1000000) (disch := omega) only [bk_69_0, m_in, z_pred hc.1, Classical.not_not, t3, t4, m_thr0, e5, E1, e1, eP, z0, eC1, hM1, hM, y_ckd, y_ck2d, y_ond, y_onn, y_oI, y_oIx, y_oJ, y_oV, y_oVx, y_oR, y_oRn, y_oRx, y_b0, y_b1, y_bi, y_bid, y_wIK, y_wIL, y_wII, y_wIJ, y_wIR, y_wIN, y_wIw, y_sI, ↓reduceIte, Nat.reduceEqDiff, eq_self, true_or, or_true, false_or, or_false, and_true, true_and, false_and, and_false, not_true, not_false_eq_true, tf_T, tf_F, y_up1, y_up2, y_xx, y_nx, y_sJ, y_sR, Int32.reduceLT, y_nxK, y_nxL, y_nxR, y_sJK, y_sJL, y_sJR, y_sJN, y_sRK, y_sRL, y_sRN, Nat.add_zero, z_nat, z_lit, z_lit0, z_lit1, z_in0, z_in1, z_addl0, z_lt, z_ltl, z_llt, z_inj, z_injl, z_add, z_addl, z_ladd, z_mul, z_mull, z_lmul, z_neg, z_negl, z_in, z_inl, z_ltT, z_ltF, z_eqF, z_10, z_01, z_litne, z_ne0, z_0ne, z_ne1, z_1ne, z_lt64, z_02, z_03, z_04, z_05, z_12, z_13, z_14, z_15, z_20, z_21, z_23, z_24, z_25, z_30, z_31, z_32, z_34, z_35, z_40, z_41, z_42, z_43, z_45, z_50, z_51, z_52, z_53, z_54]
theorem m_which_x0 (h : MR B i σ) (hc : isc σ.1 2621 8) (g : ¬ (¬ x < 0 ∧ x < σ.1 2621)) : MRs B i σ (am_fx am_P (d + 150) 89 0 [some (.ref 874), some (.int x), some (.int y), some (.int z), none, none] [] (am_wI B i)) (some (.int 0)) 1 := by
  refine MRs_x h ?_
  have hM : Md B := h.1.1
  have e5 := h.2.1 2621 (by omega)
  rw [bk_89_0]
  simp (maxSteps := 1000000) (disch := omega) only [bk_71_0, bk_69_0, m_in, z_pred hc.1, Classical.not_not, g, m_thr1 hM, e5, hM, y_ckd, y_ck2d, y_ond, y_onn, y_oI, y_oIx, y_oJ, y_oV, y_oVx, y_oR, y_oRn, y_oRx, y_b0, y_b1, y_bi, y_bid, y_wIK, y_wIL, y_wII, y_wIJ, y_wIR, y_wIN, y_wIw, y_sI, ↓reduceIte, Nat.reduceEqDiff, eq_self, true_or, or_true, false_or, or_false, and_true, true_and, false_and, and_false, not_true, not_false_eq_true, tf_T, tf_F, y_up1, y_up2, y_xx, y_nx, y_sJ, y_sR, Int32.reduceLT, y_nxK, y_nxL, y_nxR, y_sJK, y_sJL, y_sJR, y_sJN, y_sRK, y_sRL, y_sRN, Nat.add_zero, z_nat, z_lit, z_lit0, z_lit1, z_in0, z_in1, z_addl0, z_lt, z_ltl, z_llt, z_inj, z_injl, z_add, z_addl, z_ladd, z_mul, z_mull, z_lmul, z_neg, z_negl, z_in, z_inl, z_ltT, z_ltF, z_eqF, z_10, z_01, z_litne, z_ne0, z_0ne, z_ne1, z_1ne, z_lt64, z_02, z_03, z_04, z_05, z_12, z_13, z_14, z_15, z_20, z_21, z_23, z_24, z_25, z_30, z_31, z_32, z_34, z_35, z_40, z_41, z_42, z_43, z_45, z_50, z_51, z_52, z_53, z_54]
theorem m_which_x1 {s : Nat} {tr : Int32} (h : MR B i σ) (hW : Wd σ.1) (hs : s < cn σ.1 2621) (g : ¬ (¬ y < 0 ∧ y < σ.1 (2622 + 49 * s + 8))) : MRs B i σ (am_fx am_P (d + 150) 89 0 [some (.ref 874), some (.int (Int32.ofNat s)), some (.int y), some (.int tr), none, none] [] (am_wI B i)) (some (.int 0)) 1 := by
  refine MRs_x h ?_
  have hM : Md B := h.1.1
  have hc := hW.1.2.2.2.1
  have h8 := hc.2
  obtain ⟨-, -, -, -, -, -, -, hnc, -⟩ := hW.2.2.2.2.1.1 s hs (by omega)
  have t3 : (Int32.ofNat s < 0) = False := z_neg (by omega)
  have t4 := eq_true (ck_nat hc (by omega) hs).2
  have e5 := h.2.1 2621 (by omega)
  have e6 := h.2.1 (2622 + 49 * s + 8) (by omega)
  rw [bk_89_0]
  simp (maxSteps := 1000000) (disch := omega) only [bk_71_0, bk_69_0, (fun d x0 x1 x2 B i => bk_67_0 d x0 x1 x2 (am_wI B i)), (fun d x0 x1 B i => bk_66_0 d x0 x1 (am_wI B i)), m_in, z_pred hc.1, z_pred hnc.1, Classical.not_not, t3, t4, g, m_thr1 hM, e5, e6, hM, y_ckd, y_ck2d, y_ond, y_onn, y_oI, y_oIx, y_oJ, y_oV, y_oVx, y_oR, y_oRn, y_oRx, y_b0, y_b1, y_bi, y_bid, y_wIK, y_wIL, y_wII, y_wIJ, y_wIR, y_wIN, y_wIw, y_sI, ↓reduceIte, Nat.reduceEqDiff, eq_self, true_or, or_true, false_or, or_false, and_true, true_and, false_and, and_false, not_true, not_false_eq_true, tf_T, tf_F, y_up1, y_up2, y_xx, y_nx, y_sJ, y_sR, Int32.reduceLT, y_nxK, y_nxL, y_nxR, y_sJK, y_sJL, y_sJR, y_sJN, y_sRK, y_sRL, y_sRN, Nat.add_zero, z_nat, z_lit, z_lit0, z_lit1, z_in0, z_in1, z_addl0, z_lt, z_ltl, z_llt, z_inj, z_injl, z_add, z_addl, z_ladd, z_mul, z_mull, z_lmul, z_neg, z_negl, z_in, z_inl, z_ltT, z_ltF, z_eqF, z_10, z_01, z_litne, z_ne0, z_0ne, z_ne1, z_1ne, z_lt64, z_02, z_03, z_04, z_05, z_12, z_13, z_14, z_15, z_20, z_21, z_23, z_24, z_25, z_30, z_31, z_32, z_34, z_35, z_40, z_41, z_42, z_43, z_45, z_50, z_51, z_52, z_53, z_54]
theorem m_which {s n : Nat} {tr : Int32} (h : MR B i σ) (hW : Wd σ.1) (hs : s < cn σ.1 2621) (hn : n < cn σ.1 (2622 + 49 * s + 8)) : MRs B i σ (am_fx am_P (d + 151) 89 0 [some (.ref 874), some (.int (Int32.ofNat s)), some (.int (Int32.ofNat n)), some (.int tr), none, none] [] (am_wI B i)) (some (.int (whz σ.1 s tr n))) 0 := by
  have hM : Md B := h.1.1
  have hc := hW.1.2.2.2.1
  have h8 := hc.2
  obtain ⟨-, -, -, -, -, -, -, hnc, -⟩ := hW.2.2.2.2.1.1 s hs (by omega)
  have n8 := hnc.2
  obtain ⟨m8, hf⟩ := opm_8 hW hs
  obtain ⟨p1, p2⟩ := p2_le m8
  have eP := z_pow m8
  have z0 : Int32.ofNat (2 ^ opm σ.1 s) - 1 = Int32.ofNat (2 ^ opm σ.1 s - 1) := by
    rw [show (1 : Int32) = Int32.ofNat 1 from rfl, z_sub (by omega)]
  have e5 := h.2.1 2621 (by omega)
  have e6 := h.2.1 (2622 + 49 * s + 8) (by omega)
  have t1 : (Int32.ofNat n < 0) = False := z_neg (by omega)
  have t2 := eq_true (ck_nat hnc (by omega) hn).2
  have t3 : (Int32.ofNat s < 0) = False := z_neg (by omega)
  have t4 := eq_true (ck_nat hc (by omega) hs).2
  have hw := up_o (q := 874) (k := 0) (v := 0) (by omega) h.2.1
  obtain ⟨s1, E1, hB1, f1, e1, e2, eC⟩ := m_seeks (d := d + 145) (tr := tr) hM hw hW hs
  have hM1 := hB1.md hM
  have eC1 : s1.2 883 (2 ^ opm σ.1 s - 1) = (fnl σ.1 s tr).1 (2 ^ opm σ.1 s - 1) := eC.1
  have eC2 : ¬ (fnl σ.1 s tr).1 (2 ^ opm σ.1 s - 1) = -1 → am_J s1.1 884 (2 ^ opm σ.1 s - 1) = (fnl σ.1 s tr).2 (2 ^ opm σ.1 s - 1) := eC.2
  have sm := sm_neg (fnl_sm (tr := tr) hW hs (2 ^ opm σ.1 s - 1) (by omega)) (by omega)
  refine MRs_j h ?_ hB1 (by rw [f1 _ _ (by omega) (by omega), y_up1 rfl rfl]) fun q k h1 h2 => by rw [f1 _ _ (by omega) (by omega), y_up2 (by omega)]
  have hK : 2 ^ opm σ.1 s - 1 < 256 := by omega
  have E4 : am_fx am_P (d + 151) 89 40 [some (.ref 874), none, some (.int (Int32.ofNat n)), none, some (.int (Int32.ofNat (2 ^ opm σ.1 s - 1))), some (.int (Int32.ofNat 0))] [] (am_wI s1.1 s1.2) = some (.inl (some (.int (whz σ.1 s tr n))), am_wI s1.1 s1.2) := by
    have ynl : ∀ {x : Int64} {r : am_X}, ¬ x = 0 → am_nzl x r = r := fun h => if_neg h
    have nz2 : ¬ (120 : Int64) = 0 := by decide
    refine (lp_fst (fun k => am_fx am_P (d + 151) 89 40 [some (.ref 874), none, some (.int (Int32.ofNat n)), none, some (.int (Int32.ofNat (2 ^ opm σ.1 s - 1))), some (.int (Int32.ofNat k))] [] (am_wI s1.1 s1.2)) (fun k => decide (opf σ.1 s k = n)) (fun k => some (.inl (some (.int (if (fnl σ.1 s tr).1 (2 ^ opm σ.1 s - 1) = -1 then -1 else dgt ((fnl σ.1 s tr).2 (2 ^ opm σ.1 s - 1)) (opm σ.1 s - 1 - k)))), am_wI s1.1 s1.2)) (opm σ.1 s) fun k hk => ?_).trans ?_
    · have e2 := e2 k hk
      have hfk := hf k hk
      have nz := p120_nz (opm σ.1 s - 1 - k) (by omega)
      have eW := m_weight (B := s1.1) (i := s1.2) (d := d + 150) (j := k) hM1 e1 m8 hk
      rw [bk_89_40]
      generalize 2 ^ opm σ.1 s - 1 = K at *
      by_cases g : opf σ.1 s k = n
      · rw [g] at e2
        rw [decide_eq_true g, if_pos rfl]
        by_cases q : (fnl σ.1 s tr).1 K = -1
        · rw [if_pos q]
          rw [q] at eC1
          have lm : ((-1 : Int32) < 0) = True := eq_true (by decide)
          simp (maxSteps := 1000000) (disch := omega) only [e1, e2, eC1, lm, hM1, y_ckd, y_ck2d, y_ond, y_onn, y_oI, y_oIx, y_oJ, y_oV, y_oVx, y_oR, y_oRn, y_oRx, y_b0, y_b1, y_bi, y_bid, y_wIK, y_wIL, y_wII, y_wIJ, y_wIR, y_wIN, y_wIw, y_sI, ↓reduceIte, Nat.reduceEqDiff, eq_self, true_or, or_true, false_or, or_false, and_true, true_and, false_and, and_false, not_true, not_false_eq_true, tf_T, tf_F, y_up1, y_up2, y_xx, y_nx, y_sJ, y_sR, Int32.reduceLT, y_nxK, y_nxL, y_nxR, y_sJK, y_sJL, y_sJR, y_sJN, y_sRK, y_sRL, y_sRN, Nat.add_zero, z_nat, z_lit, z_lit0, z_lit1, z_in0, z_in1, z_addl0, z_lt, z_ltl, z_llt, z_inj, z_injl, z_add, z_addl, z_ladd, z_mul, z_mull, z_lmul, z_neg, z_negl, z_in, z_inl, z_ltT, z_ltF, z_eqF, z_10, z_01, z_litne, z_ne0, z_0ne, z_ne1, z_1ne, z_lt64, z_02, z_03, z_04, z_05, z_12, z_13, z_14, z_15, z_20, z_21, z_23, z_24, z_25, z_30, z_31, z_32, z_34, z_35, z_40, z_41, z_42, z_43, z_45, z_50, z_51, z_52, z_53, z_54]
        · rw [if_neg q]
          have q2 : ¬ (fnl σ.1 s tr).1 K < 0 := by rw [sm]; exact q
          have eR := eC2 q
          unfold dgt
          simp (maxSteps := 1000000) (disch := omega) only [e1, e2, eC1, q2, eR, eW, ynl nz, ynl nz2, hM1, y_ckd, y_ck2d, y_ond, y_onn, y_oI, y_oIx, y_oJ, y_oV, y_oVx, y_oR, y_oRn, y_oRx, y_b0, y_b1, y_bi, y_bid, y_wIK, y_wIL, y_wII, y_wIJ, y_wIR, y_wIN, y_wIw, y_sI, ↓reduceIte, Nat.reduceEqDiff, eq_self, true_or, or_true, false_or, or_false, and_true, true_and, false_and, and_false, not_true, not_false_eq_true, tf_T, tf_F, y_up1, y_up2, y_xx, y_nx, y_sJ, y_sR, Int32.reduceLT, y_nxK, y_nxL, y_nxR, y_sJK, y_sJL, y_sJR, y_sJN, y_sRK, y_sRL, y_sRN, Nat.add_zero, z_nat, z_lit, z_lit0, z_lit1, z_in0, z_in1, z_addl0, z_lt, z_ltl, z_llt, z_inj, z_injl, z_add, z_addl, z_ladd, z_mul, z_mull, z_lmul, z_neg, z_negl, z_in, z_inl, z_ltT, z_ltF, z_eqF, z_10, z_01, z_litne, z_ne0, z_0ne, z_ne1, z_1ne, z_lt64, z_02, z_03, z_04, z_05, z_12, z_13, z_14, z_15, z_20, z_21, z_23, z_24, z_25, z_30, z_31, z_32, z_34, z_35, z_40, z_41, z_42, z_43, z_45, z_50, z_51, z_52, z_53, z_54]
      · rw [decide_eq_false g, if_neg (show ¬ (false = true) by decide)]
        simp (maxSteps := 1000000) (disch := omega) only [e1, e2, g, hM1, y_ckd, y_ck2d, y_ond, y_onn, y_oI, y_oIx, y_oJ, y_oV, y_oVx, y_oR, y_oRn, y_oRx, y_b0, y_b1, y_bi, y_bid, y_wIK, y_wIL, y_wII, y_wIJ, y_wIR, y_wIN, y_wIw, y_sI, ↓reduceIte, Nat.reduceEqDiff, eq_self, true_or, or_true, false_or, or_false, and_true, true_and, false_and, and_false, not_true, not_false_eq_true, tf_T, tf_F, y_up1, y_up2, y_xx, y_nx, y_sJ, y_sR, Int32.reduceLT, y_nxK, y_nxL, y_nxR, y_sJK, y_sJL, y_sJR, y_sJN, y_sRK, y_sRL, y_sRN, Nat.add_zero, z_nat, z_lit, z_lit0, z_lit1, z_in0, z_in1, z_addl0, z_lt, z_ltl, z_llt, z_inj, z_injl, z_add, z_addl, z_ladd, z_mul, z_mull, z_lmul, z_neg, z_negl, z_in, z_inl, z_ltT, z_ltF, z_eqF, z_10, z_01, z_litne, z_ne0, z_0ne, z_ne1, z_1ne, z_lt64, z_02, z_03, z_04, z_05, z_12, z_13, z_14, z_15, z_20, z_21, z_23, z_24, z_25, z_30, z_31, z_32, z_34, z_35, z_40, z_41, z_42, z_43, z_45, z_50, z_51, z_52, z_53, z_54]
    · unfold whz chz
      cases fst0 (fun k => decide (opf σ.1 s k = n)) (opm σ.1 s) with
      | some k => rfl
      | none =>
        show am_fx am_P (d + 151) 89 40 [some (.ref 874), none, some (.int (Int32.ofNat n)), none, some (.int (Int32.ofNat (2 ^ opm σ.1 s - 1))), some (.int (Int32.ofNat (opm σ.1 s)))] [] (am_wI s1.1 s1.2) = some (.inl (some (.int (if (fnl σ.1 s tr).1 (2 ^ opm σ.1 s - 1) = -1 then -1 else -1))), am_wI s1.1 s1.2)
        rw [bk_89_40, ite_self]
        simp (maxSteps := 1000000) (disch := omega) only [e1, hM1, y_ckd, y_ck2d, y_ond, y_onn, y_oI, y_oIx, y_oJ, y_oV, y_oVx, y_oR, y_oRn, y_oRx, y_b0, y_b1, y_bi, y_bid, y_wIK, y_wIL, y_wII, y_wIJ, y_wIR, y_wIN, y_wIw, y_sI, ↓reduceIte, Nat.reduceEqDiff, eq_self, true_or, or_true, false_or, or_false, and_true, true_and, false_and, and_false, not_true, not_false_eq_true, tf_T, tf_F, y_up1, y_up2, y_xx, y_nx, y_sJ, y_sR, Int32.reduceLT, y_nxK, y_nxL, y_nxR, y_sJK, y_sJL, y_sJR, y_sJN, y_sRK, y_sRL, y_sRN, Nat.add_zero, z_nat, z_lit, z_lit0, z_lit1, z_in0, z_in1, z_addl0, z_lt, z_ltl, z_llt, z_inj, z_injl, z_add, z_addl, z_ladd, z_mul, z_mull, z_lmul, z_neg, z_negl, z_in, z_inl, z_ltT, z_ltF, z_eqF, z_10, z_01, z_litne, z_ne0, z_0ne, z_ne1, z_1ne, z_lt64, z_02, z_03, z_04, z_05, z_12, z_13, z_14, z_15, z_20, z_21, z_23, z_24, z_25, z_30, z_31, z_32, z_34, z_35, z_40, z_41, z_42, z_43, z_45, z_50, z_51, z_52, z_53, z_54]
  rw [bk_89_0]
  generalize 2 ^ opm σ.1 s - 1 = K at *
  simp (maxSteps := 1000000) (disch := omega) only [bk_71_0, bk_69_0, (fun d x0 x1 x2 B i => bk_67_0 d x0 x1 x2 (am_wI B i)), (fun d x0 x1 B i => bk_66_0 d x0 x1 (am_wI B i)), m_in, z_pred hc.1, z_pred hnc.1, Classical.not_not, t1, t2, t3, t4, m_thr0, e5, e6, E1, e1, eP, z0, hM1, hM, y_ckd, y_ck2d, y_ond, y_onn, y_oI, y_oIx, y_oJ, y_oV, y_oVx, y_oR, y_oRn, y_oRx, y_b0, y_b1, y_bi, y_bid, y_wIK, y_wIL, y_wII, y_wIJ, y_wIR, y_wIN, y_wIw, y_sI, ↓reduceIte, Nat.reduceEqDiff, eq_self, true_or, or_true, false_or, or_false, and_true, true_and, false_and, and_false, not_true, not_false_eq_true, tf_T, tf_F, y_up1, y_up2, y_xx, y_nx, y_sJ, y_sR, Int32.reduceLT, y_nxK, y_nxL, y_nxR, y_sJK, y_sJL, y_sJR, y_sJN, y_sRK, y_sRL, y_sRN, Nat.add_zero, z_nat, z_lit, z_lit0, z_lit1, z_in0, z_in1, z_addl0, z_lt, z_ltl, z_llt, z_inj, z_injl, z_add, z_addl, z_ladd, z_mul, z_mull, z_lmul, z_neg, z_negl, z_in, z_inl, z_ltT, z_ltF, z_eqF, z_10, z_01, z_litne, z_ne0, z_0ne, z_ne1, z_1ne, z_lt64, z_02, z_03, z_04, z_05, z_12, z_13, z_14, z_15, z_20, z_21, z_23, z_24, z_25, z_30, z_31, z_32, z_34, z_35, z_40, z_41, z_42, z_43, z_45, z_50, z_51, z_52, z_53, z_54]
  exact E4
theorem k_waste (h : Sim B i σ) (hs : Sc B i L j) (hO : am_K B 892 = 22 ∧ am_L B 892 = 1) (hJ : ∀ k, k < 8 → am_J B 1 k = p120 k) : Stq B i d 1649 j := by
  have hc := h.2.2.1.1.2.2.2.1
  by_cases g : ¬ i 0 (j + 1) < 0 ∧ i 0 (j + 1) < σ.1 2621
  rotate_left
  · exact kx_20_1 h hs hO (f_waste_x0 (d := d + 48) h.1 g) fun B0 i0 h0 => m_waste_x0 (d := d + 49) h0 hc g
  obtain ⟨s, e, hq⟩ := nat_ck hc (by omega) g
  exact kk_20 h hs hO h.2.2 (by rw [e]; exact f_waste (d := d + 48) h.1 h.2.2.1 hJ hq) fun B0 i0 h0 => by rw [e]; exact m_waste (d := d + 48) h0 h.2.2.1 hq
theorem k_which (h : Sim B i σ) (hs : Sc B i L j) (hO : am_K B 892 = 22 ∧ am_L B 892 = 1) (hJ : ∀ k, k < 8 → am_J B 1 k = p120 k) : Stq B i d 1733 j := by
  have hc := h.2.2.1.1.2.2.2.1
  have h8 := hc.2
  by_cases g : ¬ i 0 (j + 1) < 0 ∧ i 0 (j + 1) < σ.1 2621
  rotate_left
  · exact kx_21_1 h hs hO (f_which_x0 (d := d + 48) h.1 g) fun B0 i0 h0 => m_which_x0 (d := d + 49) h0 hc g
  obtain ⟨s, e, hq⟩ := nat_ck hc (by omega) g
  obtain ⟨-, -, -, -, -, -, -, hnc, -⟩ := h.2.2.1.2.2.2.2.1.1 s hq (by omega)
  by_cases g1 : ¬ i 0 (j + 2) < 0 ∧ i 0 (j + 2) < σ.1 (2622 + 49 * s + 8)
  rotate_left
  · exact kx_21_1 h hs hO (by rw [e]; exact f_which_x1 (d := d + 48) h.1 h.2.2.1 hq g1) fun B0 i0 h0 => by rw [e]; exact m_which_x1 (d := d + 49) h0 h.2.2.1 hq g1
  obtain ⟨n, e2, hn⟩ := nat_ck hnc (by omega) g1
  exact kk_21 h hs hO h.2.2 (by rw [e, e2]; exact f_which (d := d + 48) h.1 h.2.2.1 hJ hq hn) fun B0 i0 h0 => by rw [e, e2]; exact m_which (d := d + 48) h0 h.2.2.1 hq hn
end Waste
