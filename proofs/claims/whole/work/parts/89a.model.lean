/-! MASTS: the model, the call. Made by wip/whole/math/89a.py. -/
section Masts4
variable {B B1 : am_A} {i i1 : Nat → Nat → Int32} {σ σ' : Sg} {w : Nat → Int32} {L j d b m n c s T : Nat} {x y z : Int32} {f : Nat → Nat}
theorem enough_no {v l th : Int32} (hM : Md B) (hw : ∀ z, z < 12042 → i 875 z = w z) (s8 : s < 8) (n8 : n < 8) (g : ¬ w (2622 + 49 * s + 9 + 5 * n) = v) : am_fx am_P (d + 1) 78 0 [some (.ref 874), some (.int (Int32.ofNat (2622 + 49 * s + 9 + 5 * n))), some (.int v), some (.int l), some (.int th), some (.int 0)] [] (am_wI B i) = some (.inl (some (.int 0)), am_wI B i) := by
  have c0 := hw (2622 + 49 * s + 9 + 5 * n) (by omega)
  rw [bk_78_0]
  simp (maxSteps := 1000000) (disch := omega) only [c0, g, hM, y_ckd, y_ck2d, y_ond, y_onn, y_oI, y_oIx, y_oJ, y_oV, y_oVx, y_oR, y_oRn, y_oRx, y_b0, y_b1, y_bi, y_bid, y_wIK, y_wIL, y_wII, y_wIJ, y_wIR, y_wIN, y_wIw, y_sI, ↓reduceIte, Nat.reduceEqDiff, eq_self, true_or, or_true, false_or, or_false, and_true, true_and, false_and, and_false, not_true, not_false_eq_true, tf_T, tf_F, y_up1, y_up2, y_xx, y_nx, y_sJ, y_sR, Int32.reduceLT, y_nxK, y_nxL, y_nxR, y_sJK, y_sJL, y_sJR, y_sJN, y_sRK, y_sRL, y_sRN, Nat.add_zero, z_nat, z_lit, z_lit0, z_lit1, z_in0, z_in1, z_addl0, z_lt, z_ltl, z_llt, z_inj, z_injl, z_add, z_addl, z_ladd, z_mul, z_mull, z_lmul, z_neg, z_negl, z_in, z_inl, z_ltT, z_ltF, z_eqF, z_10, z_01, z_litne, z_ne0, z_0ne, z_ne1, z_1ne, z_lt64, z_02, z_03, z_04, z_05, z_12, z_13, z_14, z_15, z_20, z_21, z_23, z_24, z_25, z_30, z_31, z_32, z_34, z_35, z_40, z_41, z_42, z_43, z_45, z_50, z_51, z_52, z_53, z_54]
/-- the model's rows for masts -/
abbrev frM (i j : Nat → Nat → Int32) : Prop := ∀ q k, q ≠ 886 → (q = 874 → k ≠ 23 ∧ k ≠ 24 ∧ k ≠ 25) → j q k = i q k
theorem m_mset (hM : Md B) (hw : ∀ z, z < 12042 → i 875 z = w z) (hW : Wd w) (hs : s < cn w 2621) (hn : n < cn w (2622 + 49 * s + 8)) : ∃ i', am_fx am_P (d + 3) 92 0 [some (.ref 874), some (.int (Int32.ofNat (2622 + 49 * s + 9 + 5 * n))), none, none, none, none] [] (am_wI B i) = some (.inl (some (.int (fv (msv w s n)))), am_wI B i') ∧ frM i i' ∧ i' 874 23 = Int32.ofNat (mc w) ∧ ∀ k, k < mc w → i' 886 k = Int32.ofNat (mf w k) := by
  have h8 := hW.1.2.2.2.1.2
  obtain ⟨-, -, -, -, -, -, -, hnc, -⟩ := hW.2.2.2.2.1.1 s hs (by omega)
  have n8 := hnc.2
  obtain ⟨m8, hm⟩ := mf_ok hW
  obtain ⟨p1, p2⟩ := p2_le m8
  have eP := z_pow m8
  obtain ⟨i1, E1, f1, e3, e7⟩ := m_gath (d := d) hM hw hW.1.2.2.1
  have hw1 : ∀ z, z < 12042 → i1 875 z = w z := fun z hz => (f1 _ _ (by omega) (by omega)).trans (hw z hz)
  unfold msv
  obtain ⟨s2, E2, f2, e2⟩ := lp_inv (fun k (u : (Nat → Nat → Int32) × Int32) => am_fx am_P (d + 3) 92 11 [some (.ref 874), some (.int (Int32.ofNat (2622 + 49 * s + 9 + 5 * n))), some (.int (fv (if w (2622 + 49 * s + 9 + 5 * n) = 2 then (bsm w s n k).1 else 0))), some (.int u.2), some (.int (Int32.ofNat (k + 1))), none] [] (am_wI B u.1)) (fun k u => (∀ q k, (q = 874 → k ≠ 24 ∧ k ≠ 25) → u.1 q k = i1 q k) ∧ u.2 = if w (2622 + 49 * s + 9 + 5 * n) = 2 then (bsm w s n k).2 else 0) (2 ^ mc w - 1) (fun k u hk hI => by
    obtain ⟨f2, eu⟩ := hI
    have e31 := (f2 874 23 (by omega)).trans e3
    have hw2 : ∀ z, z < 12042 → u.1 875 z = w z := fun z hz => (f2 _ _ (by omega)).trans (hw1 z hz)
    have hk2 : Int32.ofNat (k + 1) < Int32.ofNat (2 ^ mc w) := by rw [z_lt (by omega) (by omega)]; omega
    have eb := c_bits (T := k + 1) (d := d + 2) (A := am_wI B u.1) (by omega)
    obtain ⟨j2, EJ, a4, a5, fj⟩ := m_joins (B := B) (i := u.1) (d := d) (T := k + 1) hM hw2 hW (by omega) e31 (fun k hk => (f2 _ _ (by omega)).trans (e7 k hk))
    have hw3 : ∀ z, z < 12042 → j2 875 z = w z := fun z hz => (fj _ _ (by omega)).trans (hw2 z hz)
    have hp8 := pcn_8 (k + 1) (by omega)
    have zk : Int32.ofNat (k + 1) + 1 = Int32.ofNat (k + 1 + 1) := z_add (k + 1) 1
    have hP : pcn (k + 1) < 2 → Int32.ofNat (pcn (k + 1)) < 2 := fun q => by rw [show (2 : Int32) = Int32.ofNat 2 from rfl, z_lt (by omega) (by omega)]; exact q
    have hQ : ¬ pcn (k + 1) < 2 → ¬ Int32.ofNat (pcn (k + 1)) < 2 := fun q => by rw [show (2 : Int32) = Int32.ofNat 2 from rfl, z_lt (by omega) (by omega)]; exact q
    have fu : ∀ q k, (q = 874 → k ≠ 24 ∧ k ≠ 25) → j2 q k = i1 q k := fun q k hq => (fj q k hq).trans (f2 q k hq)
    by_cases gk : w (2622 + 49 * s + 9 + 5 * n) = 2
    rotate_left
    · rw [if_neg gk] at eu
      rw [if_neg gk, if_neg gk, if_neg gk]
      have en := enough_no (B := B) (i := j2) (d := d + 1) (v := 2) (l := j2 874 24) (th := j2 874 25) hM hw3 (show s < 8 by omega) (show n < 8 by omega) gk
      by_cases q : pcn (k + 1) < 2
      · refine ⟨u, ?_, f2, eu⟩
        have q := hP q
        rw [bk_92_11]
        generalize 2 ^ mc w = K at *
        generalize fv 0 = v
        simp (maxSteps := 1000000) (disch := omega) only [e31, eP, hk2, eb, q, zk, hM, y_ckd, y_wII, y_oI, ↓reduceIte]
      · refine ⟨(j2, u.2), ?_, fu, eu⟩
        have q := hQ q
        rw [bk_92_11]
        generalize 2 ^ mc w = K at *
        generalize fv 0 = v
        simp (maxSteps := 1000000) (disch := omega) only [e31, eP, hk2, eb, q, EJ, en, zk, hM, y_ckd, y_wII, y_oI, y_oV, ↓reduceIte]
    rw [if_pos gk] at eu
    rw [if_pos gk, if_pos gk, if_pos gk]
    obtain ⟨l1, -⟩ := bsm_ok (w := w) (s := s) (n := n) k
    rw [bsm_s]
    unfold fbm
    generalize bsm w s n k = a at *
    obtain ⟨o, v⟩ := a
    have l1 : o ≤ k := l1
    have eu : u.2 = v := eu
    dsimp only
    have fo := fv_n (o := o) (by omega)
    by_cases q : pcn (k + 1) < 2
    · rw [if_neg (c := (2 ≤ pcn (k + 1) ∧ enM w s n (k + 1)) ∧ bbM w s n (k + 1) (o, v)) (fun r => by have := r.1.1; omega)]
      refine ⟨u, ?_, f2, eu⟩
      have q := hP q
      rw [bk_92_11]
      generalize 2 ^ mc w = K at *
      generalize fv o = v
      simp (maxSteps := 1000000) (disch := omega) only [e31, eP, hk2, eb, q, zk, hM, y_ckd, y_wII, y_oI, ↓reduceIte]
    have q2 := hQ q
    have h0 : 0 < k + 1 := by omega
    have hb := pcn_bit (mc w) (by omega) (k + 1) (by omega) h0
    have et := jt_ok hW hb
    have a4 : j2 874 24 = lM w (k + 1) := a4
    have a5 : j2 874 25 = tM w (k + 1) := a5.trans et.symm
    have ee := m_en4 (B := B) (i := j2) (d := d + 1) (l := lM w (k + 1)) (th := tM w (k + 1)) (bd := 0) hM hw3 (show s < 8 by omega) (show n < 8 by omega)
    have c1 : j2 875 (2622 + 49 * s + 9 + 5 * n + 1) = w (2622 + 49 * s + 9 + 5 * n + 1) := hw3 _ (by omega)
    have c2 : j2 875 (2622 + 49 * s + 9 + 5 * n + 2) = w (2622 + 49 * s + 9 + 5 * n + 2) := hw3 _ (by omega)
    by_cases g : enM w s n (k + 1)
    rotate_left
    · rw [if_neg (c := (2 ≤ pcn (k + 1) ∧ enM w s n (k + 1)) ∧ bbM w s n (k + 1) (o, v)) (fun r => g r.1.2)]
      rw [if_neg (c := en4 w s n (lM w (k + 1)) (tM w (k + 1)) 0) g, gk] at ee
      refine ⟨(j2, u.2), ?_, fu, eu⟩
      rw [bk_92_11]
      generalize 2 ^ mc w = K at *
      generalize fv o = v
      generalize lM w (k + 1) = v1 at *
      generalize tM w (k + 1) = v2 at *
      simp (maxSteps := 1000000) (disch := omega) only [e31, eP, hk2, eb, q2, EJ, a4, a5, ee, zk, hM, y_ckd, y_wII, y_oI, y_oV, ↓reduceIte]
    rw [if_pos (c := en4 w s n (lM w (k + 1)) (tM w (k + 1)) 0) g, gk] at ee
    have ew : lM w (k + 1) + tM w (k + 1) - w (2622 + 49 * s + 9 + 5 * n + 1) - w (2622 + 49 * s + 9 + 5 * n + 2) = wsM w s n (k + 1) := z_ws
    have yes : (2 ≤ pcn (k + 1) ∧ enM w s n (k + 1)) ∧ bbM w s n (k + 1) (o, v) → am_fx am_P (d + 3) 92 121 [some (.ref 874), some (.int (Int32.ofNat (2622 + 49 * s + 9 + 5 * n))), none, none, some (.int (Int32.ofNat (k + 1))), some (.int (wsM w s n (k + 1)))] [] (am_wI B j2) = am_fx am_P (d + 3) 92 11 [some (.ref 874), some (.int (Int32.ofNat (2622 + 49 * s + 9 + 5 * n))), some (.int (fv (k + 1))), some (.int (wsM w s n (k + 1))), some (.int (Int32.ofNat (k + 1 + 1))), none] [] (am_wI B j2) := fun _ => by
      rw [bk_92_121, zk, fv_p (o := k + 1) (by omega)]
    have gg : 2 ≤ pcn (k + 1) ∧ enM w s n (k + 1) := ⟨by omega, g⟩
    by_cases g0 : o = 0
    · rw [if_pos (c := (2 ≤ pcn (k + 1) ∧ enM w s n (k + 1)) ∧ bbM w s n (k + 1) (o, v)) ⟨gg, Or.inl g0⟩]
      refine ⟨(j2, (wsM w s n (k + 1))), ?_, fu, rfl⟩
      have yes := yes ⟨gg, Or.inl g0⟩
      have fo := fo.trans (eq_true g0)
      rw [bk_92_11]
      generalize 2 ^ mc w = K at *
      simp (maxSteps := 1000000) (disch := omega) only [fo, yes, e31, eP, hk2, eb, q2, EJ, a4, a5, ee, c1, c2, ew, zk, hM, y_ckd, y_ck2d, y_ond, y_wII, y_wIR, y_wIL, y_oI, y_oV, true_or, ↓reduceIte, z_addl, z_in, z_nat, z_10]
    have fo : ¬ fv o < 0 := by rw [fo]; exact g0
    by_cases g1 : v < (wsM w s n (k + 1))
    · have g1b : ¬ (wsM w s n (k + 1)) < v := fun r => Int32.lt_irrefl (Int32.lt_trans r g1)
      have g1c : ¬ (wsM w s n (k + 1)) = v := fun r => Int32.lt_irrefl (show (wsM w s n (k + 1)) < (wsM w s n (k + 1)) from Eq.subst (motive := fun z => z < wsM w s n (k + 1)) r.symm g1)
      rw [if_neg (c := (2 ≤ pcn (k + 1) ∧ enM w s n (k + 1)) ∧ bbM w s n (k + 1) (o, v)) (fun r => r.2.elim g0 fun r => r.elim g1b fun r => g1c r.1)]
      refine ⟨(j2, u.2), ?_, fu, eu⟩
      rw [bk_92_11]
      generalize 2 ^ mc w = K at *
      generalize fv o = v' at *
      simp (maxSteps := 1000000) (disch := omega) only [fo, eu, g1, e31, eP, hk2, eb, q2, EJ, a4, a5, ee, c1, c2, ew, zk, hM, y_ckd, y_ck2d, y_ond, y_wII, y_wIR, y_wIL, y_oI, y_oV, true_or, ↓reduceIte, z_addl, z_in, z_nat, z_10]
    by_cases g2 : (wsM w s n (k + 1)) = v
    · have e3 : am_fx am_P (d + 2) 5 0 [some (.int (fv o))] [] (am_wI B j2) = some (.inl (some (.int (Int32.ofNat (pcn o)))), am_wI B j2) := by rw [fv_p g0]; exact c_bits (by omega)
      have eb2 := c_bits (T := k + 1) (d := d + 2) (A := am_wI B j2) (by omega)
      have ho8 := pcn_8 o (by omega)
      have zl := z_lt (a := pcn (k + 1)) (b := pcn o) (by omega) (by omega)
      by_cases g3 : pcn (k + 1) < pcn o
      · rw [if_pos (c := (2 ≤ pcn (k + 1) ∧ enM w s n (k + 1)) ∧ bbM w s n (k + 1) (o, v)) ⟨gg, Or.inr (Or.inr ⟨g2, g3⟩)⟩]
        refine ⟨(j2, (wsM w s n (k + 1))), ?_, fu, rfl⟩
        have yes := yes ⟨gg, Or.inr (Or.inr ⟨g2, g3⟩)⟩
        have zl := zl.trans (eq_true g3)
        rw [bk_92_11]
        generalize 2 ^ mc w = K at *
        generalize fv o = v' at *
        simp (maxSteps := 1000000) (disch := omega) only [fo, eu, g1, eq_true g2, e3, eb2, zl, yes, e31, eP, hk2, eb, q2, EJ, a4, a5, ee, c1, c2, ew, zk, hM, y_ckd, y_ck2d, y_ond, y_wII, y_wIR, y_wIL, y_oI, y_oV, true_or, ↓reduceIte, z_addl, z_in, z_nat, z_10]
      · rw [if_neg (c := (2 ≤ pcn (k + 1) ∧ enM w s n (k + 1)) ∧ bbM w s n (k + 1) (o, v)) (fun r => r.2.elim g0 fun r => r.elim (fun r => Int32.lt_irrefl (show (wsM w s n (k + 1)) < (wsM w s n (k + 1)) from Eq.subst (motive := fun z => (wsM w s n (k + 1)) < z) g2.symm r)) fun r => g3 r.2)]
        refine ⟨(j2, u.2), ?_, fu, eu⟩
        have zl := zl.trans (eq_false g3)
        rw [bk_92_11]
        generalize 2 ^ mc w = K at *
        generalize fv o = v' at *
        simp (maxSteps := 1000000) (disch := omega) only [fo, eu, g1, eq_true g2, e3, eb2, zl, e31, eP, hk2, eb, q2, EJ, a4, a5, ee, c1, c2, ew, zk, hM, y_ckd, y_ck2d, y_ond, y_wII, y_wIR, y_wIL, y_oI, y_oV, true_or, ↓reduceIte, z_addl, z_in, z_nat, z_10]
    · have g4 : (wsM w s n (k + 1)) < v := by
        rw [Int32.lt_iff_toInt_lt] at g1 ⊢
        have : (wsM w s n (k + 1)).toInt ≠ v.toInt := fun r => g2 (Int32.toInt_inj.mp r)
        omega
      rw [if_pos (c := (2 ≤ pcn (k + 1) ∧ enM w s n (k + 1)) ∧ bbM w s n (k + 1) (o, v)) ⟨gg, Or.inr (Or.inl g4)⟩]
      refine ⟨(j2, (wsM w s n (k + 1))), ?_, fu, rfl⟩
      have yes := yes ⟨gg, Or.inr (Or.inl g4)⟩
      rw [bk_92_11]
      generalize 2 ^ mc w = K at *
      generalize fv o = v' at *
      simp (maxSteps := 1000000) (disch := omega) only [fo, eu, g1, g2, yes, e31, eP, hk2, eb, q2, EJ, a4, a5, ee, c1, c2, ew, zk, hM, y_ckd, y_ck2d, y_ond, y_wII, y_wIR, y_wIL, y_oI, y_oV, true_or, ↓reduceIte, z_addl, z_in, z_nat, z_10]) (i1, 0) ⟨fun _ _ _ => rfl, by split <;> rfl⟩
  have hk2 : ¬ Int32.ofNat (2 ^ mc w - 1 + 1) < Int32.ofNat (2 ^ mc w) := by rw [z_lt (by omega) (by omega)]; omega
  have e31 := (f2 874 23 (by omega)).trans e3
  refine ⟨s2.1, ?_, fun q k h1 h2 => (f2 q k (by omega)).trans (f1 q k h1 (by omega)), e31, fun k hk => (f2 _ _ (by omega)).trans (e7 k hk)⟩
  rw [bk_92_0]
  have E3 : am_fx am_P (d + 3) 92 11 [some (.ref 874), some (.int (Int32.ofNat (2622 + 49 * s + 9 + 5 * n))), some (.int (fv (if w (2622 + 49 * s + 9 + 5 * n) = 2 then (bsm w s n (2 ^ mc w - 1)).1 else 0))), some (.int s2.2), some (.int (Int32.ofNat (2 ^ mc w - 1 + 1))), none] [] (am_wI B s2.1) = some (.inl (some (.int (fv (if w (2622 + 49 * s + 9 + 5 * n) = 2 then (bsm w s n (2 ^ mc w - 1)).1 else 0)))), am_wI B s2.1) := by
    generalize fv (if w (2622 + 49 * s + 9 + 5 * n) = 2 then (bsm w s n (2 ^ mc w - 1)).1 else 0) = u at *
    rw [bk_92_11]
    simp (maxSteps := 1000000) (disch := omega) only [e31, eP, hk2, hM, y_ckd, y_wII, ↓reduceIte]
  have z0 : fv (if w (2622 + 49 * s + 9 + 5 * n) = 2 then (bsm w s n 0).1 else 0) = -1 := by split <;> rfl
  rw [z0] at E2
  simp (maxSteps := 1000000) (disch := omega) only [E1, hM, y_ckd, y_ck2d, y_ond, y_onn, y_oI, y_oIx, y_oJ, y_oV, y_oVx, y_oR, y_oRn, y_oRx, y_b0, y_b1, y_bi, y_bid, y_wIK, y_wIL, y_wII, y_wIJ, y_wIR, y_wIN, y_wIw, y_sI, ↓reduceIte, Nat.reduceEqDiff, eq_self, true_or, or_true, false_or, or_false, and_true, true_and, false_and, and_false, not_true, not_false_eq_true, tf_T, tf_F, y_up1, y_up2, y_xx, y_nx, y_sJ, y_sR, Int32.reduceLT, y_nxK, y_nxL, y_nxR, y_sJK, y_sJL, y_sJR, y_sJN, y_sRK, y_sRL, y_sRN]
  exact E2.trans E3
theorem f_masts_x0 (h : CR B i σ) (g : ¬ (¬ x < 0 ∧ x < σ.1 2621)) : FRs B i σ (am_fx am_P (d + 150) 314 0 [some (.ref 64), some (.int x), some (.int y), none] [] (am_wI B i)) (.inr 1) := by
  refine FRs_x h ?_
  have hF : Fc B := h.1.1
  have hY : Yd B 94 := h.1.2.1
  rw [bk_314_0]
  simp (disch := omega) only [c_shN0 hF hY h.2.1.2.2.2.1.1 g, hF, hY, y_ckd, y_ck2d, y_ond, y_onn, y_oI, y_oIx, y_oJ, y_oV, y_oVx, y_oR, y_oRn, y_oRx, y_b0, y_b1, y_bi, y_bid, y_wIK, y_wIL, y_wII, y_wIJ, y_wIR, y_wIN, y_wIw, y_sI, ↓reduceIte, Nat.reduceEqDiff, eq_self, true_or, or_true, false_or, or_false, and_true, true_and, false_and, and_false, not_true, not_false_eq_true, tf_T, tf_F, y_up1, y_up2, y_xx, y_nx, y_sJ, y_sR, Int32.reduceLT, y_nxK, y_nxL, y_nxR, y_sJK, y_sJL, y_sJR, y_sJN, y_sRK, y_sRL, y_sRN, Nat.add_zero, z_nat, z_lit, z_lit0, z_lit1, z_in0, z_in1, z_addl0, z_lt, z_ltl, z_llt, z_inj, z_injl, z_add, z_addl, z_ladd, z_mul, z_mull, z_lmul, z_neg, z_negl, z_in, z_inl, z_ltT, z_ltF, z_eqF, z_10, z_01, z_litne, z_ne0, z_0ne, z_ne1, z_1ne, z_lt64, z_02, z_03, z_04, z_05, z_12, z_13, z_14, z_15, z_20, z_21, z_23, z_24, z_25, z_30, z_31, z_32, z_34, z_35, z_40, z_41, z_42, z_43, z_45, z_50, z_51, z_52, z_53, z_54]
theorem f_masts_x1 (h : CR B i σ) (hW : Wd σ.1) (hs : s < cn σ.1 2621) (g : ¬ (¬ y < 0 ∧ y < σ.1 (2622 + 49 * s + 8))) : FRs B i σ (am_fx am_P (d + 150) 314 0 [some (.ref 64), some (.int (Int32.ofNat s)), some (.int y), none] [] (am_wI B i)) (.inr 1) := by
  refine FRs_x h ?_
  have hF : Fc B := h.1.1
  have hY : Yd B 94 := h.1.2.1
  have hc := hW.1.2.2.2.1
  have h8 := hc.2
  have a9 := (h.2.1.2.2.2.1.2 s hs (by omega)).2.2.2.2.2.2.2.2.1
  rw [bk_314_0]
  simp (disch := omega) only [c_shN hF hY h.2.1.2.2.2.1.1 hc hs, a9, c_ckI0 g, hF, hY, y_ckd, y_ck2d, y_ond, y_onn, y_oI, y_oIx, y_oJ, y_oV, y_oVx, y_oR, y_oRn, y_oRx, y_b0, y_b1, y_bi, y_bid, y_wIK, y_wIL, y_wII, y_wIJ, y_wIR, y_wIN, y_wIw, y_sI, ↓reduceIte, Nat.reduceEqDiff, eq_self, true_or, or_true, false_or, or_false, and_true, true_and, false_and, and_false, not_true, not_false_eq_true, tf_T, tf_F, y_up1, y_up2, y_xx, y_nx, y_sJ, y_sR, Int32.reduceLT, y_nxK, y_nxL, y_nxR, y_sJK, y_sJL, y_sJR, y_sJN, y_sRK, y_sRL, y_sRN, Nat.add_zero, z_nat, z_lit, z_lit0, z_lit1, z_in0, z_in1, z_addl0, z_lt, z_ltl, z_llt, z_inj, z_injl, z_add, z_addl, z_ladd, z_mul, z_mull, z_lmul, z_neg, z_negl, z_in, z_inl, z_ltT, z_ltF, z_eqF, z_10, z_01, z_litne, z_ne0, z_0ne, z_ne1, z_1ne, z_lt64, z_02, z_03, z_04, z_05, z_12, z_13, z_14, z_15, z_20, z_21, z_23, z_24, z_25, z_30, z_31, z_32, z_34, z_35, z_40, z_41, z_42, z_43, z_45, z_50, z_51, z_52, z_53, z_54]
theorem f_masts (h : CR B i σ) (hW : Wd σ.1) (hs : s < cn σ.1 2621) (hn : n < cn σ.1 (2622 + 49 * s + 8)) : FRs B i σ (am_fx am_P (d + 150) 314 0 [some (.ref 64), some (.int (Int32.ofNat s)), some (.int (Int32.ofNat n)), none] [] (am_wI B i)) (.inl (some (.int (fv (msv σ.1 s n))))) := by
  have hF : Fc B := h.1.1
  have hY : Yd B 94 := h.1.2.1
  have hc := hW.1.2.2.2.1
  have h8 := hc.2
  obtain ⟨-, -, -, -, -, -, -, hnc, -⟩ := hW.2.2.2.2.1.1 s hs (by omega)
  have a9 := (h.2.1.2.2.2.1.2 s hs (by omega)).2.2.2.2.2.2.2.2.1
  obtain ⟨i1, E1, f1, -⟩ := c_mset (d := d + 146) h hW hs hn
  refine FRs_s (i' := i1) h ?_ fun q k a _ b c _ _ => f1 q k (by omega) (by omega)
  rw [bk_314_0]
  simp (disch := omega) only [c_shN hF hY h.2.1.2.2.2.1.1 hc hs, a9, c_ckI1 (ck_nat hnc (by omega) hn), E1, hF, hY, y_ckd, y_ck2d, y_ond, y_onn, y_oI, y_oIx, y_oJ, y_oV, y_oVx, y_oR, y_oRn, y_oRx, y_b0, y_b1, y_bi, y_bid, y_wIK, y_wIL, y_wII, y_wIJ, y_wIR, y_wIN, y_wIw, y_sI, ↓reduceIte, Nat.reduceEqDiff, eq_self, true_or, or_true, false_or, or_false, and_true, true_and, false_and, and_false, not_true, not_false_eq_true, tf_T, tf_F, y_up1, y_up2, y_xx, y_nx, y_sJ, y_sR, Int32.reduceLT, y_nxK, y_nxL, y_nxR, y_sJK, y_sJL, y_sJR, y_sJN, y_sRK, y_sRL, y_sRN, Nat.add_zero, z_nat, z_lit, z_lit0, z_lit1, z_in0, z_in1, z_addl0, z_lt, z_ltl, z_llt, z_inj, z_injl, z_add, z_addl, z_ladd, z_mul, z_mull, z_lmul, z_neg, z_negl, z_in, z_inl, z_ltT, z_ltF, z_eqF, z_10, z_01, z_litne, z_ne0, z_0ne, z_ne1, z_1ne, z_lt64, z_02, z_03, z_04, z_05, z_12, z_13, z_14, z_15, z_20, z_21, z_23, z_24, z_25, z_30, z_31, z_32, z_34, z_35, z_40, z_41, z_42, z_43, z_45, z_50, z_51, z_52, z_53, z_54]
theorem m_masts_x0 (h : MR B i σ) (hc : isc σ.1 2621 8) (g : ¬ (¬ x < 0 ∧ x < σ.1 2621)) : MRs B i σ (am_fx am_P (d + 150) 93 0 [some (.ref 874), some (.int x), some (.int y)] [] (am_wI B i)) (some (.int 0)) 1 := by
  refine MRs_x h ?_
  have hM : Md B := h.1.1
  have e5 := h.2.1 2621 (by omega)
  rw [bk_93_0]
  simp (maxSteps := 1000000) (disch := omega) only [bk_71_0, bk_69_0, m_in, z_pred hc.1, Classical.not_not, g, m_thr1 hM, e5, hM, y_ckd, y_ck2d, y_ond, y_onn, y_oI, y_oIx, y_oJ, y_oV, y_oVx, y_oR, y_oRn, y_oRx, y_b0, y_b1, y_bi, y_bid, y_wIK, y_wIL, y_wII, y_wIJ, y_wIR, y_wIN, y_wIw, y_sI, ↓reduceIte, Nat.reduceEqDiff, eq_self, true_or, or_true, false_or, or_false, and_true, true_and, false_and, and_false, not_true, not_false_eq_true, tf_T, tf_F, y_up1, y_up2, y_xx, y_nx, y_sJ, y_sR, Int32.reduceLT, y_nxK, y_nxL, y_nxR, y_sJK, y_sJL, y_sJR, y_sJN, y_sRK, y_sRL, y_sRN, Nat.add_zero, z_nat, z_lit, z_lit0, z_lit1, z_in0, z_in1, z_addl0, z_lt, z_ltl, z_llt, z_inj, z_injl, z_add, z_addl, z_ladd, z_mul, z_mull, z_lmul, z_neg, z_negl, z_in, z_inl, z_ltT, z_ltF, z_eqF, z_10, z_01, z_litne, z_ne0, z_0ne, z_ne1, z_1ne, z_lt64, z_02, z_03, z_04, z_05, z_12, z_13, z_14, z_15, z_20, z_21, z_23, z_24, z_25, z_30, z_31, z_32, z_34, z_35, z_40, z_41, z_42, z_43, z_45, z_50, z_51, z_52, z_53, z_54]
theorem m_masts_x1 (h : MR B i σ) (hW : Wd σ.1) (hs : s < cn σ.1 2621) (g : ¬ (¬ y < 0 ∧ y < σ.1 (2622 + 49 * s + 8))) : MRs B i σ (am_fx am_P (d + 150) 93 0 [some (.ref 874), some (.int (Int32.ofNat s)), some (.int y)] [] (am_wI B i)) (some (.int 0)) 1 := by
  refine MRs_x h ?_
  have hM : Md B := h.1.1
  have hc := hW.1.2.2.2.1
  have h8 := hc.2
  obtain ⟨-, -, -, -, -, -, -, hnc, -⟩ := hW.2.2.2.2.1.1 s hs (by omega)
  have t3 : (Int32.ofNat s < 0) = False := z_neg (by omega)
  have t4 := eq_true (ck_nat hc (by omega) hs).2
  have e5 := h.2.1 2621 (by omega)
  have e6 := h.2.1 (2622 + 49 * s + 8) (by omega)
  rw [bk_93_0]
  simp (maxSteps := 1000000) (disch := omega) only [bk_71_0, bk_69_0, (fun d x0 x1 x2 B i => bk_67_0 d x0 x1 x2 (am_wI B i)), (fun d x0 x1 B i => bk_66_0 d x0 x1 (am_wI B i)), m_in, z_pred hc.1, z_pred hnc.1, Classical.not_not, t3, t4, g, m_thr1 hM, e5, e6, hM, y_ckd, y_ck2d, y_ond, y_onn, y_oI, y_oIx, y_oJ, y_oV, y_oVx, y_oR, y_oRn, y_oRx, y_b0, y_b1, y_bi, y_bid, y_wIK, y_wIL, y_wII, y_wIJ, y_wIR, y_wIN, y_wIw, y_sI, ↓reduceIte, Nat.reduceEqDiff, eq_self, true_or, or_true, false_or, or_false, and_true, true_and, false_and, and_false, not_true, not_false_eq_true, tf_T, tf_F, y_up1, y_up2, y_xx, y_nx, y_sJ, y_sR, Int32.reduceLT, y_nxK, y_nxL, y_nxR, y_sJK, y_sJL, y_sJR, y_sJN, y_sRK, y_sRL, y_sRN, Nat.add_zero, z_nat, z_lit, z_lit0, z_lit1, z_in0, z_in1, z_addl0, z_lt, z_ltl, z_llt, z_inj, z_injl, z_add, z_addl, z_ladd, z_mul, z_mull, z_lmul, z_neg, z_negl, z_in, z_inl, z_ltT, z_ltF, z_eqF, z_10, z_01, z_litne, z_ne0, z_0ne, z_ne1, z_1ne, z_lt64, z_02, z_03, z_04, z_05, z_12, z_13, z_14, z_15, z_20, z_21, z_23, z_24, z_25, z_30, z_31, z_32, z_34, z_35, z_40, z_41, z_42, z_43, z_45, z_50, z_51, z_52, z_53, z_54]
theorem m_masts (h : MR B i σ) (hW : Wd σ.1) (hs : s < cn σ.1 2621) (hn : n < cn σ.1 (2622 + 49 * s + 8)) : MRs B i σ (am_fx am_P (d + 151) 93 0 [some (.ref 874), some (.int (Int32.ofNat s)), some (.int (Int32.ofNat n))] [] (am_wI B i)) (some (.int (fv (msv σ.1 s n)))) 0 := by
  have hM : Md B := h.1.1
  have hc := hW.1.2.2.2.1
  have h8 := hc.2
  obtain ⟨-, -, -, -, -, -, -, hnc, -⟩ := hW.2.2.2.2.1.1 s hs (by omega)
  have n8 := hnc.2
  have e5 := h.2.1 2621 (by omega)
  have e6 := h.2.1 (2622 + 49 * s + 8) (by omega)
  have t1 : (Int32.ofNat n < 0) = False := z_neg (by omega)
  have t2 := eq_true (ck_nat hnc (by omega) hn).2
  have t3 : (Int32.ofNat s < 0) = False := z_neg (by omega)
  have t4 := eq_true (ck_nat hc (by omega) hs).2
  have hw := up_o (q := 874) (k := 0) (v := 0) (by omega) h.2.1
  obtain ⟨i1, E1, f1, -⟩ := m_mset (d := d + 147) hM hw hW hs hn
  refine MRs_s (i' := i1) h ?_ (by rw [f1 _ _ (by omega) (by omega), y_up1 rfl rfl]) fun q k h1 h2 => by rw [f1 _ _ (by omega) (by omega), y_up2 (by omega)]
  rw [bk_93_0]
  simp (maxSteps := 1000000) (disch := omega) only [bk_71_0, bk_69_0, (fun d x0 x1 x2 B i => bk_67_0 d x0 x1 x2 (am_wI B i)), (fun d x0 x1 B i => bk_66_0 d x0 x1 (am_wI B i)), m_nAt, m_in, z_pred hc.1, z_pred hnc.1, Classical.not_not, t1, t2, t3, t4, m_thr0, e5, e6, E1, hM, y_ckd, y_ck2d, y_ond, y_onn, y_oI, y_oIx, y_oJ, y_oV, y_oVx, y_oR, y_oRn, y_oRx, y_b0, y_b1, y_bi, y_bid, y_wIK, y_wIL, y_wII, y_wIJ, y_wIR, y_wIN, y_wIw, y_sI, ↓reduceIte, Nat.reduceEqDiff, eq_self, true_or, or_true, false_or, or_false, and_true, true_and, false_and, and_false, not_true, not_false_eq_true, tf_T, tf_F, y_up1, y_up2, y_xx, y_nx, y_sJ, y_sR, Int32.reduceLT, y_nxK, y_nxL, y_nxR, y_sJK, y_sJL, y_sJR, y_sJN, y_sRK, y_sRL, y_sRN, Nat.add_zero, z_nat, z_lit, z_lit0, z_lit1, z_in0, z_in1, z_addl0, z_lt, z_ltl, z_llt, z_inj, z_injl, z_add, z_addl, z_ladd, z_mul, z_mull, z_lmul, z_neg, z_negl, z_in, z_inl, z_ltT, z_ltF, z_eqF, z_10, z_01, z_litne, z_ne0, z_0ne, z_ne1, z_1ne, z_lt64, z_02, z_03, z_04, z_05, z_12, z_13, z_14, z_15, z_20, z_21, z_23, z_24, z_25, z_30, z_31, z_32, z_34, z_35, z_40, z_41, z_42, z_43, z_45, z_50, z_51, z_52, z_53, z_54]
theorem k_masts (h : Sim B i σ) (hs : Sc B i L j) (hO : am_K B 892 = 22 ∧ am_L B 892 = 1) : Stq B i d 1829 j := by
  have hc := h.2.2.1.1.2.2.2.1
  have h8 := hc.2
  by_cases g : ¬ i 0 (j + 1) < 0 ∧ i 0 (j + 1) < σ.1 2621
  rotate_left
  · exact kx_22_1 h hs hO (f_masts_x0 (d := d + 48) h.1 g) fun B0 i0 h0 => m_masts_x0 (d := d + 49) h0 hc g
  obtain ⟨s, e, hq⟩ := nat_ck hc (by omega) g
  obtain ⟨-, -, -, -, -, -, -, hnc, -⟩ := h.2.2.1.2.2.2.2.1.1 s hq (by omega)
  by_cases g1 : ¬ i 0 (j + 2) < 0 ∧ i 0 (j + 2) < σ.1 (2622 + 49 * s + 8)
  rotate_left
  · exact kx_22_1 h hs hO (by rw [e]; exact f_masts_x1 (d := d + 48) h.1 h.2.2.1 hq g1) fun B0 i0 h0 => by rw [e]; exact m_masts_x1 (d := d + 49) h0 h.2.2.1 hq g1
  obtain ⟨n, e2, hn⟩ := nat_ck hnc (by omega) g1
  exact kk_22 h hs hO h.2.2 (by rw [e, e2]; exact f_masts (d := d + 48) h.1 h.2.2.1 hq hn) fun B0 i0 h0 => by rw [e, e2]; exact m_masts (d := d + 48) h0 h.2.2.1 hq hn
end Masts4
