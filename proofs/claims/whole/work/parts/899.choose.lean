/-! MASTS: which set, the call. Made by wip/whole/math/899.py. -/
section Masts3
variable {B B1 : am_A} {i i1 : Nat → Nat → Int32} {σ σ' : Sg} {w : Nat → Int32} {L j d b m n c s T : Nat} {x y z : Int32} {f : Nat → Nat}
abbrev lM (w : Nat → Int32) (T : Nat) : Int32 := jl w (mf w) T (mc w)
abbrev tM (w : Nat → Int32) (T : Nat) : Int32 := jt w (mf w) T (mc w) 60
abbrev enM (w : Nat → Int32) (s n T : Nat) : Prop := en4 w s n (lM w T) (tM w T) 0
abbrev wsM (w : Nat → Int32) (s n T : Nat) : Int32 := ws4 w s n (lM w T) (tM w T)
abbrev bbM (w : Nat → Int32) (s n T : Nat) (a : Nat × Int32) : Prop := a.1 = 0 ∨ wsM w s n T < a.2 ∨ (wsM w s n T = a.2 ∧ pcn T < pcn a.1)
abbrev fbm (w : Nat → Int32) (s n T : Nat) (a : Nat × Int32) : Nat × Int32 := if (2 ≤ pcn T ∧ enM w s n T) ∧ bbM w s n T a then (T, wsM w s n T) else a
def bsm (w : Nat → Int32) (s n K : Nat) : Nat × Int32 := itr (fun k a => fbm w s n (k + 1) a) K (0, 0)
theorem bsm_s {K : Nat} : bsm w s n (K + 1) = fbm w s n (K + 1) (bsm w s n K) := rfl
theorem bsm_ok : ∀ K, (bsm w s n K).1 ≤ K ∧ ((bsm w s n K).1 = 0 ∨ (2 ≤ pcn (bsm w s n K).1 ∧ enM w s n (bsm w s n K).1))
  | 0 => ⟨Nat.le_refl _, Or.inl rfl⟩
  | K + 1 => by
    obtain ⟨h1, h2⟩ := bsm_ok K
    rw [bsm_s]
    unfold fbm
    by_cases g : (2 ≤ pcn (K + 1) ∧ enM w s n (K + 1)) ∧ bbM w s n (K + 1) (bsm w s n K)
    · rw [if_pos g]
      exact ⟨Nat.le_refl _, Or.inr g.1⟩
    · rw [if_neg g]
      exact ⟨by omega, h2⟩
def fv (o : Nat) : Int32 := if o = 0 then -1 else Int32.ofNat o
theorem fv_m {o : Nat} (h : o < 256) : (fv o = -1) = (o = 0) := by
  unfold fv
  by_cases g : o = 0
  · rw [if_pos g, g]
    decide
  · rw [if_neg g]
    exact propext ⟨fun q => absurd q (z_nm1 (by omega)), fun q => absurd q g⟩
theorem fv_n {o : Nat} (h : o < 256) : (fv o < 0) = (o = 0) := by
  unfold fv
  by_cases g : o = 0
  · rw [if_pos g, g]
    decide
  · rw [if_neg g, z_neg (by omega)]
    exact (eq_false g).symm
theorem fv_p {o : Nat} (h : ¬ o = 0) : fv o = Int32.ofNat o := if_neg h
/-- the set of masts for a need -/
def msv (w : Nat → Int32) (s n : Nat) : Nat := if w (2622 + 49 * s + 9 + 5 * n) = 2 then (bsm w s n (2 ^ mc w - 1)).1 else 0
theorem wsM_nm (hW : Wd w) (hs : s < cn w 2621) (hn : n < cn w (2622 + 49 * s + 8)) (hT : T < 2 ^ mc w) (h2 : 2 ≤ pcn T) (g : enM w s n T) : ¬ wsM w s n T = -1 := by
  have h8 := hW.1.2.2.2.1.2
  obtain ⟨-, -, -, -, -, -, -, hnc, -⟩ := hW.2.2.2.2.1.1 s hs (by omega)
  have n8 := hnc.2
  obtain ⟨m8, -⟩ := mf_ok hW
  have h0 : 0 < T := by
    rcases Nat.eq_zero_or_pos T with q | q
    · rw [q] at h2
      exact absurd h2 (by decide)
    · exact q
  obtain ⟨l, el, -, -, hl⟩ := jl_ok hW (pcn_bit (mc w) (by omega) T hT h0)
  obtain ⟨u, eu, hu⟩ := jt_v (T := T) hW
  have g := g
  unfold enM lM tM at g
  unfold wsM lM tM
  rw [el, eu] at *
  obtain ⟨v, e, hv⟩ := ws4_nn hW hs (by omega) hn (by omega) hl hu g
  rw [e]
  exact z_nm1 (by omega)
theorem c_73 {o : Nat} {A : am_A} (ho : o < 256) (hT : T < 256) : am_fx am_P (d + 1) 278 73 [some (.ref 71), some (.ref 94), some (.ref (94 + 212 + 6 * s)), some (.int (Int32.ofNat n)), some (.int (fv o)), some (.int x), some (.int (Int32.ofNat T)), none, none] [.int (-1)] A = am_fx am_P (d + 1) 278 40 [some (.ref 71), some (.ref 94), some (.ref (94 + 212 + 6 * s)), some (.int (Int32.ofNat n)), some (.int (fv o)), some (.int x), some (.int (Int32.ofNat (T + 1))), none, none] [] A := by
  have e : ∀ v : Int32, am_fx am_P (d + 1) 278 113 [some (.ref 71), some (.ref 94), some (.ref (94 + 212 + 6 * s)), some (.int (Int32.ofNat n)), some (.int (fv o)), some (.int x), some (.int (Int32.ofNat T)), some (.int (-1)), none] [.int v] A = am_fx am_P (d + 1) 278 40 [some (.ref 71), some (.ref 94), some (.ref (94 + 212 + 6 * s)), some (.int (Int32.ofNat n)), some (.int (fv o)), some (.int x), some (.int (Int32.ofNat (T + 1))), none, none] [] A := fun v => by
    rw [bk_278_113, if_pos rfl, show Int32.ofNat T + 1 = Int32.ofNat (T + 1) from z_add T 1]
  rw [bk_278_73]
  by_cases g : o = 0
  · rw [if_pos (show fv o = -1 by rw [fv_m ho]; exact g)]
    exact e 1
  rw [if_neg (show ¬ fv o = -1 by rw [fv_m ho]; exact g)]
  by_cases g1 : -1 < x
  · rw [if_pos g1]
    exact e 1
  rw [if_neg g1]
  by_cases g2 : -1 = x
  · rw [if_pos g2, c_bits hT]
    have e3 : am_fx am_P d 5 0 [some (.int (fv o))] [] A = some (.inl (some (.int (Int32.ofNat (pcn o)))), A) := by rw [fv_p g]; exact c_bits ho
    rw [y_oI, e3, y_oI]
    split
    · exact e 1
    · exact e 0
  · rw [if_neg g2]
    exact e 0
theorem c_mset (h : CR B i σ) (hW : Wd σ.1) (hs : s < cn σ.1 2621) (hn : n < cn σ.1 (2622 + 49 * s + 8)) : ∃ i', am_fx am_P (d + 3) 278 0 [some (.ref 71), some (.ref 94), some (.ref (94 + 212 + 6 * s)), some (.int (Int32.ofNat n)), none, none, none, none, none] [] (am_wI B i) = some (.inl (some (.int (fv (msv σ.1 s n)))), am_wI B i') ∧ (∀ q k, q ≠ 76 → (q = 71 → k ≠ 6) → i' q k = i q k) ∧ (σ.1 (2622 + 49 * s + 9 + 5 * n) = 2 → i' 71 6 = Int32.ofNat (mc σ.1) ∧ ∀ k, k < mc σ.1 → i' 76 k = Int32.ofNat (mf σ.1 k)) := by
  have hF : Fc B := h.1.1
  have hY : Yd B 94 := h.1.2.1
  have h8 := hW.1.2.2.2.1.2
  obtain ⟨-, -, -, -, -, -, -, hnc, -⟩ := hW.2.2.2.2.1.1 s hs (by omega)
  have n8 := hnc.2
  obtain ⟨m8, hm⟩ := mf_ok hW
  obtain ⟨p1, p2⟩ := p2_le m8
  have eP := z_pow m8
  have hSh := h.2.1.2.2.2.1.2 s hs (by omega)
  have a9 := hSh.2.2.2.2.2.2.2.2.1
  obtain ⟨c0, -⟩ := hSh.2.2.2.2.2.2.2.2.2 n hn (by omega)
  have wn := c_within1 (x := Int32.ofNat n) (a := 0) (c := σ.1 (2622 + 49 * s + 8) - 1) (d := d + 2) (A := am_wI B i) ⟨(ck_nat hnc (by omega) hn).1, by rw [z_pred hnc.1 (by omega)]; exact fun q => q (ck_nat hnc (by omega) hn).2⟩
  unfold msv
  by_cases gk : σ.1 (2622 + 49 * s + 9 + 5 * n) = 2
  rotate_left
  · rw [if_neg gk]
    refine ⟨i, ?_, fun _ _ _ _ => rfl, fun q => absurd q gk⟩
    rw [bk_278_0]
    simp (maxSteps := 1000000) (disch := omega) only [a9, c0, gk, wn, hF, hY, y_ckd, y_ck2d, y_ond, y_onn, y_oI, y_oIx, y_oJ, y_oV, y_oVx, y_oR, y_oRn, y_oRx, y_b0, y_b1, y_bi, y_bid, y_wIK, y_wIL, y_wII, y_wIJ, y_wIR, y_wIN, y_wIw, y_sI, ↓reduceIte, Nat.reduceEqDiff, eq_self, true_or, or_true, false_or, or_false, and_true, true_and, false_and, and_false, not_true, not_false_eq_true, tf_T, tf_F, y_up1, y_up2, y_xx, y_nx, y_sJ, y_sR, Int32.reduceLT, y_nxK, y_nxL, y_nxR, y_sJK, y_sJL, y_sJR, y_sJN, y_sRK, y_sRL, y_sRN, Nat.add_zero, z_nat, z_lit, z_lit0, z_lit1, z_in0, z_in1, z_addl0, z_lt, z_ltl, z_llt, z_inj, z_injl, z_add, z_addl, z_ladd, z_mul, z_mull, z_lmul, z_neg, z_negl, z_in, z_inl, z_ltT, z_ltF, z_eqF, z_10, z_01, z_litne, z_ne0, z_0ne, z_ne1, z_1ne, z_lt64, z_02, z_03, z_04, z_05, z_12, z_13, z_14, z_15, z_20, z_21, z_23, z_24, z_25, z_30, z_31, z_32, z_34, z_35, z_40, z_41, z_42, z_43, z_45, z_50, z_51, z_52, z_53, z_54]
    rfl
  rw [if_pos gk]
  obtain ⟨i1, E1, f1, e6, e7⟩ := c_listM (d := d + 2) hF hY h.2.1.2.2.1 hW.1.2.2.1
  have hR1 : Rep B i1 94 σ.1 := (LsC_CR (s := (B, i1)) h ⟨Jy.rf, fun q k h1 _ _ => f1 q k (by omega) (by omega)⟩).2.1
  refine ⟨i1, ?_, f1, fun _ => ⟨e6, e7⟩⟩
  obtain ⟨x, E2, -⟩ := lp_inv (fun k (x : Int32) => am_fx am_P (d + 3) 278 40 [some (.ref 71), some (.ref 94), some (.ref (94 + 212 + 6 * s)), some (.int (Int32.ofNat n)), some (.int (fv (bsm σ.1 s n k).1)), some (.int x), some (.int (Int32.ofNat (k + 1))), none, none] [] (am_wI B i1)) (fun k x => ¬ (bsm σ.1 s n k).1 = 0 → x = (bsm σ.1 s n k).2) (2 ^ mc σ.1 - 1) (fun k x hk hI => by
    obtain ⟨l1, -⟩ := bsm_ok (w := σ.1) (s := s) (n := n) k
    have hk2 : Int32.ofNat (k + 1) < Int32.ofNat (2 ^ mc σ.1) := by rw [z_lt (by omega) (by omega)]; omega
    have eb := c_bits (T := k + 1) (d := d + 2) (A := am_wI B i1) (by omega)
    have ej := c_wj (d := d) (T := k + 1) hF hY hR1 hW hs hn (by omega) e6 e7
    have enm := wsM_nm (T := k + 1) hW hs hn (by omega)
    have hp8 := pcn_8 (k + 1) (by omega)
    rw [bsm_s]
    unfold fbm
    have base : am_fx am_P (d + 3) 278 40 [some (.ref 71), some (.ref 94), some (.ref (94 + 212 + 6 * s)), some (.int (Int32.ofNat n)), some (.int (fv (bsm σ.1 s n k).1)), some (.int x), some (.int (Int32.ofNat (k + 1))), none, none] [] (am_wI B i1) = am_fx am_P (d + 3) 278 73 [some (.ref 71), some (.ref 94), some (.ref (94 + 212 + 6 * s)), some (.int (Int32.ofNat n)), some (.int (fv (bsm σ.1 s n k).1)), some (.int x), some (.int (Int32.ofNat (k + 1))), none, none] [.int (if 2 ≤ pcn (k + 1) ∧ enM σ.1 s n (k + 1) then wsM σ.1 s n (k + 1) else -1)] (am_wI B i1) := by
      rw [bk_278_40]
      generalize fv (bsm σ.1 s n k).1 = u
      generalize 2 ^ mc σ.1 = K at *
      by_cases q : 2 ≤ pcn (k + 1)
      · have q2 : ¬ Int32.ofNat (pcn (k + 1)) < 2 := by rw [show (2 : Int32) = Int32.ofNat 2 from rfl, z_lt (by omega) (by omega)]; omega
        by_cases q3 : enM σ.1 s n (k + 1)
        · rw [if_pos (c := 2 ≤ pcn (k + 1) ∧ enM σ.1 s n (k + 1)) ⟨q, q3⟩]
          rw [if_pos q3] at ej
          simp (maxSteps := 1000000) (disch := omega) only [e6, eP, hk2, eb, q2, ej, hF, y_ckd, y_wII, y_oI, ↓reduceIte]
        · rw [if_neg (c := 2 ≤ pcn (k + 1) ∧ enM σ.1 s n (k + 1)) (fun r => q3 r.2)]
          rw [if_neg q3] at ej
          simp (maxSteps := 1000000) (disch := omega) only [e6, eP, hk2, eb, q2, ej, hF, y_ckd, y_wII, y_oI, ↓reduceIte]
      · have q2 : Int32.ofNat (pcn (k + 1)) < 2 := by rw [show (2 : Int32) = Int32.ofNat 2 from rfl, z_lt (by omega) (by omega)]; omega
        rw [if_neg (c := 2 ≤ pcn (k + 1) ∧ enM σ.1 s n (k + 1)) (fun r => q r.1)]
        simp (maxSteps := 1000000) (disch := omega) only [e6, eP, hk2, eb, q2, hF, y_ckd, y_wII, y_oI, ↓reduceIte]
    rw [base]
    generalize bsm σ.1 s n k = a at *
    obtain ⟨o, v⟩ := a
    have hI : ¬ o = 0 → x = v := hI
    have l1 : o ≤ k := l1
    by_cases g : 2 ≤ pcn (k + 1) ∧ enM σ.1 s n (k + 1)
    rotate_left
    · rw [if_neg g, if_neg (fun r => g r.1)]
      exact ⟨x, c_73 (d := d + 2) (by omega) (by omega), hI⟩
    rw [if_pos g]
    have gw := enm g.1 g.2
    have yes : am_fx am_P (d + 3) 278 113 [some (.ref 71), some (.ref 94), some (.ref (94 + 212 + 6 * s)), some (.int (Int32.ofNat n)), some (.int (fv o)), some (.int x), some (.int (Int32.ofNat (k + 1))), some (.int (wsM σ.1 s n (k + 1))), none] [.int 1] (am_wI B i1) = am_fx am_P (d + 3) 278 40 [some (.ref 71), some (.ref 94), some (.ref (94 + 212 + 6 * s)), some (.int (Int32.ofNat n)), some (.int (fv (k + 1))), some (.int (wsM σ.1 s n (k + 1))), some (.int (Int32.ofNat (k + 1 + 1))), none, none] [] (am_wI B i1) := by
      rw [bk_278_113, if_neg gw, if_neg (by decide), show Int32.ofNat (k + 1) + 1 = Int32.ofNat (k + 1 + 1) from z_add (k + 1) 1, fv_p (o := k + 1) (by omega)]
    have no : am_fx am_P (d + 3) 278 113 [some (.ref 71), some (.ref 94), some (.ref (94 + 212 + 6 * s)), some (.int (Int32.ofNat n)), some (.int (fv o)), some (.int x), some (.int (Int32.ofNat (k + 1))), some (.int (wsM σ.1 s n (k + 1))), none] [.int 0] (am_wI B i1) = am_fx am_P (d + 3) 278 40 [some (.ref 71), some (.ref 94), some (.ref (94 + 212 + 6 * s)), some (.int (Int32.ofNat n)), some (.int (fv o)), some (.int x), some (.int (Int32.ofNat (k + 1 + 1))), none, none] [] (am_wI B i1) := by
      rw [bk_278_113, if_neg gw, if_pos rfl, show Int32.ofNat (k + 1) + 1 = Int32.ofNat (k + 1 + 1) from z_add (k + 1) 1]
    rw [bk_278_73]
    dsimp only
    by_cases g0 : o = 0
    · rw [if_pos (show fv o = -1 by rw [fv_m (by omega)]; exact g0), if_pos (c := (2 ≤ pcn (k + 1) ∧ enM σ.1 s n (k + 1)) ∧ bbM σ.1 s n (k + 1) (o, v)) ⟨g, Or.inl g0⟩]
      exact ⟨wsM σ.1 s n (k + 1), yes, fun _ => rfl⟩
    have hx := hI g0
    rw [if_neg (show ¬ fv o = -1 by rw [fv_m (by omega)]; exact g0)]
    by_cases g1 : wsM σ.1 s n (k + 1) < x
    · rw [if_pos g1, if_pos (c := (2 ≤ pcn (k + 1) ∧ enM σ.1 s n (k + 1)) ∧ bbM σ.1 s n (k + 1) (o, v)) ⟨g, Or.inr (Or.inl (by rw [← hx]; exact g1))⟩]
      exact ⟨wsM σ.1 s n (k + 1), yes, fun _ => rfl⟩
    rw [if_neg g1]
    by_cases g2 : wsM σ.1 s n (k + 1) = x
    · have e3 : am_fx am_P (d + 2) 5 0 [some (.int (fv o))] [] (am_wI B i1) = some (.inl (some (.int (Int32.ofNat (pcn o)))), am_wI B i1) := by rw [fv_p g0]; exact c_bits (by omega)
      have ho8 := pcn_8 o (by omega)
      rw [if_pos g2, eb, y_oI, e3, y_oI]
      have zl := z_lt (a := pcn (k + 1)) (b := pcn o) (by omega) (by omega)
      by_cases g3 : pcn (k + 1) < pcn o
      · rw [if_pos (show Int32.ofNat (pcn (k + 1)) < Int32.ofNat (pcn o) by rw [zl]; exact g3), if_pos (c := (2 ≤ pcn (k + 1) ∧ enM σ.1 s n (k + 1)) ∧ bbM σ.1 s n (k + 1) (o, v)) ⟨g, Or.inr (Or.inr ⟨by rw [← hx]; exact g2, g3⟩)⟩]
        exact ⟨wsM σ.1 s n (k + 1), yes, fun _ => rfl⟩
      · rw [if_neg (show ¬ Int32.ofNat (pcn (k + 1)) < Int32.ofNat (pcn o) by rw [zl]; exact g3), if_neg (c := (2 ≤ pcn (k + 1) ∧ enM σ.1 s n (k + 1)) ∧ bbM σ.1 s n (k + 1) (o, v)) (fun r => r.2.elim g0 fun r => r.elim (fun r => g1 (by rw [hx]; exact r)) fun r => g3 r.2)]
        exact ⟨x, no, hI⟩
    · rw [if_neg g2, if_neg (c := (2 ≤ pcn (k + 1) ∧ enM σ.1 s n (k + 1)) ∧ bbM σ.1 s n (k + 1) (o, v)) (fun r => r.2.elim g0 fun r => r.elim (fun r => g1 (by rw [hx]; exact r)) fun r => g2 (by rw [hx]; exact r.1))]
      exact ⟨x, no, hI⟩) (-1) (fun q => absurd rfl q)
  have hk2 : ¬ Int32.ofNat (2 ^ mc σ.1 - 1 + 1) < Int32.ofNat (2 ^ mc σ.1) := by rw [z_lt (by omega) (by omega)]; omega
  have E3 : am_fx am_P (d + 3) 278 40 [some (.ref 71), some (.ref 94), some (.ref (94 + 212 + 6 * s)), some (.int (Int32.ofNat n)), some (.int (fv (bsm σ.1 s n (2 ^ mc σ.1 - 1)).1)), some (.int x), some (.int (Int32.ofNat (2 ^ mc σ.1 - 1 + 1))), none, none] [] (am_wI B i1) = some (.inl (some (.int (fv (bsm σ.1 s n (2 ^ mc σ.1 - 1)).1))), am_wI B i1) := by
    generalize fv (bsm σ.1 s n (2 ^ mc σ.1 - 1)).1 = u at *
    rw [bk_278_40]
    simp (maxSteps := 1000000) (disch := omega) only [e6, eP, hk2, hF, y_ckd, y_wII, ↓reduceIte]
  rw [bk_278_0]
  rw [gk] at c0
  simp (maxSteps := 1000000) (disch := omega) only [a9, c0, wn, E1, hF, hY, y_ckd, y_ck2d, y_ond, y_onn, y_oI, y_oIx, y_oJ, y_oV, y_oVx, y_oR, y_oRn, y_oRx, y_b0, y_b1, y_bi, y_bid, y_wIK, y_wIL, y_wII, y_wIJ, y_wIR, y_wIN, y_wIw, y_sI, ↓reduceIte, Nat.reduceEqDiff, eq_self, true_or, or_true, false_or, or_false, and_true, true_and, false_and, and_false, not_true, not_false_eq_true, tf_T, tf_F, y_up1, y_up2, y_xx, y_nx, y_sJ, y_sR, Int32.reduceLT, y_nxK, y_nxL, y_nxR, y_sJK, y_sJL, y_sJR, y_sJN, y_sRK, y_sRL, y_sRN, Nat.add_zero, z_nat, z_lit, z_lit0, z_lit1, z_in0, z_in1, z_addl0, z_lt, z_ltl, z_llt, z_inj, z_injl, z_add, z_addl, z_ladd, z_mul, z_mull, z_lmul, z_neg, z_negl, z_in, z_inl, z_ltT, z_ltF, z_eqF, z_10, z_01, z_litne, z_ne0, z_0ne, z_ne1, z_1ne, z_lt64, z_02, z_03, z_04, z_05, z_12, z_13, z_14, z_15, z_20, z_21, z_23, z_24, z_25, z_30, z_31, z_32, z_34, z_35, z_40, z_41, z_42, z_43, z_45, z_50, z_51, z_52, z_53, z_54]
  exact E2.trans E3
end Masts3
