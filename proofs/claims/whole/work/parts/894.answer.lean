/-! THE LEAST WASTE: what the class answers. Made by wip/whole/math/894.py. -/
section LeastE
variable {B B1 : am_A} {i i1 : Nat → Nat → Int32} {σ σ' : Sg} {w : Nat → Int32} {L j d b m n T : Nat} {x y z : Int32}
abbrev opm (w : Nat → Int32) (s : Nat) : Nat := (opn w s (cn w (2622 + 49 * s + 8))).1
abbrev opf (w : Nat → Int32) (s : Nat) : Nat → Nat := (opn w s (cn w (2622 + 49 * s + 8))).2
/-- what all pieces, or all trees, make of the sets of a ship's open needs -/
def fnl (w : Nat → Int32) (s : Nat) (tr : Int32) : Cs := if tr = 0 then skP w s (txi w (w 0) (cn w 3541)) (opm w s) (opf w s) (cn w 460) else skT w s (opm w s) (opf w s) (cn w 39)
theorem skP_none {s : Nat} {f : Nat → Nat} : ∀ n, skP w s none m f n = U0
  | 0 => rfl
  | n + 1 => by
    rw [skP_s, skP_none n]
    exact if_neg fun q => q.2 rfl
theorem opm_8 {s : Nat} (hW : Wd w) (hs : s < cn w 2621) : opm w s ≤ 8 ∧ ∀ n, n < opm w s → opf w s n < cn w (2622 + 49 * s + 8) := by
  have h2 := hW.1.2.2.2.1.2
  obtain ⟨-, -, -, -, -, -, -, hnc, -⟩ := hW.2.2.2.2.1.1 s hs (by omega)
  have n8 := hnc.2
  obtain ⟨h1, h3⟩ := opn_le (w := w) (s := s) (cn w (2622 + 49 * s + 8))
  exact ⟨Nat.le_trans h1 n8, h3⟩
theorem FRs_j {x : am_X} {v : Option Value} {s : am_A × (Nat → Nat → Int32)} (h : CR B i σ) (hx : x = some (.inl v, am_wI s.1 s.2)) (hB : Jy 75 B s.1) (hi : ∀ q k, (q < 67 ∨ 94 ≤ q) → (q = 65 → k = 1 ∨ k = 2) → (q = 101 → k ≠ 3) → q ≠ 104 → q ≠ 115 → q ≠ 125 → s.2 q k = i q k) : FRs B i σ x (.inl v) := by
  have hb := hB
  obtain ⟨b1, b2, b3, b4, b5, b6, b7⟩ := hb
  refine ⟨s.1, s.2, hx, CR_fr h (hB.le (by omega)) (by rw [b3]; exact ⟨rfl, rfl, rfl⟩) (fun q k _ a b c d e f => hi q k a b c d e f) (fun q a _ => ?_), hB.le (by omega), ⟨by omega, by omega⟩, fun q k _ => hi q k (by omega) (by omega) (by omega) (by omega) (by omega) (by omega)⟩
  funext k
  exact hi q k (by omega) (by omega) (by omega) (by omega) (by omega) (by omega)
abbrev LsC (B : am_A) (i : Nat → Nat → Int32) (s : am_A × (Nat → Nat → Int32)) : Prop := Jy 75 B s.1 ∧ ∀ q k, (q < 67 ∨ 94 ≤ q) → (q = 101 → k ≠ 3) → q ≠ 104 → s.2 q k = i q k
theorem LsC_CR {s : am_A × (Nat → Nat → Int32)} (h : CR B i σ) (hI : LsC B i s) : CR s.1 s.2 σ := by
  obtain ⟨hB, hf⟩ := hI
  refine CR_fr h (hB.le (by omega)) (by rw [hB.2.2.1]; exact ⟨rfl, rfl, rfl⟩) (fun q k _ h1 _ h2 h3 _ _ => hf q k h1 h2 h3) fun q h1 _ => ?_
  funext k
  exact hf q k (by omega) (by omega) (by omega)
theorem c_allP {s : Nat} {f : Nat → Nat} (h : CR B i σ) (hW : Wd σ.1) (hJ : ∀ k, k < 8 → am_J B 1 k = p120 k) (m8 : m ≤ 8) (hs : s < cn σ.1 2621) (hf : ∀ n, n < m → f n < cn σ.1 (2622 + 49 * s + 8)) (e1 : i 71 1 = Int32.ofNat m) (e2 : ∀ n, n < m → i 72 n = Int32.ofNat (f n)) (hC : ∀ T, T < 2 ^ m → CsT 74 75 B i T (U0.1 T, U0.2 T)) : ∃ s' : am_A × (Nat → Nat → Int32), am_fx am_P (d + 4) 273 0 [some (.ref 71), some (.ref 94), some (.ref (94 + 212 + 6 * s)), some (.int (Int32.ofNat s)), none, none, none, none] [] (am_wI B i) = some (.inl none, am_wI s'.1 s'.2) ∧ FnI B i s' ∧ ∀ T, T < 2 ^ m → CsT 74 75 s'.1 s'.2 T ((skP σ.1 s (txi σ.1 (σ.1 0) (cn σ.1 3541)) m f (cn σ.1 460)).1 T, (skP σ.1 s (txi σ.1 (σ.1 0) (cn σ.1 3541)) m f (cn σ.1 460)).2 T) := by
  have hF : Fc B := h.1.1
  have hY : Yd B 94 := h.1.2.1
  have hc := hW.1.2.2.1
  have h120 := hc.2
  have hx := hW.1.2.2.2.2.2.2.2.2.2
  have e5 : i 94 5 = Int32.ofNat (cn σ.1 460) := h.2.1.2.2.1.1.trans hc.1
  have e0 : i 94 0 = σ.1 0 := h.2.1.1.1
  have e := c_inForce (d := d + 3) (x := σ.1 0) hY h.2.1.2.2.2.2.2.2.2.2 hx hW.2.2.2.2.2.2.2.2.1
  cases et : txi σ.1 (σ.1 0) (cn σ.1 3541) with
  | none =>
    rw [et] at e
    simp only [txq] at e
    rw [skP_none]
    refine ⟨(B, i), ?_, ⟨Jy.rf, fun _ _ _ _ _ => rfl⟩, hC⟩
    rw [bk_273_0]
    simp (maxSteps := 1000000) (disch := omega) only [e, e0, hF, hY, y_ckd, y_ck2d, y_ond, y_onn, y_oI, y_oIx, y_oJ, y_oV, y_oVx, y_oR, y_oRn, y_oRx, y_b0, y_b1, y_bi, y_bid, y_wIK, y_wIL, y_wII, y_wIJ, y_wIR, y_wIN, y_wIw, y_sI, ↓reduceIte, Nat.reduceEqDiff, eq_self, true_or, or_true, false_or, or_false, and_true, true_and, false_and, and_false, not_true, not_false_eq_true, tf_T, tf_F, y_up1, y_up2, y_xx, y_nx, y_sJ, y_sR, Int32.reduceLT, y_nxK, y_nxL, y_nxR, y_sJK, y_sJL, y_sJR, y_sJN, y_sRK, y_sRL, y_sRN]
    refine (lp_itr (fun k (_ : Unit) => am_fx am_P (d + 4) 273 16 [some (.ref 71), some (.ref 94), some (.ref (94 + 212 + 6 * s)), some (.int (Int32.ofNat s)), some .null, some (.int (Int32.ofNat k)), none, none] [] (am_wI B i)) (fun _ v => v) (cn σ.1 460) (fun k v hk => ?_) ()).trans ?_
    · have b9 : i (94 + 92 + k) 9 = σ.1 (461 + 18 * k + 1) := (h.2.1.2.2.1.2 k hk (by omega)).2.1
      rw [bk_273_16]
      by_cases g1 : σ.1 (461 + 18 * k + 1) = 2
      · simp (maxSteps := 1000000) (disch := omega) only [e5, b9, g1, bk_250_0, hF, hY, y_ckd, y_ck2d, y_ond, y_onn, y_oI, y_oIx, y_oJ, y_oV, y_oVx, y_oR, y_oRn, y_oRx, y_b0, y_b1, y_bi, y_bid, y_wIK, y_wIL, y_wII, y_wIJ, y_wIR, y_wIN, y_wIw, y_sI, ↓reduceIte, Nat.reduceEqDiff, eq_self, true_or, or_true, false_or, or_false, and_true, true_and, false_and, and_false, not_true, not_false_eq_true, tf_T, tf_F, y_up1, y_up2, y_xx, y_nx, y_sJ, y_sR, Int32.reduceLT, y_nxK, y_nxL, y_nxR, y_sJK, y_sJL, y_sJR, y_sJN, y_sRK, y_sRL, y_sRN, Nat.add_zero, z_nat, z_lit, z_lit0, z_lit1, z_in0, z_in1, z_addl0, z_lt, z_ltl, z_llt, z_inj, z_injl, z_add, z_addl, z_ladd, z_mul, z_mull, z_lmul, z_neg, z_negl, z_in, z_inl, z_ltT, z_ltF, z_eqF, z_10, z_01, z_litne, z_ne0, z_0ne, z_ne1, z_1ne, z_lt64, z_02, z_03, z_04, z_05, z_12, z_13, z_14, z_15, z_20, z_21, z_23, z_24, z_25, z_30, z_31, z_32, z_34, z_35, z_40, z_41, z_42, z_43, z_45, z_50, z_51, z_52, z_53, z_54]
      · simp (maxSteps := 1000000) (disch := omega) only [e5, b9, g1, hF, hY, y_ckd, y_ck2d, y_ond, y_onn, y_oI, y_oIx, y_oJ, y_oV, y_oVx, y_oR, y_oRn, y_oRx, y_b0, y_b1, y_bi, y_bid, y_wIK, y_wIL, y_wII, y_wIJ, y_wIR, y_wIN, y_wIw, y_sI, ↓reduceIte, Nat.reduceEqDiff, eq_self, true_or, or_true, false_or, or_false, and_true, true_and, false_and, and_false, not_true, not_false_eq_true, tf_T, tf_F, y_up1, y_up2, y_xx, y_nx, y_sJ, y_sR, Int32.reduceLT, y_nxK, y_nxL, y_nxR, y_sJK, y_sJL, y_sJR, y_sJN, y_sRK, y_sRL, y_sRN, Nat.add_zero, z_nat, z_lit, z_lit0, z_lit1, z_in0, z_in1, z_addl0, z_lt, z_ltl, z_llt, z_inj, z_injl, z_add, z_addl, z_ladd, z_mul, z_mull, z_lmul, z_neg, z_negl, z_in, z_inl, z_ltT, z_ltF, z_eqF, z_10, z_01, z_litne, z_ne0, z_0ne, z_ne1, z_1ne, z_lt64, z_02, z_03, z_04, z_05, z_12, z_13, z_14, z_15, z_20, z_21, z_23, z_24, z_25, z_30, z_31, z_32, z_34, z_35, z_40, z_41, z_42, z_43, z_45, z_50, z_51, z_52, z_53, z_54]
    · rw [bk_273_16]
      simp (maxSteps := 1000000) (disch := omega) only [e5, hF, hY, y_ckd, y_ck2d, y_ond, y_onn, y_oI, y_oIx, y_oJ, y_oV, y_oVx, y_oR, y_oRn, y_oRx, y_b0, y_b1, y_bi, y_bid, y_wIK, y_wIL, y_wII, y_wIJ, y_wIR, y_wIN, y_wIw, y_sI, ↓reduceIte, Nat.reduceEqDiff, eq_self, true_or, or_true, false_or, or_false, and_true, true_and, false_and, and_false, not_true, not_false_eq_true, tf_T, tf_F, y_up1, y_up2, y_xx, y_nx, y_sJ, y_sR, Int32.reduceLT, y_nxK, y_nxL, y_nxR, y_sJK, y_sJL, y_sJR, y_sJN, y_sRK, y_sRL, y_sRN, Nat.add_zero, z_nat, z_lit, z_lit0, z_lit1, z_in0, z_in1, z_addl0, z_lt, z_ltl, z_llt, z_inj, z_injl, z_add, z_addl, z_ladd, z_mul, z_mull, z_lmul, z_neg, z_negl, z_in, z_inl, z_ltT, z_ltF, z_eqF, z_10, z_01, z_litne, z_ne0, z_0ne, z_ne1, z_1ne, z_lt64, z_02, z_03, z_04, z_05, z_12, z_13, z_14, z_15, z_20, z_21, z_23, z_24, z_25, z_30, z_31, z_32, z_34, z_35, z_40, z_41, z_42, z_43, z_45, z_50, z_51, z_52, z_53, z_54]
  | some t =>
    have ht := txi_lt _ et
    obtain ⟨-, q, eq, -, -, -⟩ := h.2.1.2.2.2.2.2.2.2.2.2 t ht (by have := hx.2; omega)
    rw [et] at e
    simp only [txq, eq] at e
    obtain ⟨s1, E1, hI1, hC1⟩ := lp_inv (fun p (u : am_A × (Nat → Nat → Int32)) => am_fx am_P (d + 4) 273 16 [some (.ref 71), some (.ref 94), some (.ref (94 + 212 + 6 * s)), some (.int (Int32.ofNat s)), some (.ref q), some (.int (Int32.ofNat p)), none, none] [] (am_wI u.1 u.2)) (fun p u => FnI B i u ∧ ∀ T, T < 2 ^ m → CsT 74 75 u.1 u.2 T ((skP σ.1 s (some t) m f p).1 T, (skP σ.1 s (some t) m f p).2 T)) (cn σ.1 460) (fun p u hp hI => by
      obtain ⟨hI1, hC1⟩ := hI
      obtain ⟨u', E', hI', hC'⟩ := c_offP (d := d) (m := m) (f := f) (k := t) (t := q) (U := skP σ.1 s (some t) m f p) (FnI_CR h hI1) hW (fun k hk => by rw [hI1.1.2.2.2.2.2.2 1 (by omega)]; exact hJ k hk) m8 hs hp ht (by rw [hI1.1.2.2.1]; exact eq) hf ((hI1.2 _ _ (by omega) (by omega) (by omega)).trans e1) (fun n hn => (hI1.2 _ _ (by omega) (by omega) (by omega)).trans (e2 n hn)) hC1
      exact ⟨u', E', ⟨hI1.1.tr hI'.1, fun q k h1 h2 h3 => (hI'.2 q k h1 h2 h3).trans (hI1.2 q k h1 h2 h3)⟩, hC'⟩) (B, i) ⟨⟨Jy.rf, fun _ _ _ _ _ => rfl⟩, hC⟩
    refine ⟨s1, ?_, hI1, hC1⟩
    rw [bk_273_0]
    simp (maxSteps := 1000000) (disch := omega) only [e, e0, hF, hY, y_ckd, y_ck2d, y_ond, y_onn, y_oI, y_oIx, y_oJ, y_oV, y_oVx, y_oR, y_oRn, y_oRx, y_b0, y_b1, y_bi, y_bid, y_wIK, y_wIL, y_wII, y_wIJ, y_wIR, y_wIN, y_wIw, y_sI, ↓reduceIte, Nat.reduceEqDiff, eq_self, true_or, or_true, false_or, or_false, and_true, true_and, false_and, and_false, not_true, not_false_eq_true, tf_T, tf_F, y_up1, y_up2, y_xx, y_nx, y_sJ, y_sR, Int32.reduceLT, y_nxK, y_nxL, y_nxR, y_sJK, y_sJL, y_sJR, y_sJN, y_sRK, y_sRL, y_sRN]
    refine E1.trans ?_
    have hF1 : Fc s1.1 := hI1.1.fc hF
    have hY1 : Yd s1.1 94 := hI1.1.yd hY
    have e51 : s1.2 94 5 = Int32.ofNat (cn σ.1 460) := (hI1.2 _ _ (by omega) (by omega) (by omega)).trans e5
    rw [bk_273_16_RRRIRI__]
    simp (maxSteps := 1000000) (disch := omega) only [e51, hF1, hY1, y_ckd, y_ck2d, y_ond, y_onn, y_oI, y_oIx, y_oJ, y_oV, y_oVx, y_oR, y_oRn, y_oRx, y_b0, y_b1, y_bi, y_bid, y_wIK, y_wIL, y_wII, y_wIJ, y_wIR, y_wIN, y_wIw, y_sI, ↓reduceIte, Nat.reduceEqDiff, eq_self, true_or, or_true, false_or, or_false, and_true, true_and, false_and, and_false, not_true, not_false_eq_true, tf_T, tf_F, y_up1, y_up2, y_xx, y_nx, y_sJ, y_sR, Int32.reduceLT, y_nxK, y_nxL, y_nxR, y_sJK, y_sJL, y_sJR, y_sJN, y_sRK, y_sRL, y_sRN, Nat.add_zero, z_nat, z_lit, z_lit0, z_lit1, z_in0, z_in1, z_addl0, z_lt, z_ltl, z_llt, z_inj, z_injl, z_add, z_addl, z_ladd, z_mul, z_mull, z_lmul, z_neg, z_negl, z_in, z_inl, z_ltT, z_ltF, z_eqF, z_10, z_01, z_litne, z_ne0, z_0ne, z_ne1, z_1ne, z_lt64, z_02, z_03, z_04, z_05, z_12, z_13, z_14, z_15, z_20, z_21, z_23, z_24, z_25, z_30, z_31, z_32, z_34, z_35, z_40, z_41, z_42, z_43, z_45, z_50, z_51, z_52, z_53, z_54]
theorem c_allT {s : Nat} {f : Nat → Nat} (h : CR B i σ) (hW : Wd σ.1) (hJ : ∀ k, k < 8 → am_J B 1 k = p120 k) (m8 : m ≤ 8) (hs : s < cn σ.1 2621) (hf : ∀ n, n < m → f n < cn σ.1 (2622 + 49 * s + 8)) (e1 : i 71 1 = Int32.ofNat m) (e2 : ∀ n, n < m → i 72 n = Int32.ofNat (f n)) (hC : ∀ T, T < 2 ^ m → CsT 74 75 B i T (U0.1 T, U0.2 T)) : ∃ s' : am_A × (Nat → Nat → Int32), am_fx am_P (d + 4) 274 0 [some (.ref 71), some (.ref 94), some (.ref (94 + 212 + 6 * s)), none, none, none, none, none] [] (am_wI B i) = some (.inl none, am_wI s'.1 s'.2) ∧ FnI B i s' ∧ ∀ T, T < 2 ^ m → CsT 74 75 s'.1 s'.2 T ((skT σ.1 s m f (cn σ.1 39)).1 T, (skT σ.1 s m f (cn σ.1 39)).2 T) := by
  have hF : Fc B := h.1.1
  have hY : Yd B 94 := h.1.2.1
  have hc := hW.1.2.1
  have h60 := hc.2
  have e5 : i 94 3 = Int32.ofNat (cn σ.1 39) := h.2.1.2.1.1.trans hc.1
  obtain ⟨s1, E1, hI1, hC1⟩ := lp_inv (fun p (u : am_A × (Nat → Nat → Int32)) => am_fx am_P (d + 4) 274 2 [some (.ref 71), some (.ref 94), some (.ref (94 + 212 + 6 * s)), some (.int (Int32.ofNat p)), none, none, none, none] [] (am_wI u.1 u.2)) (fun p u => FnI B i u ∧ ∀ T, T < 2 ^ m → CsT 74 75 u.1 u.2 T ((skT σ.1 s m f p).1 T, (skT σ.1 s m f p).2 T)) (cn σ.1 39) (fun p u hp hI => by
    obtain ⟨hI1, hC1⟩ := hI
    obtain ⟨u', E', hI', hC'⟩ := c_offT (d := d) (m := m) (f := f) (U := skT σ.1 s m f p) (FnI_CR h hI1) hW (fun k hk => by rw [hI1.1.2.2.2.2.2.2 1 (by omega)]; exact hJ k hk) m8 hs hp hf ((hI1.2 _ _ (by omega) (by omega) (by omega)).trans e1) (fun n hn => (hI1.2 _ _ (by omega) (by omega) (by omega)).trans (e2 n hn)) hC1
    exact ⟨u', E', ⟨hI1.1.tr hI'.1, fun q k h1 h2 h3 => (hI'.2 q k h1 h2 h3).trans (hI1.2 q k h1 h2 h3)⟩, hC'⟩) (B, i) ⟨⟨Jy.rf, fun _ _ _ _ _ => rfl⟩, hC⟩
  refine ⟨s1, ?_, hI1, hC1⟩
  rw [bk_274_0]
  refine E1.trans ?_
  have hF1 : Fc s1.1 := hI1.1.fc hF
  have hY1 : Yd s1.1 94 := hI1.1.yd hY
  have e51 : s1.2 94 3 = Int32.ofNat (cn σ.1 39) := (hI1.2 _ _ (by omega) (by omega) (by omega)).trans e5
  rw [bk_274_2]
  simp (maxSteps := 1000000) (disch := omega) only [e51, hF1, hY1, y_ckd, y_ck2d, y_ond, y_onn, y_oI, y_oIx, y_oJ, y_oV, y_oVx, y_oR, y_oRn, y_oRx, y_b0, y_b1, y_bi, y_bid, y_wIK, y_wIL, y_wII, y_wIJ, y_wIR, y_wIN, y_wIw, y_sI, ↓reduceIte, Nat.reduceEqDiff, eq_self, true_or, or_true, false_or, or_false, and_true, true_and, false_and, and_false, not_true, not_false_eq_true, tf_T, tf_F, y_up1, y_up2, y_xx, y_nx, y_sJ, y_sR, Int32.reduceLT, y_nxK, y_nxL, y_nxR, y_sJK, y_sJL, y_sJR, y_sJN, y_sRK, y_sRL, y_sRN, Nat.add_zero, z_nat, z_lit, z_lit0, z_lit1, z_in0, z_in1, z_addl0, z_lt, z_ltl, z_llt, z_inj, z_injl, z_add, z_addl, z_ladd, z_mul, z_mull, z_lmul, z_neg, z_negl, z_in, z_inl, z_ltT, z_ltF, z_eqF, z_10, z_01, z_litne, z_ne0, z_0ne, z_ne1, z_1ne, z_lt64, z_02, z_03, z_04, z_05, z_12, z_13, z_14, z_15, z_20, z_21, z_23, z_24, z_25, z_30, z_31, z_32, z_34, z_35, z_40, z_41, z_42, z_43, z_45, z_50, z_51, z_52, z_53, z_54]
theorem c_least {s : Nat} {tr : Int32} (h : CR B i σ) (hW : Wd σ.1) (hJ : ∀ k, k < 8 → am_J B 1 k = p120 k) (hs : s < cn σ.1 2621) : ∃ s' : am_A × (Nat → Nat → Int32), am_fx am_P (d + 5) 271 0 [some (.ref 71), some (.ref 94), some (.int (Int32.ofNat s)), some (.int tr), none] [] (am_wI B i) = some (.inl (some (.int ((fnl σ.1 s tr).1 (2 ^ opm σ.1 s - 1)))), am_wI s'.1 s'.2) ∧ LsC B i s' ∧ s'.2 71 1 = Int32.ofNat (opm σ.1 s) ∧ (∀ n, n < opm σ.1 s → s'.2 72 n = Int32.ofNat (opf σ.1 s n)) ∧ (¬ (fnl σ.1 s tr).1 (2 ^ opm σ.1 s - 1) = -1 → am_J s'.1 75 (2 ^ opm σ.1 s - 1) = (fnl σ.1 s tr).2 (2 ^ opm σ.1 s - 1)) := by
  have hF : Fc B := h.1.1
  have hY : Yd B 94 := h.1.2.1
  have h8 := hW.1.2.2.2.1.2
  obtain ⟨m8, hf⟩ := opm_8 hW hs
  obtain ⟨p1, p2⟩ := p2_le m8
  obtain ⟨s1, E1, hB1, f1, e1, e2, hC1⟩ := c_open (d := d + 2) hF hY h.2.1 hW hs
  have hI1 : LsC B i s1 := ⟨hB1, fun q k h1 _ _ => f1 q k (by omega) (by omega) (by omega)⟩
  have h1 := LsC_CR h hI1
  have hJ1 : ∀ k, k < 8 → am_J s1.1 1 k = p120 k := fun k hk => by rw [hB1.2.2.2.2.2.2 1 (by omega)]; exact hJ k hk
  have eP := z_pow m8
  have z0 : Int32.ofNat (2 ^ opm σ.1 s) - 1 = Int32.ofNat (2 ^ opm σ.1 s - 1) := by
    rw [show (1 : Int32) = Int32.ofNat 1 from rfl, z_sub (by omega)]
  unfold fnl
  have fin : ∀ (s2 : am_A × (Nat → Nat → Int32)) (U : Cs), FnI s1.1 s1.2 s2 → (∀ T, T < 2 ^ opm σ.1 s → CsT 74 75 s2.1 s2.2 T (U.1 T, U.2 T)) → am_fx am_P (d + 5) 271 36 [some (.ref 71), none, none, none, none] [] (am_wI s2.1 s2.2) = some (.inl (some (.int (U.1 (2 ^ opm σ.1 s - 1)))), am_wI s2.1 s2.2) ∧ LsC B i s2 ∧ s2.2 71 1 = Int32.ofNat (opm σ.1 s) ∧ (∀ n, n < opm σ.1 s → s2.2 72 n = Int32.ofNat (opf σ.1 s n)) ∧ (¬ U.1 (2 ^ opm σ.1 s - 1) = -1 → am_J s2.1 75 (2 ^ opm σ.1 s - 1) = U.2 (2 ^ opm σ.1 s - 1)) := fun s2 U hI hC => by
    have hF2 : Fc s2.1 := hI.1.fc (hB1.fc hF)
    have e21 : s2.2 71 1 = Int32.ofNat (opm σ.1 s) := (hI.2 71 1 (by omega) (by omega) (by omega)).trans e1
    have hc := hC (2 ^ opm σ.1 s - 1) (by omega)
    refine ⟨?_, ⟨hB1.tr hI.1, fun q k a b c => (hI.2 q k (by omega) b c).trans (hI1.2 q k a b c)⟩, e21, fun n hn => (hI.2 _ _ (by omega) (by omega) (by omega)).trans (e2 n hn), hc.2⟩
    have ec : s2.2 74 (2 ^ opm σ.1 s - 1) = U.1 (2 ^ opm σ.1 s - 1) := hc.1
    rw [bk_271_36]
    have hK : 2 ^ opm σ.1 s - 1 < 256 := by omega
    generalize 2 ^ opm σ.1 s - 1 = K at *
    generalize opm σ.1 s = M at *
    simp (maxSteps := 1000000) (disch := omega) only [e21, eP, z0, ec, hF2, y_ckd, y_ck2d, y_ond, y_onn, y_oI, y_oIx, y_oJ, y_oV, y_oVx, y_oR, y_oRn, y_oRx, y_b0, y_b1, y_bi, y_bid, y_wIK, y_wIL, y_wII, y_wIJ, y_wIR, y_wIN, y_wIw, y_sI, ↓reduceIte, Nat.reduceEqDiff, eq_self, true_or, or_true, false_or, or_false, and_true, true_and, false_and, and_false, not_true, not_false_eq_true, tf_T, tf_F, y_up1, y_up2, y_xx, y_nx, y_sJ, y_sR, Int32.reduceLT, y_nxK, y_nxL, y_nxR, y_sJK, y_sJL, y_sJR, y_sJN, y_sRK, y_sRL, y_sRN, Nat.add_zero, z_nat, z_lit, z_lit0, z_lit1, z_in0, z_in1, z_addl0, z_lt, z_ltl, z_llt, z_inj, z_injl, z_add, z_addl, z_ladd, z_mul, z_mull, z_lmul, z_neg, z_negl, z_in, z_inl, z_ltT, z_ltF, z_eqF, z_10, z_01, z_litne, z_ne0, z_0ne, z_ne1, z_1ne, z_lt64, z_02, z_03, z_04, z_05, z_12, z_13, z_14, z_15, z_20, z_21, z_23, z_24, z_25, z_30, z_31, z_32, z_34, z_35, z_40, z_41, z_42, z_43, z_45, z_50, z_51, z_52, z_53, z_54]
  by_cases g : tr = 0
  · obtain ⟨s2, E2, hI2, hC2⟩ := c_allP (d := d) h1 hW hJ1 m8 hs hf e1 e2 fun T hT => hC1 T (by omega)
    obtain ⟨a1, a2, a3, a4, a5⟩ := fin s2 _ hI2 hC2
    rw [if_pos g]
    refine ⟨s2, ?_, a2, a3, a4, a5⟩
    rw [bk_271_0]
    have hF1 : Fc s1.1 := hB1.fc hF
    simp (maxSteps := 1000000) (disch := omega) only [E1, E2, g, hF, hF1, hY, y_ckd, y_ck2d, y_ond, y_onn, y_oI, y_oIx, y_oJ, y_oV, y_oVx, y_oR, y_oRn, y_oRx, y_b0, y_b1, y_bi, y_bid, y_wIK, y_wIL, y_wII, y_wIJ, y_wIR, y_wIN, y_wIw, y_sI, ↓reduceIte, Nat.reduceEqDiff, eq_self, true_or, or_true, false_or, or_false, and_true, true_and, false_and, and_false, not_true, not_false_eq_true, tf_T, tf_F, y_up1, y_up2, y_xx, y_nx, y_sJ, y_sR, Int32.reduceLT, y_nxK, y_nxL, y_nxR, y_sJK, y_sJL, y_sJR, y_sJN, y_sRK, y_sRL, y_sRN, Nat.add_zero, z_nat, z_lit, z_lit0, z_lit1, z_in0, z_in1, z_addl0, z_lt, z_ltl, z_llt, z_inj, z_injl, z_add, z_addl, z_ladd, z_mul, z_mull, z_lmul, z_neg, z_negl, z_in, z_inl, z_ltT, z_ltF, z_eqF, z_10, z_01, z_litne, z_ne0, z_0ne, z_ne1, z_1ne, z_lt64, z_02, z_03, z_04, z_05, z_12, z_13, z_14, z_15, z_20, z_21, z_23, z_24, z_25, z_30, z_31, z_32, z_34, z_35, z_40, z_41, z_42, z_43, z_45, z_50, z_51, z_52, z_53, z_54]
    exact a1
  · obtain ⟨s2, E2, hI2, hC2⟩ := c_allT (d := d) h1 hW hJ1 m8 hs hf e1 e2 fun T hT => hC1 T (by omega)
    obtain ⟨a1, a2, a3, a4, a5⟩ := fin s2 _ hI2 hC2
    rw [if_neg g]
    refine ⟨s2, ?_, a2, a3, a4, a5⟩
    rw [bk_271_0]
    have hF1 : Fc s1.1 := hB1.fc hF
    simp (maxSteps := 1000000) (disch := omega) only [E1, E2, g, hF, hF1, hY, y_ckd, y_ck2d, y_ond, y_onn, y_oI, y_oIx, y_oJ, y_oV, y_oVx, y_oR, y_oRn, y_oRx, y_b0, y_b1, y_bi, y_bid, y_wIK, y_wIL, y_wII, y_wIJ, y_wIR, y_wIN, y_wIw, y_sI, ↓reduceIte, Nat.reduceEqDiff, eq_self, true_or, or_true, false_or, or_false, and_true, true_and, false_and, and_false, not_true, not_false_eq_true, tf_T, tf_F, y_up1, y_up2, y_xx, y_nx, y_sJ, y_sR, Int32.reduceLT, y_nxK, y_nxL, y_nxR, y_sJK, y_sJL, y_sJR, y_sJN, y_sRK, y_sRL, y_sRN, Nat.add_zero, z_nat, z_lit, z_lit0, z_lit1, z_in0, z_in1, z_addl0, z_lt, z_ltl, z_llt, z_inj, z_injl, z_add, z_addl, z_ladd, z_mul, z_mull, z_lmul, z_neg, z_negl, z_in, z_inl, z_ltT, z_ltF, z_eqF, z_10, z_01, z_litne, z_ne0, z_0ne, z_ne1, z_1ne, z_lt64, z_02, z_03, z_04, z_05, z_12, z_13, z_14, z_15, z_20, z_21, z_23, z_24, z_25, z_30, z_31, z_32, z_34, z_35, z_40, z_41, z_42, z_43, z_45, z_50, z_51, z_52, z_53, z_54]
    exact a1
theorem p120_nz : ∀ k, k < 8 → ¬ p120 k = 0 := by decide +kernel
/-- the number that a need has in a rank -/
abbrev dgt (R : Int64) (k : Nat) : Int32 := (R / p120 k - R / p120 k / 120 * 120).toInt32
def chz (m : Nat) (f : Nat → Nat) (R : Int64) (n : Nat) : Int32 := match fst0 (fun k => decide (f k = n)) m with
  | some k => dgt R (m - 1 - k)
  | none => -1
theorem c_choose {f : Nat → Nat} {R : Int64} (hF : Fc B) (m8 : m ≤ 8) (n8 : n < 8) (hf : ∀ k, k < m → f k < 8) (hJ : ∀ k, k < 8 → am_J B 1 k = p120 k) (e1 : i 71 1 = Int32.ofNat m) (e2 : ∀ n, n < m → i 72 n = Int32.ofNat (f n)) (eR : am_J B 75 (2 ^ m - 1) = R) : am_fx am_P (d + 1) 277 0 [some (.ref 71), some (.int (Int32.ofNat n)), none, none, none] [] (am_wI B i) = some (.inl (some (.int (chz m f R n))), am_wI B i) := by
  obtain ⟨p1, p2⟩ := p2_le m8
  have eP := z_pow m8
  have z0 : Int32.ofNat (2 ^ m) - 1 = Int32.ofNat (2 ^ m - 1) := by
    rw [show (1 : Int32) = Int32.ofNat 1 from rfl, z_sub (by omega)]
  rw [bk_277_0]
  refine (lp_fst (fun k => am_fx am_P (d + 1) 277 2 [some (.ref 71), some (.int (Int32.ofNat n)), some (.int (Int32.ofNat k)), none, none] [] (am_wI B i)) (fun k => decide (f k = n)) (fun k => some (.inl (some (.int (dgt R (m - 1 - k)))), am_wI B i)) m fun k hk => ?_).trans ?_
  · have e2 := e2 k hk
    have hfk := hf k hk
    have eJ := hJ (m - 1 - k) (by omega)
    have nz := p120_nz (m - 1 - k) (by omega)
    have gx : Int32.ofNat m - 1 - Int32.ofNat k = Int32.ofNat (m - 1 - k) := by
      rw [show (1 : Int32) = Int32.ofNat 1 from rfl, z_sub (by omega), z_sub (by omega)]
    have nz2 : ¬ (120 : Int64) = 0 := by decide
    have ynl : ∀ {x : Int64} {r : am_X}, ¬ x = 0 → am_nzl x r = r := fun h => if_neg h
    rw [bk_277_2]
    have hK : 2 ^ m - 1 < 256 := by omega
    generalize 2 ^ m - 1 = K at *
    generalize 2 ^ m = K2 at *
    unfold dgt
    by_cases g : f k = n
    · rw [g] at e2
      rw [decide_eq_true g, if_pos rfl]
      simp (maxSteps := 1000000) (disch := omega) only [e1, e2, eP, z0, gx, eJ, eR, ynl nz, ynl nz2, hF, y_ckd, y_ck2d, y_ond, y_onn, y_oI, y_oIx, y_oJ, y_oV, y_oVx, y_oR, y_oRn, y_oRx, y_b0, y_b1, y_bi, y_bid, y_wIK, y_wIL, y_wII, y_wIJ, y_wIR, y_wIN, y_wIw, y_sI, ↓reduceIte, Nat.reduceEqDiff, eq_self, true_or, or_true, false_or, or_false, and_true, true_and, false_and, and_false, not_true, not_false_eq_true, tf_T, tf_F, y_up1, y_up2, y_xx, y_nx, y_sJ, y_sR, Int32.reduceLT, y_nxK, y_nxL, y_nxR, y_sJK, y_sJL, y_sJR, y_sJN, y_sRK, y_sRL, y_sRN, Nat.add_zero, z_nat, z_lit, z_lit0, z_lit1, z_in0, z_in1, z_addl0, z_lt, z_ltl, z_llt, z_inj, z_injl, z_add, z_addl, z_ladd, z_mul, z_mull, z_lmul, z_neg, z_negl, z_in, z_inl, z_ltT, z_ltF, z_eqF, z_10, z_01, z_litne, z_ne0, z_0ne, z_ne1, z_1ne, z_lt64, z_02, z_03, z_04, z_05, z_12, z_13, z_14, z_15, z_20, z_21, z_23, z_24, z_25, z_30, z_31, z_32, z_34, z_35, z_40, z_41, z_42, z_43, z_45, z_50, z_51, z_52, z_53, z_54]
    · rw [decide_eq_false g, if_neg (show ¬ (false = true) by decide)]
      simp (maxSteps := 1000000) (disch := omega) only [e1, e2, g, hF, y_ckd, y_ck2d, y_ond, y_onn, y_oI, y_oIx, y_oJ, y_oV, y_oVx, y_oR, y_oRn, y_oRx, y_b0, y_b1, y_bi, y_bid, y_wIK, y_wIL, y_wII, y_wIJ, y_wIR, y_wIN, y_wIw, y_sI, ↓reduceIte, Nat.reduceEqDiff, eq_self, true_or, or_true, false_or, or_false, and_true, true_and, false_and, and_false, not_true, not_false_eq_true, tf_T, tf_F, y_up1, y_up2, y_xx, y_nx, y_sJ, y_sR, Int32.reduceLT, y_nxK, y_nxL, y_nxR, y_sJK, y_sJL, y_sJR, y_sJN, y_sRK, y_sRL, y_sRN, Nat.add_zero, z_nat, z_lit, z_lit0, z_lit1, z_in0, z_in1, z_addl0, z_lt, z_ltl, z_llt, z_inj, z_injl, z_add, z_addl, z_ladd, z_mul, z_mull, z_lmul, z_neg, z_negl, z_in, z_inl, z_ltT, z_ltF, z_eqF, z_10, z_01, z_litne, z_ne0, z_0ne, z_ne1, z_1ne, z_lt64, z_02, z_03, z_04, z_05, z_12, z_13, z_14, z_15, z_20, z_21, z_23, z_24, z_25, z_30, z_31, z_32, z_34, z_35, z_40, z_41, z_42, z_43, z_45, z_50, z_51, z_52, z_53, z_54]
  · unfold chz
    cases fst0 (fun k => decide (f k = n)) m with
    | some k => rfl
    | none =>
      show am_fx am_P (d + 1) 277 2 [some (.ref 71), some (.int (Int32.ofNat n)), some (.int (Int32.ofNat m)), none, none] [] (am_wI B i) = _
      rw [bk_277_2]
      simp (maxSteps := 1000000) (disch := omega) only [e1, hF, y_ckd, y_ck2d, y_ond, y_onn, y_oI, y_oIx, y_oJ, y_oV, y_oVx, y_oR, y_oRn, y_oRx, y_b0, y_b1, y_bi, y_bid, y_wIK, y_wIL, y_wII, y_wIJ, y_wIR, y_wIN, y_wIw, y_sI, ↓reduceIte, Nat.reduceEqDiff, eq_self, true_or, or_true, false_or, or_false, and_true, true_and, false_and, and_false, not_true, not_false_eq_true, tf_T, tf_F, y_up1, y_up2, y_xx, y_nx, y_sJ, y_sR, Int32.reduceLT, y_nxK, y_nxL, y_nxR, y_sJK, y_sJL, y_sJR, y_sJN, y_sRK, y_sRL, y_sRN, Nat.add_zero, z_nat, z_lit, z_lit0, z_lit1, z_in0, z_in1, z_addl0, z_lt, z_ltl, z_llt, z_inj, z_injl, z_add, z_addl, z_ladd, z_mul, z_mull, z_lmul, z_neg, z_negl, z_in, z_inl, z_ltT, z_ltF, z_eqF, z_10, z_01, z_litne, z_ne0, z_0ne, z_ne1, z_1ne, z_lt64, z_02, z_03, z_04, z_05, z_12, z_13, z_14, z_15, z_20, z_21, z_23, z_24, z_25, z_30, z_31, z_32, z_34, z_35, z_40, z_41, z_42, z_43, z_45, z_50, z_51, z_52, z_53, z_54]
theorem f_waste_x0 (h : CR B i σ) (g : ¬ (¬ x < 0 ∧ x < σ.1 2621)) : FRs B i σ (am_fx am_P (d + 150) 312 0 [some (.ref 64), some (.int x), some (.int y)] [] (am_wI B i)) (.inr 1) := by
  refine FRs_x h ?_
  have hF : Fc B := h.1.1
  have hY : Yd B 94 := h.1.2.1
  have r8 := h.2.1.2.2.2.1.1
  rw [bk_312_0]
  simp (disch := omega) only [c_ckI0 g, r8, hF, hY, y_ckd, y_ck2d, y_ond, y_onn, y_oI, y_oIx, y_oJ, y_oV, y_oVx, y_oR, y_oRn, y_oRx, y_b0, y_b1, y_bi, y_bid, y_wIK, y_wIL, y_wII, y_wIJ, y_wIR, y_wIN, y_wIw, y_sI, ↓reduceIte, Nat.reduceEqDiff, eq_self, true_or, or_true, false_or, or_false, and_true, true_and, false_and, and_false, not_true, not_false_eq_true, tf_T, tf_F, y_up1, y_up2, y_xx, y_nx, y_sJ, y_sR, Int32.reduceLT, y_nxK, y_nxL, y_nxR, y_sJK, y_sJL, y_sJR, y_sJN, y_sRK, y_sRL, y_sRN, Nat.add_zero, z_nat, z_lit, z_lit0, z_lit1, z_in0, z_in1, z_addl0, z_lt, z_ltl, z_llt, z_inj, z_injl, z_add, z_addl, z_ladd, z_mul, z_mull, z_lmul, z_neg, z_negl, z_in, z_inl, z_ltT, z_ltF, z_eqF, z_10, z_01, z_litne, z_ne0, z_0ne, z_ne1, z_1ne, z_lt64, z_02, z_03, z_04, z_05, z_12, z_13, z_14, z_15, z_20, z_21, z_23, z_24, z_25, z_30, z_31, z_32, z_34, z_35, z_40, z_41, z_42, z_43, z_45, z_50, z_51, z_52, z_53, z_54]
theorem f_waste {s : Nat} {tr : Int32} (h : CR B i σ) (hW : Wd σ.1) (hJ : ∀ k, k < 8 → am_J B 1 k = p120 k) (hs : s < cn σ.1 2621) : FRs B i σ (am_fx am_P (d + 150) 312 0 [some (.ref 64), some (.int (Int32.ofNat s)), some (.int tr)] [] (am_wI B i)) (.inl (some (.int ((fnl σ.1 s tr).1 (2 ^ opm σ.1 s - 1))))) := by
  have hF : Fc B := h.1.1
  have hY : Yd B 94 := h.1.2.1
  have r8 := h.2.1.2.2.2.1.1
  obtain ⟨s1, E1, hI1, -⟩ := c_least (d := d + 144) (tr := tr) h hW hJ hs
  refine FRs_j h ?_ hI1.1 fun q k a _ b c _ _ => hI1.2 q k a b c
  rw [bk_312_0]
  simp (disch := omega) only [c_ckI1 (ck_nat hW.1.2.2.2.1 (by omega) hs), r8, E1, hF, hY, y_ckd, y_ck2d, y_ond, y_onn, y_oI, y_oIx, y_oJ, y_oV, y_oVx, y_oR, y_oRn, y_oRx, y_b0, y_b1, y_bi, y_bid, y_wIK, y_wIL, y_wII, y_wIJ, y_wIR, y_wIN, y_wIw, y_sI, ↓reduceIte, Nat.reduceEqDiff, eq_self, true_or, or_true, false_or, or_false, and_true, true_and, false_and, and_false, not_true, not_false_eq_true, tf_T, tf_F, y_up1, y_up2, y_xx, y_nx, y_sJ, y_sR, Int32.reduceLT, y_nxK, y_nxL, y_nxR, y_sJK, y_sJL, y_sJR, y_sJN, y_sRK, y_sRL, y_sRN, Nat.add_zero, z_nat, z_lit, z_lit0, z_lit1, z_in0, z_in1, z_addl0, z_lt, z_ltl, z_llt, z_inj, z_injl, z_add, z_addl, z_ladd, z_mul, z_mull, z_lmul, z_neg, z_negl, z_in, z_inl, z_ltT, z_ltF, z_eqF, z_10, z_01, z_litne, z_ne0, z_0ne, z_ne1, z_1ne, z_lt64, z_02, z_03, z_04, z_05, z_12, z_13, z_14, z_15, z_20, z_21, z_23, z_24, z_25, z_30, z_31, z_32, z_34, z_35, z_40, z_41, z_42, z_43, z_45, z_50, z_51, z_52, z_53, z_54]
theorem f_which_x0 (h : CR B i σ) (g : ¬ (¬ x < 0 ∧ x < σ.1 2621)) : FRs B i σ (am_fx am_P (d + 150) 313 0 [some (.ref 64), some (.int x), some (.int y), some (.int z)] [] (am_wI B i)) (.inr 1) := by
  refine FRs_x h ?_
  have hF : Fc B := h.1.1
  have hY : Yd B 94 := h.1.2.1
  rw [bk_313_0]
  simp (disch := omega) only [c_shN0 hF hY h.2.1.2.2.2.1.1 g, hF, hY, y_ckd, y_ck2d, y_ond, y_onn, y_oI, y_oIx, y_oJ, y_oV, y_oVx, y_oR, y_oRn, y_oRx, y_b0, y_b1, y_bi, y_bid, y_wIK, y_wIL, y_wII, y_wIJ, y_wIR, y_wIN, y_wIw, y_sI, ↓reduceIte, Nat.reduceEqDiff, eq_self, true_or, or_true, false_or, or_false, and_true, true_and, false_and, and_false, not_true, not_false_eq_true, tf_T, tf_F, y_up1, y_up2, y_xx, y_nx, y_sJ, y_sR, Int32.reduceLT, y_nxK, y_nxL, y_nxR, y_sJK, y_sJL, y_sJR, y_sJN, y_sRK, y_sRL, y_sRN, Nat.add_zero, z_nat, z_lit, z_lit0, z_lit1, z_in0, z_in1, z_addl0, z_lt, z_ltl, z_llt, z_inj, z_injl, z_add, z_addl, z_ladd, z_mul, z_mull, z_lmul, z_neg, z_negl, z_in, z_inl, z_ltT, z_ltF, z_eqF, z_10, z_01, z_litne, z_ne0, z_0ne, z_ne1, z_1ne, z_lt64, z_02, z_03, z_04, z_05, z_12, z_13, z_14, z_15, z_20, z_21, z_23, z_24, z_25, z_30, z_31, z_32, z_34, z_35, z_40, z_41, z_42, z_43, z_45, z_50, z_51, z_52, z_53, z_54]
theorem f_which_x1 {s : Nat} {tr : Int32} (h : CR B i σ) (hW : Wd σ.1) (hs : s < cn σ.1 2621) (g : ¬ (¬ y < 0 ∧ y < σ.1 (2622 + 49 * s + 8))) : FRs B i σ (am_fx am_P (d + 150) 313 0 [some (.ref 64), some (.int (Int32.ofNat s)), some (.int y), some (.int tr)] [] (am_wI B i)) (.inr 1) := by
  refine FRs_x h ?_
  have hF : Fc B := h.1.1
  have hY : Yd B 94 := h.1.2.1
  have hc := hW.1.2.2.2.1
  have h8 := hc.2
  have a9 := (h.2.1.2.2.2.1.2 s hs (by omega)).2.2.2.2.2.2.2.2.1
  rw [bk_313_0]
  simp (disch := omega) only [c_shN hF hY h.2.1.2.2.2.1.1 hc hs, a9, c_ckI0 g, hF, hY, y_ckd, y_ck2d, y_ond, y_onn, y_oI, y_oIx, y_oJ, y_oV, y_oVx, y_oR, y_oRn, y_oRx, y_b0, y_b1, y_bi, y_bid, y_wIK, y_wIL, y_wII, y_wIJ, y_wIR, y_wIN, y_wIw, y_sI, ↓reduceIte, Nat.reduceEqDiff, eq_self, true_or, or_true, false_or, or_false, and_true, true_and, false_and, and_false, not_true, not_false_eq_true, tf_T, tf_F, y_up1, y_up2, y_xx, y_nx, y_sJ, y_sR, Int32.reduceLT, y_nxK, y_nxL, y_nxR, y_sJK, y_sJL, y_sJR, y_sJN, y_sRK, y_sRL, y_sRN, Nat.add_zero, z_nat, z_lit, z_lit0, z_lit1, z_in0, z_in1, z_addl0, z_lt, z_ltl, z_llt, z_inj, z_injl, z_add, z_addl, z_ladd, z_mul, z_mull, z_lmul, z_neg, z_negl, z_in, z_inl, z_ltT, z_ltF, z_eqF, z_10, z_01, z_litne, z_ne0, z_0ne, z_ne1, z_1ne, z_lt64, z_02, z_03, z_04, z_05, z_12, z_13, z_14, z_15, z_20, z_21, z_23, z_24, z_25, z_30, z_31, z_32, z_34, z_35, z_40, z_41, z_42, z_43, z_45, z_50, z_51, z_52, z_53, z_54]
/-- which piece or tree a need has -/
def whz (w : Nat → Int32) (s : Nat) (tr : Int32) (n : Nat) : Int32 := if (fnl w s tr).1 (2 ^ opm w s - 1) = -1 then -1 else chz (opm w s) (opf w s) ((fnl w s tr).2 (2 ^ opm w s - 1)) n
theorem f_which {s n : Nat} {tr : Int32} (h : CR B i σ) (hW : Wd σ.1) (hJ : ∀ k, k < 8 → am_J B 1 k = p120 k) (hs : s < cn σ.1 2621) (hn : n < cn σ.1 (2622 + 49 * s + 8)) : FRs B i σ (am_fx am_P (d + 150) 313 0 [some (.ref 64), some (.int (Int32.ofNat s)), some (.int (Int32.ofNat n)), some (.int tr)] [] (am_wI B i)) (.inl (some (.int (whz σ.1 s tr n)))) := by
  have hF : Fc B := h.1.1
  have hY : Yd B 94 := h.1.2.1
  have hc := hW.1.2.2.2.1
  have h8 := hc.2
  obtain ⟨-, -, -, -, -, -, -, hnc, -⟩ := hW.2.2.2.2.1.1 s hs (by omega)
  have n8 := hnc.2
  obtain ⟨m8, hf⟩ := opm_8 hW hs
  have a9 := (h.2.1.2.2.2.1.2 s hs (by omega)).2.2.2.2.2.2.2.2.1
  obtain ⟨s1, E1, hI1, e1, e2, eR⟩ := c_least (d := d + 144) (tr := tr) h hW hJ hs
  have hF1 : Fc s1.1 := hI1.1.fc hF
  refine FRs_j h ?_ hI1.1 fun q k a _ b c _ _ => hI1.2 q k a b c
  unfold whz
  rw [bk_313_0]
  by_cases g : (fnl σ.1 s tr).1 (2 ^ opm σ.1 s - 1) = -1
  · rw [g] at E1
    rw [if_pos g]
    simp (disch := omega) only [c_shN hF hY h.2.1.2.2.2.1.1 hc hs, a9, c_ckI1 (ck_nat hnc (by omega) hn), E1, hF, hY, y_ckd, y_ck2d, y_ond, y_onn, y_oI, y_oIx, y_oJ, y_oV, y_oVx, y_oR, y_oRn, y_oRx, y_b0, y_b1, y_bi, y_bid, y_wIK, y_wIL, y_wII, y_wIJ, y_wIR, y_wIN, y_wIw, y_sI, ↓reduceIte, Nat.reduceEqDiff, eq_self, true_or, or_true, false_or, or_false, and_true, true_and, false_and, and_false, not_true, not_false_eq_true, tf_T, tf_F, y_up1, y_up2, y_xx, y_nx, y_sJ, y_sR, Int32.reduceLT, y_nxK, y_nxL, y_nxR, y_sJK, y_sJL, y_sJR, y_sJN, y_sRK, y_sRL, y_sRN, Nat.add_zero, z_nat, z_lit, z_lit0, z_lit1, z_in0, z_in1, z_addl0, z_lt, z_ltl, z_llt, z_inj, z_injl, z_add, z_addl, z_ladd, z_mul, z_mull, z_lmul, z_neg, z_negl, z_in, z_inl, z_ltT, z_ltF, z_eqF, z_10, z_01, z_litne, z_ne0, z_0ne, z_ne1, z_1ne, z_lt64, z_02, z_03, z_04, z_05, z_12, z_13, z_14, z_15, z_20, z_21, z_23, z_24, z_25, z_30, z_31, z_32, z_34, z_35, z_40, z_41, z_42, z_43, z_45, z_50, z_51, z_52, z_53, z_54]
  · rw [if_neg g]
    have E2 := c_choose (B := s1.1) (i := s1.2) (d := d + 148) (n := n) hF1 m8 (by omega) (fun k hk => by have := hf k hk; omega) (fun k hk => by rw [hI1.1.2.2.2.2.2.2 1 (by omega)]; exact hJ k hk) e1 e2 (eR g)
    simp (disch := omega) only [c_shN hF hY h.2.1.2.2.2.1.1 hc hs, a9, c_ckI1 (ck_nat hnc (by omega) hn), E1, E2, g, hF, hF1, hY, y_ckd, y_ck2d, y_ond, y_onn, y_oI, y_oIx, y_oJ, y_oV, y_oVx, y_oR, y_oRn, y_oRx, y_b0, y_b1, y_bi, y_bid, y_wIK, y_wIL, y_wII, y_wIJ, y_wIR, y_wIN, y_wIw, y_sI, ↓reduceIte, Nat.reduceEqDiff, eq_self, true_or, or_true, false_or, or_false, and_true, true_and, false_and, and_false, not_true, not_false_eq_true, tf_T, tf_F, y_up1, y_up2, y_xx, y_nx, y_sJ, y_sR, Int32.reduceLT, y_nxK, y_nxL, y_nxR, y_sJK, y_sJL, y_sJR, y_sJN, y_sRK, y_sRL, y_sRN, Nat.add_zero, z_nat, z_lit, z_lit0, z_lit1, z_in0, z_in1, z_addl0, z_lt, z_ltl, z_llt, z_inj, z_injl, z_add, z_addl, z_ladd, z_mul, z_mull, z_lmul, z_neg, z_negl, z_in, z_inl, z_ltT, z_ltF, z_eqF, z_10, z_01, z_litne, z_ne0, z_0ne, z_ne1, z_1ne, z_lt64, z_02, z_03, z_04, z_05, z_12, z_13, z_14, z_15, z_20, z_21, z_23, z_24, z_25, z_30, z_31, z_32, z_34, z_35, z_40, z_41, z_42, z_43, z_45, z_50, z_51, z_52, z_53, z_54]
end LeastE
