/-! THE LEAST WASTE: the class goes through the pieces. Made by wip/whole/math/892.py. -/
section LeastC
variable {B B1 : am_A} {i i1 : Nat → Nat → Int32} {σ σ' : Sg} {w : Nat → Int32} {L j d b m n T : Nat} {x y z : Int32}
/-- the needs of a ship that are not fit -/
abbrev fop (w : Nat → Int32) (s k : Nat) (a : Nat × (Nat → Nat)) : Nat × (Nat → Nat) := if w (2622 + 49 * s + 9 + 5 * k + 4) = -1 then (a.1 + 1, fun j => if j = a.1 then k else a.2 j) else a
def opn (w : Nat → Int32) (s n : Nat) : Nat × (Nat → Nat) := itr (fop w s) n (0, fun _ => 0)
theorem opn_s {s n : Nat} : opn w s (n + 1) = fop w s n (opn w s n) := rfl
theorem opn_le {s : Nat} : ∀ n, (opn w s n).1 ≤ n ∧ ∀ j, j < (opn w s n).1 → (opn w s n).2 j < n
  | 0 => ⟨Nat.le_refl _, fun j h => absurd h (Nat.not_lt_zero j)⟩
  | n + 1 => by
    obtain ⟨h1, h2⟩ := opn_le (s := s) n
    rw [opn_s]
    unfold fop
    by_cases g : w (2622 + 49 * s + 9 + 5 * n + 4) = -1
    · rw [if_pos g]
      refine ⟨Nat.succ_le_succ h1, fun j hj => ?_⟩
      show (if j = (opn w s n).1 then n else (opn w s n).2 j) < n + 1
      have hj : j < (opn w s n).1 + 1 := hj
      by_cases e : j = (opn w s n).1
      · rw [if_pos e]
        omega
      · rw [if_neg e]
        have := h2 j (by omega)
        omega
    · rw [if_neg g]
      exact ⟨by omega, fun j hj => by have := h2 j hj; omega⟩
abbrev U0 : Cs := (fun T => if T = 0 then 0 else -1, fun _ => 0)
theorem U0_sm : Csm U0 m := fun T _ => by
  by_cases g : T = 0
  · exact Or.inr ⟨0, by show (if T = 0 then (0 : Int32) else -1) = _; rw [if_pos g]; rfl, by omega⟩
  · exact Or.inl (if_neg g)
theorem c_open {s : Nat} (hF : Fc B) (hY : Yd B 94) (hR : Rep B i 94 w) (hW : Wd w) (hs : s < cn w 2621) : ∃ s' : am_A × (Nat → Nat → Int32), am_fx am_P (d + 2) 272 0 [some (.ref 71), some (.ref (94 + 212 + 6 * s)), none] [] (am_wI B i) = some (.inl none, am_wI s'.1 s'.2) ∧ Jy 75 B s'.1 ∧ (∀ q k, q ≠ 71 → q ≠ 72 → q ≠ 74 → s'.2 q k = i q k) ∧ s'.2 71 1 = Int32.ofNat (opn w s (cn w (2622 + 49 * s + 8))).1 ∧ (∀ j, j < (opn w s (cn w (2622 + 49 * s + 8))).1 → s'.2 72 j = Int32.ofNat ((opn w s (cn w (2622 + 49 * s + 8))).2 j)) ∧ ∀ T, T < 256 → CsT 74 75 s'.1 s'.2 T (U0.1 T, U0.2 T) := by
  have hc := hW.1.2.2.2.1
  have h8 := hc.2
  obtain ⟨-, -, -, -, -, -, -, hnc, -⟩ := hW.2.2.2.2.1.1 s hs (by omega)
  have n8 := hnc.2
  have hRS := hR.2.2.2.1
  generalize hN : cn w (2622 + 49 * s + 8) = N at *
  obtain ⟨j1, E, hj1, hj2, hf⟩ := lp_inv (fun k j => am_fx am_P (d + 2) 272 7 [some (.ref 71), some (.ref (94 + 212 + 6 * s)), some (.int (Int32.ofNat k))] [] (am_wI B j)) (fun k j => j 71 1 = Int32.ofNat (opn w s k).1 ∧ (∀ m, m < (opn w s k).1 → j 72 m = Int32.ofNat ((opn w s k).2 m)) ∧ ∀ q k, q ≠ 71 → q ≠ 72 → j q k = i q k) N (fun k j hk hI => by
    obtain ⟨e1, e2, hf⟩ := hI
    have hSj : RS j 94 w := RS_fr hRS (fun q k hq => hf q k (by omega) (by omega)) fun _ _ => rfl
    have a9 : j (94 + 212 + 6 * s) 8 = Int32.ofNat N := by
      have := (hSj.2 s hs (by omega)).2.2.2.2.2.2.2.2.1
      rw [this, hnc.1, hN]
    have ep := c_pieceOf (d := d) (n := k) hY hSj hc hs (by rw [← hN] at n8; exact ⟨hnc.1.trans (by rw [hN]), by rw [hN]; omega⟩) (by rw [hN]; exact hk)
    obtain ⟨l1, -⟩ := opn_le (w := w) (s := s) k
    rw [opn_s]
    unfold fop
    generalize opn w s k = a at *
    obtain ⟨c, f⟩ := a
    have e1 : j 71 1 = Int32.ofNat c := e1
    have e2 : ∀ m, m < c → j 72 m = Int32.ofNat (f m) := e2
    have l1 : c ≤ k := l1
    by_cases g : w (2622 + 49 * s + 9 + 5 * k + 4) = -1
    · rw [if_pos g]
      rw [g] at ep
      refine ⟨am_up2 (am_up2 j 72 c (Int32.ofNat k)) 71 1 (Int32.ofNat (c + 1)), ?_, y_up1 rfl rfl, fun m hm => ?_, fun q k h1 h2 => by rw [y_up2 (Or.inl h1), y_up2 (Or.inl h2)]; exact hf q k h1 h2⟩
      · rw [bk_272_7]
        simp (maxSteps := 1000000) (disch := omega) only [ep, a9, e1, (fun d x0 x1 x2 B i => bk_272_53 d x0 x1 x2 (am_wI B i)), hF, hY, y_ckd, y_ck2d, y_ond, y_onn, y_oI, y_oIx, y_oJ, y_oV, y_oVx, y_oR, y_oRn, y_oRx, y_b0, y_b1, y_bi, y_bid, y_wIK, y_wIL, y_wII, y_wIJ, y_wIR, y_wIN, y_wIw, y_sI, ↓reduceIte, Nat.reduceEqDiff, eq_self, true_or, or_true, false_or, or_false, and_true, true_and, false_and, and_false, not_true, not_false_eq_true, tf_T, tf_F, y_up1, y_up2, y_xx, y_nx, y_sJ, y_sR, Int32.reduceLT, y_nxK, y_nxL, y_nxR, y_sJK, y_sJL, y_sJR, y_sJN, y_sRK, y_sRL, y_sRN, Nat.add_zero, z_nat, z_lit, z_lit0, z_lit1, z_in0, z_in1, z_addl0, z_lt, z_ltl, z_llt, z_inj, z_injl, z_add, z_addl, z_ladd, z_mul, z_mull, z_lmul, z_neg, z_negl, z_in, z_inl, z_ltT, z_ltF, z_eqF, z_10, z_01, z_litne, z_ne0, z_0ne, z_ne1, z_1ne, z_lt64, z_02, z_03, z_04, z_05, z_12, z_13, z_14, z_15, z_20, z_21, z_23, z_24, z_25, z_30, z_31, z_32, z_34, z_35, z_40, z_41, z_42, z_43, z_45, z_50, z_51, z_52, z_53, z_54]
      · have hm : m < c + 1 := hm
        show _ = Int32.ofNat (if m = c then k else f m)
        rw [y_up2 (by omega)]
        by_cases e : m = c
        · rw [y_up1 rfl e, if_pos e]
        · rw [y_up2 (by omega), if_neg e]
          exact e2 m (by omega)
    · rw [if_neg g]
      refine ⟨j, ?_, e1, e2, hf⟩
      rw [bk_272_7]
      simp (maxSteps := 1000000) (disch := omega) only [ep, a9, e1, g, (fun d x0 x1 x2 B i => bk_272_53 d x0 x1 x2 (am_wI B i)), hF, hY, y_ckd, y_ck2d, y_ond, y_onn, y_oI, y_oIx, y_oJ, y_oV, y_oVx, y_oR, y_oRn, y_oRx, y_b0, y_b1, y_bi, y_bid, y_wIK, y_wIL, y_wII, y_wIJ, y_wIR, y_wIN, y_wIw, y_sI, ↓reduceIte, Nat.reduceEqDiff, eq_self, true_or, or_true, false_or, or_false, and_true, true_and, false_and, and_false, not_true, not_false_eq_true, tf_T, tf_F, y_up1, y_up2, y_xx, y_nx, y_sJ, y_sR, Int32.reduceLT, y_nxK, y_nxL, y_nxR, y_sJK, y_sJL, y_sJR, y_sJN, y_sRK, y_sRL, y_sRN, Nat.add_zero, z_nat, z_lit, z_lit0, z_lit1, z_in0, z_in1, z_addl0, z_lt, z_ltl, z_llt, z_inj, z_injl, z_add, z_addl, z_ladd, z_mul, z_mull, z_lmul, z_neg, z_negl, z_in, z_inl, z_ltT, z_ltF, z_eqF, z_10, z_01, z_litne, z_ne0, z_0ne, z_ne1, z_1ne, z_lt64, z_02, z_03, z_04, z_05, z_12, z_13, z_14, z_15, z_20, z_21, z_23, z_24, z_25, z_30, z_31, z_32, z_34, z_35, z_40, z_41, z_42, z_43, z_45, z_50, z_51, z_52, z_53, z_54]) (am_up2 i 71 1 0) ⟨y_up1 rfl rfl, fun m hm => absurd hm (Nat.not_lt_zero _), fun q k h1 _ => y_up2 (Or.inl h1)⟩
  have a9 : j1 (94 + 212 + 6 * s) 8 = Int32.ofNat N := by
    have := (hRS.2 s hs (by omega)).2.2.2.2.2.2.2.2.1
    rw [hf _ _ (by omega) (by omega), this, hnc.1, hN]
  obtain ⟨j2, E2, hz, hf2⟩ := c_fill (q := 74) (n := 256) (v := -1) (i := j1) (d := d + 1) (B := B) (by simp only [hF]) (by simp only [hF]) (by omega)
  refine ⟨(am_sJ B 75 0 0, am_up2 j2 74 0 0), ?_, Jy.sJ, fun q k h1 h2 h3 => by show am_up2 j2 74 0 0 q k = _; rw [y_up2 (Or.inl h3), hf2 _ _ h3]; exact hf q k h1 h2, ?_, fun m hm => ?_, fun T hT => ⟨?_, fun g => ?_⟩⟩
  · rw [bk_272_0]
    simp (maxSteps := 1000000) (disch := omega) only [hF, y_ckd, y_ck2d, y_ond, y_onn, y_oI, y_oIx, y_oJ, y_oV, y_oVx, y_oR, y_oRn, y_oRx, y_b0, y_b1, y_bi, y_bid, y_wIK, y_wIL, y_wII, y_wIJ, y_wIR, y_wIN, y_wIw, y_sI, ↓reduceIte, Nat.reduceEqDiff, eq_self, true_or, or_true, false_or, or_false, and_true, true_and, false_and, and_false, not_true, not_false_eq_true, tf_T, tf_F, y_up1, y_up2, y_xx, y_nx, y_sJ, y_sR, Int32.reduceLT, y_nxK, y_nxL, y_nxR, y_sJK, y_sJL, y_sJR, y_sJN, y_sRK, y_sRL, y_sRN]
    refine E.trans ?_
    rw [bk_272_7]
    simp (maxSteps := 1000000) (disch := omega) only [a9, (fun d x0 B i => bk_272_59 d x0 (am_wI B i)), (fun d B i => bk_272_81 d (am_wI B i)), E2, hF, hY, y_ckd, y_ck2d, y_ond, y_onn, y_oI, y_oIx, y_oJ, y_oV, y_oVx, y_oR, y_oRn, y_oRx, y_b0, y_b1, y_bi, y_bid, y_wIK, y_wIL, y_wII, y_wIJ, y_wIR, y_wIN, y_wIw, y_sI, ↓reduceIte, Nat.reduceEqDiff, eq_self, true_or, or_true, false_or, or_false, and_true, true_and, false_and, and_false, not_true, not_false_eq_true, tf_T, tf_F, y_up1, y_up2, y_xx, y_nx, y_sJ, y_sR, Int32.reduceLT, y_nxK, y_nxL, y_nxR, y_sJK, y_sJL, y_sJR, y_sJN, y_sRK, y_sRL, y_sRN, Nat.add_zero, z_nat, z_lit, z_lit0, z_lit1, z_in0, z_in1, z_addl0, z_lt, z_ltl, z_llt, z_inj, z_injl, z_add, z_addl, z_ladd, z_mul, z_mull, z_lmul, z_neg, z_negl, z_in, z_inl, z_ltT, z_ltF, z_eqF, z_10, z_01, z_litne, z_ne0, z_0ne, z_ne1, z_1ne, z_lt64, z_02, z_03, z_04, z_05, z_12, z_13, z_14, z_15, z_20, z_21, z_23, z_24, z_25, z_30, z_31, z_32, z_34, z_35, z_40, z_41, z_42, z_43, z_45, z_50, z_51, z_52, z_53, z_54]
  · show am_up2 j2 74 0 0 71 1 = _
    rw [y_up2 (by omega), hf2 _ _ (by omega)]
    exact hj1
  · show am_up2 j2 74 0 0 72 m = _
    rw [y_up2 (by omega), hf2 _ _ (by omega)]
    exact hj2 m hm
  · show am_up2 j2 74 0 0 74 T = if T = 0 then 0 else -1
    by_cases e : T = 0
    · rw [y_up1 rfl e, if_pos e]
    · rw [y_up2 (Or.inr e), if_neg e]
      exact hz T hT
  · by_cases e : T = 0
    · exact y_up1 rfl e
    · exact absurd (if_neg e) g
/-- what a piece is for the needs of a list; what all pieces together make of the sets -/
abbrev wdP (w : Nat → Int32) (s : Nat) (f : Nat → Nat) (p n : Nat) : Int32 := if eno w s (f n) p then wst w s (f n) p else -1
abbrev ofdP (w : Nat → Int32) (s : Nat) (t : Option Nat) (p : Nat) : Prop := w (461 + 18 * p + 1) = 2 ∧ ¬ whT w p s t = -1
abbrev fskP (w : Nat → Int32) (s : Nat) (t : Option Nat) (m : Nat) (f : Nat → Nat) (p : Nat) (U : Cs) : Cs := if ofdP w s t p then nwc (wdP w s f p) (rkx p m) m U else U
def skP (w : Nat → Int32) (s : Nat) (t : Option Nat) (m : Nat) (f : Nat → Nat) (n : Nat) : Cs := itr (fskP w s t m f) n U0
theorem skP_s {s : Nat} {t : Option Nat} {f : Nat → Nat} : skP w s t m f (n + 1) = fskP w s t m f n (skP w s t m f n) := rfl
theorem wst_nn {s n p : Nat} (hW : Wd w) (hs : s < cn w 2621) (s8 : s < 8) (hn : n < cn w (2622 + 49 * s + 8)) (n8 : n < 8) (hp : p < cn w 460) (p120 : p < 120) (g : eno w s n p) : ∃ v, wst w s n p = Int32.ofNat v ∧ v ≤ 13000 := by
  obtain ⟨⟨a1, a2, a3, a4⟩, -, -, ⟨c1, c2⟩, -⟩ := hW.2.2.2.1.1 p hp p120
  obtain ⟨⟨z1, z2⟩, z3, z4⟩ := hW.2.2.2.2.2.2.2.2.2.1.2.1 s hs s8 n hn n8
  obtain ⟨-, g1, g2, -⟩ := g
  have e2 : (w (461 + 18 * p + 2)).toInt = (cn w (461 + 18 * p + 2) : Int) := by
    rw [a1]
    rw [show cn w (461 + 18 * p + 2) = cn w (461 + 18 * p + 2) from rfl]
    exact z_toInt (by omega)
  rw [Int32.lt_iff_toInt_lt] at c1 c2 z1 z2 z3 z4 g1 g2
  have k0 : (0 : Int32).toInt = 0 := by decide
  have k1 : (1 : Int32).toInt = 1 := by decide
  have k61 : (61 : Int32).toInt = 61 := by decide
  have k301 : (301 : Int32).toInt = 301 := by decide
  have f1 := z_bm (x := w (461 + 18 * p + 2)) (y := w (2622 + 49 * s + 9 + 5 * n + 1)) (by omega) (by omega)
  have f2 := z_bp (x := w (461 + 18 * p + 2) - w (2622 + 49 * s + 9 + 5 * n + 1)) (y := w (461 + 18 * p + 3)) (by omega) (by omega) (by omega)
  have f3 := z_bm (x := w (461 + 18 * p + 2) - w (2622 + 49 * s + 9 + 5 * n + 1) + w (461 + 18 * p + 3)) (y := w (2622 + 49 * s + 9 + 5 * n + 2)) (by omega) (by omega)
  show ∃ v, w (461 + 18 * p + 2) - w (2622 + 49 * s + 9 + 5 * n + 1) + w (461 + 18 * p + 3) - w (2622 + 49 * s + 9 + 5 * n + 2) = Int32.ofNat v ∧ v ≤ 13000
  generalize w (461 + 18 * p + 2) - w (2622 + 49 * s + 9 + 5 * n + 1) + w (461 + 18 * p + 3) - w (2622 + 49 * s + 9 + 5 * n + 2) = V at *
  refine ⟨V.toInt.toNat, Int32.toInt_inj.mp ?_, by omega⟩
  rw [z_toInt (by omega)]
  omega
theorem wdP_sm {s p : Nat} {f : Nat → Nat} (hW : Wd w) (hs : s < cn w 2621) (hp : p < cn w 460) (hf : ∀ n, n < m → f n < cn w (2622 + 49 * s + 8)) : ∀ n, n < m → wdP w s f p n = -1 ∨ ∃ v, wdP w s f p n = Int32.ofNat v ∧ v ≤ 13000 := fun n hn => by
  have h2 := hW.1.2.2.2.1.2
  have h3 := hW.1.2.2.1.2
  obtain ⟨-, -, -, -, -, -, -, hnc, -⟩ := hW.2.2.2.2.1.1 s hs (by omega)
  have n8 := hnc.2
  have := hf n hn
  by_cases g : eno w s (f n) p
  · right
    unfold wdP
    rw [if_pos g]
    exact wst_nn hW hs (by omega) this (by omega) hp (by omega) g
  · exact Or.inl (if_neg g)
theorem skP_sm {s : Nat} {t : Option Nat} {f : Nat → Nat} (m8 : m ≤ 8) (hW : Wd w) (hs : s < cn w 2621) (hf : ∀ n, n < m → f n < cn w (2622 + 49 * s + 8)) : ∀ n, n ≤ cn w 460 → Csm (skP w s t m f n) m
  | 0, _ => U0_sm
  | n + 1, hn => by
    have ih := skP_sm (t := t) m8 hW hs hf n (by omega)
    rw [skP_s]
    unfold fskP
    split
    · exact nwc_sm m8 ih (wdP_sm hW hs (by omega) hf)
    · exact ih
/-- the class's rows while it goes through: they are another heap's, but for some of the finder's -/
abbrev FnI (B : am_A) (i : Nat → Nat → Int32) (s : am_A × (Nat → Nat → Int32)) : Prop := Jy 75 B s.1 ∧ ∀ q k, (q < 72 ∨ q = 72 ∨ 94 ≤ q) → (q = 101 → k ≠ 3) → q ≠ 104 → s.2 q k = i q k
theorem FnI_CR {s : am_A × (Nat → Nat → Int32)} (h : CR B i σ) (hI : FnI B i s) : CR s.1 s.2 σ := by
  obtain ⟨hB, hf⟩ := hI
  refine CR_fr h (hB.le (by omega)) (by rw [hB.2.2.1]; exact ⟨rfl, rfl, rfl⟩) (fun q k _ h1 _ h2 h3 _ _ => hf q k (by omega) h2 h3) fun q h1 _ => ?_
  funext k
  exact hf q k (by omega) (by omega) (by omega)
theorem c_spillP {s p : Nat} {f : Nat → Nat} {t : Nat} (h : CR B i σ) (hW : Wd σ.1) (m8 : m ≤ 8) (hs : s < cn σ.1 2621) (hp : p < cn σ.1 460) (hf : ∀ n, n < m → f n < cn σ.1 (2622 + 49 * s + 8)) (e1 : i 71 1 = Int32.ofNat m) (e2 : ∀ n, n < m → i 72 n = Int32.ofNat (f n)) : ∃ i', am_fx am_P (d + 4) 273 59 [some (.ref 71), some (.ref 94), some (.ref (94 + 212 + 6 * s)), some (.int (Int32.ofNat s)), some (.ref t), some (.int (Int32.ofNat p)), some (.ref (94 + 92 + p)), some (.int (Int32.ofNat 0))] [] (am_wI B i) = am_fx am_P (d + 4) 273 59 [some (.ref 71), some (.ref 94), some (.ref (94 + 212 + 6 * s)), some (.int (Int32.ofNat s)), some (.ref t), some (.int (Int32.ofNat p)), some (.ref (94 + 92 + p)), some (.int (Int32.ofNat m))] [] (am_wI B i') ∧ (∀ q k, q ≠ 73 → i' q k = i q k) ∧ ∀ n, n < m → i' 73 n = wdP σ.1 s f p n := by
  have hF : Fc B := h.1.1
  have hY : Yd B 94 := h.1.2.1
  have h8 := hW.1.2.2.2.1.2
  obtain ⟨j, E, hf1, hj⟩ := lp_inv (fun k j => am_fx am_P (d + 4) 273 59 [some (.ref 71), some (.ref 94), some (.ref (94 + 212 + 6 * s)), some (.int (Int32.ofNat s)), some (.ref t), some (.int (Int32.ofNat p)), some (.ref (94 + 92 + p)), some (.int (Int32.ofNat k))] [] (am_wI B j)) (fun k j => (∀ q k, q ≠ 73 → j q k = i q k) ∧ ∀ n, n < k → j 73 n = wdP σ.1 s f p n) m (fun k j hk hI => by
    obtain ⟨hf1, hj⟩ := hI
    have hj1 : CR B j σ := FnI_CR (s := (B, j)) h ⟨Jy.rf, fun q k _ _ _ => hf1 q k (by omega)⟩
    have ew := c_waste (d := d + 1) (n := f k) hY hj1.2.1 hW hs (hf k hk) hp
    have e1 := (hf1 71 1 (by omega)).trans e1
    have e2 := (hf1 72 k (by omega)).trans (e2 k hk)
    refine ⟨am_up2 j 73 k (wdP σ.1 s f p k), ?_, fun q k hq => by rw [y_up2 (Or.inl hq)]; exact hf1 q k hq, fun n hn => ?_⟩
    · rw [bk_273_59_RRRIRIRI_]
      unfold wdP
      generalize (if eno σ.1 s (f k) p then wst σ.1 s (f k) p else -1) = v at *
      simp (maxSteps := 1000000) (disch := omega) only [e1, e2, ew, hF, hY, y_ckd, y_ck2d, y_ond, y_onn, y_oI, y_oIx, y_oJ, y_oV, y_oVx, y_oR, y_oRn, y_oRx, y_b0, y_b1, y_bi, y_bid, y_wIK, y_wIL, y_wII, y_wIJ, y_wIR, y_wIN, y_wIw, y_sI, ↓reduceIte, Nat.reduceEqDiff, eq_self, true_or, or_true, false_or, or_false, and_true, true_and, false_and, and_false, not_true, not_false_eq_true, tf_T, tf_F, y_up1, y_up2, y_xx, y_nx, y_sJ, y_sR, Int32.reduceLT, y_nxK, y_nxL, y_nxR, y_sJK, y_sJL, y_sJR, y_sJN, y_sRK, y_sRL, y_sRN, Nat.add_zero, z_nat, z_lit, z_lit0, z_lit1, z_in0, z_in1, z_addl0, z_lt, z_ltl, z_llt, z_inj, z_injl, z_add, z_addl, z_ladd, z_mul, z_mull, z_lmul, z_neg, z_negl, z_in, z_inl, z_ltT, z_ltF, z_eqF, z_10, z_01, z_litne, z_ne0, z_0ne, z_ne1, z_1ne, z_lt64, z_02, z_03, z_04, z_05, z_12, z_13, z_14, z_15, z_20, z_21, z_23, z_24, z_25, z_30, z_31, z_32, z_34, z_35, z_40, z_41, z_42, z_43, z_45, z_50, z_51, z_52, z_53, z_54]
    · by_cases e : n = k
      · rw [y_up1 rfl e, e]
      · rw [y_up2 (Or.inr e)]
        exact hj n (by omega)) i ⟨fun _ _ _ => rfl, fun n hn => absurd hn (Nat.not_lt_zero n)⟩
  exact ⟨j, E, hf1, hj⟩
theorem c_offP {s p : Nat} {f : Nat → Nat} {k t : Nat} {U : Cs} (h : CR B i σ) (hW : Wd σ.1) (hJ : ∀ k, k < 8 → am_J B 1 k = p120 k) (m8 : m ≤ 8) (hs : s < cn σ.1 2621) (hp : p < cn σ.1 460) (hk : k < cn σ.1 3541) (eq : am_R B (94 + 8) k = some t) (hf : ∀ n, n < m → f n < cn σ.1 (2622 + 49 * s + 8)) (e1 : i 71 1 = Int32.ofNat m) (e2 : ∀ n, n < m → i 72 n = Int32.ofNat (f n)) (hC : ∀ T, T < 2 ^ m → CsT 74 75 B i T (U.1 T, U.2 T)) : ∃ s' : am_A × (Nat → Nat → Int32), am_fx am_P (d + 4) 273 16 [some (.ref 71), some (.ref 94), some (.ref (94 + 212 + 6 * s)), some (.int (Int32.ofNat s)), some (.ref t), some (.int (Int32.ofNat p)), none, none] [] (am_wI B i) = am_fx am_P (d + 4) 273 16 [some (.ref 71), some (.ref 94), some (.ref (94 + 212 + 6 * s)), some (.int (Int32.ofNat s)), some (.ref t), some (.int (Int32.ofNat (p + 1))), none, none] [] (am_wI s'.1 s'.2) ∧ FnI B i s' ∧ ∀ T, T < 2 ^ m → CsT 74 75 s'.1 s'.2 T ((fskP σ.1 s (some k) m f p U).1 T, (fskP σ.1 s (some k) m f p U).2 T) := by
  have hF : Fc B := h.1.1
  have hY : Yd B 94 := h.1.2.1
  have hc := hW.1.2.2.1
  have h120 := hc.2
  have e5 : i 94 5 = Int32.ofNat (cn σ.1 460) := h.2.1.2.2.1.1.trans hc.1
  have b9 := (h.2.1.2.2.1.2 p hp (by omega)).2.2.2.2.2.2.2.2.2.2.2.2.2.2
  have b9 : i (94 + 92 + p) 9 = σ.1 (461 + 18 * p + 1) := (h.2.1.2.2.1.2 p hp (by omega)).2.1
  unfold fskP
  by_cases g1 : σ.1 (461 + 18 * p + 1) = 2
  rotate_left
  · rw [if_neg (c := ofdP σ.1 s (some k) p) (fun q => g1 q.1)]
    refine ⟨(B, i), ?_, ⟨Jy.rf, fun _ _ _ _ _ => rfl⟩, hC⟩
    rw [bk_273_16_RRRIRI__]
    simp (maxSteps := 1000000) (disch := omega) only [e5, b9, g1, hF, hY, y_ckd, y_ck2d, y_ond, y_onn, y_oI, y_oIx, y_oJ, y_oV, y_oVx, y_oR, y_oRn, y_oRx, y_b0, y_b1, y_bi, y_bid, y_wIK, y_wIL, y_wII, y_wIJ, y_wIR, y_wIN, y_wIw, y_sI, ↓reduceIte, Nat.reduceEqDiff, eq_self, true_or, or_true, false_or, or_false, and_true, true_and, false_and, and_false, not_true, not_false_eq_true, tf_T, tf_F, y_up1, y_up2, y_xx, y_nx, y_sJ, y_sR, Int32.reduceLT, y_nxK, y_nxL, y_nxR, y_sJK, y_sJL, y_sJR, y_sJN, y_sRK, y_sRL, y_sRN, Nat.add_zero, z_nat, z_lit, z_lit0, z_lit1, z_in0, z_in1, z_addl0, z_lt, z_ltl, z_llt, z_inj, z_injl, z_add, z_addl, z_ladd, z_mul, z_mull, z_lmul, z_neg, z_negl, z_in, z_inl, z_ltT, z_ltF, z_eqF, z_10, z_01, z_litne, z_ne0, z_0ne, z_ne1, z_1ne, z_lt64, z_02, z_03, z_04, z_05, z_12, z_13, z_14, z_15, z_20, z_21, z_23, z_24, z_25, z_30, z_31, z_32, z_34, z_35, z_40, z_41, z_42, z_43, z_45, z_50, z_51, z_52, z_53, z_54]
  obtain ⟨i1, E1, f1⟩ := c_letsNow (d := d) h hW hp hs hk eq
  have hv : whT σ.1 p s (some k) = whO σ.1 (3542 + 850 * k) (fctP σ.1 p s) (σ.1 (461 + 18 * p)) := rfl
  rw [← hv] at E1
  have hCi : ∀ T, T < 2 ^ m → CsT 74 75 B i1 T (U.1 T, U.2 T) := fun T hT => by
    have := hC T hT
    exact ⟨(f1 _ _ (by omega) (by omega)).trans this.1, this.2⟩
  by_cases g2 : whT σ.1 p s (some k) = -1
  · rw [if_neg (c := ofdP σ.1 s (some k) p) (fun q => q.2 g2)]
    rw [g2] at E1
    refine ⟨(B, i1), ?_, ⟨Jy.rf, fun q k h1 h2 h3 => f1 q k h2 h3⟩, hCi⟩
    rw [bk_273_16_RRRIRI__]
    simp (maxSteps := 1000000) (disch := omega) only [e5, b9, g1, E1, hF, hY, y_ckd, y_ck2d, y_ond, y_onn, y_oI, y_oIx, y_oJ, y_oV, y_oVx, y_oR, y_oRn, y_oRx, y_b0, y_b1, y_bi, y_bid, y_wIK, y_wIL, y_wII, y_wIJ, y_wIR, y_wIN, y_wIw, y_sI, ↓reduceIte, Nat.reduceEqDiff, eq_self, true_or, or_true, false_or, or_false, and_true, true_and, false_and, and_false, not_true, not_false_eq_true, tf_T, tf_F, y_up1, y_up2, y_xx, y_nx, y_sJ, y_sR, Int32.reduceLT, y_nxK, y_nxL, y_nxR, y_sJK, y_sJL, y_sJR, y_sJN, y_sRK, y_sRL, y_sRN, Nat.add_zero, z_nat, z_lit, z_lit0, z_lit1, z_in0, z_in1, z_addl0, z_lt, z_ltl, z_llt, z_inj, z_injl, z_add, z_addl, z_ladd, z_mul, z_mull, z_lmul, z_neg, z_negl, z_in, z_inl, z_ltT, z_ltF, z_eqF, z_10, z_01, z_litne, z_ne0, z_0ne, z_ne1, z_1ne, z_lt64, z_02, z_03, z_04, z_05, z_12, z_13, z_14, z_15, z_20, z_21, z_23, z_24, z_25, z_30, z_31, z_32, z_34, z_35, z_40, z_41, z_42, z_43, z_45, z_50, z_51, z_52, z_53, z_54]
  rw [if_pos (c := ofdP σ.1 s (some k) p) ⟨g1, g2⟩]
  have hj1 : CR B i1 σ := FnI_CR (s := (B, i1)) h ⟨Jy.rf, fun q k _ h1 h2 => f1 q k h1 h2⟩
  have e11 := (f1 71 1 (by omega) (by omega)).trans e1
  obtain ⟨i2, E2, f2, hd2⟩ := c_spillP (d := d) (t := t) hj1 hW m8 hs hp hf e11 (fun n hn => (f1 _ _ (by omega) (by omega)).trans (e2 n hn))
  have e12 := (f2 71 1 (by omega)).trans e11
  obtain ⟨s3, E3, hB3, f3, hC3⟩ := c_offer (B := B) (i := i2) (d := d + 2) (x := p) (wd := wdP σ.1 s f p) (U := U) hF m8 e12 hd2 hJ fun T hT => by
    have := hCi T hT
    exact ⟨(f2 _ _ (by omega)).trans this.1, this.2⟩
  refine ⟨s3, ?_, ⟨hB3, fun q k h1 h2 h3 => ?_⟩, hC3⟩
  · rw [bk_273_16_RRRIRI__]
    simp (maxSteps := 1000000) (disch := omega) only [e5, b9, g1, E1, g2, hF, hY, y_ckd, y_ck2d, y_ond, y_onn, y_oI, y_oIx, y_oJ, y_oV, y_oVx, y_oR, y_oRn, y_oRx, y_b0, y_b1, y_bi, y_bid, y_wIK, y_wIL, y_wII, y_wIJ, y_wIR, y_wIN, y_wIw, y_sI, ↓reduceIte, Nat.reduceEqDiff, eq_self, true_or, or_true, false_or, or_false, and_true, true_and, false_and, and_false, not_true, not_false_eq_true, tf_T, tf_F, y_up1, y_up2, y_xx, y_nx, y_sJ, y_sR, Int32.reduceLT, y_nxK, y_nxL, y_nxR, y_sJK, y_sJL, y_sJR, y_sJN, y_sRK, y_sRL, y_sRN, Nat.add_zero, z_nat, z_lit, z_lit0, z_lit1, z_in0, z_in1, z_addl0, z_lt, z_ltl, z_llt, z_inj, z_injl, z_add, z_addl, z_ladd, z_mul, z_mull, z_lmul, z_neg, z_negl, z_in, z_inl, z_ltT, z_ltF, z_eqF, z_10, z_01, z_litne, z_ne0, z_0ne, z_ne1, z_1ne, z_lt64, z_02, z_03, z_04, z_05, z_12, z_13, z_14, z_15, z_20, z_21, z_23, z_24, z_25, z_30, z_31, z_32, z_34, z_35, z_40, z_41, z_42, z_43, z_45, z_50, z_51, z_52, z_53, z_54]
    refine E2.trans ?_
    rw [bk_273_59_RRRIRIRI_]
    simp (maxSteps := 1000000) (disch := omega) only [e12, E3, hF, hY, y_ckd, y_ck2d, y_ond, y_onn, y_oI, y_oIx, y_oJ, y_oV, y_oVx, y_oR, y_oRn, y_oRx, y_b0, y_b1, y_bi, y_bid, y_wIK, y_wIL, y_wII, y_wIJ, y_wIR, y_wIN, y_wIw, y_sI, ↓reduceIte, Nat.reduceEqDiff, eq_self, true_or, or_true, false_or, or_false, and_true, true_and, false_and, and_false, not_true, not_false_eq_true, tf_T, tf_F, y_up1, y_up2, y_xx, y_nx, y_sJ, y_sR, Int32.reduceLT, y_nxK, y_nxL, y_nxR, y_sJK, y_sJL, y_sJR, y_sJN, y_sRK, y_sRL, y_sRN, Nat.add_zero, z_nat, z_lit, z_lit0, z_lit1, z_in0, z_in1, z_addl0, z_lt, z_ltl, z_llt, z_inj, z_injl, z_add, z_addl, z_ladd, z_mul, z_mull, z_lmul, z_neg, z_negl, z_in, z_inl, z_ltT, z_ltF, z_eqF, z_10, z_01, z_litne, z_ne0, z_0ne, z_ne1, z_1ne, z_lt64, z_02, z_03, z_04, z_05, z_12, z_13, z_14, z_15, z_20, z_21, z_23, z_24, z_25, z_30, z_31, z_32, z_34, z_35, z_40, z_41, z_42, z_43, z_45, z_50, z_51, z_52, z_53, z_54]
  · rw [f3 q k (by omega), f2 q k (by omega)]
    exact f1 q k h2 h3
end LeastC
