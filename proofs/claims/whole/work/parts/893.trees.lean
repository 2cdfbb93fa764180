/-! THE LEAST WASTE: the class through the trees, and what it finds. Made by wip/whole/math/893.py. -/
section LeastD
variable {B B1 : am_A} {i i1 : Nat → Nat → Int32} {σ σ' : Sg} {w : Nat → Int32} {L j d b m n T : Nat} {x y z : Int32}
/-- so long, so thick, so bent a piece for a need of its kind -/
abbrev en4 (w : Nat → Int32) (s n : Nat) (l th bd : Int32) : Prop := ¬ l < w (2622 + 49 * s + 9 + 5 * n + 1) ∧ ¬ th < w (2622 + 49 * s + 9 + 5 * n + 2) ∧ (w (2622 + 49 * s + 9 + 5 * n) = 1 → ¬ 1 < ab (bd - w (2622 + 49 * s + 9 + 5 * n + 3)))
abbrev ws4 (w : Nat → Int32) (s n : Nat) (l th : Int32) : Int32 := l - w (2622 + 49 * s + 9 + 5 * n + 1) + th - w (2622 + 49 * s + 9 + 5 * n + 2)
theorem c_waste4 {s n : Nat} {l th bd : Int32} (hY : Yd B b) (hR : RS i b w) (hW : Wd w) (hs : s < cn w 2621) (hn : n < cn w (2622 + 49 * s + 8)) : am_fx am_P (d + 1) 232 0 [some (.ref (b + 212 + 6 * s)), some (.int (Int32.ofNat n)), some (.int l), some (.int th), some (.int bd)] [] (am_wI B i) = some (.inl (some (.int (if en4 w s n l th bd then ws4 w s n l th else -1))), am_wI B i) := by
  have h2 := hW.1.2.2.2.1.2
  obtain ⟨-, -, -, -, -, -, -, hnc, -⟩ := hW.2.2.2.2.1.1 s hs (by omega)
  have n8 := hnc.2
  obtain ⟨-, -, -, -, -, -, -, -, a9, a10⟩ := hR.2 s hs (by omega)
  have a9 := a9.trans hnc.1
  obtain ⟨c0, c1, c2, c3, -⟩ := a10 n hn (by omega)
  rw [bk_232_0]
  by_cases g1 : l < w (2622 + 49 * s + 9 + 5 * n + 1)
  · rw [if_neg (c := en4 w s n l th bd) (fun q => q.1 g1)]
    simp (maxSteps := 1000000) (disch := omega) only [(fun d x0 x1 x2 x3 B i => bk_232_62 d x0 x1 x2 x3 (am_wI B i)), a9, c1, g1, hY, y_ckd, y_ck2d, y_ond, y_onn, y_oI, y_oIx, y_oJ, y_oV, y_oVx, y_oR, y_oRn, y_oRx, y_b0, y_b1, y_bi, y_bid, y_wIK, y_wIL, y_wII, y_wIJ, y_wIR, y_wIN, y_wIw, y_sI, ↓reduceIte, Nat.reduceEqDiff, eq_self, true_or, or_true, false_or, or_false, and_true, true_and, false_and, and_false, not_true, not_false_eq_true, tf_T, tf_F, y_up1, y_up2, y_xx, y_nx, y_sJ, y_sR, Int32.reduceLT, y_nxK, y_nxL, y_nxR, y_sJK, y_sJL, y_sJR, y_sJN, y_sRK, y_sRL, y_sRN, Nat.add_zero, z_nat, z_lit, z_lit0, z_lit1, z_in0, z_in1, z_addl0, z_lt, z_ltl, z_llt, z_inj, z_injl, z_add, z_addl, z_ladd, z_mul, z_mull, z_lmul, z_neg, z_negl, z_in, z_inl, z_ltT, z_ltF, z_eqF, z_10, z_01, z_litne, z_ne0, z_0ne, z_ne1, z_1ne, z_lt64, z_02, z_03, z_04, z_05, z_12, z_13, z_14, z_15, z_20, z_21, z_23, z_24, z_25, z_30, z_31, z_32, z_34, z_35, z_40, z_41, z_42, z_43, z_45, z_50, z_51, z_52, z_53, z_54]
  by_cases g2 : th < w (2622 + 49 * s + 9 + 5 * n + 2)
  · rw [if_neg (c := en4 w s n l th bd) (fun q => q.2.1 g2)]
    simp (maxSteps := 1000000) (disch := omega) only [(fun d x0 x1 x2 x3 B i => bk_232_62 d x0 x1 x2 x3 (am_wI B i)), a9, c1, c2, g1, g2, hY, y_ckd, y_ck2d, y_ond, y_onn, y_oI, y_oIx, y_oJ, y_oV, y_oVx, y_oR, y_oRn, y_oRx, y_b0, y_b1, y_bi, y_bid, y_wIK, y_wIL, y_wII, y_wIJ, y_wIR, y_wIN, y_wIw, y_sI, ↓reduceIte, Nat.reduceEqDiff, eq_self, true_or, or_true, false_or, or_false, and_true, true_and, false_and, and_false, not_true, not_false_eq_true, tf_T, tf_F, y_up1, y_up2, y_xx, y_nx, y_sJ, y_sR, Int32.reduceLT, y_nxK, y_nxL, y_nxR, y_sJK, y_sJL, y_sJR, y_sJN, y_sRK, y_sRL, y_sRN, Nat.add_zero, z_nat, z_lit, z_lit0, z_lit1, z_in0, z_in1, z_addl0, z_lt, z_ltl, z_llt, z_inj, z_injl, z_add, z_addl, z_ladd, z_mul, z_mull, z_lmul, z_neg, z_negl, z_in, z_inl, z_ltT, z_ltF, z_eqF, z_10, z_01, z_litne, z_ne0, z_0ne, z_ne1, z_1ne, z_lt64, z_02, z_03, z_04, z_05, z_12, z_13, z_14, z_15, z_20, z_21, z_23, z_24, z_25, z_30, z_31, z_32, z_34, z_35, z_40, z_41, z_42, z_43, z_45, z_50, z_51, z_52, z_53, z_54]
  by_cases g3 : w (2622 + 49 * s + 9 + 5 * n) = 1
  · by_cases g4 : 1 < ab (bd - w (2622 + 49 * s + 9 + 5 * n + 3))
    · rw [if_neg (c := en4 w s n l th bd) (fun q => q.2.2 g3 g4)]
      simp (maxSteps := 1000000) (disch := omega) only [(fun d x0 x1 x2 x3 B i => bk_232_62 d x0 x1 x2 x3 (am_wI B i)), a9, c0, c1, c2, c3, g1, g2, g3, g4, c_abs, hY, y_ckd, y_ck2d, y_ond, y_onn, y_oI, y_oIx, y_oJ, y_oV, y_oVx, y_oR, y_oRn, y_oRx, y_b0, y_b1, y_bi, y_bid, y_wIK, y_wIL, y_wII, y_wIJ, y_wIR, y_wIN, y_wIw, y_sI, ↓reduceIte, Nat.reduceEqDiff, eq_self, true_or, or_true, false_or, or_false, and_true, true_and, false_and, and_false, not_true, not_false_eq_true, tf_T, tf_F, y_up1, y_up2, y_xx, y_nx, y_sJ, y_sR, Int32.reduceLT, y_nxK, y_nxL, y_nxR, y_sJK, y_sJL, y_sJR, y_sJN, y_sRK, y_sRL, y_sRN, Nat.add_zero, z_nat, z_lit, z_lit0, z_lit1, z_in0, z_in1, z_addl0, z_lt, z_ltl, z_llt, z_inj, z_injl, z_add, z_addl, z_ladd, z_mul, z_mull, z_lmul, z_neg, z_negl, z_in, z_inl, z_ltT, z_ltF, z_eqF, z_10, z_01, z_litne, z_ne0, z_0ne, z_ne1, z_1ne, z_lt64, z_02, z_03, z_04, z_05, z_12, z_13, z_14, z_15, z_20, z_21, z_23, z_24, z_25, z_30, z_31, z_32, z_34, z_35, z_40, z_41, z_42, z_43, z_45, z_50, z_51, z_52, z_53, z_54]
    · rw [if_pos (c := en4 w s n l th bd) ⟨g1, g2, fun _ => g4⟩]
      simp (maxSteps := 1000000) (disch := omega) only [(fun d x0 x1 x2 x3 B i => bk_232_62 d x0 x1 x2 x3 (am_wI B i)), a9, c0, c1, c2, c3, g1, g2, g3, g4, c_abs, hY, y_ckd, y_ck2d, y_ond, y_onn, y_oI, y_oIx, y_oJ, y_oV, y_oVx, y_oR, y_oRn, y_oRx, y_b0, y_b1, y_bi, y_bid, y_wIK, y_wIL, y_wII, y_wIJ, y_wIR, y_wIN, y_wIw, y_sI, ↓reduceIte, Nat.reduceEqDiff, eq_self, true_or, or_true, false_or, or_false, and_true, true_and, false_and, and_false, not_true, not_false_eq_true, tf_T, tf_F, y_up1, y_up2, y_xx, y_nx, y_sJ, y_sR, Int32.reduceLT, y_nxK, y_nxL, y_nxR, y_sJK, y_sJL, y_sJR, y_sJN, y_sRK, y_sRL, y_sRN, Nat.add_zero, z_nat, z_lit, z_lit0, z_lit1, z_in0, z_in1, z_addl0, z_lt, z_ltl, z_llt, z_inj, z_injl, z_add, z_addl, z_ladd, z_mul, z_mull, z_lmul, z_neg, z_negl, z_in, z_inl, z_ltT, z_ltF, z_eqF, z_10, z_01, z_litne, z_ne0, z_0ne, z_ne1, z_1ne, z_lt64, z_02, z_03, z_04, z_05, z_12, z_13, z_14, z_15, z_20, z_21, z_23, z_24, z_25, z_30, z_31, z_32, z_34, z_35, z_40, z_41, z_42, z_43, z_45, z_50, z_51, z_52, z_53, z_54]
  · rw [if_pos (c := en4 w s n l th bd) ⟨g1, g2, fun q => absurd q g3⟩]
    simp (maxSteps := 1000000) (disch := omega) only [(fun d x0 x1 x2 x3 B i => bk_232_62 d x0 x1 x2 x3 (am_wI B i)), a9, c0, c1, c2, c3, g1, g2, g3, c_abs, hY, y_ckd, y_ck2d, y_ond, y_onn, y_oI, y_oIx, y_oJ, y_oV, y_oVx, y_oR, y_oRn, y_oRx, y_b0, y_b1, y_bi, y_bid, y_wIK, y_wIL, y_wII, y_wIJ, y_wIR, y_wIN, y_wIw, y_sI, ↓reduceIte, Nat.reduceEqDiff, eq_self, true_or, or_true, false_or, or_false, and_true, true_and, false_and, and_false, not_true, not_false_eq_true, tf_T, tf_F, y_up1, y_up2, y_xx, y_nx, y_sJ, y_sR, Int32.reduceLT, y_nxK, y_nxL, y_nxR, y_sJK, y_sJL, y_sJR, y_sJN, y_sRK, y_sRL, y_sRN, Nat.add_zero, z_nat, z_lit, z_lit0, z_lit1, z_in0, z_in1, z_addl0, z_lt, z_ltl, z_llt, z_inj, z_injl, z_add, z_addl, z_ladd, z_mul, z_mull, z_lmul, z_neg, z_negl, z_in, z_inl, z_ltT, z_ltF, z_eqF, z_10, z_01, z_litne, z_ne0, z_0ne, z_ne1, z_1ne, z_lt64, z_02, z_03, z_04, z_05, z_12, z_13, z_14, z_15, z_20, z_21, z_23, z_24, z_25, z_30, z_31, z_32, z_34, z_35, z_40, z_41, z_42, z_43, z_45, z_50, z_51, z_52, z_53, z_54]
/-- what a tree is for the needs of a list -/
abbrev lnT (w : Nat → Int32) (s t n : Nat) : Int32 := lnx (w (2622 + 49 * s + 9 + 5 * n)) (w (40 + 7 * t + 2)) (w (40 + 7 * t + 4))
abbrev okT (w : Nat → Int32) (s t n : Nat) : Prop := ¬ w (2622 + 49 * s + 9 + 5 * n) = 3 ∧ en4 w s n (lnT w s t n) (w (40 + 7 * t + 3)) (w (40 + 7 * t + 4))
abbrev wdT (w : Nat → Int32) (s : Nat) (f : Nat → Nat) (t n : Nat) : Int32 := if okT w s t (f n) then ws4 w s (f n) (lnT w s t (f n)) (w (40 + 7 * t + 3)) else -1
abbrev fskT (w : Nat → Int32) (s m : Nat) (f : Nat → Nat) (t : Nat) (U : Cs) : Cs := if w (40 + 7 * t + 6) = 0 then nwc (wdT w s f t) (rkx t m) m U else U
def skT (w : Nat → Int32) (s m : Nat) (f : Nat → Nat) (n : Nat) : Cs := itr (fskT w s m f) n U0
theorem skT_s {s : Nat} {f : Nat → Nat} : skT w s m f (n + 1) = fskT w s m f n (skT w s m f n) := rfl
theorem en4_bd {s n : Nat} {l th bd : Int32} : en4 w s n l th (bdx (w (2622 + 49 * s + 9 + 5 * n)) bd) ↔ en4 w s n l th bd := by
  refine ⟨fun q => ⟨q.1, q.2.1, fun e => ?_⟩, fun q => ⟨q.1, q.2.1, fun e => ?_⟩⟩
  · have := q.2.2 e
    unfold bdx at this
    rw [if_pos e] at this
    exact this
  · unfold bdx
    rw [if_pos e]
    exact q.2.2 e
theorem ws4_nn {s n l u : Nat} {bd : Int32} (hW : Wd w) (hs : s < cn w 2621) (s8 : s < 8) (hn : n < cn w (2622 + 49 * s + 8)) (n8 : n < 8) (hl : l ≤ 12000) (hu : u ≤ 60) (g : en4 w s n (Int32.ofNat l) (Int32.ofNat u) bd) : ∃ v, ws4 w s n (Int32.ofNat l) (Int32.ofNat u) = Int32.ofNat v ∧ v ≤ 13000 := by
  obtain ⟨⟨z1, z2⟩, z3, z4⟩ := hW.2.2.2.2.2.2.2.2.2.1.2.1 s hs s8 n hn n8
  obtain ⟨g1, g2, -⟩ := g
  rw [Int32.lt_iff_toInt_lt] at z1 z2 z3 z4 g1 g2
  have k1 : (1 : Int32).toInt = 1 := by decide
  have k61 : (61 : Int32).toInt = 61 := by decide
  have k301 : (301 : Int32).toInt = 301 := by decide
  have e1 := z_toInt (n := l) (by omega)
  have e2 := z_toInt (n := u) (by omega)
  have f1 := z_bm (x := Int32.ofNat l) (y := w (2622 + 49 * s + 9 + 5 * n + 1)) (by omega) (by omega)
  have f2 := z_bp (x := Int32.ofNat l - w (2622 + 49 * s + 9 + 5 * n + 1)) (y := Int32.ofNat u) (by omega) (by omega) (by omega)
  have f3 := z_bm (x := Int32.ofNat l - w (2622 + 49 * s + 9 + 5 * n + 1) + Int32.ofNat u) (y := w (2622 + 49 * s + 9 + 5 * n + 2)) (by omega) (by omega)
  show ∃ v, Int32.ofNat l - w (2622 + 49 * s + 9 + 5 * n + 1) + Int32.ofNat u - w (2622 + 49 * s + 9 + 5 * n + 2) = Int32.ofNat v ∧ v ≤ 13000
  generalize Int32.ofNat l - w (2622 + 49 * s + 9 + 5 * n + 1) + Int32.ofNat u - w (2622 + 49 * s + 9 + 5 * n + 2) = V at *
  refine ⟨V.toInt.toNat, Int32.toInt_inj.mp ?_, by omega⟩
  rw [z_toInt (by omega)]
  omega
theorem wdT_sm {s t : Nat} {f : Nat → Nat} (hW : Wd w) (hs : s < cn w 2621) (ht : t < cn w 39) (hf : ∀ n, n < m → f n < cn w (2622 + 49 * s + 8)) : ∀ n, n < m → wdT w s f t n = -1 ∨ ∃ v, wdT w s f t n = Int32.ofNat v ∧ v ≤ 13000 := fun n hn => by
  have h2 := hW.1.2.2.2.1.2
  have h3 := hW.1.2.1.2
  obtain ⟨-, -, -, -, -, -, -, hnc, -⟩ := hW.2.2.2.2.1.1 s hs (by omega)
  have n8 := hnc.2
  have hfn := hf n hn
  obtain ⟨⟨z1, z2⟩, z3, z4, z5⟩ := hW.2.2.2.2.2.2.2.2.2.1.1 t ht (by omega)
  obtain ⟨-, -, ⟨a1, a2⟩, -⟩ := hW.2.2.1.1 t ht (by omega)
  by_cases g : okT w s t (f n)
  · right
    unfold wdT
    rw [if_pos g]
    obtain ⟨l, el, l5, l100⟩ := lnx_ok (x := w (2622 + 49 * s + 9 + 5 * f n)) ⟨z1, z2⟩ ⟨z4, z5⟩
    obtain ⟨u, eu, hu⟩ := z_lk 61 (by omega) a1 a2
    have g2 := g.2
    unfold lnT at *
    rw [el, eu] at *
    exact ws4_nn hW hs (by omega) hfn (by omega) (by omega) (by omega) g2
  · exact Or.inl (if_neg g)
theorem skT_sm {s : Nat} {f : Nat → Nat} (m8 : m ≤ 8) (hW : Wd w) (hs : s < cn w 2621) (hf : ∀ n, n < m → f n < cn w (2622 + 49 * s + 8)) : ∀ n, n ≤ cn w 39 → Csm (skT w s m f n) m
  | 0, _ => U0_sm
  | n + 1, hn => by
    have ih := skT_sm m8 hW hs hf n (by omega)
    rw [skT_s]
    unfold fskT
    split
    · exact nwc_sm m8 ih (wdT_sm hW hs (by omega) hf)
    · exact ih
theorem c_spillT {s t : Nat} {f : Nat → Nat} (h : CR B i σ) (hW : Wd σ.1) (m8 : m ≤ 8) (hs : s < cn σ.1 2621) (ht : t < cn σ.1 39) (hf : ∀ n, n < m → f n < cn σ.1 (2622 + 49 * s + 8)) (e1 : i 71 1 = Int32.ofNat m) (e2 : ∀ n, n < m → i 72 n = Int32.ofNat (f n)) : ∃ i', am_fx am_P (d + 4) 274 29 [some (.ref 71), some (.ref 94), some (.ref (94 + 212 + 6 * s)), some (.int (Int32.ofNat t)), some (.ref (94 + 32 + t)), some (.int (Int32.ofNat 0)), none, none] [] (am_wI B i) = am_fx am_P (d + 4) 274 29 [some (.ref 71), some (.ref 94), some (.ref (94 + 212 + 6 * s)), some (.int (Int32.ofNat t)), some (.ref (94 + 32 + t)), some (.int (Int32.ofNat m)), none, none] [] (am_wI B i') ∧ (∀ q k, q ≠ 73 → i' q k = i q k) ∧ ∀ n, n < m → i' 73 n = wdT σ.1 s f t n := by
  have hF : Fc B := h.1.1
  have hY : Yd B 94 := h.1.2.1
  have h8 := hW.1.2.2.2.1.2
  have h60 := hW.1.2.1.2
  obtain ⟨-, -, -, -, -, -, -, hnc, -⟩ := hW.2.2.2.2.1.1 s hs (by omega)
  have n8 := hnc.2
  have kt : am_K B (94 + 32 + t) = 10 := by simp (disch := omega) only [hY]
  obtain ⟨j, E, hf1, hj⟩ := lp_inv (fun k j => am_fx am_P (d + 4) 274 29 [some (.ref 71), some (.ref 94), some (.ref (94 + 212 + 6 * s)), some (.int (Int32.ofNat t)), some (.ref (94 + 32 + t)), some (.int (Int32.ofNat k)), none, none] [] (am_wI B j)) (fun k j => (∀ q k, q ≠ 73 → j q k = i q k) ∧ ∀ n, n < k → j 73 n = wdT σ.1 s f t n) m (fun k j hk hI => by
    obtain ⟨hf1, hj⟩ := hI
    have hfk := hf k hk
    have hSj : RS j 94 σ.1 := RS_fr h.2.1.2.2.2.1 (fun q k hq => hf1 q k (by omega)) fun _ _ => rfl
    obtain ⟨-, -, t2, t3, t4, -, -⟩ := h.2.1.2.1.2 t ht (by omega)
    have t2 := (hf1 _ _ (by omega)).trans t2
    have t3 := (hf1 _ _ (by omega)).trans t3
    have t4 := (hf1 _ _ (by omega)).trans t4
    obtain ⟨c0, -⟩ := (hSj.2 s hs (by omega)).2.2.2.2.2.2.2.2.2 (f k) hfk (by omega)
    have el := c_lengthAs (B := B) (i := j) (d := d + 2) (x := σ.1 (2622 + 49 * s + 9 + 5 * f k)) kt
    have eb := c_bendAs (B := B) (i := j) (d := d + 3) (x := σ.1 (2622 + 49 * s + 9 + 5 * f k)) kt
    rw [t2, t4] at el
    rw [t4] at eb
    have ew := c_waste4 (B := B) (i := j) (b := 94) (d := d + 2) (n := f k) (l := lnT σ.1 s t (f k)) (th := σ.1 (40 + 7 * t + 3)) (bd := bdx (σ.1 (2622 + 49 * s + 9 + 5 * f k)) (σ.1 (40 + 7 * t + 4))) hY hSj hW hs hfk
    have e1 := (hf1 71 1 (by omega)).trans e1
    have e2 := (hf1 72 k (by omega)).trans (e2 k hk)
    have ev : (if en4 σ.1 s (f k) (lnT σ.1 s t (f k)) (σ.1 (40 + 7 * t + 3)) (bdx (σ.1 (2622 + 49 * s + 9 + 5 * f k)) (σ.1 (40 + 7 * t + 4))) then ws4 σ.1 s (f k) (lnT σ.1 s t (f k)) (σ.1 (40 + 7 * t + 3)) else -1) = if en4 σ.1 s (f k) (lnT σ.1 s t (f k)) (σ.1 (40 + 7 * t + 3)) (σ.1 (40 + 7 * t + 4)) then ws4 σ.1 s (f k) (lnT σ.1 s t (f k)) (σ.1 (40 + 7 * t + 3)) else -1 := by
      by_cases q : en4 σ.1 s (f k) (lnT σ.1 s t (f k)) (σ.1 (40 + 7 * t + 3)) (σ.1 (40 + 7 * t + 4))
      · rw [if_pos q, if_pos (en4_bd.mpr q)]
      · rw [if_neg q, if_neg fun r => q (en4_bd.mp r)]
    rw [ev] at ew
    have ez : wdT σ.1 s f t k = if σ.1 (2622 + 49 * s + 9 + 5 * f k) = 3 then -1 else if en4 σ.1 s (f k) (lnT σ.1 s t (f k)) (σ.1 (40 + 7 * t + 3)) (σ.1 (40 + 7 * t + 4)) then ws4 σ.1 s (f k) (lnT σ.1 s t (f k)) (σ.1 (40 + 7 * t + 3)) else -1 := by
      unfold wdT okT
      by_cases q : σ.1 (2622 + 49 * s + 9 + 5 * f k) = 3
      · rw [if_pos q, if_neg fun r => r.1 q]
      · rw [if_neg q]
        by_cases q2 : en4 σ.1 s (f k) (lnT σ.1 s t (f k)) (σ.1 (40 + 7 * t + 3)) (σ.1 (40 + 7 * t + 4))
        · rw [if_pos q2, if_pos ⟨q, q2⟩]
        · rw [if_neg q2, if_neg fun r => q2 r.2]
    refine ⟨am_up2 j 73 k (wdT σ.1 s f t k), ?_, fun q k hq => by rw [y_up2 (Or.inl hq)]; exact hf1 q k hq, fun n hn => ?_⟩
    · rw [bk_274_29, ez]
      unfold lnT at *
      generalize (if en4 σ.1 s (f k) (lnx (σ.1 (2622 + 49 * s + 9 + 5 * f k)) (σ.1 (40 + 7 * t + 2)) (σ.1 (40 + 7 * t + 4))) (σ.1 (40 + 7 * t + 3)) (σ.1 (40 + 7 * t + 4)) then ws4 σ.1 s (f k) (lnx (σ.1 (2622 + 49 * s + 9 + 5 * f k)) (σ.1 (40 + 7 * t + 2)) (σ.1 (40 + 7 * t + 4))) (σ.1 (40 + 7 * t + 3)) else -1) = v at *
      generalize lnx (σ.1 (2622 + 49 * s + 9 + 5 * f k)) (σ.1 (40 + 7 * t + 2)) (σ.1 (40 + 7 * t + 4)) = u1 at *
      generalize bdx (σ.1 (2622 + 49 * s + 9 + 5 * f k)) (σ.1 (40 + 7 * t + 4)) = u2 at *
      by_cases q : σ.1 (2622 + 49 * s + 9 + 5 * f k) = 3
      · rw [if_pos q]
        rw [q] at el eb c0
        simp (maxSteps := 1000000) (disch := omega) only [e1, e2, c0, t3, el, eb, ew, q, hF, hY, y_ckd, y_ck2d, y_ond, y_onn, y_oI, y_oIx, y_oJ, y_oV, y_oVx, y_oR, y_oRn, y_oRx, y_b0, y_b1, y_bi, y_bid, y_wIK, y_wIL, y_wII, y_wIJ, y_wIR, y_wIN, y_wIw, y_sI, ↓reduceIte, Nat.reduceEqDiff, eq_self, true_or, or_true, false_or, or_false, and_true, true_and, false_and, and_false, not_true, not_false_eq_true, tf_T, tf_F, y_up1, y_up2, y_xx, y_nx, y_sJ, y_sR, Int32.reduceLT, y_nxK, y_nxL, y_nxR, y_sJK, y_sJL, y_sJR, y_sJN, y_sRK, y_sRL, y_sRN, Nat.add_zero, z_nat, z_lit, z_lit0, z_lit1, z_in0, z_in1, z_addl0, z_lt, z_ltl, z_llt, z_inj, z_injl, z_add, z_addl, z_ladd, z_mul, z_mull, z_lmul, z_neg, z_negl, z_in, z_inl, z_ltT, z_ltF, z_eqF, z_10, z_01, z_litne, z_ne0, z_0ne, z_ne1, z_1ne, z_lt64, z_02, z_03, z_04, z_05, z_12, z_13, z_14, z_15, z_20, z_21, z_23, z_24, z_25, z_30, z_31, z_32, z_34, z_35, z_40, z_41, z_42, z_43, z_45, z_50, z_51, z_52, z_53, z_54]
      · rw [if_neg q]
        simp (maxSteps := 1000000) (disch := omega) only [e1, e2, c0, t3, el, eb, ew, q, hF, hY, y_ckd, y_ck2d, y_ond, y_onn, y_oI, y_oIx, y_oJ, y_oV, y_oVx, y_oR, y_oRn, y_oRx, y_b0, y_b1, y_bi, y_bid, y_wIK, y_wIL, y_wII, y_wIJ, y_wIR, y_wIN, y_wIw, y_sI, ↓reduceIte, Nat.reduceEqDiff, eq_self, true_or, or_true, false_or, or_false, and_true, true_and, false_and, and_false, not_true, not_false_eq_true, tf_T, tf_F, y_up1, y_up2, y_xx, y_nx, y_sJ, y_sR, Int32.reduceLT, y_nxK, y_nxL, y_nxR, y_sJK, y_sJL, y_sJR, y_sJN, y_sRK, y_sRL, y_sRN, Nat.add_zero, z_nat, z_lit, z_lit0, z_lit1, z_in0, z_in1, z_addl0, z_lt, z_ltl, z_llt, z_inj, z_injl, z_add, z_addl, z_ladd, z_mul, z_mull, z_lmul, z_neg, z_negl, z_in, z_inl, z_ltT, z_ltF, z_eqF, z_10, z_01, z_litne, z_ne0, z_0ne, z_ne1, z_1ne, z_lt64, z_02, z_03, z_04, z_05, z_12, z_13, z_14, z_15, z_20, z_21, z_23, z_24, z_25, z_30, z_31, z_32, z_34, z_35, z_40, z_41, z_42, z_43, z_45, z_50, z_51, z_52, z_53, z_54]
    · by_cases e : n = k
      · rw [y_up1 rfl e, e]
      · rw [y_up2 (Or.inr e)]
        exact hj n (by omega)) i ⟨fun _ _ _ => rfl, fun n hn => absurd hn (Nat.not_lt_zero n)⟩
  exact ⟨j, E, hf1, hj⟩
theorem c_offT {s t : Nat} {f : Nat → Nat} {U : Cs} (h : CR B i σ) (hW : Wd σ.1) (hJ : ∀ k, k < 8 → am_J B 1 k = p120 k) (m8 : m ≤ 8) (hs : s < cn σ.1 2621) (ht : t < cn σ.1 39) (hf : ∀ n, n < m → f n < cn σ.1 (2622 + 49 * s + 8)) (e1 : i 71 1 = Int32.ofNat m) (e2 : ∀ n, n < m → i 72 n = Int32.ofNat (f n)) (hC : ∀ T, T < 2 ^ m → CsT 74 75 B i T (U.1 T, U.2 T)) : ∃ s' : am_A × (Nat → Nat → Int32), am_fx am_P (d + 4) 274 2 [some (.ref 71), some (.ref 94), some (.ref (94 + 212 + 6 * s)), some (.int (Int32.ofNat t)), none, none, none, none] [] (am_wI B i) = am_fx am_P (d + 4) 274 2 [some (.ref 71), some (.ref 94), some (.ref (94 + 212 + 6 * s)), some (.int (Int32.ofNat (t + 1))), none, none, none, none] [] (am_wI s'.1 s'.2) ∧ FnI B i s' ∧ ∀ T, T < 2 ^ m → CsT 74 75 s'.1 s'.2 T ((fskT σ.1 s m f t U).1 T, (fskT σ.1 s m f t U).2 T) := by
  have hF : Fc B := h.1.1
  have hY : Yd B 94 := h.1.2.1
  have hc := hW.1.2.1
  have h60 := hc.2
  have e5 : i 94 3 = Int32.ofNat (cn σ.1 39) := h.2.1.2.1.1.trans hc.1
  have b6 := (h.2.1.2.1.2 t ht (by omega)).2.2.2.2.2.2
  unfold fskT
  by_cases g1 : σ.1 (40 + 7 * t + 6) = 0
  rotate_left
  · rw [if_neg g1]
    refine ⟨(B, i), ?_, ⟨Jy.rf, fun _ _ _ _ _ => rfl⟩, hC⟩
    rw [bk_274_2]
    simp (maxSteps := 1000000) (disch := omega) only [e5, b6, g1, hF, hY, y_ckd, y_ck2d, y_ond, y_onn, y_oI, y_oIx, y_oJ, y_oV, y_oVx, y_oR, y_oRn, y_oRx, y_b0, y_b1, y_bi, y_bid, y_wIK, y_wIL, y_wII, y_wIJ, y_wIR, y_wIN, y_wIw, y_sI, ↓reduceIte, Nat.reduceEqDiff, eq_self, true_or, or_true, false_or, or_false, and_true, true_and, false_and, and_false, not_true, not_false_eq_true, tf_T, tf_F, y_up1, y_up2, y_xx, y_nx, y_sJ, y_sR, Int32.reduceLT, y_nxK, y_nxL, y_nxR, y_sJK, y_sJL, y_sJR, y_sJN, y_sRK, y_sRL, y_sRN, Nat.add_zero, z_nat, z_lit, z_lit0, z_lit1, z_in0, z_in1, z_addl0, z_lt, z_ltl, z_llt, z_inj, z_injl, z_add, z_addl, z_ladd, z_mul, z_mull, z_lmul, z_neg, z_negl, z_in, z_inl, z_ltT, z_ltF, z_eqF, z_10, z_01, z_litne, z_ne0, z_0ne, z_ne1, z_1ne, z_lt64, z_02, z_03, z_04, z_05, z_12, z_13, z_14, z_15, z_20, z_21, z_23, z_24, z_25, z_30, z_31, z_32, z_34, z_35, z_40, z_41, z_42, z_43, z_45, z_50, z_51, z_52, z_53, z_54]
  rw [if_pos g1]
  obtain ⟨i2, E2, f2, hd2⟩ := c_spillT (d := d) h hW m8 hs ht hf e1 e2
  have e12 := (f2 71 1 (by omega)).trans e1
  obtain ⟨s3, E3, hB3, f3, hC3⟩ := c_offer (B := B) (i := i2) (d := d + 2) (x := t) (wd := wdT σ.1 s f t) (U := U) hF m8 e12 hd2 hJ fun T hT => by
    have := hC T hT
    exact ⟨(f2 _ _ (by omega)).trans this.1, this.2⟩
  refine ⟨s3, ?_, ⟨hB3, fun q k h1 h2 h3 => ?_⟩, hC3⟩
  · rw [bk_274_2]
    simp (maxSteps := 1000000) (disch := omega) only [e5, b6, g1, hF, hY, y_ckd, y_ck2d, y_ond, y_onn, y_oI, y_oIx, y_oJ, y_oV, y_oVx, y_oR, y_oRn, y_oRx, y_b0, y_b1, y_bi, y_bid, y_wIK, y_wIL, y_wII, y_wIJ, y_wIR, y_wIN, y_wIw, y_sI, ↓reduceIte, Nat.reduceEqDiff, eq_self, true_or, or_true, false_or, or_false, and_true, true_and, false_and, and_false, not_true, not_false_eq_true, tf_T, tf_F, y_up1, y_up2, y_xx, y_nx, y_sJ, y_sR, Int32.reduceLT, y_nxK, y_nxL, y_nxR, y_sJK, y_sJL, y_sJR, y_sJN, y_sRK, y_sRL, y_sRN, Nat.add_zero, z_nat, z_lit, z_lit0, z_lit1, z_in0, z_in1, z_addl0, z_lt, z_ltl, z_llt, z_inj, z_injl, z_add, z_addl, z_ladd, z_mul, z_mull, z_lmul, z_neg, z_negl, z_in, z_inl, z_ltT, z_ltF, z_eqF, z_10, z_01, z_litne, z_ne0, z_0ne, z_ne1, z_1ne, z_lt64, z_02, z_03, z_04, z_05, z_12, z_13, z_14, z_15, z_20, z_21, z_23, z_24, z_25, z_30, z_31, z_32, z_34, z_35, z_40, z_41, z_42, z_43, z_45, z_50, z_51, z_52, z_53, z_54]
    refine E2.trans ?_
    rw [bk_274_29]
    simp (maxSteps := 1000000) (disch := omega) only [e12, E3, hF, hY, y_ckd, y_ck2d, y_ond, y_onn, y_oI, y_oIx, y_oJ, y_oV, y_oVx, y_oR, y_oRn, y_oRx, y_b0, y_b1, y_bi, y_bid, y_wIK, y_wIL, y_wII, y_wIJ, y_wIR, y_wIN, y_wIw, y_sI, ↓reduceIte, Nat.reduceEqDiff, eq_self, true_or, or_true, false_or, or_false, and_true, true_and, false_and, and_false, not_true, not_false_eq_true, tf_T, tf_F, y_up1, y_up2, y_xx, y_nx, y_sJ, y_sR, Int32.reduceLT, y_nxK, y_nxL, y_nxR, y_sJK, y_sJL, y_sJR, y_sJN, y_sRK, y_sRL, y_sRN, Nat.add_zero, z_nat, z_lit, z_lit0, z_lit1, z_in0, z_in1, z_addl0, z_lt, z_ltl, z_llt, z_inj, z_injl, z_add, z_addl, z_ladd, z_mul, z_mull, z_lmul, z_neg, z_negl, z_in, z_inl, z_ltT, z_ltF, z_eqF, z_10, z_01, z_litne, z_ne0, z_0ne, z_ne1, z_1ne, z_lt64, z_02, z_03, z_04, z_05, z_12, z_13, z_14, z_15, z_20, z_21, z_23, z_24, z_25, z_30, z_31, z_32, z_34, z_35, z_40, z_41, z_42, z_43, z_45, z_50, z_51, z_52, z_53, z_54]
  · rw [f3 q k (by omega), f2 q k (by omega)]
end LeastD
