/-! WHICH LINE LETS A PIECE; MAY, WHY: made by wip/whole/math/72.py. -/
/-- tags and facts of a piece for a ship -/
def fctP (w : Nat → Int32) (p s : Nat) : Fct := (fun k => if k < 3 then decide (¬ w (461 + 18 * p) = 3 ∧ w (461 + 18 * p + 5) = Int32.ofNat k) else if k = 3 then decide (w (2622 + 49 * s + 3) = 1) else decide (w (461 + 18 * p + 16) = 1), fun m => if m = 0 then w (461 + 18 * p + 6) else if m = 1 then w (461 + 18 * p + 8) else if m = 2 then w (461 + 18 * p + 3) else if m = 3 then w (461 + 18 * p + 2) else if m = 4 then w 0 - w (461 + 18 * p + 10) else ngg w (Int32.ofNat s))
/-- does the line n of the text at o let a piece of this kind? -/
def ltl (w : Nat → Int32) (o : Nat) (fc : Fct) (kd : Int32) (n : Nat) : Bool := decide (w (o + 2 + 4 * n) = 0 ∧ w (o + 2 + 4 * n + 1) = kd) && hld w o fc n
/-- the first line that lets -/
def whO (w : Nat → Int32) (o : Nat) (fc : Fct) (kd : Int32) : Int32 := match fst0 (ltl w o fc kd) (cn w (o + 1)) with
  | some n => Int32.ofNat n
  | none => -1
def whT (w : Nat → Int32) (p s : Nat) : Option Nat → Int32
  | none => -1
  | some k => whO w (3542 + 850 * k) (fctP w p s) (w (461 + 18 * p))
section Lets
variable {B : am_A} {i j : Nat → Nat → Int32} {w : Nat → Int32} {d b : Nat} {fc : Fct} {x y z : Int32}
theorem ltl0 {o n : Nat} (h : ¬ w (o + 2 + 4 * n) = 0) : ltl w o fc x n = false := by
  unfold ltl
  rw [decide_eq_false fun q => h q.1, Bool.false_and]
theorem ltl1 {o n : Nat} (h : ¬ w (o + 2 + 4 * n + 1) = x) : ltl w o fc x n = false := by
  unfold ltl
  rw [decide_eq_false fun q => h q.2, Bool.false_and]
theorem ltl2 {o n : Nat} (h : w (o + 2 + 4 * n) = 0) (h1 : w (o + 2 + 4 * n + 1) = x) : ltl w o fc x n = hld w o fc n := by
  unfold ltl
  rw [decide_eq_true ⟨h, h1⟩, Bool.true_and]
theorem c_firstFit {q o : Nat} (hY : Yd B b) (hT : TxR B i q w o) (hW : TxW w o) (hL : am_L B (q + 4) ≤ 400) (hTg : TgC (i (b + 7) 3) fc.1) (hf : ∀ m, m < 6 → i (b + 10) m = fc.2 m) : am_fx am_P (d + 2) 177 0 [some (.ref q), some (.int x), some (.ref (b + 7)), none] [] (am_wI B i) = some (.inl (some (.int (whO w o fc x))), am_wI B i) := by
  have hT' := hT
  obtain ⟨q0, qN, ⟨k9, r1, r2, r3, r4⟩, i0, l1, l2, l3, l4, hl, hc⟩ := hT'
  have h12 := hW.2.1
  have n12 := h12.2
  have i0' : i q 0 = Int32.ofNat (cn w (o + 1)) := i0.trans h12.1
  rw [bk_177_0]
  refine (lp_fst (fun k => am_fx am_P (d + 2) 177 2 [some (.ref q), some (.int x), some (.ref (b + 7)), some (.int (Int32.ofNat k))] [] (am_wI B i)) (ltl w o fc x) (fun k => some (.inl (some (.int (Int32.ofNat k))), am_wI B i)) (cn w (o + 1)) (fun k hk => ?_)).trans ?_
  · obtain ⟨x1, x2, -, -⟩ := hl k hk (by omega)
    rw [bk_177_2]
    by_cases g : w (o + 2 + 4 * k) = 0
    · by_cases g2 : w (o + 2 + 4 * k + 1) = x
      · rw [ltl2 g g2]
        simp (disch := omega) only [i0', x1, x2, g, g2, c_holds (d := d) hY hT hW hL hk hTg hf, b2_0, k9, r1, r2, l1, l2, y_ckd, y_ck2d, y_ond, y_onn, y_oI, y_oIx, y_oJ, y_oV, y_oVx, y_oR, y_oRn, y_oRx, y_b0, y_b1, y_bi, y_bid, y_wIK, y_wIL, y_wII, y_wIJ, y_wIR, y_wIN, y_wIw, y_sI, ↓reduceIte, Nat.reduceEqDiff, eq_self, true_or, or_true, false_or, or_false, and_true, true_and, false_and, and_false, not_true, not_false_eq_true, tf_T, tf_F, y_up1, y_up2, y_xx, y_nx, y_sJ, y_sR, Int32.reduceLT, y_nxK, y_nxL, y_nxR, y_sJK, y_sJL, y_sJR, y_sJN, y_sRK, y_sRL, y_sRN, Nat.add_zero, z_nat, z_lit, z_lit0, z_lit1, z_in0, z_in1, z_addl0, z_lt, z_ltl, z_llt, z_inj, z_injl, z_add, z_addl, z_ladd, z_mul, z_mull, z_lmul, z_neg, z_negl, z_in, z_inl, z_ltT, z_ltF, z_eqF, z_10, z_01, z_litne, z_ne0, z_0ne, z_ne1, z_1ne, z_lt64, z_02, z_03, z_04, z_05, z_12, z_13, z_14, z_15, z_20, z_21, z_23, z_24, z_25, z_30, z_31, z_32, z_34, z_35, z_40, z_41, z_42, z_43, z_45, z_50, z_51, z_52, z_53, z_54]
        cases hld w o fc k
        · simp only [Bool.false_eq_true, not_false_eq_true, ↓reduceIte]
        · simp only [not_true, ↓reduceIte]
      · rw [ltl1 g2]
        simp (disch := omega) only [i0', x1, x2, g, g2, k9, r1, r2, l1, l2, Bool.false_eq_true, y_ckd, y_ck2d, y_ond, y_onn, y_oI, y_oIx, y_oJ, y_oV, y_oVx, y_oR, y_oRn, y_oRx, y_b0, y_b1, y_bi, y_bid, y_wIK, y_wIL, y_wII, y_wIJ, y_wIR, y_wIN, y_wIw, y_sI, ↓reduceIte, Nat.reduceEqDiff, eq_self, true_or, or_true, false_or, or_false, and_true, true_and, false_and, and_false, not_true, not_false_eq_true, tf_T, tf_F, y_up1, y_up2, y_xx, y_nx, y_sJ, y_sR, Int32.reduceLT, y_nxK, y_nxL, y_nxR, y_sJK, y_sJL, y_sJR, y_sJN, y_sRK, y_sRL, y_sRN, Nat.add_zero, z_nat, z_lit, z_lit0, z_lit1, z_in0, z_in1, z_addl0, z_lt, z_ltl, z_llt, z_inj, z_injl, z_add, z_addl, z_ladd, z_mul, z_mull, z_lmul, z_neg, z_negl, z_in, z_inl, z_ltT, z_ltF, z_eqF, z_10, z_01, z_litne, z_ne0, z_0ne, z_ne1, z_1ne, z_lt64, z_02, z_03, z_04, z_05, z_12, z_13, z_14, z_15, z_20, z_21, z_23, z_24, z_25, z_30, z_31, z_32, z_34, z_35, z_40, z_41, z_42, z_43, z_45, z_50, z_51, z_52, z_53, z_54]
    · rw [ltl0 g]
      simp (disch := omega) only [i0', x1, x2, g, k9, r1, r2, l1, l2, Bool.false_eq_true, y_ckd, y_ck2d, y_ond, y_onn, y_oI, y_oIx, y_oJ, y_oV, y_oVx, y_oR, y_oRn, y_oRx, y_b0, y_b1, y_bi, y_bid, y_wIK, y_wIL, y_wII, y_wIJ, y_wIR, y_wIN, y_wIw, y_sI, ↓reduceIte, Nat.reduceEqDiff, eq_self, true_or, or_true, false_or, or_false, and_true, true_and, false_and, and_false, not_true, not_false_eq_true, tf_T, tf_F, y_up1, y_up2, y_xx, y_nx, y_sJ, y_sR, Int32.reduceLT, y_nxK, y_nxL, y_nxR, y_sJK, y_sJL, y_sJR, y_sJN, y_sRK, y_sRL, y_sRN, Nat.add_zero, z_nat, z_lit, z_lit0, z_lit1, z_in0, z_in1, z_addl0, z_lt, z_ltl, z_llt, z_inj, z_injl, z_add, z_addl, z_ladd, z_mul, z_mull, z_lmul, z_neg, z_negl, z_in, z_inl, z_ltT, z_ltF, z_eqF, z_10, z_01, z_litne, z_ne0, z_0ne, z_ne1, z_1ne, z_lt64, z_02, z_03, z_04, z_05, z_12, z_13, z_14, z_15, z_20, z_21, z_23, z_24, z_25, z_30, z_31, z_32, z_34, z_35, z_40, z_41, z_42, z_43, z_45, z_50, z_51, z_52, z_53, z_54]
  · unfold whO
    cases fst0 (ltl w o fc x) (cn w (o + 1)) with
    | some n => rfl
    | none =>
      dsimp only
      rw [bk_177_2]
      simp (disch := omega) only [i0', k9, y_ckd, y_ck2d, y_ond, y_onn, y_oI, y_oIx, y_oJ, y_oV, y_oVx, y_oR, y_oRn, y_oRx, y_b0, y_b1, y_bi, y_bid, y_wIK, y_wIL, y_wII, y_wIJ, y_wIR, y_wIN, y_wIw, y_sI, ↓reduceIte, Nat.reduceEqDiff, eq_self, true_or, or_true, false_or, or_false, and_true, true_and, false_and, and_false, not_true, not_false_eq_true, tf_T, tf_F, y_up1, y_up2, y_xx, y_nx, y_sJ, y_sR, Int32.reduceLT, y_nxK, y_nxL, y_nxR, y_sJK, y_sJL, y_sJR, y_sJN, y_sRK, y_sRL, y_sRN, Nat.add_zero, z_nat, z_lit, z_lit0, z_lit1, z_in0, z_in1, z_addl0, z_lt, z_ltl, z_llt, z_inj, z_injl, z_add, z_addl, z_ladd, z_mul, z_mull, z_lmul, z_neg, z_negl, z_in, z_inl, z_ltT, z_ltF, z_eqF, z_10, z_01, z_litne, z_ne0, z_0ne, z_ne1, z_1ne, z_lt64, z_02, z_03, z_04, z_05, z_12, z_13, z_14, z_15, z_20, z_21, z_23, z_24, z_25, z_30, z_31, z_32, z_34, z_35, z_40, z_41, z_42, z_43, z_45, z_50, z_51, z_52, z_53, z_54]
theorem tg_all : ∀ (kd sn hr : Bool) (so : Fin 3) (k : Fin 5), (((((if kd then (0 : Int32) else (1 : Int32) <<< (Int32.ofNat so.val &&& 31)) ||| (if sn then 16 else 0)) ||| (if hr then 8 else 0)).toUInt32 >>> ((Int32.ofNat k.val).toUInt32 &&& Int32.toUInt32 31)).toInt32 &&& 1) = if (if k.val < 3 then decide (kd = false ∧ so.val = k.val) else if k.val = 3 then hr else sn) = true then 1 else 0 := by decide +kernel
/-- the tags' number -/
def tgx (kd so sn hr : Int32) : Int32 := ((if kd = 3 then (0 : Int32) else (1 : Int32) <<< (so &&& 31)) ||| (if sn = 0 then 0 else 16)) ||| (if hr = 0 then 0 else 8)
theorem tgx_ok {p s : Nat} (hso : ¬ w (461 + 18 * p + 5) < 0 ∧ w (461 + 18 * p + 5) < 3) (hsn : w (461 + 18 * p + 16) = 0 ∨ w (461 + 18 * p + 16) = 1) (hhr : w (2622 + 49 * s + 3) = 0 ∨ w (2622 + 49 * s + 3) = 1) : TgC (tgx (w (461 + 18 * p)) (w (461 + 18 * p + 5)) (w (461 + 18 * p + 16)) (w (2622 + 49 * s + 3))) (fctP w p s).1 := by
  intro k hk
  obtain ⟨so, es, h3⟩ := z_lk 3 (by omega) hso.1 hso.2
  have h := tg_all (decide (w (461 + 18 * p) = 3)) (decide (w (461 + 18 * p + 16) = 1)) (decide (w (2622 + 49 * s + 3) = 1)) ⟨so, h3⟩ ⟨k, hk⟩
  have e1 : (if w (461 + 18 * p + 16) = 0 then (0 : Int32) else 16) = if decide (w (461 + 18 * p + 16) = 1) = true then 16 else 0 := by
    rcases hsn with e | e <;> rw [e] <;> decide
  have e2 : (if w (2622 + 49 * s + 3) = 0 then (0 : Int32) else 8) = if decide (w (2622 + 49 * s + 3) = 1) = true then 8 else 0 := by
    rcases hhr with e | e <;> rw [e] <;> decide
  have e3 : (if w (461 + 18 * p) = 3 then (0 : Int32) else (1 : Int32) <<< (w (461 + 18 * p + 5) &&& 31)) = if decide (w (461 + 18 * p) = 3) = true then (0 : Int32) else (1 : Int32) <<< (Int32.ofNat so &&& 31) := by
    rw [es]
    by_cases g : w (461 + 18 * p) = 3
    · rw [if_pos g, if_pos (decide_eq_true g)]
    · rw [if_neg g, if_neg (by rw [decide_eq_false g]; decide)]
  unfold tgx
  rw [e1, e2, e3]
  refine h.trans ?_
  have e4 : (if k < 3 then decide (decide (w (461 + 18 * p) = 3) = false ∧ so = k) else if k = 3 then decide (w (2622 + 49 * s + 3) = 1) else decide (w (461 + 18 * p + 16) = 1)) = (fctP w p s).1 k := by
    show _ = if k < 3 then decide (¬ w (461 + 18 * p) = 3 ∧ w (461 + 18 * p + 5) = Int32.ofNat k) else if k = 3 then decide (w (2622 + 49 * s + 3) = 1) else decide (w (461 + 18 * p + 16) = 1)
    by_cases g : k < 3
    · rw [if_pos g, if_pos g, es]
      refine decide_eq_decide.mpr ?_
      rw [z_inj (by omega) (by omega), decide_eq_false_iff_not]
    · rw [if_neg g, if_neg g]
  show (if (if k < 3 then decide (decide (w (461 + 18 * p) = 3) = false ∧ so = k) else if k = 3 then decide (w (2622 + 49 * s + 3) = 1) else decide (w (461 + 18 * p + 16) = 1)) = true then (1 : Int32) else 0) = _
  rw [e4]
theorem c_tellPiece {p : Nat} (hY : Yd B b) (h120 : p < 120) (hs : i (b + 92 + p) 13 = 0 ∨ i (b + 92 + p) 13 = 1) : am_fx am_P d 190 0 [some (.ref (b + 7)), some (.ref (b + 92 + p)), some (.int x)] [] (am_wI B i) = some (.inl none, am_wI B (am_up2 (am_up2 (am_up2 (am_up2 (am_up2 (am_up2 i (b + 7) 3 ((if i (b + 92 + p) 0 = 3 then (0 : Int32) else (1 : Int32) <<< (i (b + 92 + p) 1 &&& 31)) ||| (if i (b + 92 + p) 13 = 0 then 0 else 16))) (b + 10) 0 (i (b + 92 + p) 10)) (b + 10) 1 (i (b + 92 + p) 14)) (b + 10) 2 (i (b + 92 + p) 3)) (b + 10) 3 (i (b + 92 + p) 2)) (b + 10) 4 x)) := by
  rw [bk_190_0]
  by_cases g : i (b + 92 + p) 0 = 3
  · rcases hs with g2 | g2
    · simp (maxSteps := 1000000) (disch := omega) only [(fun d x0 x1 x2 B i => bk_190_0 d x0 x1 x2 (am_wI B i)), (fun d x0 x1 x2 s0 s1 B i => bk_190_19 d x0 x1 x2 s0 s1 (am_wI B i)), (fun d x0 x1 x2 s0 s1 s2 B i => bk_190_32 d x0 x1 x2 s0 s1 s2 (am_wI B i)), (fun d x0 x1 x2 B i => bk_190_46 d x0 x1 x2 (am_wI B i)), (fun d x0 x1 x2 B i => bk_190_66 d x0 x1 x2 (am_wI B i)), (fun d B i => bk_190_83 d (am_wI B i)), g, g2, hY, y_ckd, y_ck2d, y_ond, y_onn, y_oI, y_oIx, y_oJ, y_oV, y_oVx, y_oR, y_oRn, y_oRx, y_b0, y_b1, y_bi, y_bid, y_wIK, y_wIL, y_wII, y_wIJ, y_wIR, y_wIN, y_wIw, y_sI, ↓reduceIte, Nat.reduceEqDiff, eq_self, true_or, or_true, false_or, or_false, and_true, true_and, false_and, and_false, not_true, not_false_eq_true, tf_T, tf_F, y_up1, y_up2, y_xx, y_nx, y_sJ, y_sR, Int32.reduceLT, y_nxK, y_nxL, y_nxR, y_sJK, y_sJL, y_sJR, y_sJN, y_sRK, y_sRL, y_sRN, Nat.add_zero, z_nat, z_lit, z_lit0, z_lit1, z_in0, z_in1, z_addl0, z_lt, z_ltl, z_llt, z_inj, z_injl, z_add, z_addl, z_ladd, z_mul, z_mull, z_lmul, z_neg, z_negl, z_in, z_inl, z_ltT, z_ltF, z_eqF, z_10, z_01, z_litne, z_ne0, z_0ne, z_ne1, z_1ne, z_lt64, z_02, z_03, z_04, z_05, z_12, z_13, z_14, z_15, z_20, z_21, z_23, z_24, z_25, z_30, z_31, z_32, z_34, z_35, z_40, z_41, z_42, z_43, z_45, z_50, z_51, z_52, z_53, z_54]
    · simp (maxSteps := 1000000) (disch := omega) only [(fun d x0 x1 x2 B i => bk_190_0 d x0 x1 x2 (am_wI B i)), (fun d x0 x1 x2 s0 s1 B i => bk_190_19 d x0 x1 x2 s0 s1 (am_wI B i)), (fun d x0 x1 x2 s0 s1 s2 B i => bk_190_32 d x0 x1 x2 s0 s1 s2 (am_wI B i)), (fun d x0 x1 x2 B i => bk_190_46 d x0 x1 x2 (am_wI B i)), (fun d x0 x1 x2 B i => bk_190_66 d x0 x1 x2 (am_wI B i)), (fun d B i => bk_190_83 d (am_wI B i)), g, g2, hY, y_ckd, y_ck2d, y_ond, y_onn, y_oI, y_oIx, y_oJ, y_oV, y_oVx, y_oR, y_oRn, y_oRx, y_b0, y_b1, y_bi, y_bid, y_wIK, y_wIL, y_wII, y_wIJ, y_wIR, y_wIN, y_wIw, y_sI, ↓reduceIte, Nat.reduceEqDiff, eq_self, true_or, or_true, false_or, or_false, and_true, true_and, false_and, and_false, not_true, not_false_eq_true, tf_T, tf_F, y_up1, y_up2, y_xx, y_nx, y_sJ, y_sR, Int32.reduceLT, y_nxK, y_nxL, y_nxR, y_sJK, y_sJL, y_sJR, y_sJN, y_sRK, y_sRL, y_sRN, Nat.add_zero, z_nat, z_lit, z_lit0, z_lit1, z_in0, z_in1, z_addl0, z_lt, z_ltl, z_llt, z_inj, z_injl, z_add, z_addl, z_ladd, z_mul, z_mull, z_lmul, z_neg, z_negl, z_in, z_inl, z_ltT, z_ltF, z_eqF, z_10, z_01, z_litne, z_ne0, z_0ne, z_ne1, z_1ne, z_lt64, z_02, z_03, z_04, z_05, z_12, z_13, z_14, z_15, z_20, z_21, z_23, z_24, z_25, z_30, z_31, z_32, z_34, z_35, z_40, z_41, z_42, z_43, z_45, z_50, z_51, z_52, z_53, z_54]
  · rcases hs with g2 | g2
    · simp (maxSteps := 1000000) (disch := omega) only [(fun d x0 x1 x2 B i => bk_190_0 d x0 x1 x2 (am_wI B i)), (fun d x0 x1 x2 s0 s1 B i => bk_190_19 d x0 x1 x2 s0 s1 (am_wI B i)), (fun d x0 x1 x2 s0 s1 s2 B i => bk_190_32 d x0 x1 x2 s0 s1 s2 (am_wI B i)), (fun d x0 x1 x2 B i => bk_190_46 d x0 x1 x2 (am_wI B i)), (fun d x0 x1 x2 B i => bk_190_66 d x0 x1 x2 (am_wI B i)), (fun d B i => bk_190_83 d (am_wI B i)), g, g2, hY, y_ckd, y_ck2d, y_ond, y_onn, y_oI, y_oIx, y_oJ, y_oV, y_oVx, y_oR, y_oRn, y_oRx, y_b0, y_b1, y_bi, y_bid, y_wIK, y_wIL, y_wII, y_wIJ, y_wIR, y_wIN, y_wIw, y_sI, ↓reduceIte, Nat.reduceEqDiff, eq_self, true_or, or_true, false_or, or_false, and_true, true_and, false_and, and_false, not_true, not_false_eq_true, tf_T, tf_F, y_up1, y_up2, y_xx, y_nx, y_sJ, y_sR, Int32.reduceLT, y_nxK, y_nxL, y_nxR, y_sJK, y_sJL, y_sJR, y_sJN, y_sRK, y_sRL, y_sRN, Nat.add_zero, z_nat, z_lit, z_lit0, z_lit1, z_in0, z_in1, z_addl0, z_lt, z_ltl, z_llt, z_inj, z_injl, z_add, z_addl, z_ladd, z_mul, z_mull, z_lmul, z_neg, z_negl, z_in, z_inl, z_ltT, z_ltF, z_eqF, z_10, z_01, z_litne, z_ne0, z_0ne, z_ne1, z_1ne, z_lt64, z_02, z_03, z_04, z_05, z_12, z_13, z_14, z_15, z_20, z_21, z_23, z_24, z_25, z_30, z_31, z_32, z_34, z_35, z_40, z_41, z_42, z_43, z_45, z_50, z_51, z_52, z_53, z_54]
    · simp (maxSteps := 1000000) (disch := omega) only [(fun d x0 x1 x2 B i => bk_190_0 d x0 x1 x2 (am_wI B i)), (fun d x0 x1 x2 s0 s1 B i => bk_190_19 d x0 x1 x2 s0 s1 (am_wI B i)), (fun d x0 x1 x2 s0 s1 s2 B i => bk_190_32 d x0 x1 x2 s0 s1 s2 (am_wI B i)), (fun d x0 x1 x2 B i => bk_190_46 d x0 x1 x2 (am_wI B i)), (fun d x0 x1 x2 B i => bk_190_66 d x0 x1 x2 (am_wI B i)), (fun d B i => bk_190_83 d (am_wI B i)), g, g2, hY, y_ckd, y_ck2d, y_ond, y_onn, y_oI, y_oIx, y_oJ, y_oV, y_oVx, y_oR, y_oRn, y_oRx, y_b0, y_b1, y_bi, y_bid, y_wIK, y_wIL, y_wII, y_wIJ, y_wIR, y_wIN, y_wIw, y_sI, ↓reduceIte, Nat.reduceEqDiff, eq_self, true_or, or_true, false_or, or_false, and_true, true_and, false_and, and_false, not_true, not_false_eq_true, tf_T, tf_F, y_up1, y_up2, y_xx, y_nx, y_sJ, y_sR, Int32.reduceLT, y_nxK, y_nxL, y_nxR, y_sJK, y_sJL, y_sJR, y_sJN, y_sRK, y_sRL, y_sRN, Nat.add_zero, z_nat, z_lit, z_lit0, z_lit1, z_in0, z_in1, z_addl0, z_lt, z_ltl, z_llt, z_inj, z_injl, z_add, z_addl, z_ladd, z_mul, z_mull, z_lmul, z_neg, z_negl, z_in, z_inl, z_ltT, z_ltF, z_eqF, z_10, z_01, z_litne, z_ne0, z_0ne, z_ne1, z_1ne, z_lt64, z_02, z_03, z_04, z_05, z_12, z_13, z_14, z_15, z_20, z_21, z_23, z_24, z_25, z_30, z_31, z_32, z_34, z_35, z_40, z_41, z_42, z_43, z_45, z_50, z_51, z_52, z_53, z_54]
theorem c_tellShip (hY : Yd B b) : am_fx am_P d 193 0 [some (.ref (b + 7)), some (.int x), some (.int y)] [] (am_wI B i) = some (.inl none, am_wI B (am_up2 (am_up2 i (b + 7) 3 (i (b + 7) 3 ||| if x = 0 then 0 else 8)) (b + 10) 5 y)) := by
  rw [bk_193_0]
  by_cases g : x = 0
  · simp (disch := omega) only [(fun d x0 x1 x2 B i => bk_193_0 d x0 x1 x2 (am_wI B i)), (fun d x0 x2 s0 s1 s2 B i => bk_193_15 d x0 x2 s0 s1 s2 (am_wI B i)), (fun d B i => bk_193_26 d (am_wI B i)), g, hY, y_ckd, y_ck2d, y_ond, y_onn, y_oI, y_oIx, y_oJ, y_oV, y_oVx, y_oR, y_oRn, y_oRx, y_b0, y_b1, y_bi, y_bid, y_wIK, y_wIL, y_wII, y_wIJ, y_wIR, y_wIN, y_wIw, y_sI, ↓reduceIte, Nat.reduceEqDiff, eq_self, true_or, or_true, false_or, or_false, and_true, true_and, false_and, and_false, not_true, not_false_eq_true, tf_T, tf_F, y_up1, y_up2, y_xx, y_nx, y_sJ, y_sR, Int32.reduceLT, y_nxK, y_nxL, y_nxR, y_sJK, y_sJL, y_sJR, y_sJN, y_sRK, y_sRL, y_sRN, Nat.add_zero, z_nat, z_lit, z_lit0, z_lit1, z_in0, z_in1, z_addl0, z_lt, z_ltl, z_llt, z_inj, z_injl, z_add, z_addl, z_ladd, z_mul, z_mull, z_lmul, z_neg, z_negl, z_in, z_inl, z_ltT, z_ltF, z_eqF, z_10, z_01, z_litne, z_ne0, z_0ne, z_ne1, z_1ne, z_lt64, z_02, z_03, z_04, z_05, z_12, z_13, z_14, z_15, z_20, z_21, z_23, z_24, z_25, z_30, z_31, z_32, z_34, z_35, z_40, z_41, z_42, z_43, z_45, z_50, z_51, z_52, z_53, z_54]
  · simp (disch := omega) only [(fun d x0 x1 x2 B i => bk_193_0 d x0 x1 x2 (am_wI B i)), (fun d x0 x2 s0 s1 s2 B i => bk_193_15 d x0 x2 s0 s1 s2 (am_wI B i)), (fun d B i => bk_193_26 d (am_wI B i)), g, hY, y_ckd, y_ck2d, y_ond, y_onn, y_oI, y_oIx, y_oJ, y_oV, y_oVx, y_oR, y_oRn, y_oRx, y_b0, y_b1, y_bi, y_bid, y_wIK, y_wIL, y_wII, y_wIJ, y_wIR, y_wIN, y_wIw, y_sI, ↓reduceIte, Nat.reduceEqDiff, eq_self, true_or, or_true, false_or, or_false, and_true, true_and, false_and, and_false, not_true, not_false_eq_true, tf_T, tf_F, y_up1, y_up2, y_xx, y_nx, y_sJ, y_sR, Int32.reduceLT, y_nxK, y_nxL, y_nxR, y_sJK, y_sJL, y_sJR, y_sJN, y_sRK, y_sRL, y_sRN, Nat.add_zero, z_nat, z_lit, z_lit0, z_lit1, z_in0, z_in1, z_addl0, z_lt, z_ltl, z_llt, z_inj, z_injl, z_add, z_addl, z_ladd, z_mul, z_mull, z_lmul, z_neg, z_negl, z_in, z_inl, z_ltT, z_ltF, z_eqF, z_10, z_01, z_litne, z_ne0, z_0ne, z_ne1, z_1ne, z_lt64, z_02, z_03, z_04, z_05, z_12, z_13, z_14, z_15, z_20, z_21, z_23, z_24, z_25, z_30, z_31, z_32, z_34, z_35, z_40, z_41, z_42, z_43, z_45, z_50, z_51, z_52, z_53, z_54]
theorem c_lineFor {p s k q : Nat} (hY : Yd B b) (hb : b = 94 ∨ b = 354 ∨ b = 614) (hR : Rep B i b w) (hW : Wd w) (hp : p < cn w 460) (hs : s < cn w 2621) (hT : TxR B i q w (3542 + 850 * k)) (hX : TxW w (3542 + 850 * k)) (hL : am_L B (q + 4) ≤ 400) : ∃ i', am_fx am_P (d + 3) 250 0 [some (.ref b), some (.ref q), some (.ref (b + 92 + p)), some (.int (Int32.ofNat s))] [] (am_wI B i) = some (.inl (some (.int (whO w (3542 + 850 * k) (fctP w p s) (w (461 + 18 * p))))), am_wI B i') ∧ ∀ q k, (q = b + 7 → k ≠ 3) → q ≠ b + 10 → i' q k = i q k := by
  have hc4 := hW.1.2.2.1
  have hc26 := hW.1.2.2.2.1
  have l4 := hc4.2
  have l26 := hc26.2
  obtain ⟨b0, b1, b2, b3, b4, b5, b6, b7, b8, b9, b10, b11, b12, b13, b14, b15, b16, b17, b18⟩ := hR.2.2.1.2 p hp (by omega)
  have a4 := (hR.2.2.2.1.2 s hs (by omega)).2.2.2.1
  obtain ⟨-, -, -, -, hso, -, -, -, -, -, -, -, hsn⟩ := hW.2.2.2.1.1 p hp (by omega)
  have hhr := (hW.2.2.2.2.1.1 s hs (by omega)).2.2.1
  have g1 := ck_nat hc26 (by omega) hs
  have k0 := hR.1.1
  have r8 := hR.2.2.2.1.1
  have eT := hT.2.2.1.1
  refine ⟨am_up2 (am_up2 (am_up2 (am_up2 (am_up2 (am_up2 (am_up2 (am_up2 i (b + 7) 3 ((if i (b + 92 + p) 0 = 3 then (0 : Int32) else (1 : Int32) <<< (i (b + 92 + p) 1 &&& 31)) ||| (if i (b + 92 + p) 13 = 0 then 0 else 16))) (b + 10) 0 (i (b + 92 + p) 10)) (b + 10) 1 (i (b + 92 + p) 14)) (b + 10) 2 (i (b + 92 + p) 3)) (b + 10) 3 (i (b + 92 + p) 2)) (b + 10) 4 (w 0 - w (461 + 18 * p + 10))) (b + 7) 3 (tgx (w (461 + 18 * p)) (w (461 + 18 * p + 5)) (w (461 + 18 * p + 16)) (w (2622 + 49 * s + 3)))) (b + 10) 5 (ngg w (Int32.ofNat s)), ?_, fun q k h1 h2 => by simp (disch := omega) only [y_up2]⟩
  have hg : ∀ i' : Nat → Nat → Int32, RG i' b w → am_fx am_P (d + 2) 258 0 [some (.ref b), some (.int (Int32.ofNat s)), none, none] [] (am_wI B i') = some (.inl (some (.int (ngg w (Int32.ofNat s)))), am_wI B i') := fun i' h => c_gangsOn hY h hW.1.2.2.2.2.2.1
  rw [bk_250_0_RRRI_]
  have eP := c_tellPiece (B := B) (i := i) (d := d + 2) (x := w 0 - w (461 + 18 * p + 10)) hY (show p < 120 by omega) (by rw [b16]; exact hsn)
  simp (maxSteps := 1000000) (disch := omega) only [c_within1 (x := Int32.ofNat s) (a := 0) (c := w 2621 - 1) ⟨g1.1, by rw [z_pred hc26.1 (by omega)]; exact fun q => q g1.2⟩, k0, r8, b10, eP, hY, y_ckd, y_ck2d, y_ond, y_onn, y_oI, y_oIx, y_oJ, y_oV, y_oVx, y_oR, y_oRn, y_oRx, y_b0, y_b1, y_bi, y_bid, y_wIK, y_wIL, y_wII, y_wIJ, y_wIR, y_wIN, y_wIw, y_sI, ↓reduceIte, Nat.reduceEqDiff, eq_self, true_or, or_true, false_or, or_false, and_true, true_and, false_and, and_false, not_true, not_false_eq_true, tf_T, tf_F, y_up1, y_up2, y_xx, y_nx, y_sJ, y_sR, Int32.reduceLT, y_nxK, y_nxL, y_nxR, y_sJK, y_sJL, y_sJR, y_sJN, y_sRK, y_sRL, y_sRN, Nat.add_zero, z_nat, z_lit, z_lit0, z_lit1, z_in0, z_in1, z_addl0, z_lt, z_ltl, z_llt, z_inj, z_injl, z_add, z_addl, z_ladd, z_mul, z_mull, z_lmul, z_neg, z_negl, z_in, z_inl, z_ltT, z_ltF, z_eqF, z_10, z_01, z_litne, z_ne0, z_0ne, z_ne1, z_1ne, z_lt64, z_02, z_03, z_04, z_05, z_12, z_13, z_14, z_15, z_20, z_21, z_23, z_24, z_25, z_30, z_31, z_32, z_34, z_35, z_40, z_41, z_42, z_43, z_45, z_50, z_51, z_52, z_53, z_54]
  generalize hi1 : am_up2 (am_up2 (am_up2 (am_up2 (am_up2 (am_up2 i (b + 7) 3 ((if i (b + 92 + p) 0 = 3 then (0 : Int32) else (1 : Int32) <<< (i (b + 92 + p) 1 &&& 31)) ||| (if i (b + 92 + p) 13 = 0 then 0 else 16))) (b + 10) 0 (i (b + 92 + p) 10)) (b + 10) 1 (i (b + 92 + p) 14)) (b + 10) 2 (i (b + 92 + p) 3)) (b + 10) 3 (i (b + 92 + p) 2)) (b + 10) 4 (w 0 - w (461 + 18 * p + 10)) = i1
  have f1 : ∀ q k, (q = b + 7 → k ≠ 3) → q ≠ b + 10 → i1 q k = i q k := fun q k h1 h2 => by rw [← hi1]; simp (disch := omega) only [y_up2]
  have t1 : i1 (b + 7) 3 = (if w (461 + 18 * p) = 3 then (0 : Int32) else (1 : Int32) <<< (w (461 + 18 * p + 5) &&& 31)) ||| (if w (461 + 18 * p + 16) = 0 then 0 else 16) := by
    rw [← hi1]
    simp (disch := omega) only [y_up1, y_up2, b0, b5, b16]
  have v0 : i1 (b + 10) 0 = w (461 + 18 * p + 6) := by rw [← hi1]; simp (disch := omega) only [y_up1, y_up2, b6]
  have v1 : i1 (b + 10) 1 = w (461 + 18 * p + 8) := by rw [← hi1]; simp (disch := omega) only [y_up1, y_up2, b8]
  have v2 : i1 (b + 10) 2 = w (461 + 18 * p + 3) := by rw [← hi1]; simp (disch := omega) only [y_up1, y_up2, b3]
  have v3 : i1 (b + 10) 3 = w (461 + 18 * p + 2) := by rw [← hi1]; simp (disch := omega) only [y_up1, y_up2, b2]
  have v4 : i1 (b + 10) 4 = w 0 - w (461 + 18 * p + 10) := by rw [← hi1]; simp (disch := omega) only [y_up1, y_up2]
  have hg1 := hg i1 (RG_fr hR.2.2.2.2.1 (fun q k hq => f1 q k (by omega) (by omega)) fun _ _ => rfl)
  have a4' : i1 (b + 212 + 6 * s) 2 = w (2622 + 49 * s + 3) := (f1 _ _ (by omega) (by omega)).trans a4
  have eS := c_tellShip (B := B) (i := i1) (d := d + 2) (x := w (2622 + 49 * s + 3)) (y := ngg w (Int32.ofNat s)) hY
  have etg : i1 (b + 7) 3 ||| (if w (2622 + 49 * s + 3) = 0 then 0 else 8) = tgx (w (461 + 18 * p)) (w (461 + 18 * p + 5)) (w (461 + 18 * p + 16)) (w (2622 + 49 * s + 3)) := by rw [t1]; rfl
  rw [etg] at eS
  simp (maxSteps := 1000000) (disch := omega) only [hg1, a4, eS, hY, y_ckd, y_ck2d, y_ond, y_onn, y_oI, y_oIx, y_oJ, y_oV, y_oVx, y_oR, y_oRn, y_oRx, y_b0, y_b1, y_bi, y_bid, y_wIK, y_wIL, y_wII, y_wIJ, y_wIR, y_wIN, y_wIw, y_sI, ↓reduceIte, Nat.reduceEqDiff, eq_self, true_or, or_true, false_or, or_false, and_true, true_and, false_and, and_false, not_true, not_false_eq_true, tf_T, tf_F, y_up1, y_up2, y_xx, y_nx, y_sJ, y_sR, Int32.reduceLT, y_nxK, y_nxL, y_nxR, y_sJK, y_sJL, y_sJR, y_sJN, y_sRK, y_sRL, y_sRN, Nat.add_zero, z_nat, z_lit, z_lit0, z_lit1, z_in0, z_in1, z_addl0, z_lt, z_ltl, z_llt, z_inj, z_injl, z_add, z_addl, z_ladd, z_mul, z_mull, z_lmul, z_neg, z_negl, z_in, z_inl, z_ltT, z_ltF, z_eqF, z_10, z_01, z_litne, z_ne0, z_0ne, z_ne1, z_1ne, z_lt64, z_02, z_03, z_04, z_05, z_12, z_13, z_14, z_15, z_20, z_21, z_23, z_24, z_25, z_30, z_31, z_32, z_34, z_35, z_40, z_41, z_42, z_43, z_45, z_50, z_51, z_52, z_53, z_54]
  have f2 : ∀ q k, (q = b + 7 → k ≠ 3) → q ≠ b + 10 → am_up2 (am_up2 i1 (b + 7) 3 (tgx (w (461 + 18 * p)) (w (461 + 18 * p + 5)) (w (461 + 18 * p + 16)) (w (2622 + 49 * s + 3)))) (b + 10) 5 (ngg w (Int32.ofNat s)) q k = i q k := fun q k h1 h2 => by rw [y_up2 (by omega), y_up2 (by omega)]; exact f1 q k h1 h2
  have eF := c_firstFit (B := B) (i := am_up2 (am_up2 i1 (b + 7) 3 (tgx (w (461 + 18 * p)) (w (461 + 18 * p + 5)) (w (461 + 18 * p + 16)) (w (2622 + 49 * s + 3)))) (b + 10) 5 (ngg w (Int32.ofNat s))) (d := d) (q := q) (o := 3542 + 850 * k) (x := w (461 + 18 * p)) (fc := fctP w p s) hY (TxR_fr hT (Le.rf B) (fun x h1 _ => funext fun m => f2 x m (by omega) (by omega)) (fun _ _ => rfl) (by have := hX.2.1.2; omega) hL) hX hL (by rw [y_up2 (by omega), y_up1 rfl rfl]; exact tgx_ok hso hsn hhr) (fun m hm => by
    have : m = 0 ∨ m = 1 ∨ m = 2 ∨ m = 3 ∨ m = 4 ∨ m = 5 := by omega
    rcases this with rfl | rfl | rfl | rfl | rfl | rfl <;> simp (disch := omega) only [y_up1, y_up2, v0, v1, v2, v3, v4] <;> rfl)
  have kd := (f1 (b + 92 + p) 0 (by omega) (by omega)).trans b0
  simp (maxSteps := 1000000) (disch := omega) only [kd, eF, eT, hY, y_ckd, y_ck2d, y_ond, y_onn, y_oI, y_oIx, y_oJ, y_oV, y_oVx, y_oR, y_oRn, y_oRx, y_b0, y_b1, y_bi, y_bid, y_wIK, y_wIL, y_wII, y_wIJ, y_wIR, y_wIN, y_wIw, y_sI, ↓reduceIte, Nat.reduceEqDiff, eq_self, true_or, or_true, false_or, or_false, and_true, true_and, false_and, and_false, not_true, not_false_eq_true, tf_T, tf_F, y_up1, y_up2, y_xx, y_nx, y_sJ, y_sR, Int32.reduceLT, y_nxK, y_nxL, y_nxR, y_sJK, y_sJL, y_sJR, y_sJN, y_sRK, y_sRL, y_sRN, Nat.add_zero, z_nat, z_lit, z_lit0, z_lit1, z_in0, z_in1, z_addl0, z_lt, z_ltl, z_llt, z_inj, z_injl, z_add, z_addl, z_ladd, z_mul, z_mull, z_lmul, z_neg, z_negl, z_in, z_inl, z_ltT, z_ltF, z_eqF, z_10, z_01, z_litne, z_ne0, z_0ne, z_ne1, z_1ne, z_lt64, z_02, z_03, z_04, z_05, z_12, z_13, z_14, z_15, z_20, z_21, z_23, z_24, z_25, z_30, z_31, z_32, z_34, z_35, z_40, z_41, z_42, z_43, z_45, z_50, z_51, z_52, z_53, z_54]
end Lets
