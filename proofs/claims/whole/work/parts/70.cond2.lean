/-! A LINE'S CONDITION, AS THE CLASS AND AS THE MODEL RECKON IT: made by wip/whole/math/70.py. -/
section Cond2
variable {B : am_A} {i j : Nat → Nat → Int32} {w : Nat → Int32} {d b : Nat} {fc : Fct}
theorem bvN {c : Bool} {r : List Bool} : Int32.ofNat (bv (c :: r)) ^^^ 1 = Int32.ofNat (bv ((!c) :: r)) := by
  rw [show (1 : Int32) = Int32.ofNat 1 from rfl, z_xor]
  exact congrArg _ (nx_1 (bv r) c)
theorem bvP0 {s : List Bool} : Int32.ofNat (bv s) <<< ((1 : Int32) &&& 31) ||| 0 = Int32.ofNat (bv (false :: s)) := by
  rw [z_shl1, show (0 : Int32) = Int32.ofNat 0 from rfl, z_or]
  exact congrArg _ (no_1 (bv s) false)
theorem bvP1 {s : List Bool} : Int32.ofNat (bv s) <<< ((1 : Int32) &&& 31) ||| 1 = Int32.ofNat (bv (true :: s)) := by
  rw [z_shl1, show (1 : Int32) = Int32.ofNat 1 from rfl, z_or]
  exact congrArg _ (no_1 (bv s) true)
theorem bv_half {c : Bool} {r : List Bool} : bv (c :: r) / 2 = bv r := by
  show (2 * bv r + c.toNat) / 2 = bv r
  cases c <;> simp <;> omega
theorem bv_mod {c : Bool} {r : List Bool} : bv (c :: r) % 2 = c.toNat := by
  show (2 * bv r + c.toNat) % 2 = c.toNat
  cases c <;> simp <;> omega
theorem bvA {c a : Bool} {r : List Bool} (h : bv (c :: a :: r) < 131072) : ((Int32.ofNat (bv (c :: a :: r))).toUInt32 >>> ((1 : Int32).toUInt32 &&& Int32.toUInt32 31)).toInt32 &&& (Int32.ofNat (bv (c :: a :: r)) &&& 1 ||| -2) = Int32.ofNat (bv ((a && c) :: r)) := by
  have h2 : bv (c :: a :: r) = 2 * (2 * bv r + a.toNat) + c.toNat := rfl
  rw [z_shr1 (by omega), bv_half, z_and1, bv_mod]
  cases c with
  | true =>
    rw [show (Int32.ofNat (true.toNat) ||| -2 : Int32) = -1 by decide, Int32.and_neg_one, Bool.and_true]
  | false =>
    rw [show (Int32.ofNat (false.toNat) ||| -2 : Int32) = Int32.ofNat 4294967294 by decide, z_and, Bool.and_false]
    refine congrArg _ ?_
    show (2 * bv r + a.toNat) &&& 4294967294 = 2 * bv r + 0
    rw [na_2 _ _ (by omega)]
    rfl
theorem bvO {c a : Bool} {r : List Bool} (h : bv (c :: a :: r) < 131072) : ((Int32.ofNat (bv (c :: a :: r))).toUInt32 >>> ((1 : Int32).toUInt32 &&& Int32.toUInt32 31)).toInt32 ||| Int32.ofNat (bv (c :: a :: r)) &&& 1 = Int32.ofNat (bv ((a || c) :: r)) := by
  rw [z_shr1 (by omega), bv_half, z_and1, bv_mod, z_or]
  refine congrArg _ ?_
  show (2 * bv r + a.toNat) ||| c.toNat = 2 * bv r + (a || c).toNat
  rw [← no_1, ← no_1, Nat.or_assoc]
  refine congrArg _ ?_
  cases a <;> cases c <;> decide
theorem bvE {s : List Bool} (h : s.length ≤ 16) : (Int32.ofNat (bv s) &&& 1 = 1) = (hdB s = true) := by
  cases s with
  | nil => exact propext ⟨fun _ => rfl, fun _ => by decide⟩
  | cons c r =>
    rw [z_and1, bv_mod]
    cases c
    · exact propext ⟨fun q => absurd q (by decide), fun q => absurd (show false = true from q) Bool.false_ne_true⟩
    · exact propext ⟨fun _ => rfl, fun _ => by decide⟩
theorem dd_00 : (Int32.ofNat 0 = (0 : Int32)) = True := eq_true (by decide)
theorem dd_01 : (Int32.ofNat 0 = (1 : Int32)) = False := eq_false (by decide)
theorem dd_03 : (Int32.ofNat 0 = (3 : Int32)) = False := eq_false (by decide)
theorem dd_04 : (Int32.ofNat 0 = (4 : Int32)) = False := eq_false (by decide)
theorem dd_05 : (Int32.ofNat 0 = (5 : Int32)) = False := eq_false (by decide)
theorem dd_10 : (Int32.ofNat 1 = (0 : Int32)) = False := eq_false (by decide)
theorem dd_11 : (Int32.ofNat 1 = (1 : Int32)) = True := eq_true (by decide)
theorem dd_13 : (Int32.ofNat 1 = (3 : Int32)) = False := eq_false (by decide)
theorem dd_14 : (Int32.ofNat 1 = (4 : Int32)) = False := eq_false (by decide)
theorem dd_15 : (Int32.ofNat 1 = (5 : Int32)) = False := eq_false (by decide)
theorem dd_20 : (Int32.ofNat 2 = (0 : Int32)) = False := eq_false (by decide)
theorem dd_21 : (Int32.ofNat 2 = (1 : Int32)) = False := eq_false (by decide)
theorem dd_23 : (Int32.ofNat 2 = (3 : Int32)) = False := eq_false (by decide)
theorem dd_24 : (Int32.ofNat 2 = (4 : Int32)) = False := eq_false (by decide)
theorem dd_25 : (Int32.ofNat 2 = (5 : Int32)) = False := eq_false (by decide)
theorem dd_30 : (Int32.ofNat 3 = (0 : Int32)) = False := eq_false (by decide)
theorem dd_31 : (Int32.ofNat 3 = (1 : Int32)) = False := eq_false (by decide)
theorem dd_33 : (Int32.ofNat 3 = (3 : Int32)) = True := eq_true (by decide)
theorem dd_34 : (Int32.ofNat 3 = (4 : Int32)) = False := eq_false (by decide)
theorem dd_35 : (Int32.ofNat 3 = (5 : Int32)) = False := eq_false (by decide)
theorem dd_40 : (Int32.ofNat 4 = (0 : Int32)) = False := eq_false (by decide)
theorem dd_41 : (Int32.ofNat 4 = (1 : Int32)) = False := eq_false (by decide)
theorem dd_43 : (Int32.ofNat 4 = (3 : Int32)) = False := eq_false (by decide)
theorem dd_44 : (Int32.ofNat 4 = (4 : Int32)) = True := eq_true (by decide)
theorem dd_45 : (Int32.ofNat 4 = (5 : Int32)) = False := eq_false (by decide)
theorem dd_50 : (Int32.ofNat 5 = (0 : Int32)) = False := eq_false (by decide)
theorem dd_51 : (Int32.ofNat 5 = (1 : Int32)) = False := eq_false (by decide)
theorem dd_53 : (Int32.ofNat 5 = (3 : Int32)) = False := eq_false (by decide)
theorem dd_54 : (Int32.ofNat 5 = (4 : Int32)) = False := eq_false (by decide)
theorem dd_55 : (Int32.ofNat 5 = (5 : Int32)) = True := eq_true (by decide)
theorem k21_t : (21 ≤ 21 ∧ 21 ≤ 29 ∨ 21 = 41) = True := eq_true (by decide)
theorem b2_0 {c : Prop} [Decidable c] : ((if c then (1 : Int32) else 0) = 0) = ¬ c := by
  by_cases h : c
  · rw [if_pos h]
    exact propext ⟨fun q => absurd q (by decide), fun q => absurd h q⟩
  · rw [if_neg h]
    exact propext ⟨fun _ => h, fun _ => rfl⟩
theorem b2_1 {c : Prop} [Decidable c] : ((if c then (1 : Int32) else 0) = 1) = c := by
  by_cases h : c
  · rw [if_pos h]
    exact propext ⟨fun _ => h, fun _ => rfl⟩
  · rw [if_neg h]
    exact propext ⟨fun q => absurd q (by decide), fun q => absurd q h⟩
theorem c_isSo0 {s : Nat} (hY : Yd B b) (hT : TgC (i (b + 7) 3) fc.1) (hs : s < 5) : am_fx am_P d 181 0 [some (.int (Int32.ofNat 0)), some (.int (Int32.ofNat (8 * s))), some (.ref (b + 7)), none, none] [] (am_wI B i) = some (.inl (some (.int (if fc.1 s = true then 1 else 0))), am_wI B i) := by
  have e1 : 8 * s / 8 % 8 = s := by omega
  have e2 := hT s hs
  rw [bk_181_0]
  simp (disch := omega) only [z_shr3, z_and7, e1, e2, dd_00, hY, y_ckd, y_ck2d, y_ond, y_onn, y_oI, y_oIx, y_oJ, y_oV, y_oVx, y_oR, y_oRn, y_oRx, y_b0, y_b1, y_bi, y_bid, y_wIK, y_wIL, y_wII, y_wIJ, y_wIR, y_wIN, y_wIw, y_sI, ↓reduceIte, Nat.reduceEqDiff, eq_self, true_or, or_true, false_or, or_false, and_true, true_and, false_and, and_false, not_true, not_false_eq_true, tf_T, tf_F, y_up1, y_up2, y_xx, y_nx, y_sJ, y_sR, Int32.reduceLT, y_nxK, y_nxL, y_nxR, y_sJK, y_sJL, y_sJR, y_sJN, y_sRK, y_sRL, y_sRN]
  cases fc.1 s
  · simp only [Bool.false_eq_true, ↓reduceIte, z_01, y_b0]
  · simp only [↓reduceIte, y_b1]
theorem c_isSo1 {f t : Nat} (hY : Yd B b) (hf : ∀ m, m < 6 → i (b + 10) m = fc.2 m) (h6 : f < 6) (ht : t < 100000) : am_fx am_P d 181 0 [some (.int (Int32.ofNat 1)), some (.int (Int32.ofNat (1 + 8 * f + 64 * t))), some (.ref (b + 7)), none, none] [] (am_wI B i) = some (.inl (some (.int (if fc.2 f < Int32.ofNat t then 1 else 0))), am_wI B i) := by
  have e1 : (1 + 8 * f + 64 * t) / 8 % 8 = f := by omega
  have e3 : (1 + 8 * f + 64 * t) / 64 = t := by omega
  have e2 := hf f h6
  rw [bk_181_0]
  by_cases g : fc.2 f < Int32.ofNat t
  · simp (disch := omega) only [(fun d x0 x1 x2 B i => bk_181_0 d x0 x1 x2 (am_wI B i)), (fun d x0 x1 s0 B i => bk_181_48 d x0 x1 s0 (am_wI B i)), z_shr3, z_shr6, z_and7, e1, e2, e3, g, dd_10, dd_11, k21_t, Nat.le_refl, Nat.reduceLeDiff, and_self, hY, y_ckd, y_ck2d, y_ond, y_onn, y_oI, y_oIx, y_oJ, y_oV, y_oVx, y_oR, y_oRn, y_oRx, y_b0, y_b1, y_bi, y_bid, y_wIK, y_wIL, y_wII, y_wIJ, y_wIR, y_wIN, y_wIw, y_sI, ↓reduceIte, Nat.reduceEqDiff, eq_self, true_or, or_true, false_or, or_false, and_true, true_and, false_and, and_false, not_true, not_false_eq_true, tf_T, tf_F, y_up1, y_up2, y_xx, y_nx, y_sJ, y_sR, Int32.reduceLT, y_nxK, y_nxL, y_nxR, y_sJK, y_sJL, y_sJR, y_sJN, y_sRK, y_sRL, y_sRN, Nat.add_zero, z_nat, z_lit, z_lit0, z_lit1, z_in0, z_in1, z_addl0, z_lt, z_ltl, z_llt, z_inj, z_injl, z_add, z_addl, z_ladd, z_mul, z_mull, z_lmul, z_neg, z_negl, z_in, z_inl, z_ltT, z_ltF, z_eqF, z_10, z_01, z_litne, z_ne0, z_0ne, z_ne1, z_1ne, z_lt64, z_02, z_03, z_04, z_05, z_12, z_13, z_14, z_15, z_20, z_21, z_23, z_24, z_25, z_30, z_31, z_32, z_34, z_35, z_40, z_41, z_42, z_43, z_45, z_50, z_51, z_52, z_53, z_54]
  · simp (disch := omega) only [(fun d x0 x1 x2 B i => bk_181_0 d x0 x1 x2 (am_wI B i)), (fun d x0 x1 s0 B i => bk_181_48 d x0 x1 s0 (am_wI B i)), z_shr3, z_shr6, z_and7, e1, e2, e3, g, dd_10, dd_11, k21_t, Nat.le_refl, Nat.reduceLeDiff, and_self, hY, y_ckd, y_ck2d, y_ond, y_onn, y_oI, y_oIx, y_oJ, y_oV, y_oVx, y_oR, y_oRn, y_oRx, y_b0, y_b1, y_bi, y_bid, y_wIK, y_wIL, y_wII, y_wIJ, y_wIR, y_wIN, y_wIw, y_sI, ↓reduceIte, Nat.reduceEqDiff, eq_self, true_or, or_true, false_or, or_false, and_true, true_and, false_and, and_false, not_true, not_false_eq_true, tf_T, tf_F, y_up1, y_up2, y_xx, y_nx, y_sJ, y_sR, Int32.reduceLT, y_nxK, y_nxL, y_nxR, y_sJK, y_sJL, y_sJR, y_sJN, y_sRK, y_sRL, y_sRN, Nat.add_zero, z_nat, z_lit, z_lit0, z_lit1, z_in0, z_in1, z_addl0, z_lt, z_ltl, z_llt, z_inj, z_injl, z_add, z_addl, z_ladd, z_mul, z_mull, z_lmul, z_neg, z_negl, z_in, z_inl, z_ltT, z_ltF, z_eqF, z_10, z_01, z_litne, z_ne0, z_0ne, z_ne1, z_1ne, z_lt64, z_02, z_03, z_04, z_05, z_12, z_13, z_14, z_15, z_20, z_21, z_23, z_24, z_25, z_30, z_31, z_32, z_34, z_35, z_40, z_41, z_42, z_43, z_45, z_50, z_51, z_52, z_53, z_54]
theorem c_isSo2 {f t : Nat} (hY : Yd B b) (hf : ∀ m, m < 6 → i (b + 10) m = fc.2 m) (h6 : f < 6) (ht : t < 100000) : am_fx am_P d 181 0 [some (.int (Int32.ofNat 2)), some (.int (Int32.ofNat (2 + 8 * f + 64 * t))), some (.ref (b + 7)), none, none] [] (am_wI B i) = some (.inl (some (.int (if Int32.ofNat t < fc.2 f then 1 else 0))), am_wI B i) := by
  have e1 : (2 + 8 * f + 64 * t) / 8 % 8 = f := by omega
  have e3 : (2 + 8 * f + 64 * t) / 64 = t := by omega
  have e2 := hf f h6
  rw [bk_181_0]
  by_cases g : Int32.ofNat t < fc.2 f
  · simp (disch := omega) only [(fun d x0 x1 x2 B i => bk_181_0 d x0 x1 x2 (am_wI B i)), (fun d x0 x1 s0 B i => bk_181_48 d x0 x1 s0 (am_wI B i)), z_shr3, z_shr6, z_and7, e1, e2, e3, g, dd_20, dd_21, k21_t, Nat.le_refl, Nat.reduceLeDiff, and_self, hY, y_ckd, y_ck2d, y_ond, y_onn, y_oI, y_oIx, y_oJ, y_oV, y_oVx, y_oR, y_oRn, y_oRx, y_b0, y_b1, y_bi, y_bid, y_wIK, y_wIL, y_wII, y_wIJ, y_wIR, y_wIN, y_wIw, y_sI, ↓reduceIte, Nat.reduceEqDiff, eq_self, true_or, or_true, false_or, or_false, and_true, true_and, false_and, and_false, not_true, not_false_eq_true, tf_T, tf_F, y_up1, y_up2, y_xx, y_nx, y_sJ, y_sR, Int32.reduceLT, y_nxK, y_nxL, y_nxR, y_sJK, y_sJL, y_sJR, y_sJN, y_sRK, y_sRL, y_sRN, Nat.add_zero, z_nat, z_lit, z_lit0, z_lit1, z_in0, z_in1, z_addl0, z_lt, z_ltl, z_llt, z_inj, z_injl, z_add, z_addl, z_ladd, z_mul, z_mull, z_lmul, z_neg, z_negl, z_in, z_inl, z_ltT, z_ltF, z_eqF, z_10, z_01, z_litne, z_ne0, z_0ne, z_ne1, z_1ne, z_lt64, z_02, z_03, z_04, z_05, z_12, z_13, z_14, z_15, z_20, z_21, z_23, z_24, z_25, z_30, z_31, z_32, z_34, z_35, z_40, z_41, z_42, z_43, z_45, z_50, z_51, z_52, z_53, z_54]
  · simp (disch := omega) only [(fun d x0 x1 x2 B i => bk_181_0 d x0 x1 x2 (am_wI B i)), (fun d x0 x1 s0 B i => bk_181_48 d x0 x1 s0 (am_wI B i)), z_shr3, z_shr6, z_and7, e1, e2, e3, g, dd_20, dd_21, k21_t, Nat.le_refl, Nat.reduceLeDiff, and_self, hY, y_ckd, y_ck2d, y_ond, y_onn, y_oI, y_oIx, y_oJ, y_oV, y_oVx, y_oR, y_oRn, y_oRx, y_b0, y_b1, y_bi, y_bid, y_wIK, y_wIL, y_wII, y_wIJ, y_wIR, y_wIN, y_wIw, y_sI, ↓reduceIte, Nat.reduceEqDiff, eq_self, true_or, or_true, false_or, or_false, and_true, true_and, false_and, and_false, not_true, not_false_eq_true, tf_T, tf_F, y_up1, y_up2, y_xx, y_nx, y_sJ, y_sR, Int32.reduceLT, y_nxK, y_nxL, y_nxR, y_sJK, y_sJL, y_sJR, y_sJN, y_sRK, y_sRL, y_sRN, Nat.add_zero, z_nat, z_lit, z_lit0, z_lit1, z_in0, z_in1, z_addl0, z_lt, z_ltl, z_llt, z_inj, z_injl, z_add, z_addl, z_ladd, z_mul, z_mull, z_lmul, z_neg, z_negl, z_in, z_inl, z_ltT, z_ltF, z_eqF, z_10, z_01, z_litne, z_ne0, z_0ne, z_ne1, z_1ne, z_lt64, z_02, z_03, z_04, z_05, z_12, z_13, z_14, z_15, z_20, z_21, z_23, z_24, z_25, z_30, z_31, z_32, z_34, z_35, z_40, z_41, z_42, z_43, z_45, z_50, z_51, z_52, z_53, z_54]
theorem c_holds_st {q o n : Nat} (hY : Yd B b) (hT : TxR B i q w o) (hW : TxW w o) (hL : am_L B (q + 4) ≤ 400) (hn : n < cn w (o + 1)) : am_fx am_P (d + 1) 180 0 [some (.ref q), some (.int (Int32.ofNat n)), some (.ref (b + 7)), none, none, none, none, none] [] (am_wI B i) = am_fx am_P (d + 1) 180 23 [some (.ref q), some (.int (Int32.ofNat n)), some (.ref (b + 7)), none, some (.int 1), some (.int (Int32.ofNat (cn w (o + 2 + 4 * n + 2)))), none, none] [] (am_wI B i) := by
  obtain ⟨q0, qN, ⟨k9, r1, r2, r3, r4⟩, i0, l1, l2, l3, l4, hl, hc⟩ := hT
  obtain ⟨-, h12, hx⟩ := hW
  have n12 := h12.2
  obtain ⟨-, -, ⟨ea, ee⟩, eb, hD⟩ := hx n hn
  obtain ⟨x1, x2, x3, x4⟩ := hl n hn (by omega)
  obtain ⟨hae, h400, dp', -, -, h5⟩ := hD
  have i3 : i (q + 3) n = Int32.ofNat (cn w (o + 2 + 4 * n + 3)) := x3.trans ee
  rw [bk_180_0]
  rcases Nat.eq_zero_or_pos n with rfl | np
  · rw [if_pos rfl] at eb
    rw [eb]
    simp (disch := omega) only [(fun d x0 x1 x2 s0 B i => bk_180_16 d x0 x1 x2 s0 (am_wI B i)), dd_00, y_ckd, y_ck2d, y_ond, y_onn, y_oI, y_oIx, y_oJ, y_oV, y_oVx, y_oR, y_oRn, y_oRx, y_b0, y_b1, y_bi, y_bid, y_wIK, y_wIL, y_wII, y_wIJ, y_wIR, y_wIN, y_wIw, y_sI, ↓reduceIte, Nat.reduceEqDiff, eq_self, true_or, or_true, false_or, or_false, and_true, true_and, false_and, and_false, not_true, not_false_eq_true, tf_T, tf_F, y_up1, y_up2, y_xx, y_nx, y_sJ, y_sR, Int32.reduceLT, y_nxK, y_nxL, y_nxR, y_sJK, y_sJL, y_sJR, y_sJN, y_sRK, y_sRL, y_sRN]
    rfl
  · rw [if_neg (by omega)] at eb
    obtain ⟨m, rfl⟩ : ∃ m, n = m + 1 := ⟨n - 1, by omega⟩
    obtain ⟨-, -, y3, -⟩ := hl m (by omega) (by omega)
    obtain ⟨-, -, ⟨-, em⟩, -, -⟩ := hx m (by omega)
    have y3' : i (q + 3) m = Int32.ofNat (cn w (o + 2 + 4 * m + 3)) := y3.trans em
    rw [Nat.add_sub_cancel] at eb
    have nz : ¬ Int32.ofNat (m + 1) = 0 := by rw [show (0 : Int32) = Int32.ofNat 0 from rfl, z_inj (by omega) (by omega)]; omega
    rw [eb]
    simp (disch := omega) only [(fun d x0 x1 x2 s0 B i => bk_180_16 d x0 x1 x2 s0 (am_wI B i)), nz, z_n1, y3', k9, r3, l3, y_ckd, y_ck2d, y_ond, y_onn, y_oI, y_oIx, y_oJ, y_oV, y_oVx, y_oR, y_oRn, y_oRx, y_b0, y_b1, y_bi, y_bid, y_wIK, y_wIL, y_wII, y_wIJ, y_wIR, y_wIN, y_wIw, y_sI, ↓reduceIte, Nat.reduceEqDiff, eq_self, true_or, or_true, false_or, or_false, and_true, true_and, false_and, and_false, not_true, not_false_eq_true, tf_T, tf_F, y_up1, y_up2, y_xx, y_nx, y_sJ, y_sR, Int32.reduceLT, y_nxK, y_nxL, y_nxR, y_sJK, y_sJL, y_sJR, y_sJN, y_sRK, y_sRL, y_sRN, Nat.add_zero, z_nat, z_lit, z_lit0, z_lit1, z_in0, z_in1, z_addl0, z_lt, z_ltl, z_llt, z_inj, z_injl, z_add, z_addl, z_ladd, z_mul, z_mull, z_lmul, z_neg, z_negl, z_in, z_inl, z_ltT, z_ltF, z_eqF, z_10, z_01, z_litne, z_ne0, z_0ne, z_ne1, z_1ne, z_lt64, z_02, z_03, z_04, z_05, z_12, z_13, z_14, z_15, z_20, z_21, z_23, z_24, z_25, z_30, z_31, z_32, z_34, z_35, z_40, z_41, z_42, z_43, z_45, z_50, z_51, z_52, z_53, z_54]
theorem c_holds_lp {q o n k : Nat} (hY : Yd B b) (hT : TxR B i q w o) (hW : TxW w o) (hL : am_L B (q + 4) ≤ 400) (hn : n < cn w (o + 1)) (hTg : TgC (i (b + 7) 3) fc.1) (hf : ∀ m, m < 6 → i (b + 10) m = fc.2 m) (hk : k < cn w (o + 2 + 4 * n + 3) - cn w (o + 2 + 4 * n + 2)) : am_fx am_P (d + 1) 180 23 [some (.ref q), some (.int (Int32.ofNat n)), some (.ref (b + 7)), none, some (.int (Int32.ofNat (bv (evE w o fc (cn w (o + 2 + 4 * n + 2)) k)))), some (.int (Int32.ofNat (cn w (o + 2 + 4 * n + 2) + k))), none, none] [] (am_wI B i) = am_fx am_P (d + 1) 180 23 [some (.ref q), some (.int (Int32.ofNat n)), some (.ref (b + 7)), none, some (.int (Int32.ofNat (bv (evE w o fc (cn w (o + 2 + 4 * n + 2)) (k + 1))))), some (.int (Int32.ofNat (cn w (o + 2 + 4 * n + 2) + (k + 1)))), none, none] [] (am_wI B i) := by
  obtain ⟨q0, qN, ⟨k9, r1, r2, r3, r4⟩, i0, l1, l2, l3, l4, hl, hc⟩ := hT
  obtain ⟨-, h12, hx⟩ := hW
  have n12 := h12.2
  obtain ⟨-, -, ⟨ea, ee⟩, eb, hD⟩ := hx n hn
  obtain ⟨x1, x2, x3, x4⟩ := hl n hn (by omega)
  obtain ⟨dp, hdp⟩ := evE_len (fc := fc) hD
  obtain ⟨hae, h400, dp', -, -, h5⟩ := hD
  have i3 : i (q + 3) n = Int32.ofNat (cn w (o + 2 + 4 * n + 3)) := x3.trans ee
  obtain ⟨hlen, -, h16, -, hnot, hand⟩ := hdp k (by omega)
  obtain ⟨h16, -⟩ := h16 (by omega)
  have hnot := hnot (by omega)
  have hand := hand (by omega)
  obtain ⟨-, -, c0, c1, c2, -, -⟩ := h5 (cn w (o + 2 + 4 * n + 2) + k) (by omega) (by omega)
  have ic0 := hc (cn w (o + 2 + 4 * n + 2) + k) (by omega) (by omega)
  have eS : evE w o fc (cn w (o + 2 + 4 * n + 2)) (k + 1) = stE fc (w (o + 50 + 2 * (cn w (o + 2 + 4 * n + 2) + k))) (w (o + 50 + 2 * (cn w (o + 2 + 4 * n + 2) + k) + 1)) (evE w o fc (cn w (o + 2 + 4 * n + 2)) k) := rfl
  have ex : Int32.ofNat (cn w (o + 2 + 4 * n + 2) + k) + 1 = Int32.ofNat (cn w (o + 2 + 4 * n + 2) + (k + 1)) := z_addl _ 1
  rw [eS]
  generalize evE w o fc (cn w (o + 2 + 4 * n + 2)) k = s at hlen ⊢
  generalize cn w (o + 2 + 4 * n + 2) = a at *
  have b16 := bv_lt16 (s := s) (by omega)
  have ha : a + k < am_L B (q + 4) := by omega
  rw [← hlen] at hnot hand
  rcases st_cases c0 c1 (fun q => ⟨(c2 q).1, (c2 q).2.1, (c2 q).2.2.1⟩) with ⟨s', e1, hs⟩ | ⟨f, t, e1, h6, e2, ht⟩ | ⟨f, t, e1, h6, e2, ht⟩ | e1 | e1 | e1
  · have ic : i (q + 4) (a + k) = Int32.ofNat (8 * s') := by rw [ic0, e1, enc_0 hs]
    have m8 : 8 * s' % 8 = 0 := by omega
    rw [e1, stE_tag hs, bk_180_23]
    simp (disch := omega) only [i3, ic, ex, z_and7, m8, dd_03, dd_04, dd_05, c_isSo0 (d := d) hY hTg hs, b2_0, k9, r3, r4, l3, l4, y_ckd, y_ck2d, y_ond, y_onn, y_oI, y_oIx, y_oJ, y_oV, y_oVx, y_oR, y_oRn, y_oRx, y_b0, y_b1, y_bi, y_bid, y_wIK, y_wIL, y_wII, y_wIJ, y_wIR, y_wIN, y_wIw, y_sI, ↓reduceIte, Nat.reduceEqDiff, eq_self, true_or, or_true, false_or, or_false, and_true, true_and, false_and, and_false, not_true, not_false_eq_true, tf_T, tf_F, y_up1, y_up2, y_xx, y_nx, y_sJ, y_sR, Int32.reduceLT, y_nxK, y_nxL, y_nxR, y_sJK, y_sJL, y_sJR, y_sJN, y_sRK, y_sRL, y_sRN, Nat.add_zero, z_nat, z_lit, z_lit0, z_lit1, z_in0, z_in1, z_addl0, z_lt, z_ltl, z_llt, z_inj, z_injl, z_add, z_addl, z_ladd, z_mul, z_mull, z_lmul, z_neg, z_negl, z_in, z_inl, z_ltT, z_ltF, z_eqF, z_10, z_01, z_litne, z_ne0, z_0ne, z_ne1, z_1ne, z_lt64, z_02, z_03, z_04, z_05, z_12, z_13, z_14, z_15, z_20, z_21, z_23, z_24, z_25, z_30, z_31, z_32, z_34, z_35, z_40, z_41, z_42, z_43, z_45, z_50, z_51, z_52, z_53, z_54]
    cases fc.1 s'
    · simp (disch := omega) only [(fun d x0 x1 x2 x5 s0 s1 B i => bk_180_131 d x0 x1 x2 x5 s0 s1 (am_wI B i)), Bool.false_eq_true, bvP0, ex, y_ckd, y_ck2d, y_ond, y_onn, y_oI, y_oIx, y_oJ, y_oV, y_oVx, y_oR, y_oRn, y_oRx, y_b0, y_b1, y_bi, y_bid, y_wIK, y_wIL, y_wII, y_wIJ, y_wIR, y_wIN, y_wIw, y_sI, ↓reduceIte, Nat.reduceEqDiff, eq_self, true_or, or_true, false_or, or_false, and_true, true_and, false_and, and_false, not_true, not_false_eq_true, tf_T, tf_F, y_up1, y_up2, y_xx, y_nx, y_sJ, y_sR, Int32.reduceLT, y_nxK, y_nxL, y_nxR, y_sJK, y_sJL, y_sJR, y_sJN, y_sRK, y_sRL, y_sRN]
    · simp (disch := omega) only [(fun d x0 x1 x2 x5 s0 s1 B i => bk_180_131 d x0 x1 x2 x5 s0 s1 (am_wI B i)), bvP1, ex, y_ckd, y_ck2d, y_ond, y_onn, y_oI, y_oIx, y_oJ, y_oV, y_oVx, y_oR, y_oRn, y_oRx, y_b0, y_b1, y_bi, y_bid, y_wIK, y_wIL, y_wII, y_wIJ, y_wIR, y_wIN, y_wIw, y_sI, ↓reduceIte, Nat.reduceEqDiff, eq_self, true_or, or_true, false_or, or_false, and_true, true_and, false_and, and_false, not_true, not_false_eq_true, tf_T, tf_F, y_up1, y_up2, y_xx, y_nx, y_sJ, y_sR, Int32.reduceLT, y_nxK, y_nxL, y_nxR, y_sJK, y_sJL, y_sJR, y_sJN, y_sRK, y_sRL, y_sRN]
  · have ic : i (q + 4) (a + k) = Int32.ofNat (1 + 8 * f + 64 * t) := by rw [ic0, e1, e2, enc_1 h6]
    have m8 : (1 + 8 * f + 64 * t) % 8 = 1 := by omega
    rw [e1, e2, stE_less h6, bk_180_23]
    simp (disch := omega) only [i3, ic, ex, z_and7, m8, dd_13, dd_14, dd_15, c_isSo1 (d := d) hY hf h6 ht, b2_0, k9, r3, r4, l3, l4, y_ckd, y_ck2d, y_ond, y_onn, y_oI, y_oIx, y_oJ, y_oV, y_oVx, y_oR, y_oRn, y_oRx, y_b0, y_b1, y_bi, y_bid, y_wIK, y_wIL, y_wII, y_wIJ, y_wIR, y_wIN, y_wIw, y_sI, ↓reduceIte, Nat.reduceEqDiff, eq_self, true_or, or_true, false_or, or_false, and_true, true_and, false_and, and_false, not_true, not_false_eq_true, tf_T, tf_F, y_up1, y_up2, y_xx, y_nx, y_sJ, y_sR, Int32.reduceLT, y_nxK, y_nxL, y_nxR, y_sJK, y_sJL, y_sJR, y_sJN, y_sRK, y_sRL, y_sRN, Nat.add_zero, z_nat, z_lit, z_lit0, z_lit1, z_in0, z_in1, z_addl0, z_lt, z_ltl, z_llt, z_inj, z_injl, z_add, z_addl, z_ladd, z_mul, z_mull, z_lmul, z_neg, z_negl, z_in, z_inl, z_ltT, z_ltF, z_eqF, z_10, z_01, z_litne, z_ne0, z_0ne, z_ne1, z_1ne, z_lt64, z_02, z_03, z_04, z_05, z_12, z_13, z_14, z_15, z_20, z_21, z_23, z_24, z_25, z_30, z_31, z_32, z_34, z_35, z_40, z_41, z_42, z_43, z_45, z_50, z_51, z_52, z_53, z_54]
    by_cases g : fc.2 f < Int32.ofNat t
    · simp (disch := omega) only [(fun d x0 x1 x2 x5 s0 s1 B i => bk_180_131 d x0 x1 x2 x5 s0 s1 (am_wI B i)), g, decide_true, bvP1, ex, y_ckd, y_ck2d, y_ond, y_onn, y_oI, y_oIx, y_oJ, y_oV, y_oVx, y_oR, y_oRn, y_oRx, y_b0, y_b1, y_bi, y_bid, y_wIK, y_wIL, y_wII, y_wIJ, y_wIR, y_wIN, y_wIw, y_sI, ↓reduceIte, Nat.reduceEqDiff, eq_self, true_or, or_true, false_or, or_false, and_true, true_and, false_and, and_false, not_true, not_false_eq_true, tf_T, tf_F, y_up1, y_up2, y_xx, y_nx, y_sJ, y_sR, Int32.reduceLT, y_nxK, y_nxL, y_nxR, y_sJK, y_sJL, y_sJR, y_sJN, y_sRK, y_sRL, y_sRN]
    · simp (disch := omega) only [(fun d x0 x1 x2 x5 s0 s1 B i => bk_180_131 d x0 x1 x2 x5 s0 s1 (am_wI B i)), g, decide_false, bvP0, ex, y_ckd, y_ck2d, y_ond, y_onn, y_oI, y_oIx, y_oJ, y_oV, y_oVx, y_oR, y_oRn, y_oRx, y_b0, y_b1, y_bi, y_bid, y_wIK, y_wIL, y_wII, y_wIJ, y_wIR, y_wIN, y_wIw, y_sI, ↓reduceIte, Nat.reduceEqDiff, eq_self, true_or, or_true, false_or, or_false, and_true, true_and, false_and, and_false, not_true, not_false_eq_true, tf_T, tf_F, y_up1, y_up2, y_xx, y_nx, y_sJ, y_sR, Int32.reduceLT, y_nxK, y_nxL, y_nxR, y_sJK, y_sJL, y_sJR, y_sJN, y_sRK, y_sRL, y_sRN]
  · have ic : i (q + 4) (a + k) = Int32.ofNat (2 + 8 * f + 64 * t) := by rw [ic0, e1, e2, enc_2 h6]
    have m8 : (2 + 8 * f + 64 * t) % 8 = 2 := by omega
    rw [e1, e2, stE_more h6, bk_180_23]
    simp (disch := omega) only [i3, ic, ex, z_and7, m8, dd_23, dd_24, dd_25, c_isSo2 (d := d) hY hf h6 ht, b2_0, k9, r3, r4, l3, l4, y_ckd, y_ck2d, y_ond, y_onn, y_oI, y_oIx, y_oJ, y_oV, y_oVx, y_oR, y_oRn, y_oRx, y_b0, y_b1, y_bi, y_bid, y_wIK, y_wIL, y_wII, y_wIJ, y_wIR, y_wIN, y_wIw, y_sI, ↓reduceIte, Nat.reduceEqDiff, eq_self, true_or, or_true, false_or, or_false, and_true, true_and, false_and, and_false, not_true, not_false_eq_true, tf_T, tf_F, y_up1, y_up2, y_xx, y_nx, y_sJ, y_sR, Int32.reduceLT, y_nxK, y_nxL, y_nxR, y_sJK, y_sJL, y_sJR, y_sJN, y_sRK, y_sRL, y_sRN, Nat.add_zero, z_nat, z_lit, z_lit0, z_lit1, z_in0, z_in1, z_addl0, z_lt, z_ltl, z_llt, z_inj, z_injl, z_add, z_addl, z_ladd, z_mul, z_mull, z_lmul, z_neg, z_negl, z_in, z_inl, z_ltT, z_ltF, z_eqF, z_10, z_01, z_litne, z_ne0, z_0ne, z_ne1, z_1ne, z_lt64, z_02, z_03, z_04, z_05, z_12, z_13, z_14, z_15, z_20, z_21, z_23, z_24, z_25, z_30, z_31, z_32, z_34, z_35, z_40, z_41, z_42, z_43, z_45, z_50, z_51, z_52, z_53, z_54]
    by_cases g : Int32.ofNat t < fc.2 f
    · simp (disch := omega) only [(fun d x0 x1 x2 x5 s0 s1 B i => bk_180_131 d x0 x1 x2 x5 s0 s1 (am_wI B i)), g, decide_true, bvP1, ex, y_ckd, y_ck2d, y_ond, y_onn, y_oI, y_oIx, y_oJ, y_oV, y_oVx, y_oR, y_oRn, y_oRx, y_b0, y_b1, y_bi, y_bid, y_wIK, y_wIL, y_wII, y_wIJ, y_wIR, y_wIN, y_wIw, y_sI, ↓reduceIte, Nat.reduceEqDiff, eq_self, true_or, or_true, false_or, or_false, and_true, true_and, false_and, and_false, not_true, not_false_eq_true, tf_T, tf_F, y_up1, y_up2, y_xx, y_nx, y_sJ, y_sR, Int32.reduceLT, y_nxK, y_nxL, y_nxR, y_sJK, y_sJL, y_sJR, y_sJN, y_sRK, y_sRL, y_sRN]
    · simp (disch := omega) only [(fun d x0 x1 x2 x5 s0 s1 B i => bk_180_131 d x0 x1 x2 x5 s0 s1 (am_wI B i)), g, decide_false, bvP0, ex, y_ckd, y_ck2d, y_ond, y_onn, y_oI, y_oIx, y_oJ, y_oV, y_oVx, y_oR, y_oRn, y_oRx, y_b0, y_b1, y_bi, y_bid, y_wIK, y_wIL, y_wII, y_wIJ, y_wIR, y_wIN, y_wIw, y_sI, ↓reduceIte, Nat.reduceEqDiff, eq_self, true_or, or_true, false_or, or_false, and_true, true_and, false_and, and_false, not_true, not_false_eq_true, tf_T, tf_F, y_up1, y_up2, y_xx, y_nx, y_sJ, y_sR, Int32.reduceLT, y_nxK, y_nxL, y_nxR, y_sJK, y_sJL, y_sJR, y_sJN, y_sRK, y_sRL, y_sRN]
  · have ic : i (q + 4) (a + k) = Int32.ofNat 3 := by rw [ic0, e1, enc_300]; rfl
    have hs := hnot e1
    match s, hs, b16 with
    | [], hs, _ => exact absurd hs (by decide)
    | c :: r, _, b16 =>
      rw [e1, stE_not, bk_180_23]
      simp (disch := omega) only [i3, ic, ex, z_and7, Nat.reduceMod, dd_33, bvN, k9, r3, r4, l3, l4, y_ckd, y_ck2d, y_ond, y_onn, y_oI, y_oIx, y_oJ, y_oV, y_oVx, y_oR, y_oRn, y_oRx, y_b0, y_b1, y_bi, y_bid, y_wIK, y_wIL, y_wII, y_wIJ, y_wIR, y_wIN, y_wIw, y_sI, ↓reduceIte, Nat.reduceEqDiff, eq_self, true_or, or_true, false_or, or_false, and_true, true_and, false_and, and_false, not_true, not_false_eq_true, tf_T, tf_F, y_up1, y_up2, y_xx, y_nx, y_sJ, y_sR, Int32.reduceLT, y_nxK, y_nxL, y_nxR, y_sJK, y_sJL, y_sJR, y_sJN, y_sRK, y_sRL, y_sRN, Nat.add_zero, z_nat, z_lit, z_lit0, z_lit1, z_in0, z_in1, z_addl0, z_lt, z_ltl, z_llt, z_inj, z_injl, z_add, z_addl, z_ladd, z_mul, z_mull, z_lmul, z_neg, z_negl, z_in, z_inl, z_ltT, z_ltF, z_eqF, z_10, z_01, z_litne, z_ne0, z_0ne, z_ne1, z_1ne, z_lt64, z_02, z_03, z_04, z_05, z_12, z_13, z_14, z_15, z_20, z_21, z_23, z_24, z_25, z_30, z_31, z_32, z_34, z_35, z_40, z_41, z_42, z_43, z_45, z_50, z_51, z_52, z_53, z_54]
  · have ic : i (q + 4) (a + k) = Int32.ofNat 4 := by rw [ic0, e1, enc_301]; rfl
    have hs := hand (by rw [e1]; decide)
    match s, hs, b16 with
    | [], hs, _ => exact absurd hs (by decide)
    | [c], hs, _ => exact absurd hs (by show ¬ 2 ≤ 1; decide)
    | c :: a' :: r, _, b16 =>
      rw [e1, stE_and, bk_180_23]
      simp (disch := omega) only [i3, ic, ex, z_and7, Nat.reduceMod, dd_43, dd_44, bvA b16, k9, r3, r4, l3, l4, y_ckd, y_ck2d, y_ond, y_onn, y_oI, y_oIx, y_oJ, y_oV, y_oVx, y_oR, y_oRn, y_oRx, y_b0, y_b1, y_bi, y_bid, y_wIK, y_wIL, y_wII, y_wIJ, y_wIR, y_wIN, y_wIw, y_sI, ↓reduceIte, Nat.reduceEqDiff, eq_self, true_or, or_true, false_or, or_false, and_true, true_and, false_and, and_false, not_true, not_false_eq_true, tf_T, tf_F, y_up1, y_up2, y_xx, y_nx, y_sJ, y_sR, Int32.reduceLT, y_nxK, y_nxL, y_nxR, y_sJK, y_sJL, y_sJR, y_sJN, y_sRK, y_sRL, y_sRN, Nat.add_zero, z_nat, z_lit, z_lit0, z_lit1, z_in0, z_in1, z_addl0, z_lt, z_ltl, z_llt, z_inj, z_injl, z_add, z_addl, z_ladd, z_mul, z_mull, z_lmul, z_neg, z_negl, z_in, z_inl, z_ltT, z_ltF, z_eqF, z_10, z_01, z_litne, z_ne0, z_0ne, z_ne1, z_1ne, z_lt64, z_02, z_03, z_04, z_05, z_12, z_13, z_14, z_15, z_20, z_21, z_23, z_24, z_25, z_30, z_31, z_32, z_34, z_35, z_40, z_41, z_42, z_43, z_45, z_50, z_51, z_52, z_53, z_54]
  · have ic : i (q + 4) (a + k) = Int32.ofNat 5 := by rw [ic0, e1, enc_302]; rfl
    have hs := hand (by rw [e1]; decide)
    match s, hs, b16 with
    | [], hs, _ => exact absurd hs (by decide)
    | [c], hs, _ => exact absurd hs (by show ¬ 2 ≤ 1; decide)
    | c :: a' :: r, _, b16 =>
      rw [e1, stE_or, bk_180_23]
      simp (disch := omega) only [i3, ic, ex, z_and7, Nat.reduceMod, dd_53, dd_54, dd_55, bvO b16, k9, r3, r4, l3, l4, y_ckd, y_ck2d, y_ond, y_onn, y_oI, y_oIx, y_oJ, y_oV, y_oVx, y_oR, y_oRn, y_oRx, y_b0, y_b1, y_bi, y_bid, y_wIK, y_wIL, y_wII, y_wIJ, y_wIR, y_wIN, y_wIw, y_sI, ↓reduceIte, Nat.reduceEqDiff, eq_self, true_or, or_true, false_or, or_false, and_true, true_and, false_and, and_false, not_true, not_false_eq_true, tf_T, tf_F, y_up1, y_up2, y_xx, y_nx, y_sJ, y_sR, Int32.reduceLT, y_nxK, y_nxL, y_nxR, y_sJK, y_sJL, y_sJR, y_sJN, y_sRK, y_sRL, y_sRN, Nat.add_zero, z_nat, z_lit, z_lit0, z_lit1, z_in0, z_in1, z_addl0, z_lt, z_ltl, z_llt, z_inj, z_injl, z_add, z_addl, z_ladd, z_mul, z_mull, z_lmul, z_neg, z_negl, z_in, z_inl, z_ltT, z_ltF, z_eqF, z_10, z_01, z_litne, z_ne0, z_0ne, z_ne1, z_1ne, z_lt64, z_02, z_03, z_04, z_05, z_12, z_13, z_14, z_15, z_20, z_21, z_23, z_24, z_25, z_30, z_31, z_32, z_34, z_35, z_40, z_41, z_42, z_43, z_45, z_50, z_51, z_52, z_53, z_54]
theorem c_holds {q o n : Nat} (hY : Yd B b) (hT : TxR B i q w o) (hW : TxW w o) (hL : am_L B (q + 4) ≤ 400) (hn : n < cn w (o + 1)) (hTg : TgC (i (b + 7) 3) fc.1) (hf : ∀ m, m < 6 → i (b + 10) m = fc.2 m) : am_fx am_P (d + 1) 180 0 [some (.ref q), some (.int (Int32.ofNat n)), some (.ref (b + 7)), none, none, none, none, none] [] (am_wI B i) = some (.inl (some (.int (if hld w o fc n = true then 1 else 0))), am_wI B i) := by
  refine (c_holds_st hY hT hW hL hn).trans ?_
  refine (lp_itr (fun k (_ : Unit) => am_fx am_P (d + 1) 180 23 [some (.ref q), some (.int (Int32.ofNat n)), some (.ref (b + 7)), none, some (.int (Int32.ofNat (bv (evE w o fc (cn w (o + 2 + 4 * n + 2)) k)))), some (.int (Int32.ofNat (cn w (o + 2 + 4 * n + 2) + k))), none, none] [] (am_wI B i)) (fun _ u => u) (cn w (o + 2 + 4 * n + 3) - cn w (o + 2 + 4 * n + 2)) (fun k u hk => c_holds_lp hY hT hW hL hn hTg hf hk) ()).trans ?_
  obtain ⟨q0, qN, ⟨k9, r1, r2, r3, r4⟩, i0, l1, l2, l3, l4, hl, hc⟩ := hT
  obtain ⟨-, h12, hx⟩ := hW
  have n12 := h12.2
  obtain ⟨-, -, ⟨ea, ee⟩, eb, hD⟩ := hx n hn
  obtain ⟨x1, x2, x3, x4⟩ := hl n hn (by omega)
  obtain ⟨dp, hdp⟩ := evE_len (fc := fc) hD
  obtain ⟨hae, h400, dp', -, -, h5⟩ := hD
  have i3 : i (q + 3) n = Int32.ofNat (cn w (o + 2 + 4 * n + 3)) := x3.trans ee
  obtain ⟨hlen, -, -, hone, -, -⟩ := hdp (cn w (o + 2 + 4 * n + 3) - cn w (o + 2 + 4 * n + 2)) (by omega)
  have hl16 : (evE w o fc (cn w (o + 2 + 4 * n + 2)) (cn w (o + 2 + 4 * n + 3) - cn w (o + 2 + 4 * n + 2))).length ≤ 16 := by
    rcases Nat.lt_or_ge (cn w (o + 2 + 4 * n + 2)) (cn w (o + 2 + 4 * n + 3)) with g | g
    · rw [hlen, hone (by omega) g]
      decide
    · rw [show cn w (o + 2 + 4 * n + 3) - cn w (o + 2 + 4 * n + 2) = 0 by omega]
      exact Nat.zero_le _
  have eh : hld w o fc n = hdB (evE w o fc (cn w (o + 2 + 4 * n + 2)) (cn w (o + 2 + 4 * n + 3) - cn w (o + 2 + 4 * n + 2))) := rfl
  have ex : cn w (o + 2 + 4 * n + 2) + (cn w (o + 2 + 4 * n + 3) - cn w (o + 2 + 4 * n + 2)) = cn w (o + 2 + 4 * n + 3) := by omega
  have lti : (Int32.ofNat (cn w (o + 2 + 4 * n + 3)) < Int32.ofNat (cn w (o + 2 + 4 * n + 3))) = False := by rw [z_lt (by omega) (by omega)]; exact eq_false (Nat.lt_irrefl _)
  rw [eh, ex, bk_180_23]
  generalize evE w o fc (cn w (o + 2 + 4 * n + 2)) (cn w (o + 2 + 4 * n + 3) - cn w (o + 2 + 4 * n + 2)) = s at hl16 ⊢
  have hin : ∀ r, am_in (Int32.ofNat n) (am_L (am_wI B i) (q + 3)) r = r := fun r => z_in (by show n < am_L B (q + 3); omega) (by omega)
  have hon : ∀ (n' : am_X) (s : Nat → am_X), am_on (am_R (am_wI B i) q 3) n' s = s (q + 3) := fun n' s => by rw [show am_R (am_wI B i) q 3 = some (q + 3) from r3]; rfl
  have hI : am_I (am_wI B i) (q + 3) (Int32.ofNat n).toNatClampNeg = Int32.ofNat (cn w (o + 2 + 4 * n + 3)) := by rw [z_nat (by omega)]; exact i3
  simp only [↓y_ckd, ↓y_ck2d, ↓hon, ↓hin, k9, l3, hI, lti, true_or, ↓reduceIte, bvE hl16]
  cases hdB s
  · simp only [Bool.false_eq_true, ↓reduceIte, y_b0]
  · simp only [↓reduceIte, y_b1]
end Cond2
