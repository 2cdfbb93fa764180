/-! DOCKS AND TIDES: made by wip/whole/math/63.py. -/
section Docks
variable {B : am_A} {i : Nat → Nat → Int32} {σ : Sg} {w : Nat → Int32} {L j d b : Nat} {x y z : Int32}
theorem z_xor (a b : Nat) : Int32.ofNat a ^^^ Int32.ofNat b = Int32.ofNat (a ^^^ b) := by
  apply Int32.toBitVec_inj.mp
  rw [Int32.toBitVec_xor]
  show BitVec.ofNat 32 a ^^^ BitVec.ofNat 32 b = BitVec.ofNat 32 (a ^^^ b)
  rw [BitVec.ofNat_xor]
theorem z_x28 {n : Nat} (h : n < 2147483648) : (Int32.ofNat n ^^^ 28 < 0) = False := by
  rw [show (28 : Int32) = Int32.ofNat 28 from rfl, z_xor]
  exact z_neg (Nat.xor_lt_two_pow (n := 31) h (by decide))
theorem z_m28 {n : Nat} (h : n < 2147483648) : Int32.ofNat n - Int32.ofNat n / 28 * 28 = Int32.ofNat (n % 28) := by
  rw [show (28 : Int32) = Int32.ofNat 28 from rfl, ← Int32.ofNat_div h (by decide), z_mul, z_sub (Nat.div_mul_le_self n 28)]
  exact congrArg Int32.ofNat (by omega)
theorem z_tsub {a b : Nat} (ha : a < 2147483648) (hb : b < 2147483648) : (Int32.ofNat a - Int32.ofNat b).toInt = (a : Int) - (b : Int) := by
  rw [Int32.toInt_sub, z_toInt ha, z_toInt hb]
  unfold Int.bmod
  simp only [Nat.reducePow]
  split <;> omega
theorem c_floor {n : Nat} (h : n < 2147483648) {A : am_A} : am_fx am_P d 4 0 [some (.int (Int32.ofNat n)), some (.int 28), none] [] A = some (.inl (some (.int (Int32.ofNat (n % 28)))), A) := by
  rw [bk_4_0, y_nz (by decide), if_neg (by rw [z_x28 h]; exact id), z_m28 h]
/-- a ship that draws so much may pass a dock on a day -/
def lts (w : Nat → Int32) (q : Nat) (dp : Int32) (n : Nat) : Prop := ¬ w (11 + n % 28) + w (3015 + q) < dp
theorem z_nz28 {r : am_X} : am_nz 28 r = r := y_nz (by decide)
theorem c_lets1 {q n : Nat} (hY : Yd B b) (hB : RB i b w) (hc : isc w 3014 4) (hq : q < cn w 3014) (hn : n < 2147483648) (g : lts w q x n) : am_fx am_P (d + 2) 218 0 [some (.ref (b + 11)), some (.int (Int32.ofNat q)), some (.int x), some (.int (Int32.ofNat n))] [] (am_wI B i) = some (.inl (some (.int 1)), am_wI B i) := by
  have h2 := hc.2
  obtain ⟨-, -, -, -, -, -, a7, a8, a9⟩ := hB
  have g1 := ck_nat hc (by omega) hq
  have e1 := a7 (n % 28) (Nat.mod_lt _ (by omega))
  have e2 := a9 q (by omega)
  have hm : n % 28 < 28 := Nat.mod_lt _ (by omega)
  have g : ¬ w (11 + n % 28) + w (3015 + q) < x := g
  rw [bk_218_0]
  simp (disch := omega) only [c_within1 (x := Int32.ofNat q) (a := 0) (c := w 3014 - 1) ⟨g1.1, by rw [z_pred hc.1 (by omega)]; exact fun k => k g1.2⟩, c_floor hn, a8, e1, e2, g, hY, y_ckd, y_ck2d, y_ond, y_onn, y_oI, y_oIx, y_oJ, y_oV, y_oVx, y_oR, y_oRn, y_oRx, y_b0, y_b1, y_bi, y_bid, y_wIK, y_wIL, y_wII, y_wIJ, y_wIR, y_wIN, y_wIw, y_sI, ↓reduceIte, Nat.reduceEqDiff, eq_self, true_or, or_true, false_or, or_false, and_true, true_and, false_and, and_false, not_true, not_false_eq_true, tf_T, tf_F, y_up1, y_up2, y_xx, y_nx, y_sJ, y_sR, Int32.reduceLT, y_nxK, y_nxL, y_nxR, y_sJK, y_sJL, y_sJR, y_sJN, y_sRK, y_sRL, y_sRN, Nat.add_zero, z_nat, z_lit, z_lit0, z_lit1, z_in0, z_in1, z_addl0, z_lt, z_ltl, z_llt, z_inj, z_injl, z_add, z_addl, z_ladd, z_mul, z_mull, z_lmul, z_neg, z_negl, z_in, z_inl, z_ltT, z_ltF, z_eqF, z_10, z_01, z_litne, z_ne0, z_0ne, z_ne1, z_1ne, z_lt64, z_02, z_03, z_04, z_05, z_12, z_13, z_14, z_15, z_20, z_21, z_23, z_24, z_25, z_30, z_31, z_32, z_34, z_35, z_40, z_41, z_42, z_43, z_45, z_50, z_51, z_52, z_53, z_54]
theorem c_lets0 {q n : Nat} (hY : Yd B b) (hB : RB i b w) (hc : isc w 3014 4) (hq : q < cn w 3014) (hn : n < 2147483648) (g : ¬ lts w q x n) : am_fx am_P (d + 2) 218 0 [some (.ref (b + 11)), some (.int (Int32.ofNat q)), some (.int x), some (.int (Int32.ofNat n))] [] (am_wI B i) = some (.inl (some (.int 0)), am_wI B i) := by
  have h2 := hc.2
  obtain ⟨-, -, -, -, -, -, a7, a8, a9⟩ := hB
  have g1 := ck_nat hc (by omega) hq
  have e1 := a7 (n % 28) (Nat.mod_lt _ (by omega))
  have e2 := a9 q (by omega)
  have hm : n % 28 < 28 := Nat.mod_lt _ (by omega)
  have g : w (11 + n % 28) + w (3015 + q) < x := Classical.not_not.mp g
  rw [bk_218_0]
  simp (disch := omega) only [c_within1 (x := Int32.ofNat q) (a := 0) (c := w 3014 - 1) ⟨g1.1, by rw [z_pred hc.1 (by omega)]; exact fun k => k g1.2⟩, c_floor hn, a8, e1, e2, g, hY, y_ckd, y_ck2d, y_ond, y_onn, y_oI, y_oIx, y_oJ, y_oV, y_oVx, y_oR, y_oRn, y_oRx, y_b0, y_b1, y_bi, y_bid, y_wIK, y_wIL, y_wII, y_wIJ, y_wIR, y_wIN, y_wIw, y_sI, ↓reduceIte, Nat.reduceEqDiff, eq_self, true_or, or_true, false_or, or_false, and_true, true_and, false_and, and_false, not_true, not_false_eq_true, tf_T, tf_F, y_up1, y_up2, y_xx, y_nx, y_sJ, y_sR, Int32.reduceLT, y_nxK, y_nxL, y_nxR, y_sJK, y_sJL, y_sJR, y_sJN, y_sRK, y_sRL, y_sRN, Nat.add_zero, z_nat, z_lit, z_lit0, z_lit1, z_in0, z_in1, z_addl0, z_lt, z_ltl, z_llt, z_inj, z_injl, z_add, z_addl, z_ladd, z_mul, z_mull, z_lmul, z_neg, z_negl, z_in, z_inl, z_ltT, z_ltF, z_eqF, z_10, z_01, z_litne, z_ne0, z_0ne, z_ne1, z_1ne, z_lt64, z_02, z_03, z_04, z_05, z_12, z_13, z_14, z_15, z_20, z_21, z_23, z_24, z_25, z_30, z_31, z_32, z_34, z_35, z_40, z_41, z_42, z_43, z_45, z_50, z_51, z_52, z_53, z_54]
theorem m_pass1 {s q n : Nat} (hM : Md B) (hw : ∀ s, s < 12042 → i 875 s = w s) (hs : s < 8) (hq : q < 4) (hn : n < 2147483648) (g : lts w q (w (2622 + 49 * s + 2)) n) : am_fx am_P (d + 2) 99 0 [some (.ref 874), some (.int (Int32.ofNat s)), some (.int (Int32.ofNat q)), some (.int (Int32.ofNat n))] [] (am_wI B i) = some (.inl (some (.int 1)), am_wI B i) := by
  have hm : n % 28 < 28 := Nat.mod_lt _ (by omega)
  have e1 := hw (11 + n % 28) (by omega)
  have e2 := hw (3015 + q) (by omega)
  have e3 := hw (2622 + 49 * s + 2) (by omega)
  have g : ¬ w (11 + n % 28) + w (3015 + q) < w (2622 + 49 * s + 2) := g
  rw [bk_99_0]
  simp (disch := omega) only [(fun d x0 x1 x2 B i => bk_67_0 d x0 x1 x2 (am_wI B i)), (fun d x0 x1 B i => bk_66_0 d x0 x1 (am_wI B i)), z_nz28, z_m28, e1, e2, e3, g, hM, y_ckd, y_ck2d, y_ond, y_onn, y_oI, y_oIx, y_oJ, y_oV, y_oVx, y_oR, y_oRn, y_oRx, y_b0, y_b1, y_bi, y_bid, y_wIK, y_wIL, y_wII, y_wIJ, y_wIR, y_wIN, y_wIw, y_sI, ↓reduceIte, Nat.reduceEqDiff, eq_self, true_or, or_true, false_or, or_false, and_true, true_and, false_and, and_false, not_true, not_false_eq_true, tf_T, tf_F, y_up1, y_up2, y_xx, y_nx, y_sJ, y_sR, Int32.reduceLT, y_nxK, y_nxL, y_nxR, y_sJK, y_sJL, y_sJR, y_sJN, y_sRK, y_sRL, y_sRN, Nat.add_zero, z_nat, z_lit, z_lit0, z_lit1, z_in0, z_in1, z_addl0, z_lt, z_ltl, z_llt, z_inj, z_injl, z_add, z_addl, z_ladd, z_mul, z_mull, z_lmul, z_neg, z_negl, z_in, z_inl, z_ltT, z_ltF, z_eqF, z_10, z_01, z_litne, z_ne0, z_0ne, z_ne1, z_1ne, z_lt64, z_02, z_03, z_04, z_05, z_12, z_13, z_14, z_15, z_20, z_21, z_23, z_24, z_25, z_30, z_31, z_32, z_34, z_35, z_40, z_41, z_42, z_43, z_45, z_50, z_51, z_52, z_53, z_54]
theorem m_pass0 {s q n : Nat} (hM : Md B) (hw : ∀ s, s < 12042 → i 875 s = w s) (hs : s < 8) (hq : q < 4) (hn : n < 2147483648) (g : ¬ lts w q (w (2622 + 49 * s + 2)) n) : am_fx am_P (d + 2) 99 0 [some (.ref 874), some (.int (Int32.ofNat s)), some (.int (Int32.ofNat q)), some (.int (Int32.ofNat n))] [] (am_wI B i) = some (.inl (some (.int 0)), am_wI B i) := by
  have hm : n % 28 < 28 := Nat.mod_lt _ (by omega)
  have e1 := hw (11 + n % 28) (by omega)
  have e2 := hw (3015 + q) (by omega)
  have e3 := hw (2622 + 49 * s + 2) (by omega)
  have g : w (11 + n % 28) + w (3015 + q) < w (2622 + 49 * s + 2) := Classical.not_not.mp g
  rw [bk_99_0]
  simp (disch := omega) only [(fun d x0 x1 x2 B i => bk_67_0 d x0 x1 x2 (am_wI B i)), (fun d x0 x1 B i => bk_66_0 d x0 x1 (am_wI B i)), z_nz28, z_m28, e1, e2, e3, g, hM, y_ckd, y_ck2d, y_ond, y_onn, y_oI, y_oIx, y_oJ, y_oV, y_oVx, y_oR, y_oRn, y_oRx, y_b0, y_b1, y_bi, y_bid, y_wIK, y_wIL, y_wII, y_wIJ, y_wIR, y_wIN, y_wIw, y_sI, ↓reduceIte, Nat.reduceEqDiff, eq_self, true_or, or_true, false_or, or_false, and_true, true_and, false_and, and_false, not_true, not_false_eq_true, tf_T, tf_F, y_up1, y_up2, y_xx, y_nx, y_sJ, y_sR, Int32.reduceLT, y_nxK, y_nxL, y_nxR, y_sJK, y_sJL, y_sJR, y_sJN, y_sRK, y_sRL, y_sRN, Nat.add_zero, z_nat, z_lit, z_lit0, z_lit1, z_in0, z_in1, z_addl0, z_lt, z_ltl, z_llt, z_inj, z_injl, z_add, z_addl, z_ladd, z_mul, z_mull, z_lmul, z_neg, z_negl, z_in, z_inl, z_ltT, z_ltF, z_eqF, z_10, z_01, z_litne, z_ne0, z_0ne, z_ne1, z_1ne, z_lt64, z_02, z_03, z_04, z_05, z_12, z_13, z_14, z_15, z_20, z_21, z_23, z_24, z_25, z_30, z_31, z_32, z_34, z_35, z_40, z_41, z_42, z_43, z_45, z_50, z_51, z_52, z_53, z_54]
theorem z_dec {n k : Nat} : Int32.ofNat n - Int32.ofNat k + -1 = Int32.ofNat n - Int32.ofNat (k + 1) := by
  have e : Int32.ofNat (k + 1) = Int32.ofNat k + 1 := (z_addl k 1).symm
  rw [e]
  grind
noncomputable def ltc (w : Nat → Int32) (q : Nat) (dp : Int32) (n : Nat) : Nat → Bool := fun k => @decide (lts w q dp (n - k)) (Classical.propDecidable _)
theorem ltc1 {q n k : Nat} (h : ltc w q x n k = true) : lts w q x (n - k) := by
  unfold ltc at h
  exact @of_decide_eq_true _ (Classical.propDecidable _) h
theorem ltc0 {q n k : Nat} (h : ltc w q x n k = false) : ¬ lts w q x (n - k) := by
  unfold ltc at h
  exact @of_decide_eq_false _ (Classical.propDecidable _) h
/-- the last day from n back on which a ship may pass, so many days looked at -/
noncomputable def lsd (w : Nat → Int32) (q : Nat) (dp : Int32) (n t : Nat) : Int32 := match fst0 (ltc w q dp n) (min 28 (n - t + 1)) with
  | some k => Int32.ofNat (n - k)
  | none => -1
theorem c_lastDay {q n t : Nat} (hY : Yd B b) (hB : RB i b w) (hc : isc w 3014 4) (hq : q < cn w 3014) (hn : n < 2147483648) (ht : t ≤ n) : am_fx am_P (d + 3) 219 0 [some (.ref (b + 11)), some (.int (Int32.ofNat q)), some (.int x), some (.int (Int32.ofNat t)), some (.int (Int32.ofNat n)), none] [] (am_wI B i) = some (.inl (some (.int (lsd w q x n t))), am_wI B i) := by
  rw [bk_219_0]
  refine (lp_fst (fun k => am_fx am_P (d + 3) 219 3 [some (.ref (b + 11)), some (.int (Int32.ofNat q)), some (.int x), some (.int (Int32.ofNat t)), some (.int (Int32.ofNat n)), some (.int (Int32.ofNat k))] [] (am_wI B i)) (ltc w q x n) (fun k => some (.inl (some (.int (Int32.ofNat (n - k)))), am_wI B i)) (min 28 (n - t + 1)) (fun k hk => ?_)).trans ?_
  · have es : Int32.ofNat n - Int32.ofNat k = Int32.ofNat (n - k) := z_sub (by omega)
    rw [bk_219_3]
    cases g : ltc w q x n k with
    | true => simp (disch := omega) only [es, c_lets1 (d := d) hY hB hc hq (by omega) (ltc1 g), hY, y_ckd, y_ck2d, y_ond, y_onn, y_oI, y_oIx, y_oJ, y_oV, y_oVx, y_oR, y_oRn, y_oRx, y_b0, y_b1, y_bi, y_bid, y_wIK, y_wIL, y_wII, y_wIJ, y_wIR, y_wIN, y_wIw, y_sI, ↓reduceIte, Nat.reduceEqDiff, eq_self, true_or, or_true, false_or, or_false, and_true, true_and, false_and, and_false, not_true, not_false_eq_true, tf_T, tf_F, y_up1, y_up2, y_xx, y_nx, y_sJ, y_sR, Int32.reduceLT, y_nxK, y_nxL, y_nxR, y_sJK, y_sJL, y_sJR, y_sJN, y_sRK, y_sRL, y_sRN, Nat.add_zero, z_nat, z_lit, z_lit0, z_lit1, z_in0, z_in1, z_addl0, z_lt, z_ltl, z_llt, z_inj, z_injl, z_add, z_addl, z_ladd, z_mul, z_mull, z_lmul, z_neg, z_negl, z_in, z_inl, z_ltT, z_ltF, z_eqF, z_10, z_01, z_litne, z_ne0, z_0ne, z_ne1, z_1ne, z_lt64, z_02, z_03, z_04, z_05, z_12, z_13, z_14, z_15, z_20, z_21, z_23, z_24, z_25, z_30, z_31, z_32, z_34, z_35, z_40, z_41, z_42, z_43, z_45, z_50, z_51, z_52, z_53, z_54]
    | false =>
      simp (disch := omega) only [es, c_lets0 (d := d) hY hB hc hq (by omega) (ltc0 g), hY, y_ckd, y_ck2d, y_ond, y_onn, y_oI, y_oIx, y_oJ, y_oV, y_oVx, y_oR, y_oRn, y_oRx, y_b0, y_b1, y_bi, y_bid, y_wIK, y_wIL, y_wII, y_wIJ, y_wIR, y_wIN, y_wIw, y_sI, ↓reduceIte, Nat.reduceEqDiff, eq_self, true_or, or_true, false_or, or_false, and_true, true_and, false_and, and_false, not_true, not_false_eq_true, tf_T, tf_F, y_up1, y_up2, y_xx, y_nx, y_sJ, y_sR, Int32.reduceLT, y_nxK, y_nxL, y_nxR, y_sJK, y_sJL, y_sJR, y_sJN, y_sRK, y_sRL, y_sRN, Nat.add_zero, z_nat, z_lit, z_lit0, z_lit1, z_in0, z_in1, z_addl0, z_lt, z_ltl, z_llt, z_inj, z_injl, z_add, z_addl, z_ladd, z_mul, z_mull, z_lmul, z_neg, z_negl, z_in, z_inl, z_ltT, z_ltF, z_eqF, z_10, z_01, z_litne, z_ne0, z_0ne, z_ne1, z_1ne, z_lt64, z_02, z_03, z_04, z_05, z_12, z_13, z_14, z_15, z_20, z_21, z_23, z_24, z_25, z_30, z_31, z_32, z_34, z_35, z_40, z_41, z_42, z_43, z_45, z_50, z_51, z_52, z_53, z_54]
      simp only [Bool.false_eq_true, ↓reduceIte]
  · unfold lsd
    cases g : fst0 (ltc w q x n) (min 28 (n - t + 1)) with
    | some k => rfl
    | none =>
      dsimp only
      rw [bk_219_3]
      by_cases h28 : min 28 (n - t + 1) < 28
      · have hl : Int32.ofNat n - Int32.ofNat (min 28 (n - t + 1)) < Int32.ofNat t := by
          rw [Int32.lt_iff_toInt_lt, z_tsub (by omega) (by omega), z_toInt (by omega)]
          omega
        simp (disch := omega) only [hl, y_ckd, y_ck2d, y_ond, y_onn, y_oI, y_oIx, y_oJ, y_oV, y_oVx, y_oR, y_oRn, y_oRx, y_b0, y_b1, y_bi, y_bid, y_wIK, y_wIL, y_wII, y_wIJ, y_wIR, y_wIN, y_wIw, y_sI, ↓reduceIte, Nat.reduceEqDiff, eq_self, true_or, or_true, false_or, or_false, and_true, true_and, false_and, and_false, not_true, not_false_eq_true, tf_T, tf_F, y_up1, y_up2, y_xx, y_nx, y_sJ, y_sR, Int32.reduceLT, y_nxK, y_nxL, y_nxR, y_sJK, y_sJL, y_sJR, y_sJN, y_sRK, y_sRL, y_sRN, Nat.add_zero, z_nat, z_lit, z_lit0, z_lit1, z_in0, z_in1, z_addl0, z_lt, z_ltl, z_llt, z_inj, z_injl, z_add, z_addl, z_ladd, z_mul, z_mull, z_lmul, z_neg, z_negl, z_in, z_inl, z_ltT, z_ltF, z_eqF, z_10, z_01, z_litne, z_ne0, z_0ne, z_ne1, z_1ne, z_lt64, z_02, z_03, z_04, z_05, z_12, z_13, z_14, z_15, z_20, z_21, z_23, z_24, z_25, z_30, z_31, z_32, z_34, z_35, z_40, z_41, z_42, z_43, z_45, z_50, z_51, z_52, z_53, z_54]
      · simp (disch := omega) only [y_ckd, y_ck2d, y_ond, y_onn, y_oI, y_oIx, y_oJ, y_oV, y_oVx, y_oR, y_oRn, y_oRx, y_b0, y_b1, y_bi, y_bid, y_wIK, y_wIL, y_wII, y_wIJ, y_wIR, y_wIN, y_wIw, y_sI, ↓reduceIte, Nat.reduceEqDiff, eq_self, true_or, or_true, false_or, or_false, and_true, true_and, false_and, and_false, not_true, not_false_eq_true, tf_T, tf_F, y_up1, y_up2, y_xx, y_nx, y_sJ, y_sR, Int32.reduceLT, y_nxK, y_nxL, y_nxR, y_sJK, y_sJL, y_sJR, y_sJN, y_sRK, y_sRL, y_sRN, Nat.add_zero, z_nat, z_lit, z_lit0, z_lit1, z_in0, z_in1, z_addl0, z_lt, z_ltl, z_llt, z_inj, z_injl, z_add, z_addl, z_ladd, z_mul, z_mull, z_lmul, z_neg, z_negl, z_in, z_inl, z_ltT, z_ltF, z_eqF, z_10, z_01, z_litne, z_ne0, z_0ne, z_ne1, z_1ne, z_lt64, z_02, z_03, z_04, z_05, z_12, z_13, z_14, z_15, z_20, z_21, z_23, z_24, z_25, z_30, z_31, z_32, z_34, z_35, z_40, z_41, z_42, z_43, z_45, z_50, z_51, z_52, z_53, z_54]
theorem f_lastTide_x0 {x y z : Int32} (h : CR B i σ) (g : ¬ (¬ x < 0 ∧ x < σ.1 2621)) : FRs B i σ (am_fx am_P (d + 150) 324 0 [some (.ref 64), some (.int x), some (.int y), some (.int z), none] [] (am_wI B i)) (.inr 1) := by
  refine FRs_x h ?_
  have hF : Fc B := h.1.1
  have hY : Yd B 94 := h.1.2.1
  rw [bk_324_0]
  simp (disch := omega) only [c_shN0 hF hY h.2.1.2.2.2.1.1 g, hF, hY, y_ckd, y_ck2d, y_ond, y_onn, y_oI, y_oIx, y_oJ, y_oV, y_oVx, y_oR, y_oRn, y_oRx, y_b0, y_b1, y_bi, y_bid, y_wIK, y_wIL, y_wII, y_wIJ, y_wIR, y_wIN, y_wIw, y_sI, ↓reduceIte, Nat.reduceEqDiff, eq_self, true_or, or_true, false_or, or_false, and_true, true_and, false_and, and_false, not_true, not_false_eq_true, tf_T, tf_F, y_up1, y_up2, y_xx, y_nx, y_sJ, y_sR, Int32.reduceLT, y_nxK, y_nxL, y_nxR, y_sJK, y_sJL, y_sJR, y_sJN, y_sRK, y_sRL, y_sRN, Nat.add_zero, z_nat, z_lit, z_lit0, z_lit1, z_in0, z_in1, z_addl0, z_lt, z_ltl, z_llt, z_inj, z_injl, z_add, z_addl, z_ladd, z_mul, z_mull, z_lmul, z_neg, z_negl, z_in, z_inl, z_ltT, z_ltF, z_eqF, z_10, z_01, z_litne, z_ne0, z_0ne, z_ne1, z_1ne, z_lt64, z_02, z_03, z_04, z_05, z_12, z_13, z_14, z_15, z_20, z_21, z_23, z_24, z_25, z_30, z_31, z_32, z_34, z_35, z_40, z_41, z_42, z_43, z_45, z_50, z_51, z_52, z_53, z_54]
theorem m_lastTide_x0 {x y z : Int32} (h : MR B i σ) (hc : isc σ.1 2621 8) (g : ¬ (¬ x < 0 ∧ x < σ.1 2621)) : MRs B i σ (am_fx am_P (d + 150) 107 0 [some (.ref 874), some (.int x), some (.int y), some (.int z), none] [] (am_wI B i)) (some (.int 0)) 1 := by
  refine MRs_x h ?_
  have hM : Md B := h.1.1
  have e5 := h.2.1 2621 (by omega)
  rw [bk_107_0]
  simp (maxSteps := 2000000) (disch := omega) only [(fun d x0 x1 B i => bk_69_0 d x0 x1 (am_wI B i)), (fun d x0 x1 x2 x3 s0 s1 B i => bk_107_27 d x0 x1 x2 x3 s0 s1 (am_wI B i)), m_in, z_pred hc.1, Classical.not_not, g, m_thr1 hM, e5, hM, y_ckd, y_ck2d, y_ond, y_onn, y_oI, y_oIx, y_oJ, y_oV, y_oVx, y_oR, y_oRn, y_oRx, y_b0, y_b1, y_bi, y_bid, y_wIK, y_wIL, y_wII, y_wIJ, y_wIR, y_wIN, y_wIw, y_sI, ↓reduceIte, Nat.reduceEqDiff, eq_self, true_or, or_true, false_or, or_false, and_true, true_and, false_and, and_false, not_true, not_false_eq_true, tf_T, tf_F, y_up1, y_up2, y_xx, y_nx, y_sJ, y_sR, Int32.reduceLT, y_nxK, y_nxL, y_nxR, y_sJK, y_sJL, y_sJR, y_sJN, y_sRK, y_sRL, y_sRN, Nat.add_zero, z_nat, z_lit, z_lit0, z_lit1, z_in0, z_in1, z_addl0, z_lt, z_ltl, z_llt, z_inj, z_injl, z_add, z_addl, z_ladd, z_mul, z_mull, z_lmul, z_neg, z_negl, z_in, z_inl, z_ltT, z_ltF, z_eqF, z_10, z_01, z_litne, z_ne0, z_0ne, z_ne1, z_1ne, z_lt64, z_02, z_03, z_04, z_05, z_12, z_13, z_14, z_15, z_20, z_21, z_23, z_24, z_25, z_30, z_31, z_32, z_34, z_35, z_40, z_41, z_42, z_43, z_45, z_50, z_51, z_52, z_53, z_54]
theorem f_lastTide_x1 {p : Nat} {y z : Int32} (h : CR B i σ) (hc : isc σ.1 2621 8) (hp : p < cn σ.1 2621) (g : ¬ (¬ y < 0 ∧ y < σ.1 3014)) : FRs B i σ (am_fx am_P (d + 150) 324 0 [some (.ref 64), some (.int (Int32.ofNat p)), some (.int y), some (.int z), none] [] (am_wI B i)) (.inr 1) := by
  refine FRs_x h ?_
  have hF : Fc B := h.1.1
  have hY : Yd B 94 := h.1.2.1
  have e8 := h.2.1.1.2.2.2.2.2.2.2.1
  rw [bk_324_0]
  simp (maxSteps := 2000000) (disch := omega) only [c_shN hF hY h.2.1.2.2.2.1.1 hc hp, c_ckI0 g, e8, hF, hY, y_ckd, y_ck2d, y_ond, y_onn, y_oI, y_oIx, y_oJ, y_oV, y_oVx, y_oR, y_oRn, y_oRx, y_b0, y_b1, y_bi, y_bid, y_wIK, y_wIL, y_wII, y_wIJ, y_wIR, y_wIN, y_wIw, y_sI, ↓reduceIte, Nat.reduceEqDiff, eq_self, true_or, or_true, false_or, or_false, and_true, true_and, false_and, and_false, not_true, not_false_eq_true, tf_T, tf_F, y_up1, y_up2, y_xx, y_nx, y_sJ, y_sR, Int32.reduceLT, y_nxK, y_nxL, y_nxR, y_sJK, y_sJL, y_sJR, y_sJN, y_sRK, y_sRL, y_sRN, Nat.add_zero, z_nat, z_lit, z_lit0, z_lit1, z_in0, z_in1, z_addl0, z_lt, z_ltl, z_llt, z_inj, z_injl, z_add, z_addl, z_ladd, z_mul, z_mull, z_lmul, z_neg, z_negl, z_in, z_inl, z_ltT, z_ltF, z_eqF, z_10, z_01, z_litne, z_ne0, z_0ne, z_ne1, z_1ne, z_lt64, z_02, z_03, z_04, z_05, z_12, z_13, z_14, z_15, z_20, z_21, z_23, z_24, z_25, z_30, z_31, z_32, z_34, z_35, z_40, z_41, z_42, z_43, z_45, z_50, z_51, z_52, z_53, z_54]
theorem m_lastTide_x1 {p : Nat} {y z : Int32} (h : MR B i σ) (hc : isc σ.1 2621 8) (hp : p < cn σ.1 2621) (hq4 : isc σ.1 3014 4) (g : ¬ (¬ y < 0 ∧ y < σ.1 3014)) : MRs B i σ (am_fx am_P (d + 150) 107 0 [some (.ref 874), some (.int (Int32.ofNat p)), some (.int y), some (.int z), none] [] (am_wI B i)) (some (.int 0)) 1 := by
  refine MRs_x h ?_
  have hM : Md B := h.1.1
  have h8 := hc.2
  have t1 : (Int32.ofNat p < 0) = False := z_neg (by omega)
  have t2 := eq_true (ck_nat hc (by omega) hp).2
  have e5 := h.2.1 2621 (by omega)
  have e6 := h.2.1 3014 (by omega)
  rw [bk_107_0]
  simp (maxSteps := 2000000) (disch := omega) only [(fun d x0 x1 B i => bk_69_0 d x0 x1 (am_wI B i)), (fun d x0 x1 B i => bk_96_0 d x0 x1 (am_wI B i)), m_in, z_pred hc.1, z_pred hq4.1, Classical.not_not, (fun d x0 x1 x2 x3 s0 s1 B i => bk_107_27 d x0 x1 x2 x3 s0 s1 (am_wI B i)), t1, t2, g, m_thr1 hM, e5, e6, hM, y_ckd, y_ck2d, y_ond, y_onn, y_oI, y_oIx, y_oJ, y_oV, y_oVx, y_oR, y_oRn, y_oRx, y_b0, y_b1, y_bi, y_bid, y_wIK, y_wIL, y_wII, y_wIJ, y_wIR, y_wIN, y_wIw, y_sI, ↓reduceIte, Nat.reduceEqDiff, eq_self, true_or, or_true, false_or, or_false, and_true, true_and, false_and, and_false, not_true, not_false_eq_true, tf_T, tf_F, y_up1, y_up2, y_xx, y_nx, y_sJ, y_sR, Int32.reduceLT, y_nxK, y_nxL, y_nxR, y_sJK, y_sJL, y_sJR, y_sJN, y_sRK, y_sRL, y_sRN, Nat.add_zero, z_nat, z_lit, z_lit0, z_lit1, z_in0, z_in1, z_addl0, z_lt, z_ltl, z_llt, z_inj, z_injl, z_add, z_addl, z_ladd, z_mul, z_mull, z_lmul, z_neg, z_negl, z_in, z_inl, z_ltT, z_ltF, z_eqF, z_10, z_01, z_litne, z_ne0, z_0ne, z_ne1, z_1ne, z_lt64, z_02, z_03, z_04, z_05, z_12, z_13, z_14, z_15, z_20, z_21, z_23, z_24, z_25, z_30, z_31, z_32, z_34, z_35, z_40, z_41, z_42, z_43, z_45, z_50, z_51, z_52, z_53, z_54]
theorem f_lastTide0 {p q t : Nat} (h : CR B i σ) (hc : isc σ.1 2621 8) (hp : p < cn σ.1 2621) (hq4 : isc σ.1 3014 4) (hq : q < cn σ.1 3014) (h0 : σ.1 0 = Int32.ofNat t) (g : z < σ.1 0) : FRs B i σ (am_fx am_P (d + 150) 324 0 [some (.ref 64), some (.int (Int32.ofNat p)), some (.int (Int32.ofNat q)), some (.int z), none] [] (am_wI B i)) (.inl (some (.int (-1)))) := by
  refine FRs_0 h ?_
  have hF : Fc B := h.1.1
  have hY : Yd B 94 := h.1.2.1
  have h8 := hc.2
  have q4 := hq4.2
  have t1 : (Int32.ofNat p < 0) = False := z_neg (by omega)
  have t2 := eq_true (ck_nat hc (by omega) hp).2
  have t3 : (Int32.ofNat q < 0) = False := z_neg (by omega)
  have t4 := eq_true (ck_nat hq4 (by omega) hq).2
  have e8 := h.2.1.1.2.2.2.2.2.2.2.1
  have e0 := h.2.1.1.1
  have gz : z - 0 < σ.1 0 := by rw [Int32.sub_zero]; exact g
  rw [bk_324_0]
  simp (disch := omega) only [c_shN hF hY h.2.1.2.2.2.1.1 hc hp, c_ckI1 (ck_nat hq4 (by omega) hq), e8, e0, bk_219_0, hF, hY, y_ckd, y_ck2d, y_ond, y_onn, y_oI, y_oIx, y_oJ, y_oV, y_oVx, y_oR, y_oRn, y_oRx, y_b0, y_b1, y_bi, y_bid, y_wIK, y_wIL, y_wII, y_wIJ, y_wIR, y_wIN, y_wIw, y_sI, ↓reduceIte, Nat.reduceEqDiff, eq_self, true_or, or_true, false_or, or_false, and_true, true_and, false_and, and_false, not_true, not_false_eq_true, tf_T, tf_F, y_up1, y_up2, y_xx, y_nx, y_sJ, y_sR, Int32.reduceLT, y_nxK, y_nxL, y_nxR, y_sJK, y_sJL, y_sJR, y_sJN, y_sRK, y_sRL, y_sRN, Nat.add_zero, z_nat, z_lit, z_lit0, z_lit1, z_in0, z_in1, z_addl0, z_lt, z_ltl, z_llt, z_inj, z_injl, z_add, z_addl, z_ladd, z_mul, z_mull, z_lmul, z_neg, z_negl, z_in, z_inl, z_ltT, z_ltF, z_eqF, z_10, z_01, z_litne, z_ne0, z_0ne, z_ne1, z_1ne, z_lt64, z_02, z_03, z_04, z_05, z_12, z_13, z_14, z_15, z_20, z_21, z_23, z_24, z_25, z_30, z_31, z_32, z_34, z_35, z_40, z_41, z_42, z_43, z_45, z_50, z_51, z_52, z_53, z_54]
  rw [bk_219_3]
  simp (disch := omega) only [gz, y_ckd, y_ck2d, y_ond, y_onn, y_oI, y_oIx, y_oJ, y_oV, y_oVx, y_oR, y_oRn, y_oRx, y_b0, y_b1, y_bi, y_bid, y_wIK, y_wIL, y_wII, y_wIJ, y_wIR, y_wIN, y_wIw, y_sI, ↓reduceIte, Nat.reduceEqDiff, eq_self, true_or, or_true, false_or, or_false, and_true, true_and, false_and, and_false, not_true, not_false_eq_true, tf_T, tf_F, y_up1, y_up2, y_xx, y_nx, y_sJ, y_sR, Int32.reduceLT, y_nxK, y_nxL, y_nxR, y_sJK, y_sJL, y_sJR, y_sJN, y_sRK, y_sRL, y_sRN, Nat.add_zero, z_nat, z_lit, z_lit0, z_lit1, z_in0, z_in1, z_addl0, z_lt, z_ltl, z_llt, z_inj, z_injl, z_add, z_addl, z_ladd, z_mul, z_mull, z_lmul, z_neg, z_negl, z_in, z_inl, z_ltT, z_ltF, z_eqF, z_10, z_01, z_litne, z_ne0, z_0ne, z_ne1, z_1ne, z_lt64, z_02, z_03, z_04, z_05, z_12, z_13, z_14, z_15, z_20, z_21, z_23, z_24, z_25, z_30, z_31, z_32, z_34, z_35, z_40, z_41, z_42, z_43, z_45, z_50, z_51, z_52, z_53, z_54]
theorem m_lastTide0 {p q t : Nat} (h : MR B i σ) (hc : isc σ.1 2621 8) (hp : p < cn σ.1 2621) (hq4 : isc σ.1 3014 4) (hq : q < cn σ.1 3014) (h0 : σ.1 0 = Int32.ofNat t) (g : z < σ.1 0) : MRs B i σ (am_fx am_P (d + 150) 107 0 [some (.ref 874), some (.int (Int32.ofNat p)), some (.int (Int32.ofNat q)), some (.int z), none] [] (am_wI B i)) (some (.int (-1))) 0 := by
  refine MRs_0 h ?_
  have hM : Md B := h.1.1
  have h8 := hc.2
  have q4 := hq4.2
  have t1 : (Int32.ofNat p < 0) = False := z_neg (by omega)
  have t2 := eq_true (ck_nat hc (by omega) hp).2
  have t3 : (Int32.ofNat q < 0) = False := z_neg (by omega)
  have t4 := eq_true (ck_nat hq4 (by omega) hq).2
  have e5 := h.2.1 2621 (by omega)
  have e6 := h.2.1 3014 (by omega)
  have e0 := h.2.1 0 (by omega)
  rw [bk_107_0]
  simp (maxSteps := 2000000) (disch := omega) only [(fun d x0 x1 B i => bk_69_0 d x0 x1 (am_wI B i)), (fun d x0 x1 B i => bk_96_0 d x0 x1 (am_wI B i)), m_in, z_pred hc.1, z_pred hq4.1, Classical.not_not, (fun d x0 x1 x2 x3 s0 s1 B i => bk_107_27 d x0 x1 x2 x3 s0 s1 (am_wI B i)), t1, t2, t3, t4, m_thr0, e5, e6, hM, y_ckd, y_ck2d, y_ond, y_onn, y_oI, y_oIx, y_oJ, y_oV, y_oVx, y_oR, y_oRn, y_oRx, y_b0, y_b1, y_bi, y_bid, y_wIK, y_wIL, y_wII, y_wIJ, y_wIR, y_wIN, y_wIw, y_sI, ↓reduceIte, Nat.reduceEqDiff, eq_self, true_or, or_true, false_or, or_false, and_true, true_and, false_and, and_false, not_true, not_false_eq_true, tf_T, tf_F, y_up1, y_up2, y_xx, y_nx, y_sJ, y_sR, Int32.reduceLT, y_nxK, y_nxL, y_nxR, y_sJK, y_sJL, y_sJR, y_sJN, y_sRK, y_sRL, y_sRN, Nat.add_zero, z_nat, z_lit, z_lit0, z_lit1, z_in0, z_in1, z_addl0, z_lt, z_ltl, z_llt, z_inj, z_injl, z_add, z_addl, z_ladd, z_mul, z_mull, z_lmul, z_neg, z_negl, z_in, z_inl, z_ltT, z_ltF, z_eqF, z_10, z_01, z_litne, z_ne0, z_0ne, z_ne1, z_1ne, z_lt64, z_02, z_03, z_04, z_05, z_12, z_13, z_14, z_15, z_20, z_21, z_23, z_24, z_25, z_30, z_31, z_32, z_34, z_35, z_40, z_41, z_42, z_43, z_45, z_50, z_51, z_52, z_53, z_54]
  rw [bk_107_39]
  simp (disch := omega) only [(fun d x0 B i => bk_13_0 d x0 (am_wI B i)), e0, g, hM, y_ckd, y_ck2d, y_ond, y_onn, y_oI, y_oIx, y_oJ, y_oV, y_oVx, y_oR, y_oRn, y_oRx, y_b0, y_b1, y_bi, y_bid, y_wIK, y_wIL, y_wII, y_wIJ, y_wIR, y_wIN, y_wIw, y_sI, ↓reduceIte, Nat.reduceEqDiff, eq_self, true_or, or_true, false_or, or_false, and_true, true_and, false_and, and_false, not_true, not_false_eq_true, tf_T, tf_F, y_up1, y_up2, y_xx, y_nx, y_sJ, y_sR, Int32.reduceLT, y_nxK, y_nxL, y_nxR, y_sJK, y_sJL, y_sJR, y_sJN, y_sRK, y_sRL, y_sRN, Nat.add_zero, z_nat, z_lit, z_lit0, z_lit1, z_in0, z_in1, z_addl0, z_lt, z_ltl, z_llt, z_inj, z_injl, z_add, z_addl, z_ladd, z_mul, z_mull, z_lmul, z_neg, z_negl, z_in, z_inl, z_ltT, z_ltF, z_eqF, z_10, z_01, z_litne, z_ne0, z_0ne, z_ne1, z_1ne, z_lt64, z_02, z_03, z_04, z_05, z_12, z_13, z_14, z_15, z_20, z_21, z_23, z_24, z_25, z_30, z_31, z_32, z_34, z_35, z_40, z_41, z_42, z_43, z_45, z_50, z_51, z_52, z_53, z_54]
theorem f_lastTide {p q n t : Nat} (h : CR B i σ) (hc : isc σ.1 2621 8) (hp : p < cn σ.1 2621) (hq4 : isc σ.1 3014 4) (hq : q < cn σ.1 3014) (h0 : σ.1 0 = Int32.ofNat t) (hn : n < 2147483648) (ht : t ≤ n) : FRs B i σ (am_fx am_P (d + 150) 324 0 [some (.ref 64), some (.int (Int32.ofNat p)), some (.int (Int32.ofNat q)), some (.int (Int32.ofNat n)), none] [] (am_wI B i)) (.inl (some (.int (lsd σ.1 q (σ.1 (2622 + 49 * p + 2)) n t)))) := by
  refine FRs_0 h ?_
  have hF : Fc B := h.1.1
  have hY : Yd B 94 := h.1.2.1
  have h8 := hc.2
  have q4 := hq4.2
  have t1 : (Int32.ofNat p < 0) = False := z_neg (by omega)
  have t2 := eq_true (ck_nat hc (by omega) hp).2
  have t3 : (Int32.ofNat q < 0) = False := z_neg (by omega)
  have t4 := eq_true (ck_nat hq4 (by omega) hq).2
  have e8 := h.2.1.1.2.2.2.2.2.2.2.1
  have e0 := h.2.1.1.1.trans h0
  have a3 := (h.2.1.2.2.2.1.2 p hp (by omega)).2.2.1
  rw [bk_324_0]
  simp (disch := omega) only [c_shN hF hY h.2.1.2.2.2.1.1 hc hp, c_ckI1 (ck_nat hq4 (by omega) hq), e8, e0, a3, c_lastDay hY h.2.1.1 hq4 hq hn ht, hF, hY, y_ckd, y_ck2d, y_ond, y_onn, y_oI, y_oIx, y_oJ, y_oV, y_oVx, y_oR, y_oRn, y_oRx, y_b0, y_b1, y_bi, y_bid, y_wIK, y_wIL, y_wII, y_wIJ, y_wIR, y_wIN, y_wIw, y_sI, ↓reduceIte, Nat.reduceEqDiff, eq_self, true_or, or_true, false_or, or_false, and_true, true_and, false_and, and_false, not_true, not_false_eq_true, tf_T, tf_F, y_up1, y_up2, y_xx, y_nx, y_sJ, y_sR, Int32.reduceLT, y_nxK, y_nxL, y_nxR, y_sJK, y_sJL, y_sJR, y_sJN, y_sRK, y_sRL, y_sRN, Nat.add_zero, z_nat, z_lit, z_lit0, z_lit1, z_in0, z_in1, z_addl0, z_lt, z_ltl, z_llt, z_inj, z_injl, z_add, z_addl, z_ladd, z_mul, z_mull, z_lmul, z_neg, z_negl, z_in, z_inl, z_ltT, z_ltF, z_eqF, z_10, z_01, z_litne, z_ne0, z_0ne, z_ne1, z_1ne, z_lt64, z_02, z_03, z_04, z_05, z_12, z_13, z_14, z_15, z_20, z_21, z_23, z_24, z_25, z_30, z_31, z_32, z_34, z_35, z_40, z_41, z_42, z_43, z_45, z_50, z_51, z_52, z_53, z_54]
theorem m_lastTide {p q n t : Nat} (h : MR B i σ) (hc : isc σ.1 2621 8) (hp : p < cn σ.1 2621) (hq4 : isc σ.1 3014 4) (hq : q < cn σ.1 3014) (h0 : σ.1 0 = Int32.ofNat t) (hn : n < 2147483648) (ht : t ≤ n) : MRs B i σ (am_fx am_P (d + 150) 107 0 [some (.ref 874), some (.int (Int32.ofNat p)), some (.int (Int32.ofNat q)), some (.int (Int32.ofNat n)), none] [] (am_wI B i)) (some (.int (lsd σ.1 q (σ.1 (2622 + 49 * p + 2)) n t))) 0 := by
  refine MRs_0 h ?_
  have hM : Md B := h.1.1
  have h8 := hc.2
  have q4 := hq4.2
  have t1 : (Int32.ofNat p < 0) = False := z_neg (by omega)
  have t2 := eq_true (ck_nat hc (by omega) hp).2
  have t3 : (Int32.ofNat q < 0) = False := z_neg (by omega)
  have t4 := eq_true (ck_nat hq4 (by omega) hq).2
  have e5 := h.2.1 2621 (by omega)
  have e6 := h.2.1 3014 (by omega)
  have hw := up_o (q := 874) (k := 0) (v := 0) (by omega) h.2.1
  have e0 : am_up2 i 874 0 0 875 0 = Int32.ofNat t := (hw 0 (by omega)).trans h0
  rw [bk_107_0]
  simp (maxSteps := 2000000) (disch := omega) only [(fun d x0 x1 B i => bk_69_0 d x0 x1 (am_wI B i)), (fun d x0 x1 B i => bk_96_0 d x0 x1 (am_wI B i)), m_in, z_pred hc.1, z_pred hq4.1, Classical.not_not, (fun d x0 x1 x2 x3 s0 s1 B i => bk_107_27 d x0 x1 x2 x3 s0 s1 (am_wI B i)), t1, t2, t3, t4, m_thr0, e5, e6, hM, y_ckd, y_ck2d, y_ond, y_onn, y_oI, y_oIx, y_oJ, y_oV, y_oVx, y_oR, y_oRn, y_oRx, y_b0, y_b1, y_bi, y_bid, y_wIK, y_wIL, y_wII, y_wIJ, y_wIR, y_wIN, y_wIw, y_sI, ↓reduceIte, Nat.reduceEqDiff, eq_self, true_or, or_true, false_or, or_false, and_true, true_and, false_and, and_false, not_true, not_false_eq_true, tf_T, tf_F, y_up1, y_up2, y_xx, y_nx, y_sJ, y_sR, Int32.reduceLT, y_nxK, y_nxL, y_nxR, y_sJK, y_sJL, y_sJR, y_sJN, y_sRK, y_sRL, y_sRN, Nat.add_zero, z_nat, z_lit, z_lit0, z_lit1, z_in0, z_in1, z_addl0, z_lt, z_ltl, z_llt, z_inj, z_injl, z_add, z_addl, z_ladd, z_mul, z_mull, z_lmul, z_neg, z_negl, z_in, z_inl, z_ltT, z_ltF, z_eqF, z_10, z_01, z_litne, z_ne0, z_0ne, z_ne1, z_1ne, z_lt64, z_02, z_03, z_04, z_05, z_12, z_13, z_14, z_15, z_20, z_21, z_23, z_24, z_25, z_30, z_31, z_32, z_34, z_35, z_40, z_41, z_42, z_43, z_45, z_50, z_51, z_52, z_53, z_54]
  generalize am_up2 i 874 0 0 = i1 at hw e0 ⊢
  refine (congrArg (fun v => am_fx am_P (d + 150) 107 39 [some (.ref 874), some (.int (Int32.ofNat p)), some (.int (Int32.ofNat q)), some (.int (Int32.ofNat n)), some (.int v)] [] (am_wI B i1)) (show Int32.ofNat n = Int32.ofNat n - Int32.ofNat 0 from (Int32.sub_zero _).symm)).trans ?_
  refine (lp_fst (fun k => am_fx am_P (d + 150) 107 39 [some (.ref 874), some (.int (Int32.ofNat p)), some (.int (Int32.ofNat q)), some (.int (Int32.ofNat n)), some (.int (Int32.ofNat n - Int32.ofNat k))] [] (am_wI B i1)) (ltc σ.1 q (σ.1 (2622 + 49 * p + 2)) n) (fun k => some (.inl (some (.int (Int32.ofNat (n - k)))), am_wI B i1)) (min 28 (n - t + 1)) (fun k hk => ?_)).trans ?_
  · have es : Int32.ofNat n - Int32.ofNat k = Int32.ofNat (n - k) := z_sub (by omega)
    have g28 : Int32.ofNat n - 28 < Int32.ofNat n - Int32.ofNat k := by
      rw [show (28 : Int32) = Int32.ofNat 28 from rfl, Int32.lt_iff_toInt_lt, z_tsub (by omega) (by omega), z_tsub (by omega) (by omega)]
      omega
    have ed := z_dec (n := n) (k := k)
    rw [bk_107_39]
    rw [es] at g28 ed ⊢
    cases g : ltc σ.1 q (σ.1 (2622 + 49 * p + 2)) n k with
    | true => simp (disch := omega) only [(fun d x0 B i => bk_13_0 d x0 (am_wI B i)), e0, g28, m_pass1 (d := d + 147) hM hw (by omega) (by omega) (by omega) (ltc1 g), hM, y_ckd, y_ck2d, y_ond, y_onn, y_oI, y_oIx, y_oJ, y_oV, y_oVx, y_oR, y_oRn, y_oRx, y_b0, y_b1, y_bi, y_bid, y_wIK, y_wIL, y_wII, y_wIJ, y_wIR, y_wIN, y_wIw, y_sI, ↓reduceIte, Nat.reduceEqDiff, eq_self, true_or, or_true, false_or, or_false, and_true, true_and, false_and, and_false, not_true, not_false_eq_true, tf_T, tf_F, y_up1, y_up2, y_xx, y_nx, y_sJ, y_sR, Int32.reduceLT, y_nxK, y_nxL, y_nxR, y_sJK, y_sJL, y_sJR, y_sJN, y_sRK, y_sRL, y_sRN, Nat.add_zero, z_nat, z_lit, z_lit0, z_lit1, z_in0, z_in1, z_addl0, z_lt, z_ltl, z_llt, z_inj, z_injl, z_add, z_addl, z_ladd, z_mul, z_mull, z_lmul, z_neg, z_negl, z_in, z_inl, z_ltT, z_ltF, z_eqF, z_10, z_01, z_litne, z_ne0, z_0ne, z_ne1, z_1ne, z_lt64, z_02, z_03, z_04, z_05, z_12, z_13, z_14, z_15, z_20, z_21, z_23, z_24, z_25, z_30, z_31, z_32, z_34, z_35, z_40, z_41, z_42, z_43, z_45, z_50, z_51, z_52, z_53, z_54]
    | false =>
      simp (disch := omega) only [(fun d x0 B i => bk_13_0 d x0 (am_wI B i)), e0, g28, ed, m_pass0 (d := d + 147) hM hw (by omega) (by omega) (by omega) (ltc0 g), hM, y_ckd, y_ck2d, y_ond, y_onn, y_oI, y_oIx, y_oJ, y_oV, y_oVx, y_oR, y_oRn, y_oRx, y_b0, y_b1, y_bi, y_bid, y_wIK, y_wIL, y_wII, y_wIJ, y_wIR, y_wIN, y_wIw, y_sI, ↓reduceIte, Nat.reduceEqDiff, eq_self, true_or, or_true, false_or, or_false, and_true, true_and, false_and, and_false, not_true, not_false_eq_true, tf_T, tf_F, y_up1, y_up2, y_xx, y_nx, y_sJ, y_sR, Int32.reduceLT, y_nxK, y_nxL, y_nxR, y_sJK, y_sJL, y_sJR, y_sJN, y_sRK, y_sRL, y_sRN, Nat.add_zero, z_nat, z_lit, z_lit0, z_lit1, z_in0, z_in1, z_addl0, z_lt, z_ltl, z_llt, z_inj, z_injl, z_add, z_addl, z_ladd, z_mul, z_mull, z_lmul, z_neg, z_negl, z_in, z_inl, z_ltT, z_ltF, z_eqF, z_10, z_01, z_litne, z_ne0, z_0ne, z_ne1, z_1ne, z_lt64, z_02, z_03, z_04, z_05, z_12, z_13, z_14, z_15, z_20, z_21, z_23, z_24, z_25, z_30, z_31, z_32, z_34, z_35, z_40, z_41, z_42, z_43, z_45, z_50, z_51, z_52, z_53, z_54]
      simp only [Bool.false_eq_true, ↓reduceIte]
  · unfold lsd
    cases g : fst0 (ltc σ.1 q (σ.1 (2622 + 49 * p + 2)) n) (min 28 (n - t + 1)) with
    | some k => rfl
    | none =>
      dsimp only
      rw [bk_107_39]
      by_cases hl : Int32.ofNat n - Int32.ofNat (min 28 (n - t + 1)) < Int32.ofNat t
      · simp (disch := omega) only [(fun d x0 B i => bk_13_0 d x0 (am_wI B i)), e0, hl, hM, y_ckd, y_ck2d, y_ond, y_onn, y_oI, y_oIx, y_oJ, y_oV, y_oVx, y_oR, y_oRn, y_oRx, y_b0, y_b1, y_bi, y_bid, y_wIK, y_wIL, y_wII, y_wIJ, y_wIR, y_wIN, y_wIw, y_sI, ↓reduceIte, Nat.reduceEqDiff, eq_self, true_or, or_true, false_or, or_false, and_true, true_and, false_and, and_false, not_true, not_false_eq_true, tf_T, tf_F, y_up1, y_up2, y_xx, y_nx, y_sJ, y_sR, Int32.reduceLT, y_nxK, y_nxL, y_nxR, y_sJK, y_sJL, y_sJR, y_sJN, y_sRK, y_sRL, y_sRN, Nat.add_zero, z_nat, z_lit, z_lit0, z_lit1, z_in0, z_in1, z_addl0, z_lt, z_ltl, z_llt, z_inj, z_injl, z_add, z_addl, z_ladd, z_mul, z_mull, z_lmul, z_neg, z_negl, z_in, z_inl, z_ltT, z_ltF, z_eqF, z_10, z_01, z_litne, z_ne0, z_0ne, z_ne1, z_1ne, z_lt64, z_02, z_03, z_04, z_05, z_12, z_13, z_14, z_15, z_20, z_21, z_23, z_24, z_25, z_30, z_31, z_32, z_34, z_35, z_40, z_41, z_42, z_43, z_45, z_50, z_51, z_52, z_53, z_54]
      · have g28 : ¬ Int32.ofNat n - 28 < Int32.ofNat n - Int32.ofNat (min 28 (n - t + 1)) := by
          rw [Int32.lt_iff_toInt_lt, z_tsub (by omega) (by omega), z_toInt (by omega)] at hl
          rw [show (28 : Int32) = Int32.ofNat 28 from rfl, Int32.lt_iff_toInt_lt, z_tsub (by omega) (by omega), z_tsub (by omega) (by omega)]
          omega
        simp (disch := omega) only [(fun d x0 B i => bk_13_0 d x0 (am_wI B i)), e0, hl, g28, hM, y_ckd, y_ck2d, y_ond, y_onn, y_oI, y_oIx, y_oJ, y_oV, y_oVx, y_oR, y_oRn, y_oRx, y_b0, y_b1, y_bi, y_bid, y_wIK, y_wIL, y_wII, y_wIJ, y_wIR, y_wIN, y_wIw, y_sI, ↓reduceIte, Nat.reduceEqDiff, eq_self, true_or, or_true, false_or, or_false, and_true, true_and, false_and, and_false, not_true, not_false_eq_true, tf_T, tf_F, y_up1, y_up2, y_xx, y_nx, y_sJ, y_sR, Int32.reduceLT, y_nxK, y_nxL, y_nxR, y_sJK, y_sJL, y_sJR, y_sJN, y_sRK, y_sRL, y_sRN, Nat.add_zero, z_nat, z_lit, z_lit0, z_lit1, z_in0, z_in1, z_addl0, z_lt, z_ltl, z_llt, z_inj, z_injl, z_add, z_addl, z_ladd, z_mul, z_mull, z_lmul, z_neg, z_negl, z_in, z_inl, z_ltT, z_ltF, z_eqF, z_10, z_01, z_litne, z_ne0, z_0ne, z_ne1, z_1ne, z_lt64, z_02, z_03, z_04, z_05, z_12, z_13, z_14, z_15, z_20, z_21, z_23, z_24, z_25, z_30, z_31, z_32, z_34, z_35, z_40, z_41, z_42, z_43, z_45, z_50, z_51, z_52, z_53, z_54]
theorem k_lastTide (h : Sim B i σ) (hs : Sc B i L j) (hO : am_K B 892 = 22 ∧ am_L B 892 = 1) : Stq B i d 2513 j := by
  have hc := h.2.2.1.1.2.2.2.1
  have hq4 := h.2.2.1.1.2.2.2.2.1
  by_cases g : ¬ i 0 (j + 1) < 0 ∧ i 0 (j + 1) < σ.1 2621
  rotate_left
  · exact kx_32_1 h hs hO (f_lastTide_x0 (d := d + 48) h.1 g) fun B0 i0 h0 => m_lastTide_x0 (d := d + 49) h0 hc g
  obtain ⟨p, e, hp⟩ := nat_ck hc (by omega) g
  by_cases g1 : ¬ i 0 (j + 2) < 0 ∧ i 0 (j + 2) < σ.1 3014
  rotate_left
  · exact kx_32_1 h hs hO (by rw [e]; exact f_lastTide_x1 (d := d + 48) h.1 hc hp g1) fun B0 i0 h0 => by rw [e]; exact m_lastTide_x1 (d := d + 49) h0 hc hp hq4 g1
  obtain ⟨q, e2, hq⟩ := nat_ck hq4 (by omega) g1
  have h8 := hc.2
  have q4 := hq4.2
  have h0 := h.2.2.1.1.1
  have l0 := h0.2
  by_cases g2 : i 0 (j + 3) < σ.1 0
  · exact kk_32 h hs hO h.2.2 (by rw [e, e2]; exact f_lastTide0 (d := d + 48) h.1 hc hp hq4 hq h0.1 g2) fun B0 i0 h0' => by rw [e, e2]; exact m_lastTide0 (d := d + 49) h0' hc hp hq4 hq h0.1 g2
  have gn : ¬ i 0 (j + 3) < 0 := fun q => g2 (by
    rw [h0.1]
    rw [Int32.lt_iff_toInt_lt] at q ⊢
    rw [z_toInt (by omega)]
    have e1 : (0 : Int32).toInt = 0 := by decide
    omega)
  obtain ⟨n, hn, e3⟩ := z_of gn
  have ht : cn σ.1 0 ≤ n := by
    rw [e3, h0.1, z_lt (by omega) (by omega)] at g2
    omega
  exact kk_32 h hs hO h.2.2 (by rw [e, e2, e3]; exact f_lastTide (d := d + 48) h.1 hc hp hq4 hq h0.1 hn ht) fun B0 i0 h0' => by rw [e, e2, e3]; exact m_lastTide (d := d + 49) h0' hc hp hq4 hq h0.1 hn ht
end Docks
