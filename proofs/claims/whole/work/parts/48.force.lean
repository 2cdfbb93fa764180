/-! WHICH TEXT IS IN FORCE -/
/-- of the first n texts, the one in force on the day: none, or the last of the latest -/
def txi (w : Nat → Int32) (dy : Int32) (n : Nat) : Option Nat :=
  itr (fun t (a : Option Nat) => if dy < w (3542 + 850 * t) then a else match a with
    | none => some t
    | some k => if w (3542 + 850 * t) < w (3542 + 850 * k) then a else some t) n none
theorem txi_s {w : Nat → Int32} {dy : Int32} {n : Nat} : txi w dy (n + 1) = if dy < w (3542 + 850 * n) then txi w dy n else match txi w dy n with
    | none => some n
    | some k => if w (3542 + 850 * n) < w (3542 + 850 * k) then some k else some n := by
  show (if dy < w (3542 + 850 * n) then txi w dy n else match txi w dy n with
    | none => some n
    | some k => if w (3542 + 850 * n) < w (3542 + 850 * k) then txi w dy n else some n) = _
  cases txi w dy n <;> rfl
theorem txi_lt {w : Nat → Int32} {dy : Int32} {k : Nat} : ∀ n, txi w dy n = some k → k < n
  | 0, h => nomatch h
  | n + 1, h => by
    rw [txi_s] at h
    by_cases g : dy < w (3542 + 850 * n)
    · rw [if_pos g] at h
      have := txi_lt n h
      omega
    · rw [if_neg g] at h
      cases e : txi w dy n with
      | none => rw [e] at h; injection h; omega
      | some q =>
        have := txi_lt n e
        rw [e] at h
        by_cases g2 : w (3542 + 850 * n) < w (3542 + 850 * q)
        · simp only [g2, ↓reduceIte] at h; injection h; omega
        · simp only [g2, ↓reduceIte] at h; injection h; omega
/-- the reference of a text by its number -/
def txq (B : am_A) (b : Nat) : Option Nat → Value
  | none => .null
  | some k => match am_R B (b + 8) k with
    | some q => .ref q
    | none => .null
def txn : Option Nat → Int32
  | none => -1
  | some k => Int32.ofNat k
def txd (w : Nat → Int32) : Option Nat → Int32
  | none => 0
  | some k => w (3542 + 850 * k)
section InForce
variable {B : am_A} {i : Nat → Nat → Int32} {w : Nat → Int32} {b d : Nat} {x : Int32}
theorem c_inForce (hY : Yd B b) (hP : RX B i b w) (hc : isc w 3541 10) (hW : WdX w) : am_fx am_P d 189 0 [some (.ref (b + 7)), some (.int x), none, none, none] [] (am_wI B i) = some (.inl (some (txq B b (txi w x (cn w 3541)))), am_wI B i) := by
  have hn : i (b + 7) 2 = Int32.ofNat (cn w 3541) := hP.1.trans hc.1
  have h120 := hc.2
  rw [bk_189_0]
  refine (lp_itr (fun k (a : Option Nat) => am_fx am_P d 189 7 [some (.ref (b + 7)), some (.int x), some (txq B b (txi w x k)), some (.int (txd w (txi w x k))), some (.int (Int32.ofNat k))] [] (am_wI B i)) (fun t a => a) (cn w 3541) (fun k a hk => ?_) none).trans ?_
  · obtain ⟨e, q, eq, -⟩ := hP.2 k hk (by omega)
    have hg := (hW k hk (by omega)).1.1
    cases et : txi w x k with
    | none =>
      by_cases g : x < w (3542 + 850 * k)
      · simp only [txi_s, et, g, ↓reduceIte, txq, txd, eq]
        rw [bk_189_7]
        simp (disch := omega) only [hn, e, eq, g, hY, y_ckd, y_ck2d, y_ond, y_onn, y_oI, y_oIx, y_oJ, y_oV, y_oVx, y_oR, y_oRn, y_oRx, y_b0, y_b1, y_bi, y_bid, y_wIK, y_wIL, y_wII, y_wIJ, y_wIR, y_wIN, y_wIw, y_sI, ↓reduceIte, Nat.reduceEqDiff, eq_self, true_or, or_true, false_or, or_false, and_true, true_and, false_and, and_false, not_true, not_false_eq_true, tf_T, tf_F, y_up1, y_up2, y_xx, y_nx, y_sJ, y_sR, Int32.reduceLT, y_nxK, y_nxL, y_nxR, y_sJK, y_sJL, y_sJR, y_sJN, y_sRK, y_sRL, y_sRN, z_nat, z_lit, z_lit0, z_lit1, z_in0, z_in1, z_addl0, z_lt, z_ltl, z_llt, z_inj, z_injl, z_add, z_addl, z_ladd, z_mul, z_mull, z_lmul, z_neg, z_negl, z_in, z_inl, z_ltT, z_ltF, z_eqF, z_10, z_01, z_litne, z_ne0, z_0ne, z_ne1, z_1ne, z_lt64, z_02, z_03, z_04, z_05, z_12, z_13, z_14, z_15, z_20, z_21, z_23, z_24, z_25, z_30, z_31, z_32, z_34, z_35, z_40, z_41, z_42, z_43, z_45, z_50, z_51, z_52, z_53, z_54]
      · simp only [txi_s, et, g, ↓reduceIte, txq, txd, eq]
        rw [bk_189_7]
        simp (disch := omega) only [hn, e, eq, g, hg, hY, y_ckd, y_ck2d, y_ond, y_onn, y_oI, y_oIx, y_oJ, y_oV, y_oVx, y_oR, y_oRn, y_oRx, y_b0, y_b1, y_bi, y_bid, y_wIK, y_wIL, y_wII, y_wIJ, y_wIR, y_wIN, y_wIw, y_sI, ↓reduceIte, Nat.reduceEqDiff, eq_self, true_or, or_true, false_or, or_false, and_true, true_and, false_and, and_false, not_true, not_false_eq_true, tf_T, tf_F, y_up1, y_up2, y_xx, y_nx, y_sJ, y_sR, Int32.reduceLT, y_nxK, y_nxL, y_nxR, y_sJK, y_sJL, y_sJR, y_sJN, y_sRK, y_sRL, y_sRN, z_nat, z_lit, z_lit0, z_lit1, z_in0, z_in1, z_addl0, z_lt, z_ltl, z_llt, z_inj, z_injl, z_add, z_addl, z_ladd, z_mul, z_mull, z_lmul, z_neg, z_negl, z_in, z_inl, z_ltT, z_ltF, z_eqF, z_10, z_01, z_litne, z_ne0, z_0ne, z_ne1, z_1ne, z_lt64, z_02, z_03, z_04, z_05, z_12, z_13, z_14, z_15, z_20, z_21, z_23, z_24, z_25, z_30, z_31, z_32, z_34, z_35, z_40, z_41, z_42, z_43, z_45, z_50, z_51, z_52, z_53, z_54]
    | some p =>
      have hp := txi_lt k et
      obtain ⟨e', q', eq', -⟩ := hP.2 p (by omega) (by omega)
      by_cases g : x < w (3542 + 850 * k)
      · simp only [txi_s, et, g, ↓reduceIte, txq, txd, eq']
        rw [bk_189_7_RIRII_]
        simp (disch := omega) only [hn, e, eq, eq', g, hY, y_ckd, y_ck2d, y_ond, y_onn, y_oI, y_oIx, y_oJ, y_oV, y_oVx, y_oR, y_oRn, y_oRx, y_b0, y_b1, y_bi, y_bid, y_wIK, y_wIL, y_wII, y_wIJ, y_wIR, y_wIN, y_wIw, y_sI, ↓reduceIte, Nat.reduceEqDiff, eq_self, true_or, or_true, false_or, or_false, and_true, true_and, false_and, and_false, not_true, not_false_eq_true, tf_T, tf_F, y_up1, y_up2, y_xx, y_nx, y_sJ, y_sR, Int32.reduceLT, y_nxK, y_nxL, y_nxR, y_sJK, y_sJL, y_sJR, y_sJN, y_sRK, y_sRL, y_sRN, z_nat, z_lit, z_lit0, z_lit1, z_in0, z_in1, z_addl0, z_lt, z_ltl, z_llt, z_inj, z_injl, z_add, z_addl, z_ladd, z_mul, z_mull, z_lmul, z_neg, z_negl, z_in, z_inl, z_ltT, z_ltF, z_eqF, z_10, z_01, z_litne, z_ne0, z_0ne, z_ne1, z_1ne, z_lt64, z_02, z_03, z_04, z_05, z_12, z_13, z_14, z_15, z_20, z_21, z_23, z_24, z_25, z_30, z_31, z_32, z_34, z_35, z_40, z_41, z_42, z_43, z_45, z_50, z_51, z_52, z_53, z_54]
      · by_cases g2 : w (3542 + 850 * k) < w (3542 + 850 * p)
        · simp only [txi_s, et, g, g2, ↓reduceIte, txq, txd, eq']
          rw [bk_189_7_RIRII_]
          simp (disch := omega) only [hn, e, eq, eq', g, g2, hY, y_ckd, y_ck2d, y_ond, y_onn, y_oI, y_oIx, y_oJ, y_oV, y_oVx, y_oR, y_oRn, y_oRx, y_b0, y_b1, y_bi, y_bid, y_wIK, y_wIL, y_wII, y_wIJ, y_wIR, y_wIN, y_wIw, y_sI, ↓reduceIte, Nat.reduceEqDiff, eq_self, true_or, or_true, false_or, or_false, and_true, true_and, false_and, and_false, not_true, not_false_eq_true, tf_T, tf_F, y_up1, y_up2, y_xx, y_nx, y_sJ, y_sR, Int32.reduceLT, y_nxK, y_nxL, y_nxR, y_sJK, y_sJL, y_sJR, y_sJN, y_sRK, y_sRL, y_sRN, z_nat, z_lit, z_lit0, z_lit1, z_in0, z_in1, z_addl0, z_lt, z_ltl, z_llt, z_inj, z_injl, z_add, z_addl, z_ladd, z_mul, z_mull, z_lmul, z_neg, z_negl, z_in, z_inl, z_ltT, z_ltF, z_eqF, z_10, z_01, z_litne, z_ne0, z_0ne, z_ne1, z_1ne, z_lt64, z_02, z_03, z_04, z_05, z_12, z_13, z_14, z_15, z_20, z_21, z_23, z_24, z_25, z_30, z_31, z_32, z_34, z_35, z_40, z_41, z_42, z_43, z_45, z_50, z_51, z_52, z_53, z_54]
        · simp only [txi_s, et, g, g2, ↓reduceIte, txq, txd, eq, eq']
          rw [bk_189_7_RIRII_]
          simp (disch := omega) only [hn, e, eq, eq', g, g2, hY, y_ckd, y_ck2d, y_ond, y_onn, y_oI, y_oIx, y_oJ, y_oV, y_oVx, y_oR, y_oRn, y_oRx, y_b0, y_b1, y_bi, y_bid, y_wIK, y_wIL, y_wII, y_wIJ, y_wIR, y_wIN, y_wIw, y_sI, ↓reduceIte, Nat.reduceEqDiff, eq_self, true_or, or_true, false_or, or_false, and_true, true_and, false_and, and_false, not_true, not_false_eq_true, tf_T, tf_F, y_up1, y_up2, y_xx, y_nx, y_sJ, y_sR, Int32.reduceLT, y_nxK, y_nxL, y_nxR, y_sJK, y_sJL, y_sJR, y_sJN, y_sRK, y_sRL, y_sRN, z_nat, z_lit, z_lit0, z_lit1, z_in0, z_in1, z_addl0, z_lt, z_ltl, z_llt, z_inj, z_injl, z_add, z_addl, z_ladd, z_mul, z_mull, z_lmul, z_neg, z_negl, z_in, z_inl, z_ltT, z_ltF, z_eqF, z_10, z_01, z_litne, z_ne0, z_0ne, z_ne1, z_1ne, z_lt64, z_02, z_03, z_04, z_05, z_12, z_13, z_14, z_15, z_20, z_21, z_23, z_24, z_25, z_30, z_31, z_32, z_34, z_35, z_40, z_41, z_42, z_43, z_45, z_50, z_51, z_52, z_53, z_54]
  · cases et : txi w x (cn w 3541) with
    | none =>
      simp only [et, txq, txd]
      rw [bk_189_7]
      simp (disch := omega) only [hn, hY, y_ckd, y_ck2d, y_ond, y_onn, y_oI, y_oIx, y_oJ, y_oV, y_oVx, y_oR, y_oRn, y_oRx, y_b0, y_b1, y_bi, y_bid, y_wIK, y_wIL, y_wII, y_wIJ, y_wIR, y_wIN, y_wIw, y_sI, ↓reduceIte, Nat.reduceEqDiff, eq_self, true_or, or_true, false_or, or_false, and_true, true_and, false_and, and_false, not_true, not_false_eq_true, tf_T, tf_F, y_up1, y_up2, y_xx, y_nx, y_sJ, y_sR, Int32.reduceLT, y_nxK, y_nxL, y_nxR, y_sJK, y_sJL, y_sJR, y_sJN, y_sRK, y_sRL, y_sRN, z_nat, z_lit, z_lit0, z_lit1, z_in0, z_in1, z_addl0, z_lt, z_ltl, z_llt, z_inj, z_injl, z_add, z_addl, z_ladd, z_mul, z_mull, z_lmul, z_neg, z_negl, z_in, z_inl, z_ltT, z_ltF, z_eqF, z_10, z_01, z_litne, z_ne0, z_0ne, z_ne1, z_1ne, z_lt64, z_02, z_03, z_04, z_05, z_12, z_13, z_14, z_15, z_20, z_21, z_23, z_24, z_25, z_30, z_31, z_32, z_34, z_35, z_40, z_41, z_42, z_43, z_45, z_50, z_51, z_52, z_53, z_54]
    | some p =>
      have hp := txi_lt _ et
      obtain ⟨e', q', eq', -⟩ := hP.2 p (by omega) (by omega)
      simp only [et, txq, txd, eq']
      rw [bk_189_7_RIRII_]
      simp (disch := omega) only [hn, hY, y_ckd, y_ck2d, y_ond, y_onn, y_oI, y_oIx, y_oJ, y_oV, y_oVx, y_oR, y_oRn, y_oRx, y_b0, y_b1, y_bi, y_bid, y_wIK, y_wIL, y_wII, y_wIJ, y_wIR, y_wIN, y_wIw, y_sI, ↓reduceIte, Nat.reduceEqDiff, eq_self, true_or, or_true, false_or, or_false, and_true, true_and, false_and, and_false, not_true, not_false_eq_true, tf_T, tf_F, y_up1, y_up2, y_xx, y_nx, y_sJ, y_sR, Int32.reduceLT, y_nxK, y_nxL, y_nxR, y_sJK, y_sJL, y_sJR, y_sJN, y_sRK, y_sRL, y_sRN, z_nat, z_lit, z_lit0, z_lit1, z_in0, z_in1, z_addl0, z_lt, z_ltl, z_llt, z_inj, z_injl, z_add, z_addl, z_ladd, z_mul, z_mull, z_lmul, z_neg, z_negl, z_in, z_inl, z_ltT, z_ltF, z_eqF, z_10, z_01, z_litne, z_ne0, z_0ne, z_ne1, z_1ne, z_lt64, z_02, z_03, z_04, z_05, z_12, z_13, z_14, z_15, z_20, z_21, z_23, z_24, z_25, z_30, z_31, z_32, z_34, z_35, z_40, z_41, z_42, z_43, z_45, z_50, z_51, z_52, z_53, z_54]
end InForce
