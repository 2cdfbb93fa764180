/-! PAID: made by wip/whole/math/82.py. -/
section Paid
variable {B B1 : am_A} {i i1 : Nat → Nat → Int32} {σ σ' : Sg} {w : Nat → Int32} {L j d b : Nat} {x y z : Int32}
/-- choice k is of a set -/
abbrev btk (x : Int32) (k : Nat) : Prop := (x >>> (Int32.ofNat k &&& 31)) &&& 1 = 1
theorem bt_u : ∀ (x : Int32) (k : Nat), k < 8 → (((x.toUInt32 >>> ((Int32.ofNat k).toUInt32 &&& Int32.toUInt32 31)).toInt32) &&& 1 = 1) = btk x k := by
  intro x k hk
  have h : k = 0 ∨ k = 1 ∨ k = 2 ∨ k = 3 ∨ k = 4 ∨ k = 5 ∨ k = 6 ∨ k = 7 := by omega
  have e : (x.toUInt32 >>> ((Int32.ofNat k).toUInt32 &&& Int32.toUInt32 31)).toInt32 &&& 1 = (x >>> (Int32.ofNat k &&& 31)) &&& 1 := by
    apply Int32.toBitVec_inj.mp
    apply BitVec.eq_of_getLsbD_eq
    intro m hm
    rcases h with rfl | rfl | rfl | rfl | rfl | rfl | rfl | rfl <;> rcases m with _ | m <;> simp [BitVec.getLsbD_sshiftRight, BitVec.getElem_sshiftRight]
  rw [e]
/-- what a set's choices cost in a year, and up to it; what comes in up to a year -/
abbrev fni (w : Nat → Int32) (x : Int32) (y k a : Nat) : Nat := if btk x k then (if cn w (3479 + 4 * k + 1) = y then a + cn w (3479 + 4 * k) else a) else a
def cnI (w : Nat → Int32) (x : Int32) (y n : Nat) : Nat := itr (fni w x y) n 0
abbrev fno (w : Nat → Int32) (x : Int32) (y k a : Nat) : Nat := if btk x k then (if y < cn w (3479 + 4 * k + 1) then a else a + cn w (3479 + 4 * k)) else a
def cnO (w : Nat → Int32) (x : Int32) (y n : Nat) : Nat := itr (fno w x y) n 0
def cnS (w : Nat → Int32) (x : Int32) (n y : Nat) : Nat := itr (fun y a => a + cnI w x y n) y 0
def cnC (w : Nat → Int32) (r y : Nat) : Nat := itr (fun y a => a + cn w (3511 + 10 * r + y)) y 0
theorem cnI_s {c n : Nat} : cnI w x c (n + 1) = fni w x c n (cnI w x c n) := rfl
theorem cnO_s {c n : Nat} : cnO w x c (n + 1) = fno w x c n (cnO w x c n) := rfl
theorem cnS_s {c n : Nat} : cnS w x n (c + 1) = cnS w x n c + cnI w x c n := rfl
theorem cnC_s {c r : Nat} : cnC w r (c + 1) = cnC w r c + cn w (3511 + 10 * r + c) := rfl
theorem cnO_S {c : Nat} : ∀ n, cnO w x (c + 1) n = cnO w x c n + cnI w x (c + 1) n
  | 0 => rfl
  | n + 1 => by
    have ih := cnO_S (c := c) n
    rw [cnO_s, cnO_s, cnI_s]
    by_cases g : btk x n
    · rw [show fno w x (c + 1) n (cnO w x (c + 1) n) = _ from if_pos g, show fno w x c n (cnO w x c n) = _ from if_pos g, show fni w x (c + 1) n (cnI w x (c + 1) n) = _ from if_pos g, ih]
      by_cases g1 : cn w (3479 + 4 * n + 1) = c + 1
      · rw [if_neg (by omega), if_pos (by omega), if_pos g1]
        omega
      · by_cases g2 : c + 1 < cn w (3479 + 4 * n + 1)
        · rw [if_pos g2, if_pos (by omega), if_neg g1]
        · rw [if_neg g2, if_neg (by omega), if_neg g1]
          omega
    · rw [show fno w x (c + 1) n (cnO w x (c + 1) n) = _ from if_neg g, show fno w x c n (cnO w x c n) = _ from if_neg g, show fni w x (c + 1) n (cnI w x (c + 1) n) = _ from if_neg g, ih]
theorem cnO_0 : ∀ n, cnO w x 0 n = cnI w x 0 n
  | 0 => rfl
  | n + 1 => by
    have ih := cnO_0 n
    rw [cnO_s, cnI_s]
    by_cases g : btk x n
    · rw [show fno w x 0 n (cnO w x 0 n) = _ from if_pos g, show fni w x 0 n (cnI w x 0 n) = _ from if_pos g, ih]
      by_cases g1 : cn w (3479 + 4 * n + 1) = 0
      · rw [if_neg (by omega), if_pos g1]
      · rw [if_pos (by omega), if_neg g1]
    · rw [show fno w x 0 n (cnO w x 0 n) = _ from if_neg g, show fni w x 0 n (cnI w x 0 n) = _ from if_neg g, ih]
theorem cnO_cnS {n : Nat} : ∀ c, cnO w x c n = cnS w x n (c + 1)
  | 0 => by
    rw [cnO_0, cnS_s]
    exact (Nat.zero_add _).symm
  | c + 1 => by rw [cnO_S, cnO_cnS c, cnS_s (c := c + 1)]
abbrev Chs (w : Nat → Int32) : Prop := ∀ k, k < cn w 3478 → k < 8 → (w (3479 + 4 * k) = Int32.ofNat (cn w (3479 + 4 * k)) ∧ cn w (3479 + 4 * k) ≤ 100000) ∧ w (3479 + 4 * k + 1) = Int32.ofNat (cn w (3479 + 4 * k + 1)) ∧ cn w (3479 + 4 * k + 1) < 10
theorem chs_of (h : Wd w) : Chs w := fun k hk k8 => by
  obtain ⟨⟨a1, a2⟩, ⟨a3, a4⟩, -⟩ := h.2.2.2.2.2.2.2.2.2.1.2.2.1 k hk k8
  obtain ⟨m, e, hm⟩ := z_lk 100001 (by omega) a1 a2
  obtain ⟨m2, e2, hm2⟩ := z_lk 10 (by omega) a3 a4
  rw [cn_of e (by omega), cn_of e2 (by omega)]
  exact ⟨⟨e, by omega⟩, e2, hm2⟩
theorem coin_of (h : Wd w) {r c : Nat} (hr : r < 3) (hc : c < 10) : w (3511 + 10 * r + c) = Int32.ofNat (cn w (3511 + 10 * r + c)) ∧ cn w (3511 + 10 * r + c) ≤ 100000 := by
  obtain ⟨a1, a2⟩ := h.2.2.2.2.2.2.2.2.2.1.2.2.2 r hr c hc
  obtain ⟨m, e, hm⟩ := z_lk 100001 (by omega) a1 a2
  rw [cn_of e (by omega)]
  exact ⟨e, by omega⟩
theorem cnI_le {c : Nat} (h : Chs w) : ∀ n, n ≤ cn w 3478 → n ≤ 8 → cnI w x c n ≤ 100000 * n
  | 0, _, _ => Nat.le_refl _
  | n + 1, hn, n8 => by
    have ih := cnI_le (c := c) h n (by omega) (by omega)
    have := (h n (by omega) (by omega)).1.2
    rw [cnI_s]
    by_cases g : btk x n
    · rw [show fni w x c n (cnI w x c n) = _ from if_pos g]
      split <;> omega
    · rw [show fni w x c n (cnI w x c n) = _ from if_neg g]
      omega
theorem cnO_le {c : Nat} (h : Chs w) : ∀ n, n ≤ cn w 3478 → n ≤ 8 → cnO w x c n ≤ 100000 * n
  | 0, _, _ => Nat.le_refl _
  | n + 1, hn, n8 => by
    have ih := cnO_le (c := c) h n (by omega) (by omega)
    have := (h n (by omega) (by omega)).1.2
    rw [cnO_s]
    by_cases g : btk x n
    · rw [show fno w x c n (cnO w x c n) = _ from if_pos g]
      split <;> omega
    · rw [show fno w x c n (cnO w x c n) = _ from if_neg g]
      omega
theorem cnS_le {n : Nat} (h : Chs w) (hn : n ≤ cn w 3478) (n8 : n ≤ 8) : ∀ c, cnS w x n c ≤ 800000 * c
  | 0 => Nat.le_refl _
  | c + 1 => by
    have ih := cnS_le h hn n8 c
    have := cnI_le (x := x) (c := c) h n hn n8
    rw [cnS_s]
    omega
theorem cnC_le {r : Nat} (h : Wd w) (hr : r < 3) : ∀ c, c ≤ 10 → cnC w r c ≤ 100000 * c
  | 0, _ => Nat.le_refl _
  | c + 1, hc => by
    have ih := cnC_le h hr c (by omega)
    have := (coin_of h hr (c := c) (by omega)).2
    rw [cnC_s]
    omega
def Pd (w : Nat → Int32) (x : Int32) : Prop := ∀ r, r < 3 → ∀ c, c < 10 → cnS w x (cn w 3478) (c + 1) ≤ cnC w r (c + 1)
theorem z_bal {a c e f : Nat} (h1 : a + e < 2147483648) (h2 : c + f < 2147483648) : Int32.ofNat a - Int32.ofNat c + (Int32.ofNat e - Int32.ofNat f) = Int32.ofNat (a + e) - Int32.ofNat (c + f) := by
  apply Int32.toInt_inj.mp
  rw [Int32.toInt_add, z_tsub (by omega) (by omega), z_tsub (by omega) (by omega), z_tsub (by omega) (by omega)]
  unfold Int.bmod
  simp only [Nat.reducePow]
  split <;> omega
theorem z_bneg {a c : Nat} (h1 : a < 2147483648) (h2 : c < 2147483648) : (Int32.ofNat a - Int32.ofNat c < 0) = (a < c) := by
  rw [Int32.lt_iff_toInt_lt, z_tsub h1 h2, show (0 : Int32).toInt = 0 by decide]
  exact propext ⟨fun h => by omega, fun h => by omega⟩
theorem c_costIn {c : Nat} (hY : Yd B b) (hR : RC i b w) (hc : isc w 3478 8) (hC : Chs w) (c10 : c < 10) : am_fx am_P d 170 0 [some (.ref (b + 22)), some (.int x), some (.int (Int32.ofNat c)), none, none] [] (am_wI B i) = some (.inl (some (.int (Int32.ofNat (cnI w x c (cn w 3478))))), am_wI B i) := by
  have h2 := hc.2
  have e5 : i (b + 22) 4 = Int32.ofNat (cn w 3478) := hR.1.trans hc.1
  rw [bk_170_0]
  refine (lp_itr (fun k (_ : Unit) => am_fx am_P d 170 5 [some (.ref (b + 22)), some (.int x), some (.int (Int32.ofNat c)), some (.int (Int32.ofNat (cnI w x c k))), some (.int (Int32.ofNat k))] [] (am_wI B i)) (fun _ u => u) (cn w 3478) (fun k u hk => ?_) ()).trans ?_
  · obtain ⟨e1, e2, e3, e4⟩ := hR.2.1 k hk (by omega)
    obtain ⟨⟨v1, l1⟩, v2, l2⟩ := hC k hk (by omega)
    rw [v1] at e1
    rw [v2] at e2
    have hb := bt_u x k (by omega)
    rw [bk_170_5, cnI_s]
    by_cases g : btk x k
    · rw [show fni w x c k (cnI w x c k) = _ from if_pos g]
      by_cases g2 : cn w (3479 + 4 * k + 1) = c
      · rw [if_pos g2]
        rw [g2] at e2
        simp (maxSteps := 1000000) (disch := omega) only [e5, e1, e2, hb.trans (eq_true g), hY, y_ckd, y_ck2d, y_ond, y_onn, y_oI, y_oIx, y_oJ, y_oV, y_oVx, y_oR, y_oRn, y_oRx, y_b0, y_b1, y_bi, y_bid, y_wIK, y_wIL, y_wII, y_wIJ, y_wIR, y_wIN, y_wIw, y_sI, ↓reduceIte, Nat.reduceEqDiff, eq_self, true_or, or_true, false_or, or_false, and_true, true_and, false_and, and_false, not_true, not_false_eq_true, tf_T, tf_F, y_up1, y_up2, y_xx, y_nx, y_sJ, y_sR, Int32.reduceLT, y_nxK, y_nxL, y_nxR, y_sJK, y_sJL, y_sJR, y_sJN, y_sRK, y_sRL, y_sRN, Nat.add_zero, z_nat, z_lit, z_lit0, z_lit1, z_in0, z_in1, z_addl0, z_lt, z_ltl, z_llt, z_inj, z_injl, z_add, z_addl, z_ladd, z_mul, z_mull, z_lmul, z_neg, z_negl, z_in, z_inl, z_ltT, z_ltF, z_eqF, z_10, z_01, z_litne, z_ne0, z_0ne, z_ne1, z_1ne, z_lt64, z_02, z_03, z_04, z_05, z_12, z_13, z_14, z_15, z_20, z_21, z_23, z_24, z_25, z_30, z_31, z_32, z_34, z_35, z_40, z_41, z_42, z_43, z_45, z_50, z_51, z_52, z_53, z_54]
      · rw [if_neg g2]
        simp (maxSteps := 1000000) (disch := omega) only [e5, e1, e2, hb.trans (eq_true g), g2, hY, y_ckd, y_ck2d, y_ond, y_onn, y_oI, y_oIx, y_oJ, y_oV, y_oVx, y_oR, y_oRn, y_oRx, y_b0, y_b1, y_bi, y_bid, y_wIK, y_wIL, y_wII, y_wIJ, y_wIR, y_wIN, y_wIw, y_sI, ↓reduceIte, Nat.reduceEqDiff, eq_self, true_or, or_true, false_or, or_false, and_true, true_and, false_and, and_false, not_true, not_false_eq_true, tf_T, tf_F, y_up1, y_up2, y_xx, y_nx, y_sJ, y_sR, Int32.reduceLT, y_nxK, y_nxL, y_nxR, y_sJK, y_sJL, y_sJR, y_sJN, y_sRK, y_sRL, y_sRN, Nat.add_zero, z_nat, z_lit, z_lit0, z_lit1, z_in0, z_in1, z_addl0, z_lt, z_ltl, z_llt, z_inj, z_injl, z_add, z_addl, z_ladd, z_mul, z_mull, z_lmul, z_neg, z_negl, z_in, z_inl, z_ltT, z_ltF, z_eqF, z_10, z_01, z_litne, z_ne0, z_0ne, z_ne1, z_1ne, z_lt64, z_02, z_03, z_04, z_05, z_12, z_13, z_14, z_15, z_20, z_21, z_23, z_24, z_25, z_30, z_31, z_32, z_34, z_35, z_40, z_41, z_42, z_43, z_45, z_50, z_51, z_52, z_53, z_54]
    · rw [show fni w x c k (cnI w x c k) = _ from if_neg g]
      simp (maxSteps := 1000000) (disch := omega) only [e5, hb, g, hY, y_ckd, y_ck2d, y_ond, y_onn, y_oI, y_oIx, y_oJ, y_oV, y_oVx, y_oR, y_oRn, y_oRx, y_b0, y_b1, y_bi, y_bid, y_wIK, y_wIL, y_wII, y_wIJ, y_wIR, y_wIN, y_wIw, y_sI, ↓reduceIte, Nat.reduceEqDiff, eq_self, true_or, or_true, false_or, or_false, and_true, true_and, false_and, and_false, not_true, not_false_eq_true, tf_T, tf_F, y_up1, y_up2, y_xx, y_nx, y_sJ, y_sR, Int32.reduceLT, y_nxK, y_nxL, y_nxR, y_sJK, y_sJL, y_sJR, y_sJN, y_sRK, y_sRL, y_sRN, Nat.add_zero, z_nat, z_lit, z_lit0, z_lit1, z_in0, z_in1, z_addl0, z_lt, z_ltl, z_llt, z_inj, z_injl, z_add, z_addl, z_ladd, z_mul, z_mull, z_lmul, z_neg, z_negl, z_in, z_inl, z_ltT, z_ltF, z_eqF, z_10, z_01, z_litne, z_ne0, z_0ne, z_ne1, z_1ne, z_lt64, z_02, z_03, z_04, z_05, z_12, z_13, z_14, z_15, z_20, z_21, z_23, z_24, z_25, z_30, z_31, z_32, z_34, z_35, z_40, z_41, z_42, z_43, z_45, z_50, z_51, z_52, z_53, z_54]
  · rw [bk_170_5]
    simp (maxSteps := 1000000) (disch := omega) only [e5, hY, y_ckd, y_ck2d, y_ond, y_onn, y_oI, y_oIx, y_oJ, y_oV, y_oVx, y_oR, y_oRn, y_oRx, y_b0, y_b1, y_bi, y_bid, y_wIK, y_wIL, y_wII, y_wIJ, y_wIR, y_wIN, y_wIw, y_sI, ↓reduceIte, Nat.reduceEqDiff, eq_self, true_or, or_true, false_or, or_false, and_true, true_and, false_and, and_false, not_true, not_false_eq_true, tf_T, tf_F, y_up1, y_up2, y_xx, y_nx, y_sJ, y_sR, Int32.reduceLT, y_nxK, y_nxL, y_nxR, y_sJK, y_sJL, y_sJR, y_sJN, y_sRK, y_sRL, y_sRN, Nat.add_zero, z_nat, z_lit, z_lit0, z_lit1, z_in0, z_in1, z_addl0, z_lt, z_ltl, z_llt, z_inj, z_injl, z_add, z_addl, z_ladd, z_mul, z_mull, z_lmul, z_neg, z_negl, z_in, z_inl, z_ltT, z_ltF, z_eqF, z_10, z_01, z_litne, z_ne0, z_0ne, z_ne1, z_1ne, z_lt64, z_02, z_03, z_04, z_05, z_12, z_13, z_14, z_15, z_20, z_21, z_23, z_24, z_25, z_30, z_31, z_32, z_34, z_35, z_40, z_41, z_42, z_43, z_45, z_50, z_51, z_52, z_53, z_54]
theorem m_costOf {c : Nat} (hM : Md B) (hw : ∀ s, s < 12042 → i 875 s = w s) (hc : isc w 3478 8) (hC : Chs w) (c10 : c < 10) : am_fx am_P d 137 0 [some (.ref 874), some (.int x), some (.int (Int32.ofNat c)), none, none] [] (am_wI B i) = some (.inl (some (.int (Int32.ofNat (cnO w x c (cn w 3478))))), am_wI B i) := by
  have h2 := hc.2
  have e5 : i 875 3478 = Int32.ofNat (cn w 3478) := (hw _ (by omega)).trans hc.1
  rw [bk_137_0]
  refine (lp_itr (fun k (_ : Unit) => am_fx am_P d 137 5 [some (.ref 874), some (.int x), some (.int (Int32.ofNat c)), some (.int (Int32.ofNat (cnO w x c k))), some (.int (Int32.ofNat k))] [] (am_wI B i)) (fun _ u => u) (cn w 3478) (fun k u hk => ?_) ()).trans ?_
  · obtain ⟨⟨v1, l1⟩, v2, l2⟩ := hC k hk (by omega)
    have e1 := (hw (3479 + 4 * k) (by omega)).trans v1
    have e2 := (hw (3479 + 4 * k + 1) (by omega)).trans v2
    rw [bk_137_5, cnO_s]
    by_cases g : btk x k
    · rw [show fno w x c k (cnO w x c k) = _ from if_pos g]
      by_cases g2 : c < cn w (3479 + 4 * k + 1)
      · rw [if_pos g2]
        simp (maxSteps := 1000000) (disch := omega) only [(fun d x0 x1 x2 x4 s0 s1 B i => bk_137_65 d x0 x1 x2 x4 s0 s1 (am_wI B i)), e5, e1, e2, g, g2, Int32.add_zero, hM, y_ckd, y_ck2d, y_ond, y_onn, y_oI, y_oIx, y_oJ, y_oV, y_oVx, y_oR, y_oRn, y_oRx, y_b0, y_b1, y_bi, y_bid, y_wIK, y_wIL, y_wII, y_wIJ, y_wIR, y_wIN, y_wIw, y_sI, ↓reduceIte, Nat.reduceEqDiff, eq_self, true_or, or_true, false_or, or_false, and_true, true_and, false_and, and_false, not_true, not_false_eq_true, tf_T, tf_F, y_up1, y_up2, y_xx, y_nx, y_sJ, y_sR, Int32.reduceLT, y_nxK, y_nxL, y_nxR, y_sJK, y_sJL, y_sJR, y_sJN, y_sRK, y_sRL, y_sRN, Nat.add_zero, z_nat, z_lit, z_lit0, z_lit1, z_in0, z_in1, z_addl0, z_lt, z_ltl, z_llt, z_inj, z_injl, z_add, z_addl, z_ladd, z_mul, z_mull, z_lmul, z_neg, z_negl, z_in, z_inl, z_ltT, z_ltF, z_eqF, z_10, z_01, z_litne, z_ne0, z_0ne, z_ne1, z_1ne, z_lt64, z_02, z_03, z_04, z_05, z_12, z_13, z_14, z_15, z_20, z_21, z_23, z_24, z_25, z_30, z_31, z_32, z_34, z_35, z_40, z_41, z_42, z_43, z_45, z_50, z_51, z_52, z_53, z_54]
      · rw [if_neg g2]
        simp (maxSteps := 1000000) (disch := omega) only [(fun d x0 x1 x2 x4 s0 s1 B i => bk_137_65 d x0 x1 x2 x4 s0 s1 (am_wI B i)), e5, e1, e2, g, g2, hM, y_ckd, y_ck2d, y_ond, y_onn, y_oI, y_oIx, y_oJ, y_oV, y_oVx, y_oR, y_oRn, y_oRx, y_b0, y_b1, y_bi, y_bid, y_wIK, y_wIL, y_wII, y_wIJ, y_wIR, y_wIN, y_wIw, y_sI, ↓reduceIte, Nat.reduceEqDiff, eq_self, true_or, or_true, false_or, or_false, and_true, true_and, false_and, and_false, not_true, not_false_eq_true, tf_T, tf_F, y_up1, y_up2, y_xx, y_nx, y_sJ, y_sR, Int32.reduceLT, y_nxK, y_nxL, y_nxR, y_sJK, y_sJL, y_sJR, y_sJN, y_sRK, y_sRL, y_sRN, Nat.add_zero, z_nat, z_lit, z_lit0, z_lit1, z_in0, z_in1, z_addl0, z_lt, z_ltl, z_llt, z_inj, z_injl, z_add, z_addl, z_ladd, z_mul, z_mull, z_lmul, z_neg, z_negl, z_in, z_inl, z_ltT, z_ltF, z_eqF, z_10, z_01, z_litne, z_ne0, z_0ne, z_ne1, z_1ne, z_lt64, z_02, z_03, z_04, z_05, z_12, z_13, z_14, z_15, z_20, z_21, z_23, z_24, z_25, z_30, z_31, z_32, z_34, z_35, z_40, z_41, z_42, z_43, z_45, z_50, z_51, z_52, z_53, z_54]
    · rw [show fno w x c k (cnO w x c k) = _ from if_neg g]
      simp (maxSteps := 1000000) (disch := omega) only [(fun d x0 x1 x2 x4 s0 s1 B i => bk_137_65 d x0 x1 x2 x4 s0 s1 (am_wI B i)), e5, g, Int32.add_zero, hM, y_ckd, y_ck2d, y_ond, y_onn, y_oI, y_oIx, y_oJ, y_oV, y_oVx, y_oR, y_oRn, y_oRx, y_b0, y_b1, y_bi, y_bid, y_wIK, y_wIL, y_wII, y_wIJ, y_wIR, y_wIN, y_wIw, y_sI, ↓reduceIte, Nat.reduceEqDiff, eq_self, true_or, or_true, false_or, or_false, and_true, true_and, false_and, and_false, not_true, not_false_eq_true, tf_T, tf_F, y_up1, y_up2, y_xx, y_nx, y_sJ, y_sR, Int32.reduceLT, y_nxK, y_nxL, y_nxR, y_sJK, y_sJL, y_sJR, y_sJN, y_sRK, y_sRL, y_sRN, Nat.add_zero, z_nat, z_lit, z_lit0, z_lit1, z_in0, z_in1, z_addl0, z_lt, z_ltl, z_llt, z_inj, z_injl, z_add, z_addl, z_ladd, z_mul, z_mull, z_lmul, z_neg, z_negl, z_in, z_inl, z_ltT, z_ltF, z_eqF, z_10, z_01, z_litne, z_ne0, z_0ne, z_ne1, z_1ne, z_lt64, z_02, z_03, z_04, z_05, z_12, z_13, z_14, z_15, z_20, z_21, z_23, z_24, z_25, z_30, z_31, z_32, z_34, z_35, z_40, z_41, z_42, z_43, z_45, z_50, z_51, z_52, z_53, z_54]
  · rw [bk_137_5]
    simp (maxSteps := 1000000) (disch := omega) only [e5, hM, y_ckd, y_ck2d, y_ond, y_onn, y_oI, y_oIx, y_oJ, y_oV, y_oVx, y_oR, y_oRn, y_oRx, y_b0, y_b1, y_bi, y_bid, y_wIK, y_wIL, y_wII, y_wIJ, y_wIR, y_wIN, y_wIw, y_sI, ↓reduceIte, Nat.reduceEqDiff, eq_self, true_or, or_true, false_or, or_false, and_true, true_and, false_and, and_false, not_true, not_false_eq_true, tf_T, tf_F, y_up1, y_up2, y_xx, y_nx, y_sJ, y_sR, Int32.reduceLT, y_nxK, y_nxL, y_nxR, y_sJK, y_sJL, y_sJR, y_sJN, y_sRK, y_sRL, y_sRN, Nat.add_zero, z_nat, z_lit, z_lit0, z_lit1, z_in0, z_in1, z_addl0, z_lt, z_ltl, z_llt, z_inj, z_injl, z_add, z_addl, z_ladd, z_mul, z_mull, z_lmul, z_neg, z_negl, z_in, z_inl, z_ltT, z_ltF, z_eqF, z_10, z_01, z_litne, z_ne0, z_0ne, z_ne1, z_1ne, z_lt64, z_02, z_03, z_04, z_05, z_12, z_13, z_14, z_15, z_20, z_21, z_23, z_24, z_25, z_30, z_31, z_32, z_34, z_35, z_40, z_41, z_42, z_43, z_45, z_50, z_51, z_52, z_53, z_54]
theorem c_payR {r : Nat} (hY : Yd B b) (hR : RC i b w) (hW : Wd w) (hr : r < 3) : am_fx am_P (d + 1) 169 12 [some (.ref (b + 22)), some (.int x), some (.int (Int32.ofNat r)), some (.int (Int32.ofNat (cnC w r 0) - Int32.ofNat (cnS w x (cn w 3478) 0))), some (.int (Int32.ofNat 0))] [] (am_wI B i) = match fst0 (fun c => decide (cnC w r (c + 1) < cnS w x (cn w 3478) (c + 1))) 10 with
    | some _ => some (.inl (some (.int 0)), am_wI B i)
    | none => am_fx am_P (d + 1) 169 2 [some (.ref (b + 22)), some (.int x), some (.int (Int32.ofNat (r + 1))), none, none] [] (am_wI B i) := by
  have hc := hW.1.2.2.2.2.2.2.2.2.1
  have h2 := hc.2
  have hC := chs_of hW
  have := lp_fst (fun k => am_fx am_P (d + 1) 169 12 [some (.ref (b + 22)), some (.int x), some (.int (Int32.ofNat r)), some (.int (Int32.ofNat (cnC w r k) - Int32.ofNat (cnS w x (cn w 3478) k))), some (.int (Int32.ofNat k))] [] (am_wI B i)) (fun c => decide (cnC w r (c + 1) < cnS w x (cn w 3478) (c + 1))) (fun _ => some (.inl (some (.int 0)), am_wI B i)) 10 (fun k hk => by
    have eC := c_costIn (x := x) (c := k) (d := d) hY hR hc hC hk
    obtain ⟨v1, l1⟩ := coin_of hW hr hk
    have e1 := (hR.2.2 r hr k hk).trans v1
    have b1 := cnS_le (x := x) hC (Nat.le_refl _) h2 k
    have b2 := cnC_le hW hr k (by omega)
    have b3 := cnI_le (x := x) (c := k) hC _ (Nat.le_refl _) h2
    rw [bk_169_12, cnC_s, cnS_s, ← z_bal (by omega) (by omega)]
    by_cases g : cnC w r k + cn w (3511 + 10 * r + k) < cnS w x (cn w 3478) k + cnI w x k (cn w 3478)
    · have gn : Int32.ofNat (cnC w r k) - Int32.ofNat (cnS w x (cn w 3478) k) + (Int32.ofNat (cn w (3511 + 10 * r + k)) - Int32.ofNat (cnI w x k (cn w 3478))) < 0 := by
        rw [z_bal (by omega) (by omega), z_bneg (by omega) (by omega)]
        exact g
      simp (maxSteps := 1000000) (disch := omega) only [e1, eC, gn, g, decide_true, hY, y_ckd, y_ck2d, y_ond, y_onn, y_oI, y_oIx, y_oJ, y_oV, y_oVx, y_oR, y_oRn, y_oRx, y_b0, y_b1, y_bi, y_bid, y_wIK, y_wIL, y_wII, y_wIJ, y_wIR, y_wIN, y_wIw, y_sI, ↓reduceIte, Nat.reduceEqDiff, eq_self, true_or, or_true, false_or, or_false, and_true, true_and, false_and, and_false, not_true, not_false_eq_true, tf_T, tf_F, y_up1, y_up2, y_xx, y_nx, y_sJ, y_sR, Int32.reduceLT, y_nxK, y_nxL, y_nxR, y_sJK, y_sJL, y_sJR, y_sJN, y_sRK, y_sRL, y_sRN, Nat.add_zero, z_nat, z_lit, z_lit0, z_lit1, z_in0, z_in1, z_addl0, z_lt, z_ltl, z_llt, z_inj, z_injl, z_add, z_addl, z_ladd, z_mul, z_mull, z_lmul, z_neg, z_negl, z_in, z_inl, z_ltT, z_ltF, z_eqF, z_10, z_01, z_litne, z_ne0, z_0ne, z_ne1, z_1ne, z_lt64, z_02, z_03, z_04, z_05, z_12, z_13, z_14, z_15, z_20, z_21, z_23, z_24, z_25, z_30, z_31, z_32, z_34, z_35, z_40, z_41, z_42, z_43, z_45, z_50, z_51, z_52, z_53, z_54]
    · have gn : ¬ Int32.ofNat (cnC w r k) - Int32.ofNat (cnS w x (cn w 3478) k) + (Int32.ofNat (cn w (3511 + 10 * r + k)) - Int32.ofNat (cnI w x k (cn w 3478))) < 0 := by
        rw [z_bal (by omega) (by omega), z_bneg (by omega) (by omega)]
        exact g
      simp (maxSteps := 1000000) (disch := omega) only [e1, eC, gn, g, decide_false, Bool.false_eq_true, hY, y_ckd, y_ck2d, y_ond, y_onn, y_oI, y_oIx, y_oJ, y_oV, y_oVx, y_oR, y_oRn, y_oRx, y_b0, y_b1, y_bi, y_bid, y_wIK, y_wIL, y_wII, y_wIJ, y_wIR, y_wIN, y_wIw, y_sI, ↓reduceIte, Nat.reduceEqDiff, eq_self, true_or, or_true, false_or, or_false, and_true, true_and, false_and, and_false, not_true, not_false_eq_true, tf_T, tf_F, y_up1, y_up2, y_xx, y_nx, y_sJ, y_sR, Int32.reduceLT, y_nxK, y_nxL, y_nxR, y_sJK, y_sJL, y_sJR, y_sJN, y_sRK, y_sRL, y_sRN, Nat.add_zero, z_nat, z_lit, z_lit0, z_lit1, z_in0, z_in1, z_addl0, z_lt, z_ltl, z_llt, z_inj, z_injl, z_add, z_addl, z_ladd, z_mul, z_mull, z_lmul, z_neg, z_negl, z_in, z_inl, z_ltT, z_ltF, z_eqF, z_10, z_01, z_litne, z_ne0, z_0ne, z_ne1, z_1ne, z_lt64, z_02, z_03, z_04, z_05, z_12, z_13, z_14, z_15, z_20, z_21, z_23, z_24, z_25, z_30, z_31, z_32, z_34, z_35, z_40, z_41, z_42, z_43, z_45, z_50, z_51, z_52, z_53, z_54])
  refine this.trans ?_
  cases fst0 (fun c => decide (cnC w r (c + 1) < cnS w x (cn w 3478) (c + 1))) 10 with
  | some _ => rfl
  | none =>
    rw [bk_169_12]
    simp (maxSteps := 1000000) (disch := omega) only [hY, y_ckd, y_ck2d, y_ond, y_onn, y_oI, y_oIx, y_oJ, y_oV, y_oVx, y_oR, y_oRn, y_oRx, y_b0, y_b1, y_bi, y_bid, y_wIK, y_wIL, y_wII, y_wIJ, y_wIR, y_wIN, y_wIw, y_sI, ↓reduceIte, Nat.reduceEqDiff, eq_self, true_or, or_true, false_or, or_false, and_true, true_and, false_and, and_false, not_true, not_false_eq_true, tf_T, tf_F, y_up1, y_up2, y_xx, y_nx, y_sJ, y_sR, Int32.reduceLT, y_nxK, y_nxL, y_nxR, y_sJK, y_sJL, y_sJR, y_sJN, y_sRK, y_sRL, y_sRN, Nat.add_zero, z_nat, z_lit, z_lit0, z_lit1, z_in0, z_in1, z_addl0, z_lt, z_ltl, z_llt, z_inj, z_injl, z_add, z_addl, z_ladd, z_mul, z_mull, z_lmul, z_neg, z_negl, z_in, z_inl, z_ltT, z_ltF, z_eqF, z_10, z_01, z_litne, z_ne0, z_0ne, z_ne1, z_1ne, z_lt64, z_02, z_03, z_04, z_05, z_12, z_13, z_14, z_15, z_20, z_21, z_23, z_24, z_25, z_30, z_31, z_32, z_34, z_35, z_40, z_41, z_42, z_43, z_45, z_50, z_51, z_52, z_53, z_54]

abbrev bdr (w : Nat → Int32) (x : Int32) (r c : Nat) : Bool := decide (cnC w r (c + 1) < cnS w x (cn w 3478) (c + 1))
def pdv (w : Nat → Int32) (x : Int32) : Int32 := match fst0 (fun r => (fst0 (bdr w x r) 10).isSome) 3 with
  | some _ => 0
  | none => 1
theorem c_paid (hY : Yd B b) (hR : RC i b w) (hW : Wd w) : am_fx am_P (d + 1) 169 0 [some (.ref (b + 22)), some (.int x), none, none, none] [] (am_wI B i) = some (.inl (some (.int (pdv w x))), am_wI B i) := by
  rw [bk_169_0]
  have := lp_fst (fun r => am_fx am_P (d + 1) 169 2 [some (.ref (b + 22)), some (.int x), some (.int (Int32.ofNat r)), none, none] [] (am_wI B i)) (fun r => (fst0 (bdr w x r) 10).isSome) (fun _ => some (.inl (some (.int 0)), am_wI B i)) 3 (fun r hr => by
    have e := c_payR (x := x) (d := d) hY hR hW hr
    rw [bk_169_2]
    have e0 : (Int32.ofNat (cnC w r 0) - Int32.ofNat (cnS w x (cn w 3478) 0)) = 0 := by show Int32.ofNat 0 - Int32.ofNat 0 = 0; decide
    rw [e0, show Int32.ofNat 0 = 0 from rfl] at e
    rw [if_pos (show Int32.ofNat r < 3 from by rw [show (3 : Int32) = Int32.ofNat 3 from rfl, z_lt (by omega) (by omega)]; exact hr)]
    refine e.trans ?_
    show (match fst0 (bdr w x r) 10 with
      | some _ => some (Sum.inl (some (Value.int 0)), am_wI B i)
      | none => am_fx am_P (d + 1) 169 2 [some (.ref (b + 22)), some (.int x), some (.int (Int32.ofNat (r + 1))), none, none] [] (am_wI B i)) = _
    cases fst0 (bdr w x r) 10 <;> rfl)
  refine this.trans ?_
  unfold pdv
  cases fst0 (fun r => (fst0 (bdr w x r) 10).isSome) 3 with
  | some _ => rfl
  | none =>
    rw [bk_169_2]
    rfl
theorem pdv_ok : (pdv w x = 1 ∧ ∀ r, r < 3 → ∀ c, c < 10 → bdr w x r c = false) ∨ (pdv w x = 0 ∧ ∃ r, r < 3 ∧ ∃ c, c < 10 ∧ bdr w x r c = true) := by
  unfold pdv
  cases e : fst0 (fun r => (fst0 (bdr w x r) 10).isSome) 3 with
  | some r =>
    obtain ⟨h1, h2, -⟩ := fst0_some.mp e
    cases e2 : fst0 (bdr w x r) 10 with
    | none =>
      rw [e2] at h2
      exact absurd h2 (by decide)
    | some c =>
      obtain ⟨h3, h4, -⟩ := fst0_some.mp e2
      exact Or.inr ⟨rfl, r, h1, c, h3, h4⟩
  | none =>
    refine Or.inl ⟨rfl, fun r hr c hc => ?_⟩
    have q := fst0_none.mp e r hr
    cases e2 : fst0 (bdr w x r) 10 with
    | none => exact fst0_none.mp e2 c hc
    | some c =>
      rw [e2] at q
      exact absurd (show true = false from q) (by decide)
/-- the flag of the other reckoning -/
abbrev ffg (w : Nat → Int32) (x : Int32) (r c : Nat) (f : Int32) : Int32 := if f = 0 then 0 else if bdr w x r c = true then 0 else 1
def pfl (w : Nat → Int32) (x : Int32) (r n : Nat) (f : Int32) : Int32 := itr (ffg w x r) n f
theorem pfl_s {r n : Nat} {f : Int32} : pfl w x r (n + 1) f = ffg w x r n (pfl w x r n f) := rfl
theorem pfl_ok {r : Nat} {f : Int32} (hf : f = 0 ∨ f = 1) : ∀ n, (pfl w x r n f = 1 ∧ f = 1 ∧ ∀ c, c < n → bdr w x r c = false) ∨ (pfl w x r n f = 0 ∧ (f = 0 ∨ ∃ c, c < n ∧ bdr w x r c = true))
  | 0 => by
    rcases hf with e | e
    · exact Or.inr ⟨e, Or.inl e⟩
    · exact Or.inl ⟨e, e, fun c hc => absurd hc (by omega)⟩
  | n + 1 => by
    rw [pfl_s]
    rcases pfl_ok (r := r) hf n with ⟨e, h1, h2⟩ | ⟨e, h⟩
    · cases g : bdr w x r n with
      | true => exact Or.inr ⟨by unfold ffg; rw [if_neg (by rw [e]; decide), if_pos g], Or.inr ⟨n, by omega, g⟩⟩
      | false =>
        refine Or.inl ⟨by unfold ffg; rw [if_neg (by rw [e]; decide), if_neg (by rw [g]; decide)], h1, fun c hc => ?_⟩
        by_cases q : c = n
        · rw [q]
          exact g
        · exact h2 c (by omega)
    · refine Or.inr ⟨by unfold ffg; rw [if_pos e], ?_⟩
      rcases h with h | ⟨c, hc, h⟩
      · exact Or.inl h
      · exact Or.inr ⟨c, by omega, h⟩
def pfo (w : Nat → Int32) (x : Int32) (n : Nat) : Int32 := itr (fun r f => pfl w x r 10 f) n 1
theorem itr_s {α : Type} {f : Nat → α → α} {n : Nat} {a : α} : itr f (n + 1) a = f n (itr f n a) := rfl
theorem pfo_s {n : Nat} : pfo w x (n + 1) = pfl w x n 10 (pfo w x n) := by
  unfold pfo
  exact itr_s
theorem pfo_ok : ∀ n, (pfo w x n = 1 ∧ ∀ r, r < n → ∀ c, c < 10 → bdr w x r c = false) ∨ (pfo w x n = 0 ∧ ∃ r, r < n ∧ ∃ c, c < 10 ∧ bdr w x r c = true)
  | 0 => Or.inl ⟨rfl, fun r hr => absurd hr (by omega)⟩
  | n + 1 => by
    rw [pfo_s]
    have ih := pfo_ok n
    rcases pfl_ok (w := w) (x := x) (r := n) (f := pfo w x n) (ih.elim (fun h => Or.inr h.1) fun h => Or.inl h.1) 10 with ⟨e, h1, h2⟩ | ⟨e, h⟩
    · refine Or.inl ⟨e, fun r hr c hc => ?_⟩
      by_cases q : r = n
      · rw [q]
        exact h2 c hc
      · rcases ih with ⟨-, k⟩ | ⟨k, -⟩
        · exact k r (by omega) c hc
        · rw [k] at h1
          exact absurd h1 (by decide)
    · refine Or.inr ⟨e, ?_⟩
      rcases h with h | ⟨c, hc, h⟩
      · rcases ih with ⟨k, -⟩ | ⟨-, r, hr, q⟩
        · rw [k] at h
          exact absurd h (by decide)
        · exact ⟨r, by omega, q⟩
      · exact ⟨n, by omega, c, hc, h⟩
theorem pfo_pdv : pfo w x 3 = pdv w x := by
  rcases pfo_ok (w := w) (x := x) 3 with ⟨e, h⟩ | ⟨e, r, hr, c, hc, h⟩ <;> rcases pdv_ok (w := w) (x := x) with ⟨e2, h2⟩ | ⟨e2, r2, hr2, c2, hc2, h2⟩
  · rw [e, e2]
  · rw [h r2 hr2 c2 hc2] at h2
    exact absurd h2 (by decide)
  · rw [h2 r hr c hc] at h
    exact absurd h (by decide)
  · rw [e, e2]
theorem m_payR {r : Nat} {f : Int32} (hf : f = 0 ∨ f = 1) (hM : Md B) (hw : ∀ s, s < 12042 → i 875 s = w s) (hW : Wd w) (hr : r < 3) : am_fx am_P (d + 1) 138 15 [some (.ref 874), some (.int x), some (.int f), some (.int (Int32.ofNat r)), some (.int (Int32.ofNat 0)), some (.int (Int32.ofNat 0))] [] (am_wI B i) = am_fx am_P (d + 1) 138 4 [some (.ref 874), some (.int x), some (.int (pfl w x r 10 f)), some (.int (Int32.ofNat (r + 1))), none, none] [] (am_wI B i) := by
  have hc := hW.1.2.2.2.2.2.2.2.2.1
  have h2 := hc.2
  have hC := chs_of hW
  refine (lp_itr (fun k (_ : Unit) => am_fx am_P (d + 1) 138 15 [some (.ref 874), some (.int x), some (.int (pfl w x r k f)), some (.int (Int32.ofNat r)), some (.int (Int32.ofNat (cnC w r k))), some (.int (Int32.ofNat k))] [] (am_wI B i)) (fun _ u => u) 10 (fun k u hk => ?_) ()).trans ?_
  · obtain ⟨v1, l1⟩ := coin_of hW hr hk
    have e1 := (hw (3511 + 10 * r + k) (by omega)).trans v1
    have eC := m_costOf (x := x) (c := k) (d := d) hM hw hc hC hk
    rw [cnO_cnS] at eC
    have b1 := cnS_le (x := x) hC (Nat.le_refl _) h2 (k + 1)
    have b2 := cnC_le hW hr k (by omega)
    rw [bk_138_15, cnC_s, show pfl w x r (k + 1) f = ffg w x r k (pfl w x r k f) from rfl]
    rcases pfl_ok (w := w) (x := x) (r := r) hf k with ⟨e, -⟩ | ⟨e, -⟩
    · rw [e]
      cases g : bdr w x r k with
      | true =>
        have g' : cnC w r k + cn w (3511 + 10 * r + k) < cnS w x (cn w 3478) (k + 1) := of_decide_eq_true g
        rw [show ffg w x r k 1 = 0 by unfold ffg; rw [if_neg (by decide), if_pos g]]
        simp (maxSteps := 1000000) (disch := omega) only [(fun d x0 x1 x3 x4 x5 B i => bk_138_63 d x0 x1 x3 x4 x5 (am_wI B i)), e1, eC, g', hM, y_ckd, y_ck2d, y_ond, y_onn, y_oI, y_oIx, y_oJ, y_oV, y_oVx, y_oR, y_oRn, y_oRx, y_b0, y_b1, y_bi, y_bid, y_wIK, y_wIL, y_wII, y_wIJ, y_wIR, y_wIN, y_wIw, y_sI, ↓reduceIte, Nat.reduceEqDiff, eq_self, true_or, or_true, false_or, or_false, and_true, true_and, false_and, and_false, not_true, not_false_eq_true, tf_T, tf_F, y_up1, y_up2, y_xx, y_nx, y_sJ, y_sR, Int32.reduceLT, y_nxK, y_nxL, y_nxR, y_sJK, y_sJL, y_sJR, y_sJN, y_sRK, y_sRL, y_sRN, Nat.add_zero, z_nat, z_lit, z_lit0, z_lit1, z_in0, z_in1, z_addl0, z_lt, z_ltl, z_llt, z_inj, z_injl, z_add, z_addl, z_ladd, z_mul, z_mull, z_lmul, z_neg, z_negl, z_in, z_inl, z_ltT, z_ltF, z_eqF, z_10, z_01, z_litne, z_ne0, z_0ne, z_ne1, z_1ne, z_lt64, z_02, z_03, z_04, z_05, z_12, z_13, z_14, z_15, z_20, z_21, z_23, z_24, z_25, z_30, z_31, z_32, z_34, z_35, z_40, z_41, z_42, z_43, z_45, z_50, z_51, z_52, z_53, z_54]
      | false =>
        have g' : ¬ cnC w r k + cn w (3511 + 10 * r + k) < cnS w x (cn w 3478) (k + 1) := of_decide_eq_false g
        rw [show ffg w x r k 1 = 1 by unfold ffg; rw [if_neg (by decide), if_neg (by rw [g]; decide)]]
        simp (maxSteps := 1000000) (disch := omega) only [(fun d x0 x1 x3 x4 x5 B i => bk_138_63 d x0 x1 x3 x4 x5 (am_wI B i)), e1, eC, g', hM, y_ckd, y_ck2d, y_ond, y_onn, y_oI, y_oIx, y_oJ, y_oV, y_oVx, y_oR, y_oRn, y_oRx, y_b0, y_b1, y_bi, y_bid, y_wIK, y_wIL, y_wII, y_wIJ, y_wIR, y_wIN, y_wIw, y_sI, ↓reduceIte, Nat.reduceEqDiff, eq_self, true_or, or_true, false_or, or_false, and_true, true_and, false_and, and_false, not_true, not_false_eq_true, tf_T, tf_F, y_up1, y_up2, y_xx, y_nx, y_sJ, y_sR, Int32.reduceLT, y_nxK, y_nxL, y_nxR, y_sJK, y_sJL, y_sJR, y_sJN, y_sRK, y_sRL, y_sRN, Nat.add_zero, z_nat, z_lit, z_lit0, z_lit1, z_in0, z_in1, z_addl0, z_lt, z_ltl, z_llt, z_inj, z_injl, z_add, z_addl, z_ladd, z_mul, z_mull, z_lmul, z_neg, z_negl, z_in, z_inl, z_ltT, z_ltF, z_eqF, z_10, z_01, z_litne, z_ne0, z_0ne, z_ne1, z_1ne, z_lt64, z_02, z_03, z_04, z_05, z_12, z_13, z_14, z_15, z_20, z_21, z_23, z_24, z_25, z_30, z_31, z_32, z_34, z_35, z_40, z_41, z_42, z_43, z_45, z_50, z_51, z_52, z_53, z_54]
    · rw [e, show ffg w x r k 0 = 0 from if_pos rfl]
      simp (maxSteps := 1000000) (disch := omega) only [(fun d x0 x1 x3 x4 x5 B i => bk_138_63 d x0 x1 x3 x4 x5 (am_wI B i)), e1, hM, y_ckd, y_ck2d, y_ond, y_onn, y_oI, y_oIx, y_oJ, y_oV, y_oVx, y_oR, y_oRn, y_oRx, y_b0, y_b1, y_bi, y_bid, y_wIK, y_wIL, y_wII, y_wIJ, y_wIR, y_wIN, y_wIw, y_sI, ↓reduceIte, Nat.reduceEqDiff, eq_self, true_or, or_true, false_or, or_false, and_true, true_and, false_and, and_false, not_true, not_false_eq_true, tf_T, tf_F, y_up1, y_up2, y_xx, y_nx, y_sJ, y_sR, Int32.reduceLT, y_nxK, y_nxL, y_nxR, y_sJK, y_sJL, y_sJR, y_sJN, y_sRK, y_sRL, y_sRN, Nat.add_zero, z_nat, z_lit, z_lit0, z_lit1, z_in0, z_in1, z_addl0, z_lt, z_ltl, z_llt, z_inj, z_injl, z_add, z_addl, z_ladd, z_mul, z_mull, z_lmul, z_neg, z_negl, z_in, z_inl, z_ltT, z_ltF, z_eqF, z_10, z_01, z_litne, z_ne0, z_0ne, z_ne1, z_1ne, z_lt64, z_02, z_03, z_04, z_05, z_12, z_13, z_14, z_15, z_20, z_21, z_23, z_24, z_25, z_30, z_31, z_32, z_34, z_35, z_40, z_41, z_42, z_43, z_45, z_50, z_51, z_52, z_53, z_54]
  · rw [bk_138_15]
    simp (maxSteps := 1000000) (disch := omega) only [hM, y_ckd, y_ck2d, y_ond, y_onn, y_oI, y_oIx, y_oJ, y_oV, y_oVx, y_oR, y_oRn, y_oRx, y_b0, y_b1, y_bi, y_bid, y_wIK, y_wIL, y_wII, y_wIJ, y_wIR, y_wIN, y_wIw, y_sI, ↓reduceIte, Nat.reduceEqDiff, eq_self, true_or, or_true, false_or, or_false, and_true, true_and, false_and, and_false, not_true, not_false_eq_true, tf_T, tf_F, y_up1, y_up2, y_xx, y_nx, y_sJ, y_sR, Int32.reduceLT, y_nxK, y_nxL, y_nxR, y_sJK, y_sJL, y_sJR, y_sJN, y_sRK, y_sRL, y_sRN, Nat.add_zero, z_nat, z_lit, z_lit0, z_lit1, z_in0, z_in1, z_addl0, z_lt, z_ltl, z_llt, z_inj, z_injl, z_add, z_addl, z_ladd, z_mul, z_mull, z_lmul, z_neg, z_negl, z_in, z_inl, z_ltT, z_ltF, z_eqF, z_10, z_01, z_litne, z_ne0, z_0ne, z_ne1, z_1ne, z_lt64, z_02, z_03, z_04, z_05, z_12, z_13, z_14, z_15, z_20, z_21, z_23, z_24, z_25, z_30, z_31, z_32, z_34, z_35, z_40, z_41, z_42, z_43, z_45, z_50, z_51, z_52, z_53, z_54]
theorem m_paid (hM : Md B) (hw : ∀ s, s < 12042 → i 875 s = w s) (hW : Wd w) : am_fx am_P (d + 1) 138 0 [some (.ref 874), some (.int x), none, none, none, none] [] (am_wI B i) = some (.inl (some (.int (pdv w x))), am_wI B i) := by
  rw [bk_138_0, ← pfo_pdv]
  refine (lp_itr (fun r (_ : Unit) => am_fx am_P (d + 1) 138 4 [some (.ref 874), some (.int x), some (.int (pfo w x r)), some (.int (Int32.ofNat r)), none, none] [] (am_wI B i)) (fun _ u => u) 3 (fun r u hr => ?_) ()).trans ?_
  · have e := m_payR (x := x) (f := pfo w x r) (d := d) ((pfo_ok (w := w) (x := x) r).elim (fun h => Or.inr h.1) fun h => Or.inl h.1) hM hw hW hr
    rw [bk_138_4, if_pos (show Int32.ofNat r < 3 from by rw [show (3 : Int32) = Int32.ofNat 3 from rfl, z_lt (by omega) (by omega)]; exact hr), pfo_s]
    rw [show Int32.ofNat 0 = 0 from rfl] at e
    exact e
  · rw [bk_138_4]
    rcases pfo_ok (w := w) (x := x) 3 with ⟨e, -⟩ | ⟨e, -⟩ <;> rw [e] <;> rfl
theorem f_paid (h : CR B i σ) (hW : Wd σ.1) : FRs B i σ (am_fx am_P (d + 151) 339 0 [some (.ref 64), some (.int x)] [] (am_wI B i)) (.inl (some (.int (pdv σ.1 x)))) := by
  refine FRs_0 h ?_
  have hF : Fc B := h.1.1
  have hY : Yd B 94 := h.1.2.1
  have e := c_paid (x := x) (d := d + 149) hY h.2.1.2.2.2.2.2.2.2.1 hW
  rw [bk_339_0]
  rcases pdv_ok (w := σ.1) (x := x) with ⟨g, -⟩ | ⟨g, -⟩
  · rw [g] at e ⊢
    simp (maxSteps := 1000000) (disch := omega) only [e, hF, hY, y_ckd, y_ck2d, y_ond, y_onn, y_oI, y_oIx, y_oJ, y_oV, y_oVx, y_oR, y_oRn, y_oRx, y_b0, y_b1, y_bi, y_bid, y_wIK, y_wIL, y_wII, y_wIJ, y_wIR, y_wIN, y_wIw, y_sI, ↓reduceIte, Nat.reduceEqDiff, eq_self, true_or, or_true, false_or, or_false, and_true, true_and, false_and, and_false, not_true, not_false_eq_true, tf_T, tf_F, y_up1, y_up2, y_xx, y_nx, y_sJ, y_sR, Int32.reduceLT, y_nxK, y_nxL, y_nxR, y_sJK, y_sJL, y_sJR, y_sJN, y_sRK, y_sRL, y_sRN, Nat.add_zero, z_nat, z_lit, z_lit0, z_lit1, z_in0, z_in1, z_addl0, z_lt, z_ltl, z_llt, z_inj, z_injl, z_add, z_addl, z_ladd, z_mul, z_mull, z_lmul, z_neg, z_negl, z_in, z_inl, z_ltT, z_ltF, z_eqF, z_10, z_01, z_litne, z_ne0, z_0ne, z_ne1, z_1ne, z_lt64, z_02, z_03, z_04, z_05, z_12, z_13, z_14, z_15, z_20, z_21, z_23, z_24, z_25, z_30, z_31, z_32, z_34, z_35, z_40, z_41, z_42, z_43, z_45, z_50, z_51, z_52, z_53, z_54]
  · rw [g] at e ⊢
    simp (maxSteps := 1000000) (disch := omega) only [e, hF, hY, y_ckd, y_ck2d, y_ond, y_onn, y_oI, y_oIx, y_oJ, y_oV, y_oVx, y_oR, y_oRn, y_oRx, y_b0, y_b1, y_bi, y_bid, y_wIK, y_wIL, y_wII, y_wIJ, y_wIR, y_wIN, y_wIw, y_sI, ↓reduceIte, Nat.reduceEqDiff, eq_self, true_or, or_true, false_or, or_false, and_true, true_and, false_and, and_false, not_true, not_false_eq_true, tf_T, tf_F, y_up1, y_up2, y_xx, y_nx, y_sJ, y_sR, Int32.reduceLT, y_nxK, y_nxL, y_nxR, y_sJK, y_sJL, y_sJR, y_sJN, y_sRK, y_sRL, y_sRN, Nat.add_zero, z_nat, z_lit, z_lit0, z_lit1, z_in0, z_in1, z_addl0, z_lt, z_ltl, z_llt, z_inj, z_injl, z_add, z_addl, z_ladd, z_mul, z_mull, z_lmul, z_neg, z_negl, z_in, z_inl, z_ltT, z_ltF, z_eqF, z_10, z_01, z_litne, z_ne0, z_0ne, z_ne1, z_1ne, z_lt64, z_02, z_03, z_04, z_05, z_12, z_13, z_14, z_15, z_20, z_21, z_23, z_24, z_25, z_30, z_31, z_32, z_34, z_35, z_40, z_41, z_42, z_43, z_45, z_50, z_51, z_52, z_53, z_54]
theorem m_paidC (h : MR B i σ) (hW : Wd σ.1) : MRs B i σ (am_fx am_P (d + 151) 139 0 [some (.ref 874), some (.int x)] [] (am_wI B i)) (some (.int (pdv σ.1 x))) 0 := by
  refine MRs_0 h ?_
  have hM : Md B := h.1.1
  have hw := up_o (q := 874) (k := 0) (v := 0) (by omega) h.2.1
  have e := m_paid (x := x) (d := d + 149) hM hw hW
  rw [bk_139_0]
  rcases pdv_ok (w := σ.1) (x := x) with ⟨g, -⟩ | ⟨g, -⟩
  · rw [g] at e ⊢
    simp (maxSteps := 1000000) (disch := omega) only [e, hM, y_ckd, y_ck2d, y_ond, y_onn, y_oI, y_oIx, y_oJ, y_oV, y_oVx, y_oR, y_oRn, y_oRx, y_b0, y_b1, y_bi, y_bid, y_wIK, y_wIL, y_wII, y_wIJ, y_wIR, y_wIN, y_wIw, y_sI, ↓reduceIte, Nat.reduceEqDiff, eq_self, true_or, or_true, false_or, or_false, and_true, true_and, false_and, and_false, not_true, not_false_eq_true, tf_T, tf_F, y_up1, y_up2, y_xx, y_nx, y_sJ, y_sR, Int32.reduceLT, y_nxK, y_nxL, y_nxR, y_sJK, y_sJL, y_sJR, y_sJN, y_sRK, y_sRL, y_sRN, Nat.add_zero, z_nat, z_lit, z_lit0, z_lit1, z_in0, z_in1, z_addl0, z_lt, z_ltl, z_llt, z_inj, z_injl, z_add, z_addl, z_ladd, z_mul, z_mull, z_lmul, z_neg, z_negl, z_in, z_inl, z_ltT, z_ltF, z_eqF, z_10, z_01, z_litne, z_ne0, z_0ne, z_ne1, z_1ne, z_lt64, z_02, z_03, z_04, z_05, z_12, z_13, z_14, z_15, z_20, z_21, z_23, z_24, z_25, z_30, z_31, z_32, z_34, z_35, z_40, z_41, z_42, z_43, z_45, z_50, z_51, z_52, z_53, z_54]
  · rw [g] at e ⊢
    simp (maxSteps := 1000000) (disch := omega) only [e, hM, y_ckd, y_ck2d, y_ond, y_onn, y_oI, y_oIx, y_oJ, y_oV, y_oVx, y_oR, y_oRn, y_oRx, y_b0, y_b1, y_bi, y_bid, y_wIK, y_wIL, y_wII, y_wIJ, y_wIR, y_wIN, y_wIw, y_sI, ↓reduceIte, Nat.reduceEqDiff, eq_self, true_or, or_true, false_or, or_false, and_true, true_and, false_and, and_false, not_true, not_false_eq_true, tf_T, tf_F, y_up1, y_up2, y_xx, y_nx, y_sJ, y_sR, Int32.reduceLT, y_nxK, y_nxL, y_nxR, y_sJK, y_sJL, y_sJR, y_sJN, y_sRK, y_sRL, y_sRN, Nat.add_zero, z_nat, z_lit, z_lit0, z_lit1, z_in0, z_in1, z_addl0, z_lt, z_ltl, z_llt, z_inj, z_injl, z_add, z_addl, z_ladd, z_mul, z_mull, z_lmul, z_neg, z_negl, z_in, z_inl, z_ltT, z_ltF, z_eqF, z_10, z_01, z_litne, z_ne0, z_0ne, z_ne1, z_1ne, z_lt64, z_02, z_03, z_04, z_05, z_12, z_13, z_14, z_15, z_20, z_21, z_23, z_24, z_25, z_30, z_31, z_32, z_34, z_35, z_40, z_41, z_42, z_43, z_45, z_50, z_51, z_52, z_53, z_54]
theorem k_paid (h : Sim B i σ) (hs : Sc B i L j) (hO : am_K B 892 = 22 ∧ am_L B 892 = 1) : Stq B i d 3450 j := by
  exact kk_47 h hs hO h.2.2 (f_paid (d := d + 48) h.1 h.2.2.1) fun B0 i0 h0 => m_paidC (d := d + 48) h0 h.2.2.1
end Paid
