/-! TEXTS ON THE TAPE, the class: a word among words. Made by wip/whole/math/923.py. -/
def Seg (q : Nat) : List Nat → Nat → Prop
  | [], o => o = (sx q).length + 1
  | w :: r, o => (0 < (sx w).length ∧ o + (sx w).length ≤ (sx q).length) ∧ (o + (sx w).length = (sx q).length ∨ (sx q).getD (o + (sx w).length) 0 = 32) ∧ (∀ m, m < (sx w).length → (sx q).getD (o + m) 0 = (sx w).getD m 0 ∧ (sx q).getD (o + m) 0 ≠ 32 ∧ (sx q).getD (o + m) 0 < 128) ∧ Seg q r (o + (sx w).length + 1)
section Words
variable {B : am_A} {i : Nat → Nat → Int32} {N : Nat → Nat} {d L p b e q n o w : Nat} {r qs : List Nat}
theorem Seg_n (h : o = (sx q).length + 1) : Seg q [] o := h
theorem Seg_c (h1 : 0 < (sx w).length ∧ o + (sx w).length ≤ (sx q).length) (h2 : o + (sx w).length = (sx q).length ∨ (sx q).getD (o + (sx w).length) 0 = 32) (h3 : ∀ m, m < (sx w).length → (sx q).getD (o + m) 0 = (sx w).getD m 0 ∧ (sx q).getD (o + m) 0 ≠ 32 ∧ (sx q).getD (o + m) 0 < 128) (h4 : Seg q r (o + (sx w).length + 1)) : Seg q (w :: r) o := ⟨h1, h2, h3, h4⟩
def alk (N : Nat → Nat) (b e w k : Nat) : Int32 := if k ≤ e - b ∧ ∀ m, m < k → N (b + m) = (sx w).getD m 0 then Int32.ofNat k else -1
theorem c_seg1 (hF : Fc B) (hS : am_K B q = 43 ∧ am_L B q = (sx q).length ∧ ∀ k, k < (sx q).length → i q k = Int32.ofNat ((sx q).getD k 0)) (hl : (sx q).length < 100) (hc : CT N L i) (e3 : i 65 3 = Int32.ofNat e) (e4 : i 65 4 = Int32.ofNat b) (hbe : b ≤ e) (heL : e ≤ L) (h1 : o + (sx w).length ≤ (sx q).length) (h3 : ∀ m, m < (sx w).length → (sx q).getD (o + m) 0 = (sx w).getD m 0 ∧ (sx q).getD (o + m) 0 ≠ 32 ∧ (sx q).getD (o + m) 0 < 128) {x2 : Int32} (m : Nat) : ∀ k, k + m = (sx w).length → am_fx am_P d 215 17 [some (.ref 65), some (.ref q), some (.int (x2)), some (.int (alk N b e w k)), some (.int (Int32.ofNat (o + k)))] [] (am_wI B i) = am_fx am_P d 215 17 [some (.ref 65), some (.ref q), some (.int (x2)), some (.int (alk N b e w (sx w).length)), some (.int (Int32.ofNat (o + (sx w).length)))] [] (am_wI B i) := by
  have l400 := hc.2.1
  obtain ⟨s1, s2, s3⟩ := hS
  induction m with
  | zero =>
    intro k hk
    rw [show k = (sx w).length by omega]
  | succ m ih =>
    intro k hk
    obtain ⟨c1, c2, c3⟩ := h3 k (by omega)
    have sk := s3 (o + k) (by omega)
    have es : Int32.ofNat e - Int32.ofNat b = Int32.ofNat (e - b) := z_sub hbe
    have n1 : ¬ (sx q).length < o + k := by omega
    have n2 : ¬ o + k = (sx q).length := by omega
    rw [← ih (k + 1) (by omega), bk_215_17, ← Nat.add_assoc]
    by_cases g : k ≤ e - b ∧ ∀ m, m < k → N (b + m) = (sx w).getD m 0
    · rw [show alk N b e w k = Int32.ofNat k from if_pos g]
      by_cases g1 : k < e - b
      · have eb := hc.2.2.1 (b + k) (by omega)
        have n256 := hc.2.2.2 (b + k) (by omega)
        by_cases g2 : N (b + k) = (sx q).getD (o + k) 0
        · rw [show alk N b e w (k + 1) = Int32.ofNat (k + 1) from if_pos ⟨by omega, fun m hm => by
            by_cases qq : m = k
            · rw [qq, g2, c1]
            · exact g.2 m (by omega)⟩]
          simp (disch := omega) only [s1, s2, sk, e3, e4, es, n1, n2, c2, g1, eb, g2, hF, y_ckd, y_ck2d, y_ond, y_onn, y_oI, y_oIx, y_oJ, y_oV, y_oVx, y_oR, y_oRn, y_oRx, y_b0, y_b1, y_bi, y_bid, y_wIK, y_wIL, y_wII, y_wIJ, y_wIR, y_wIN, y_wIw, y_sI, ↓reduceIte, Nat.reduceEqDiff, eq_self, true_or, or_true, false_or, or_false, and_true, true_and, false_and, and_false, not_true, not_false_eq_true, tf_T, tf_F, y_up1, y_up2, y_xx, y_nx, y_sJ, y_sR, Int32.reduceLT, y_nxK, y_nxL, y_nxR, y_sJK, y_sJL, y_sJR, y_sJN, y_sRK, y_sRL, y_sRN, Nat.add_zero, z_nat, z_lit, z_lit0, z_lit1, z_in0, z_in1, z_addl0, z_lt, z_ltl, z_llt, z_inj, z_injl, z_add, z_addl, z_ladd, z_mul, z_mull, z_lmul, z_neg, z_negl, z_in, z_inl, z_ltT, z_ltF, z_eqF, z_10, z_01, z_litne, z_ne0, z_0ne, z_ne1, z_1ne, z_lt64, z_02, z_03, z_04, z_05, z_12, z_13, z_14, z_15, z_20, z_21, z_23, z_24, z_25, z_30, z_31, z_32, z_34, z_35, z_40, z_41, z_42, z_43, z_45, z_50, z_51, z_52, z_53, z_54]
        · rw [show alk N b e w (k + 1) = -1 from if_neg fun qq => g2 (by rw [c1]; exact qq.2 k (by omega))]
          simp (disch := omega) only [bk_215_112, s1, s2, sk, e3, e4, es, n1, n2, c2, g1, eb, g2, hF, y_ckd, y_ck2d, y_ond, y_onn, y_oI, y_oIx, y_oJ, y_oV, y_oVx, y_oR, y_oRn, y_oRx, y_b0, y_b1, y_bi, y_bid, y_wIK, y_wIL, y_wII, y_wIJ, y_wIR, y_wIN, y_wIw, y_sI, ↓reduceIte, Nat.reduceEqDiff, eq_self, true_or, or_true, false_or, or_false, and_true, true_and, false_and, and_false, not_true, not_false_eq_true, tf_T, tf_F, y_up1, y_up2, y_xx, y_nx, y_sJ, y_sR, Int32.reduceLT, y_nxK, y_nxL, y_nxR, y_sJK, y_sJL, y_sJR, y_sJN, y_sRK, y_sRL, y_sRN, Nat.add_zero, z_nat, z_lit, z_lit0, z_lit1, z_in0, z_in1, z_addl0, z_lt, z_ltl, z_llt, z_inj, z_injl, z_add, z_addl, z_ladd, z_mul, z_mull, z_lmul, z_neg, z_negl, z_in, z_inl, z_ltT, z_ltF, z_eqF, z_10, z_01, z_litne, z_ne0, z_0ne, z_ne1, z_1ne, z_lt64, z_02, z_03, z_04, z_05, z_12, z_13, z_14, z_15, z_20, z_21, z_23, z_24, z_25, z_30, z_31, z_32, z_34, z_35, z_40, z_41, z_42, z_43, z_45, z_50, z_51, z_52, z_53, z_54]
      · rw [show alk N b e w (k + 1) = -1 from if_neg fun qq => by omega]
        simp (disch := omega) only [bk_215_112, s1, s2, sk, e3, e4, es, n1, n2, c2, g1, hF, y_ckd, y_ck2d, y_ond, y_onn, y_oI, y_oIx, y_oJ, y_oV, y_oVx, y_oR, y_oRn, y_oRx, y_b0, y_b1, y_bi, y_bid, y_wIK, y_wIL, y_wII, y_wIJ, y_wIR, y_wIN, y_wIw, y_sI, ↓reduceIte, Nat.reduceEqDiff, eq_self, true_or, or_true, false_or, or_false, and_true, true_and, false_and, and_false, not_true, not_false_eq_true, tf_T, tf_F, y_up1, y_up2, y_xx, y_nx, y_sJ, y_sR, Int32.reduceLT, y_nxK, y_nxL, y_nxR, y_sJK, y_sJL, y_sJR, y_sJN, y_sRK, y_sRL, y_sRN, Nat.add_zero, z_nat, z_lit, z_lit0, z_lit1, z_in0, z_in1, z_addl0, z_lt, z_ltl, z_llt, z_inj, z_injl, z_add, z_addl, z_ladd, z_mul, z_mull, z_lmul, z_neg, z_negl, z_in, z_inl, z_ltT, z_ltF, z_eqF, z_10, z_01, z_litne, z_ne0, z_0ne, z_ne1, z_1ne, z_lt64, z_02, z_03, z_04, z_05, z_12, z_13, z_14, z_15, z_20, z_21, z_23, z_24, z_25, z_30, z_31, z_32, z_34, z_35, z_40, z_41, z_42, z_43, z_45, z_50, z_51, z_52, z_53, z_54]
    · rw [show alk N b e w k = -1 from if_neg g, show alk N b e w (k + 1) = -1 from if_neg fun qq => g ⟨by omega, fun m hm => qq.2 m (by omega)⟩]
      simp (disch := omega) only [bk_215_112, s1, s2, sk, n1, n2, c2, hF, y_ckd, y_ck2d, y_ond, y_onn, y_oI, y_oIx, y_oJ, y_oV, y_oVx, y_oR, y_oRn, y_oRx, y_b0, y_b1, y_bi, y_bid, y_wIK, y_wIL, y_wII, y_wIJ, y_wIR, y_wIN, y_wIw, y_sI, ↓reduceIte, Nat.reduceEqDiff, eq_self, true_or, or_true, false_or, or_false, and_true, true_and, false_and, and_false, not_true, not_false_eq_true, tf_T, tf_F, y_up1, y_up2, y_xx, y_nx, y_sJ, y_sR, Int32.reduceLT, y_nxK, y_nxL, y_nxR, y_sJK, y_sJL, y_sJR, y_sJN, y_sRK, y_sRL, y_sRN, Nat.add_zero, z_nat, z_lit, z_lit0, z_lit1, z_in0, z_in1, z_addl0, z_lt, z_ltl, z_llt, z_inj, z_injl, z_add, z_addl, z_ladd, z_mul, z_mull, z_lmul, z_neg, z_negl, z_in, z_inl, z_ltT, z_ltF, z_eqF, z_10, z_01, z_litne, z_ne0, z_0ne, z_ne1, z_1ne, z_lt64, z_02, z_03, z_04, z_05, z_12, z_13, z_14, z_15, z_20, z_21, z_23, z_24, z_25, z_30, z_31, z_32, z_34, z_35, z_40, z_41, z_42, z_43, z_45, z_50, z_51, z_52, z_53, z_54]
theorem c_seg (hF : Fc B) (hS : am_K B q = 43 ∧ am_L B q = (sx q).length ∧ ∀ k, k < (sx q).length → i q k = Int32.ofNat ((sx q).getD k 0)) (hl : (sx q).length < 100) (hc : CT N L i) (e3 : i 65 3 = Int32.ofNat e) (e4 : i 65 4 = Int32.ofNat b) (hbe : b ≤ e) (heL : e ≤ L) (h1 : 0 < (sx w).length ∧ o + (sx w).length ≤ (sx q).length) (h2 : o + (sx w).length = (sx q).length ∨ (sx q).getD (o + (sx w).length) 0 = 32) (h3 : ∀ m, m < (sx w).length → (sx q).getD (o + m) 0 = (sx w).getD m 0 ∧ (sx q).getD (o + m) 0 ≠ 32 ∧ (sx q).getD (o + m) 0 < 128) {j : Nat} (hj : j < 100) : am_fx am_P d 215 17 [some (.ref 65), some (.ref q), some (.int (Int32.ofNat j)), some (.int (0)), some (.int (Int32.ofNat (o)))] [] (am_wI B i) = if isw N b e (sx w) then some (.inl (some (.int (Int32.ofNat j))), am_wI B i) else am_fx am_P d 215 17 [some (.ref 65), some (.ref q), some (.int (Int32.ofNat (j + 1))), some (.int (0)), some (.int (Int32.ofNat (o + (sx w).length + 1)))] [] (am_wI B i) := by
  have l400 := hc.2.1
  have E := c_seg1 (d := d) (x2 := Int32.ofNat j) hF hS hl hc e3 e4 hbe heL h1.2 h3 (sx w).length 0 (Nat.zero_add _)
  rw [Nat.add_zero, show alk N b e w 0 = 0 from if_pos ⟨Nat.zero_le _, fun m hm => absurd hm (Nat.not_lt_zero m)⟩] at E
  obtain ⟨s1, s2, s3⟩ := hS
  have es : Int32.ofNat e - Int32.ofNat b = Int32.ofNat (e - b) := z_sub hbe
  have n1 : ¬ (sx q).length < o + (sx w).length := by omega
  rw [E]
  have E46 : ∀ x3 : Int32, am_fx am_P d 215 17 [some (.ref 65), some (.ref q), some (.int (Int32.ofNat j)), some (.int x3), some (.int (Int32.ofNat (o + (sx w).length)))] [] (am_wI B i) = am_fx am_P d 215 46 [some (.ref 65), some (.ref q), some (.int (Int32.ofNat j)), some (.int x3), some (.int (Int32.ofNat (o + (sx w).length)))] [] (am_wI B i) := by
    intro x3
    rw [bk_215_17]
    by_cases g : o + (sx w).length = (sx q).length
    · simp (disch := omega) only [s1, s2, n1, g, Nat.lt_irrefl, hF, y_ckd, y_ck2d, y_ond, y_onn, y_oI, y_oIx, y_oJ, y_oV, y_oVx, y_oR, y_oRn, y_oRx, y_b0, y_b1, y_bi, y_bid, y_wIK, y_wIL, y_wII, y_wIJ, y_wIR, y_wIN, y_wIw, y_sI, ↓reduceIte, Nat.reduceEqDiff, eq_self, true_or, or_true, false_or, or_false, and_true, true_and, false_and, and_false, not_true, not_false_eq_true, tf_T, tf_F, y_up1, y_up2, y_xx, y_nx, y_sJ, y_sR, Int32.reduceLT, y_nxK, y_nxL, y_nxR, y_sJK, y_sJL, y_sJR, y_sJN, y_sRK, y_sRL, y_sRN, Nat.add_zero, z_nat, z_lit, z_lit0, z_lit1, z_in0, z_in1, z_addl0, z_lt, z_ltl, z_llt, z_inj, z_injl, z_add, z_addl, z_ladd, z_mul, z_mull, z_lmul, z_neg, z_negl, z_in, z_inl, z_ltT, z_ltF, z_eqF, z_10, z_01, z_litne, z_ne0, z_0ne, z_ne1, z_1ne, z_lt64, z_02, z_03, z_04, z_05, z_12, z_13, z_14, z_15, z_20, z_21, z_23, z_24, z_25, z_30, z_31, z_32, z_34, z_35, z_40, z_41, z_42, z_43, z_45, z_50, z_51, z_52, z_53, z_54]
    · have sk := s3 (o + (sx w).length) (by omega)
      rw [h2.resolve_left g] at sk
      simp (disch := omega) only [s1, s2, n1, g, sk, hF, y_ckd, y_ck2d, y_ond, y_onn, y_oI, y_oIx, y_oJ, y_oV, y_oVx, y_oR, y_oRn, y_oRx, y_b0, y_b1, y_bi, y_bid, y_wIK, y_wIL, y_wII, y_wIJ, y_wIR, y_wIN, y_wIw, y_sI, ↓reduceIte, Nat.reduceEqDiff, eq_self, true_or, or_true, false_or, or_false, and_true, true_and, false_and, and_false, not_true, not_false_eq_true, tf_T, tf_F, y_up1, y_up2, y_xx, y_nx, y_sJ, y_sR, Int32.reduceLT, y_nxK, y_nxL, y_nxR, y_sJK, y_sJL, y_sJR, y_sJN, y_sRK, y_sRL, y_sRN, Nat.add_zero, z_nat, z_lit, z_lit0, z_lit1, z_in0, z_in1, z_addl0, z_lt, z_ltl, z_llt, z_inj, z_injl, z_add, z_addl, z_ladd, z_mul, z_mull, z_lmul, z_neg, z_negl, z_in, z_inl, z_ltT, z_ltF, z_eqF, z_10, z_01, z_litne, z_ne0, z_0ne, z_ne1, z_1ne, z_lt64, z_02, z_03, z_04, z_05, z_12, z_13, z_14, z_15, z_20, z_21, z_23, z_24, z_25, z_30, z_31, z_32, z_34, z_35, z_40, z_41, z_42, z_43, z_45, z_50, z_51, z_52, z_53, z_54]
  rw [E46, bk_215_46]
  unfold alk
  by_cases g : (sx w).length ≤ e - b ∧ ∀ m, m < (sx w).length → N (b + m) = (sx w).getD m 0
  · rw [if_pos g]
    by_cases g2 : (sx w).length = e - b
    · rw [if_pos (show isw N b e (sx w) from ⟨g2.symm, g.2⟩)]
      simp (disch := omega) only [e3, e4, es, g2, hF, y_ckd, y_ck2d, y_ond, y_onn, y_oI, y_oIx, y_oJ, y_oV, y_oVx, y_oR, y_oRn, y_oRx, y_b0, y_b1, y_bi, y_bid, y_wIK, y_wIL, y_wII, y_wIJ, y_wIR, y_wIN, y_wIw, y_sI, ↓reduceIte, Nat.reduceEqDiff, eq_self, true_or, or_true, false_or, or_false, and_true, true_and, false_and, and_false, not_true, not_false_eq_true, tf_T, tf_F, y_up1, y_up2, y_xx, y_nx, y_sJ, y_sR, Int32.reduceLT, y_nxK, y_nxL, y_nxR, y_sJK, y_sJL, y_sJR, y_sJN, y_sRK, y_sRL, y_sRN, Nat.add_zero, z_nat, z_lit, z_lit0, z_lit1, z_in0, z_in1, z_addl0, z_lt, z_ltl, z_llt, z_inj, z_injl, z_add, z_addl, z_ladd, z_mul, z_mull, z_lmul, z_neg, z_negl, z_in, z_inl, z_ltT, z_ltF, z_eqF, z_10, z_01, z_litne, z_ne0, z_0ne, z_ne1, z_1ne, z_lt64, z_02, z_03, z_04, z_05, z_12, z_13, z_14, z_15, z_20, z_21, z_23, z_24, z_25, z_30, z_31, z_32, z_34, z_35, z_40, z_41, z_42, z_43, z_45, z_50, z_51, z_52, z_53, z_54]
    · rw [if_neg (fun qq => g2 qq.1.symm : ¬ isw N b e (sx w))]
      simp (disch := omega) only [e3, e4, es, g2, hF, y_ckd, y_ck2d, y_ond, y_onn, y_oI, y_oIx, y_oJ, y_oV, y_oVx, y_oR, y_oRn, y_oRx, y_b0, y_b1, y_bi, y_bid, y_wIK, y_wIL, y_wII, y_wIJ, y_wIR, y_wIN, y_wIw, y_sI, ↓reduceIte, Nat.reduceEqDiff, eq_self, true_or, or_true, false_or, or_false, and_true, true_and, false_and, and_false, not_true, not_false_eq_true, tf_T, tf_F, y_up1, y_up2, y_xx, y_nx, y_sJ, y_sR, Int32.reduceLT, y_nxK, y_nxL, y_nxR, y_sJK, y_sJL, y_sJR, y_sJN, y_sRK, y_sRL, y_sRN, Nat.add_zero, z_nat, z_lit, z_lit0, z_lit1, z_in0, z_in1, z_addl0, z_lt, z_ltl, z_llt, z_inj, z_injl, z_add, z_addl, z_ladd, z_mul, z_mull, z_lmul, z_neg, z_negl, z_in, z_inl, z_ltT, z_ltF, z_eqF, z_10, z_01, z_litne, z_ne0, z_0ne, z_ne1, z_1ne, z_lt64, z_02, z_03, z_04, z_05, z_12, z_13, z_14, z_15, z_20, z_21, z_23, z_24, z_25, z_30, z_31, z_32, z_34, z_35, z_40, z_41, z_42, z_43, z_45, z_50, z_51, z_52, z_53, z_54]
  · rw [if_neg g, if_neg (fun qq => g ⟨by omega, qq.2⟩ : ¬ isw N b e (sx w))]
    have nm : ¬ (-1 : Int32) = Int32.ofNat (e - b) := fun qq => by
      have := congrArg Int32.toInt qq
      rw [Int32.toInt_ofNat_of_lt (by omega)] at this
      have c : (-1 : Int32).toInt = -1 := by decide
      omega
    simp (disch := omega) only [e3, e4, es, nm, hF, y_ckd, y_ck2d, y_ond, y_onn, y_oI, y_oIx, y_oJ, y_oV, y_oVx, y_oR, y_oRn, y_oRx, y_b0, y_b1, y_bi, y_bid, y_wIK, y_wIL, y_wII, y_wIJ, y_wIR, y_wIN, y_wIw, y_sI, ↓reduceIte, Nat.reduceEqDiff, eq_self, true_or, or_true, false_or, or_false, and_true, true_and, false_and, and_false, not_true, not_false_eq_true, tf_T, tf_F, y_up1, y_up2, y_xx, y_nx, y_sJ, y_sR, Int32.reduceLT, y_nxK, y_nxL, y_nxR, y_sJK, y_sJL, y_sJR, y_sJN, y_sRK, y_sRL, y_sRN, Nat.add_zero, z_nat, z_lit, z_lit0, z_lit1, z_in0, z_in1, z_addl0, z_lt, z_ltl, z_llt, z_inj, z_injl, z_add, z_addl, z_ladd, z_mul, z_mull, z_lmul, z_neg, z_negl, z_in, z_inl, z_ltT, z_ltF, z_eqF, z_10, z_01, z_litne, z_ne0, z_0ne, z_ne1, z_1ne, z_lt64, z_02, z_03, z_04, z_05, z_12, z_13, z_14, z_15, z_20, z_21, z_23, z_24, z_25, z_30, z_31, z_32, z_34, z_35, z_40, z_41, z_42, z_43, z_45, z_50, z_51, z_52, z_53, z_54]
theorem c_segs (hF : Fc B) (hS : am_K B q = 43 ∧ am_L B q = (sx q).length ∧ ∀ k, k < (sx q).length → i q k = Int32.ofNat ((sx q).getD k 0)) (hl : (sx q).length < 100) (hc : CT N L i) (e3 : i 65 3 = Int32.ofNat e) (e4 : i 65 4 = Int32.ofNat b) (hbe : b ≤ e) (heL : e ≤ L) : ∀ (qs : List Nat) (j o : Nat), Seg q qs o → j + qs.length < 100 → am_fx am_P d 215 17 [some (.ref 65), some (.ref q), some (.int (Int32.ofNat j)), some (.int (0)), some (.int (Int32.ofNat (o)))] [] (am_wI B i) = some (.inl (some (.int (txn (wix N b e qs j)))), am_wI B i) := by
  intro qs
  induction qs with
  | nil =>
    intro j o ho hj
    have ho : o = (sx q).length + 1 := ho
    obtain ⟨s1, s2, s3⟩ := hS
    have n1 : (sx q).length < o := by omega
    rw [bk_215_17]
    simp (disch := omega) only [s1, s2, n1, hF, y_ckd, y_ck2d, y_ond, y_onn, y_oI, y_oIx, y_oJ, y_oV, y_oVx, y_oR, y_oRn, y_oRx, y_b0, y_b1, y_bi, y_bid, y_wIK, y_wIL, y_wII, y_wIJ, y_wIR, y_wIN, y_wIw, y_sI, ↓reduceIte, Nat.reduceEqDiff, eq_self, true_or, or_true, false_or, or_false, and_true, true_and, false_and, and_false, not_true, not_false_eq_true, tf_T, tf_F, y_up1, y_up2, y_xx, y_nx, y_sJ, y_sR, Int32.reduceLT, y_nxK, y_nxL, y_nxR, y_sJK, y_sJL, y_sJR, y_sJN, y_sRK, y_sRL, y_sRN, Nat.add_zero, z_nat, z_lit, z_lit0, z_lit1, z_in0, z_in1, z_addl0, z_lt, z_ltl, z_llt, z_inj, z_injl, z_add, z_addl, z_ladd, z_mul, z_mull, z_lmul, z_neg, z_negl, z_in, z_inl, z_ltT, z_ltF, z_eqF, z_10, z_01, z_litne, z_ne0, z_0ne, z_ne1, z_1ne, z_lt64, z_02, z_03, z_04, z_05, z_12, z_13, z_14, z_15, z_20, z_21, z_23, z_24, z_25, z_30, z_31, z_32, z_34, z_35, z_40, z_41, z_42, z_43, z_45, z_50, z_51, z_52, z_53, z_54]
    rfl
  | cons w r ih =>
    intro j o ho hj
    obtain ⟨h1, h2, h3, h4⟩ := ho
    have jl : j + 1 + r.length < 100 := by rw [List.length_cons] at hj; omega
    rw [c_seg hF hS hl hc e3 e4 hbe heL h1 h2 h3 (by omega : j < 100), ih (j + 1) _ h4 jl]
    rw [show wix N b e (w :: r) j = if isw N b e (sx w) then some j else wix N b e r (j + 1) from rfl]
    by_cases g : isw N b e (sx w)
    · rw [if_pos g, if_pos g]
      rfl
    · rw [if_neg g, if_neg g]
end Words
