/-! WAR, the model. Made by wip/whole/math/914.py. -/
def cst (f : Nat → Bool) (n : Nat) : Nat := itr (fun s a => if f s = true then a + 2 ^ s else a) n 0
def wf1 (w : Nat → Int32) (s : Nat) : Bool := decide (w (2622 + 49 * s) = 1)
def wf2 (w : Nat → Int32) (s : Nat) : Bool := decide (¬ w (2622 + 49 * s) < 2 ∧ ¬ 4 < w (2622 + 49 * s))
/-- the ships that may be added -/
def wc1 (w : Nat → Int32) : Nat := cst (wf1 w) (cn w 2621)
/-- the ships that float anyhow -/
def wc2 (w : Nat → Int32) : Nat := cst (wf2 w) (cn w 2621)
def sbs (X c : Nat) : Prop := Int32.ofNat X &&& (Int32.ofNat c ^^^ (-1)) = 0
noncomputable def bsS (w : Nat → Int32) (X a : Nat) : Nat := @ite Nat (sbs X (wc1 w) ∧ pcn a < pcn X ∧ flo w X) (Classical.propDecidable _) X a
/-- the first of the greatest sets that can be added -/
noncomputable def wbs (w : Nat → Int32) : Nat := itr (bsS w) 256 0
section WarM
variable {B : am_A} {i j : Nat → Nat → Int32} {w : Nat → Int32} {d n N p k l u x m X a : Nat} {f : Nat → Bool} {σ : Sg}
theorem cst_s : cst f (n + 1) = if f n = true then cst f n + 2 ^ n else cst f n := rfl
theorem cst_lt : cst f n < 2 ^ n := by
  induction n with
  | zero => exact Nat.one_pos
  | succ n ih =>
    rw [cst_s, Nat.pow_succ]
    split <;> omega
theorem cst_no : ¬ bt2 (cst f n) n := by
  unfold bt2
  rw [Nat.div_eq_of_lt cst_lt]
  decide
theorem cst_256 (h : n ≤ 8) : cst f n < 256 := Nat.lt_of_lt_of_le cst_lt (Nat.pow_le_pow_right (n := 2) (by omega) h : 2 ^ n ≤ 2 ^ 8)
theorem cst_or (hk : k < 8) : Int32.ofNat (cst f k) ||| (if f k = true then (1 : Int32) <<< (Int32.ofNat k &&& 31) else 0) = Int32.ofNat (cst f (k + 1)) := by
  rw [cst_s]
  by_cases g : f k = true
  · rw [if_pos g, if_pos g]
    exact zb_set _ (cst_256 (by omega)) k hk cst_no
  · rw [if_neg g, if_neg g]
    exact Int32.or_zero
theorem bsS_lt (hX : X < 256) (ha : a < 256) : bsS w X a < 256 := by
  unfold bsS
  split <;> assumption
theorem itr_bs_lt : ∀ n, n ≤ 256 → itr (bsS w) n 0 < 256
  | 0, _ => Nat.succ_pos 255
  | n + 1, h => bsS_lt (by omega) (itr_bs_lt n (by omega))
theorem bsS_0 : itr (bsS w) 1 0 = 0 := by
  show bsS w 0 0 = 0
  unfold bsS
  split <;> rfl
theorem m_war (h : MR B i σ) (hW : Wd σ.1) : MRs B i σ (am_fx am_P (d + 150) 127 0 [some (.ref 874), none, none, none, none] [] (am_wI B i)) (some (.int (Int32.ofNat (wc2 σ.1) ||| Int32.ofNat (wbs σ.1)))) 0 := by
  have hM : Md B := h.1.1
  have hc := hW.1.2.2.2.1
  have n21 := hc.2
  have hw := (MR_0 h).2.1
  generalize ei : am_up2 i 874 0 0 = i0 at hw
  have k21 : i0 875 2621 = Int32.ofNat (cn σ.1 2621) := (hw 2621 (by omega)).trans hc.1
  have E1 := lp_inv (fun k (_ : Unit) => am_fx am_P (d + 150) 127 11 [some (.ref 874), some (.int (Int32.ofNat (cst (wf2 σ.1) k))), some (.int (Int32.ofNat (cst (wf1 σ.1) k))), some (.int (Int32.ofNat k)), none] [] (am_wI B i0)) (fun _ _ => True) (cn σ.1 2621) (fun k _ hk _ => by
    refine ⟨(), ?_, trivial⟩
    rw [← cst_or (f := wf1 σ.1) (show k < 8 by omega), ← cst_or (f := wf2 σ.1) (show k < 8 by omega), bk_127_11]
    have e0 := hw (2622 + 49 * k) (by omega)
    by_cases g1 : σ.1 (2622 + 49 * k) < 2
    · have f2 : ¬ wf2 σ.1 k = true := fun q => (of_decide_eq_true q).1 g1
      by_cases g3 : σ.1 (2622 + 49 * k) = 1
      · have f1 : wf1 σ.1 k = true := decide_eq_true g3
        simp (disch := omega) only [bk_67_0, bk_66_0, bk_11_0, bk_127_45, bk_127_65, k21, e0, g1, g3, f1, f2, z_39, z_390, hM, y_ckd, y_ck2d, y_ond, y_onn, y_oI, y_oIx, y_oJ, y_oV, y_oVx, y_oR, y_oRn, y_oRx, y_b0, y_b1, y_bi, y_bid, y_wIK, y_wIL, y_wII, y_wIJ, y_wIR, y_wIN, y_wIw, y_sI, ↓reduceIte, Nat.reduceEqDiff, eq_self, true_or, or_true, false_or, or_false, and_true, true_and, false_and, and_false, not_true, not_false_eq_true, tf_T, tf_F, y_up1, y_up2, y_xx, y_nx, y_sJ, y_sR, Int32.reduceLT, y_nxK, y_nxL, y_nxR, y_sJK, y_sJL, y_sJR, y_sJN, y_sRK, y_sRL, y_sRN, Nat.add_zero, z_nat, z_lit, z_lit0, z_lit1, z_in0, z_in1, z_addl0, z_lt, z_ltl, z_llt, z_inj, z_injl, z_add, z_addl, z_ladd, z_mul, z_mull, z_lmul, z_neg, z_negl, z_in, z_inl, z_ltT, z_ltF, z_eqF, z_10, z_01, z_litne, z_ne0, z_0ne, z_ne1, z_1ne, z_lt64, z_02, z_03, z_04, z_05, z_12, z_13, z_14, z_15, z_20, z_21, z_23, z_24, z_25, z_30, z_31, z_32, z_34, z_35, z_40, z_41, z_42, z_43, z_45, z_50, z_51, z_52, z_53, z_54]
        rfl
      · have f1 : ¬ wf1 σ.1 k = true := fun q => g3 (of_decide_eq_true q)
        simp (disch := omega) only [bk_67_0, bk_66_0, bk_11_0, bk_127_45, bk_127_65, k21, e0, g1, g3, f1, f2, z_39, z_390, hM, y_ckd, y_ck2d, y_ond, y_onn, y_oI, y_oIx, y_oJ, y_oV, y_oVx, y_oR, y_oRn, y_oRx, y_b0, y_b1, y_bi, y_bid, y_wIK, y_wIL, y_wII, y_wIJ, y_wIR, y_wIN, y_wIw, y_sI, ↓reduceIte, Nat.reduceEqDiff, eq_self, true_or, or_true, false_or, or_false, and_true, true_and, false_and, and_false, not_true, not_false_eq_true, tf_T, tf_F, y_up1, y_up2, y_xx, y_nx, y_sJ, y_sR, Int32.reduceLT, y_nxK, y_nxL, y_nxR, y_sJK, y_sJL, y_sJR, y_sJN, y_sRK, y_sRL, y_sRN, Nat.add_zero, z_nat, z_lit, z_lit0, z_lit1, z_in0, z_in1, z_addl0, z_lt, z_ltl, z_llt, z_inj, z_injl, z_add, z_addl, z_ladd, z_mul, z_mull, z_lmul, z_neg, z_negl, z_in, z_inl, z_ltT, z_ltF, z_eqF, z_10, z_01, z_litne, z_ne0, z_0ne, z_ne1, z_1ne, z_lt64, z_02, z_03, z_04, z_05, z_12, z_13, z_14, z_15, z_20, z_21, z_23, z_24, z_25, z_30, z_31, z_32, z_34, z_35, z_40, z_41, z_42, z_43, z_45, z_50, z_51, z_52, z_53, z_54]
        rfl
    · have g3 : ¬ σ.1 (2622 + 49 * k) = 1 := fun q => g1 (by rw [q]; decide)
      have f1 : ¬ wf1 σ.1 k = true := fun q => g3 (of_decide_eq_true q)
      by_cases g2 : 4 < σ.1 (2622 + 49 * k)
      · have f2 : ¬ wf2 σ.1 k = true := fun q => (of_decide_eq_true q).2 g2
        simp (disch := omega) only [bk_67_0, bk_66_0, bk_11_0, bk_127_45, bk_127_65, k21, e0, g1, g2, g3, f1, f2, z_39, z_390, hM, y_ckd, y_ck2d, y_ond, y_onn, y_oI, y_oIx, y_oJ, y_oV, y_oVx, y_oR, y_oRn, y_oRx, y_b0, y_b1, y_bi, y_bid, y_wIK, y_wIL, y_wII, y_wIJ, y_wIR, y_wIN, y_wIw, y_sI, ↓reduceIte, Nat.reduceEqDiff, eq_self, true_or, or_true, false_or, or_false, and_true, true_and, false_and, and_false, not_true, not_false_eq_true, tf_T, tf_F, y_up1, y_up2, y_xx, y_nx, y_sJ, y_sR, Int32.reduceLT, y_nxK, y_nxL, y_nxR, y_sJK, y_sJL, y_sJR, y_sJN, y_sRK, y_sRL, y_sRN, Nat.add_zero, z_nat, z_lit, z_lit0, z_lit1, z_in0, z_in1, z_addl0, z_lt, z_ltl, z_llt, z_inj, z_injl, z_add, z_addl, z_ladd, z_mul, z_mull, z_lmul, z_neg, z_negl, z_in, z_inl, z_ltT, z_ltF, z_eqF, z_10, z_01, z_litne, z_ne0, z_0ne, z_ne1, z_1ne, z_lt64, z_02, z_03, z_04, z_05, z_12, z_13, z_14, z_15, z_20, z_21, z_23, z_24, z_25, z_30, z_31, z_32, z_34, z_35, z_40, z_41, z_42, z_43, z_45, z_50, z_51, z_52, z_53, z_54]
        rfl
      · have f2 : wf2 σ.1 k = true := decide_eq_true ⟨g1, g2⟩
        simp (disch := omega) only [bk_67_0, bk_66_0, bk_11_0, bk_127_45, bk_127_65, k21, e0, g1, g2, g3, f1, f2, z_39, z_390, hM, y_ckd, y_ck2d, y_ond, y_onn, y_oI, y_oIx, y_oJ, y_oV, y_oVx, y_oR, y_oRn, y_oRx, y_b0, y_b1, y_bi, y_bid, y_wIK, y_wIL, y_wII, y_wIJ, y_wIR, y_wIN, y_wIw, y_sI, ↓reduceIte, Nat.reduceEqDiff, eq_self, true_or, or_true, false_or, or_false, and_true, true_and, false_and, and_false, not_true, not_false_eq_true, tf_T, tf_F, y_up1, y_up2, y_xx, y_nx, y_sJ, y_sR, Int32.reduceLT, y_nxK, y_nxL, y_nxR, y_sJK, y_sJL, y_sJR, y_sJN, y_sRK, y_sRL, y_sRN, Nat.add_zero, z_nat, z_lit, z_lit0, z_lit1, z_in0, z_in1, z_addl0, z_lt, z_ltl, z_llt, z_inj, z_injl, z_add, z_addl, z_ladd, z_mul, z_mull, z_lmul, z_neg, z_negl, z_in, z_inl, z_ltT, z_ltF, z_eqF, z_10, z_01, z_litne, z_ne0, z_0ne, z_ne1, z_1ne, z_lt64, z_02, z_03, z_04, z_05, z_12, z_13, z_14, z_15, z_20, z_21, z_23, z_24, z_25, z_30, z_31, z_32, z_34, z_35, z_40, z_41, z_42, z_43, z_45, z_50, z_51, z_52, z_53, z_54]
        rfl) () trivial
  obtain ⟨-, E1, -⟩ := E1
  obtain ⟨⟨a, j⟩, E2, ea, fj⟩ := lp_inv (fun k (s : Nat × (Nat → Nat → Int32)) => am_fx am_P (d + 150) 127 78 [some (.ref 874), some (.int (Int32.ofNat (wc2 σ.1))), some (.int (Int32.ofNat (wc1 σ.1))), some (.int (Int32.ofNat s.1)), some (.int (Int32.ofNat (k + 1)))] [] (am_wI B s.2)) (fun k s => s.1 = itr (bsS σ.1) (k + 1) 0 ∧ ∀ q l, q ≠ 889 → q ≠ 890 → s.2 q l = i0 q l) 255 (fun k s hk hI => by
    obtain ⟨a, j⟩ := s
    obtain ⟨ea, fj⟩ := hI
    dsimp only at ea fj
    have a256 : a < 256 := by rw [ea]; exact itr_bs_lt _ (by omega)
    have hst : itr (bsS σ.1) (k + 1 + 1) 0 = bsS σ.1 (k + 1) a := by rw [ea]; rfl
    have hwj : ∀ z, z < 12042 → j 875 z = σ.1 z := fun z hz => (fj _ _ (by omega) (by omega)).trans (hw z hz)
    have p1 : pcn (k + 1) < 2147483648 := by
      have : ∀ n, itr (fun m a => if bt2 (k + 1) m then a + 1 else a) n 0 ≤ n := by
        intro n
        induction n with
        | zero => exact Nat.le_refl _
        | succ n ih =>
          show (if bt2 (k + 1) n then _ else _) ≤ _
          split <;> omega
      have := this 8
      show itr _ 8 0 < _
      omega
    have p2 : pcn a < 2147483648 := by
      have : ∀ n, itr (fun m b => if bt2 a m then b + 1 else b) n 0 ≤ n := by
        intro n
        induction n with
        | zero => exact Nat.le_refl _
        | succ n ih =>
          show (if bt2 a n then _ else _) ≤ _
          split <;> omega
      have := this 8
      show itr _ 8 0 < _
      omega
    have hno : ¬ (sbs (k + 1) (wc1 σ.1) ∧ pcn a < pcn (k + 1) ∧ flo σ.1 (k + 1)) → bsS σ.1 (k + 1) a = a := fun q => if_neg q
    by_cases g1 : sbs (k + 1) (wc1 σ.1)
    · have g1' : Int32.ofNat (k + 1) &&& (Int32.ofNat (wc1 σ.1) ^^^ (-1)) = 0 := g1
      by_cases g2 : pcn a < pcn (k + 1)
      · obtain ⟨j2, hj2, f2⟩ := m_float (B := B) (d := d + 23) (i := j) (X := k + 1) hM hW hwj (by omega)
        have fj2 : ∀ q l, q ≠ 889 → q ≠ 890 → j2 q l = i0 q l := fun q l a1 a2 => (f2 q l a1 a2).trans (fj q l a1 a2)
        rcases hj2 with ⟨E, g3⟩ | ⟨E, g3⟩
        · refine ⟨(k + 1, j2), ?_, ?_, fj2⟩
          · dsimp only
            rw [bk_127_78]
            simp (disch := omega) only [c_bits, g1', g2, E, hM, y_ckd, y_ck2d, y_ond, y_onn, y_oI, y_oIx, y_oJ, y_oV, y_oVx, y_oR, y_oRn, y_oRx, y_b0, y_b1, y_bi, y_bid, y_wIK, y_wIL, y_wII, y_wIJ, y_wIR, y_wIN, y_wIw, y_sI, ↓reduceIte, Nat.reduceEqDiff, eq_self, true_or, or_true, false_or, or_false, and_true, true_and, false_and, and_false, not_true, not_false_eq_true, tf_T, tf_F, y_up1, y_up2, y_xx, y_nx, y_sJ, y_sR, Int32.reduceLT, y_nxK, y_nxL, y_nxR, y_sJK, y_sJL, y_sJR, y_sJN, y_sRK, y_sRL, y_sRN, Nat.add_zero, z_nat, z_lit, z_lit0, z_lit1, z_in0, z_in1, z_addl0, z_lt, z_ltl, z_llt, z_inj, z_injl, z_add, z_addl, z_ladd, z_mul, z_mull, z_lmul, z_neg, z_negl, z_in, z_inl, z_ltT, z_ltF, z_eqF, z_10, z_01, z_litne, z_ne0, z_0ne, z_ne1, z_1ne, z_lt64, z_02, z_03, z_04, z_05, z_12, z_13, z_14, z_15, z_20, z_21, z_23, z_24, z_25, z_30, z_31, z_32, z_34, z_35, z_40, z_41, z_42, z_43, z_45, z_50, z_51, z_52, z_53, z_54]
          · rw [hst]
            exact (if_pos ⟨g1, g2, g3⟩).symm
        · refine ⟨(a, j2), ?_, by rw [hst, hno fun q => g3 q.2.2], fj2⟩
          dsimp only
          rw [bk_127_78]
          simp (disch := omega) only [c_bits, g1', g2, E, hM, y_ckd, y_ck2d, y_ond, y_onn, y_oI, y_oIx, y_oJ, y_oV, y_oVx, y_oR, y_oRn, y_oRx, y_b0, y_b1, y_bi, y_bid, y_wIK, y_wIL, y_wII, y_wIJ, y_wIR, y_wIN, y_wIw, y_sI, ↓reduceIte, Nat.reduceEqDiff, eq_self, true_or, or_true, false_or, or_false, and_true, true_and, false_and, and_false, not_true, not_false_eq_true, tf_T, tf_F, y_up1, y_up2, y_xx, y_nx, y_sJ, y_sR, Int32.reduceLT, y_nxK, y_nxL, y_nxR, y_sJK, y_sJL, y_sJR, y_sJN, y_sRK, y_sRL, y_sRN, Nat.add_zero, z_nat, z_lit, z_lit0, z_lit1, z_in0, z_in1, z_addl0, z_lt, z_ltl, z_llt, z_inj, z_injl, z_add, z_addl, z_ladd, z_mul, z_mull, z_lmul, z_neg, z_negl, z_in, z_inl, z_ltT, z_ltF, z_eqF, z_10, z_01, z_litne, z_ne0, z_0ne, z_ne1, z_1ne, z_lt64, z_02, z_03, z_04, z_05, z_12, z_13, z_14, z_15, z_20, z_21, z_23, z_24, z_25, z_30, z_31, z_32, z_34, z_35, z_40, z_41, z_42, z_43, z_45, z_50, z_51, z_52, z_53, z_54]
      · refine ⟨(a, j), ?_, by rw [hst, hno fun q => g2 q.2.1], fj⟩
        dsimp only
        rw [bk_127_78]
        simp (disch := omega) only [c_bits, g1', g2, hM, y_ckd, y_ck2d, y_ond, y_onn, y_oI, y_oIx, y_oJ, y_oV, y_oVx, y_oR, y_oRn, y_oRx, y_b0, y_b1, y_bi, y_bid, y_wIK, y_wIL, y_wII, y_wIJ, y_wIR, y_wIN, y_wIw, y_sI, ↓reduceIte, Nat.reduceEqDiff, eq_self, true_or, or_true, false_or, or_false, and_true, true_and, false_and, and_false, not_true, not_false_eq_true, tf_T, tf_F, y_up1, y_up2, y_xx, y_nx, y_sJ, y_sR, Int32.reduceLT, y_nxK, y_nxL, y_nxR, y_sJK, y_sJL, y_sJR, y_sJN, y_sRK, y_sRL, y_sRN, Nat.add_zero, z_nat, z_lit, z_lit0, z_lit1, z_in0, z_in1, z_addl0, z_lt, z_ltl, z_llt, z_inj, z_injl, z_add, z_addl, z_ladd, z_mul, z_mull, z_lmul, z_neg, z_negl, z_in, z_inl, z_ltT, z_ltF, z_eqF, z_10, z_01, z_litne, z_ne0, z_0ne, z_ne1, z_1ne, z_lt64, z_02, z_03, z_04, z_05, z_12, z_13, z_14, z_15, z_20, z_21, z_23, z_24, z_25, z_30, z_31, z_32, z_34, z_35, z_40, z_41, z_42, z_43, z_45, z_50, z_51, z_52, z_53, z_54]
    · have g1' : ¬ Int32.ofNat (k + 1) &&& (Int32.ofNat (wc1 σ.1) ^^^ (-1)) = 0 := g1
      refine ⟨(a, j), ?_, by rw [hst, hno fun q => g1 q.1], fj⟩
      dsimp only
      rw [bk_127_78]
      simp (disch := omega) only [g1', hM, y_ckd, y_ck2d, y_ond, y_onn, y_oI, y_oIx, y_oJ, y_oV, y_oVx, y_oR, y_oRn, y_oRx, y_b0, y_b1, y_bi, y_bid, y_wIK, y_wIL, y_wII, y_wIJ, y_wIR, y_wIN, y_wIw, y_sI, ↓reduceIte, Nat.reduceEqDiff, eq_self, true_or, or_true, false_or, or_false, and_true, true_and, false_and, and_false, not_true, not_false_eq_true, tf_T, tf_F, y_up1, y_up2, y_xx, y_nx, y_sJ, y_sR, Int32.reduceLT, y_nxK, y_nxL, y_nxR, y_sJK, y_sJL, y_sJR, y_sJN, y_sRK, y_sRL, y_sRN, Nat.add_zero, z_nat, z_lit, z_lit0, z_lit1, z_in0, z_in1, z_addl0, z_lt, z_ltl, z_llt, z_inj, z_injl, z_add, z_addl, z_ladd, z_mul, z_mull, z_lmul, z_neg, z_negl, z_in, z_inl, z_ltT, z_ltF, z_eqF, z_10, z_01, z_litne, z_ne0, z_0ne, z_ne1, z_1ne, z_lt64, z_02, z_03, z_04, z_05, z_12, z_13, z_14, z_15, z_20, z_21, z_23, z_24, z_25, z_30, z_31, z_32, z_34, z_35, z_40, z_41, z_42, z_43, z_45, z_50, z_51, z_52, z_53, z_54]) (0, i0) ⟨bsS_0.symm, fun _ _ _ _ => rfl⟩
  dsimp only at E2 ea fj
  refine MRs_s (i' := j) h ?_ ?_ (fun q k hq hk => (fj q k (by omega) (by omega)).trans (by rw [← ei]; exact y_up2 (by omega)))
  · rw [bk_127_0]
    simp (disch := omega) only [hM, y_ckd, y_ck2d, y_ond, y_onn, y_oI, y_oIx, y_oJ, y_oV, y_oVx, y_oR, y_oRn, y_oRx, y_b0, y_b1, y_bi, y_bid, y_wIK, y_wIL, y_wII, y_wIJ, y_wIR, y_wIN, y_wIw, y_sI, ↓reduceIte, Nat.reduceEqDiff, eq_self, true_or, or_true, false_or, or_false, and_true, true_and, false_and, and_false, not_true, not_false_eq_true, tf_T, tf_F, y_up1, y_up2, y_xx, y_nx, y_sJ, y_sR, Int32.reduceLT, y_nxK, y_nxL, y_nxR, y_sJK, y_sJL, y_sJR, y_sJN, y_sRK, y_sRL, y_sRN, Nat.add_zero, z_nat, z_lit, z_lit0, z_lit1, z_in0, z_in1, z_addl0, z_lt, z_ltl, z_llt, z_inj, z_injl, z_add, z_addl, z_ladd, z_mul, z_mull, z_lmul, z_neg, z_negl, z_in, z_inl, z_ltT, z_ltF, z_eqF, z_10, z_01, z_litne, z_ne0, z_0ne, z_ne1, z_1ne, z_lt64, z_02, z_03, z_04, z_05, z_12, z_13, z_14, z_15, z_20, z_21, z_23, z_24, z_25, z_30, z_31, z_32, z_34, z_35, z_40, z_41, z_42, z_43, z_45, z_50, z_51, z_52, z_53, z_54]
    rw [ei]
    refine E1.trans ?_
    rw [bk_127_11]
    simp (disch := omega) only [k21, hM, y_ckd, y_ck2d, y_ond, y_onn, y_oI, y_oIx, y_oJ, y_oV, y_oVx, y_oR, y_oRn, y_oRx, y_b0, y_b1, y_bi, y_bid, y_wIK, y_wIL, y_wII, y_wIJ, y_wIR, y_wIN, y_wIw, y_sI, ↓reduceIte, Nat.reduceEqDiff, eq_self, true_or, or_true, false_or, or_false, and_true, true_and, false_and, and_false, not_true, not_false_eq_true, tf_T, tf_F, y_up1, y_up2, y_xx, y_nx, y_sJ, y_sR, Int32.reduceLT, y_nxK, y_nxL, y_nxR, y_sJK, y_sJL, y_sJR, y_sJN, y_sRK, y_sRL, y_sRN, Nat.add_zero, z_nat, z_lit, z_lit0, z_lit1, z_in0, z_in1, z_addl0, z_lt, z_ltl, z_llt, z_inj, z_injl, z_add, z_addl, z_ladd, z_mul, z_mull, z_lmul, z_neg, z_negl, z_in, z_inl, z_ltT, z_ltF, z_eqF, z_10, z_01, z_litne, z_ne0, z_0ne, z_ne1, z_1ne, z_lt64, z_02, z_03, z_04, z_05, z_12, z_13, z_14, z_15, z_20, z_21, z_23, z_24, z_25, z_30, z_31, z_32, z_34, z_35, z_40, z_41, z_42, z_43, z_45, z_50, z_51, z_52, z_53, z_54]
    refine E2.trans ?_
    rw [bk_127_78]
    simp (disch := omega) only [hM, y_ckd, y_ck2d, y_ond, y_onn, y_oI, y_oIx, y_oJ, y_oV, y_oVx, y_oR, y_oRn, y_oRx, y_b0, y_b1, y_bi, y_bid, y_wIK, y_wIL, y_wII, y_wIJ, y_wIR, y_wIN, y_wIw, y_sI, ↓reduceIte, Nat.reduceEqDiff, eq_self, true_or, or_true, false_or, or_false, and_true, true_and, false_and, and_false, not_true, not_false_eq_true, tf_T, tf_F, y_up1, y_up2, y_xx, y_nx, y_sJ, y_sR, Int32.reduceLT, y_nxK, y_nxL, y_nxR, y_sJK, y_sJL, y_sJR, y_sJN, y_sRK, y_sRL, y_sRN, Nat.add_zero, z_nat, z_lit, z_lit0, z_lit1, z_in0, z_in1, z_addl0, z_lt, z_ltl, z_llt, z_inj, z_injl, z_add, z_addl, z_ladd, z_mul, z_mull, z_lmul, z_neg, z_negl, z_in, z_inl, z_ltT, z_ltF, z_eqF, z_10, z_01, z_litne, z_ne0, z_0ne, z_ne1, z_1ne, z_lt64, z_02, z_03, z_04, z_05, z_12, z_13, z_14, z_15, z_20, z_21, z_23, z_24, z_25, z_30, z_31, z_32, z_34, z_35, z_40, z_41, z_42, z_43, z_45, z_50, z_51, z_52, z_53, z_54]
    rw [show wbs σ.1 = a from ea.symm]
  · rw [fj _ _ (by omega) (by omega), ← ei, y_up1 rfl rfl]
end WarM
