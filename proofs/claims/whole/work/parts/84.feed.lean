/-! FEED: made by wip/whole/math/84.py. -/
section Feed
variable {B B1 : am_A} {i i1 : Nat → Nat → Int32} {σ σ' : Sg} {w : Nat → Int32} {L j d b : Nat} {x y z u v : Int32}
/-- a byte of a number, with its sign and without -/
abbrev byt (x : Int32) (s : Nat) : Int32 := (x >>> (Int32.ofNat s &&& 31)).toInt8.toInt32.toInt8.toInt32
abbrev bcl (x : Int32) (s : Nat) : Int32 := (x.toUInt32 >>> ((Int32.ofNat s).toUInt32 &&& Int32.toUInt32 31)).toInt32 &&& 255
theorem by_rng {s : Nat} : ¬ byt x s < -128 ∧ byt x s < 128 := by
  unfold byt
  generalize (x >>> (Int32.ofNat s &&& 31)).toInt8.toInt32.toInt8 = q
  rw [Int32.lt_iff_toInt_lt, Int32.lt_iff_toInt_lt, Int8.toInt_toInt32]
  have h1 := Int8.le_toInt q
  have h2 := Int8.toInt_lt q
  have e1 : (-128 : Int32).toInt = -128 := by decide
  have e2 : (128 : Int32).toInt = 128 := by decide
  omega
theorem by_eq {m : Nat} (h : m < 4) : bcl x (24 - 8 * m) = byt x (24 - 8 * m) &&& 255 := by
  have h : m = 0 ∨ m = 1 ∨ m = 2 ∨ m = 3 := by omega
  apply Int32.toBitVec_inj.mp
  apply BitVec.eq_of_getLsbD_eq
  intro n hn
  by_cases g : n < 8
  · have g : n = 0 ∨ n = 1 ∨ n = 2 ∨ n = 3 ∨ n = 4 ∨ n = 5 ∨ n = 6 ∨ n = 7 := by omega
    rcases h with rfl | rfl | rfl | rfl <;> rcases g with rfl | rfl | rfl | rfl | rfl | rfl | rfl | rfl <;> simp [BitVec.getLsbD_sshiftRight, BitVec.getElem_sshiftRight, BitVec.getElem_signExtend, BitVec.getLsbD_signExtend]
  · have e : (255 : Int32).toBitVec.getLsbD n = false := by
      have g2 : n = 8 ∨ n = 9 ∨ n = 10 ∨ n = 11 ∨ n = 12 ∨ n = 13 ∨ n = 14 ∨ n = 15 ∨ n = 16 ∨ n = 17 ∨ n = 18 ∨ n = 19 ∨ n = 20 ∨ n = 21 ∨ n = 22 ∨ n = 23 ∨ n = 24 ∨ n = 25 ∨ n = 26 ∨ n = 27 ∨ n = 28 ∨ n = 29 ∨ n = 30 ∨ n = 31 := by omega
      rcases g2 with rfl | rfl | rfl | rfl | rfl | rfl | rfl | rfl | rfl | rfl | rfl | rfl | rfl | rfl | rfl | rfl | rfl | rfl | rfl | rfl | rfl | rfl | rfl | rfl <;> decide
    rw [Int32.toBitVec_and, Int32.toBitVec_and, BitVec.getLsbD_and, BitVec.getLsbD_and, e, Bool.and_false, Bool.and_false]
def vec (x y z u v : Int32) (n : Nat) : Int32 := if n = 0 then x else if n = 1 then y else if n = 2 then z else if n = 3 then u else v
def ftp (t : Nat → Int32) (n : Nat) (a : Nat → Int32) (k : Nat) : Int32 := if k < n then t k else byt (a ((k - n) / 4)) (24 - 8 * ((k - n) % 4))
theorem c_four1 {n s : Nat} (hF : Fc B) (h : i 65 1 = Int32.ofNat n) (hn : n < 400) (hs : s < 32) : am_fx am_P d 197 3 [some (.ref 65), some (.int x), some (.int (Int32.ofNat s))] [] (am_wI B i) = am_fx am_P d 197 3 [some (.ref 65), some (.int x), some (.int (Int32.ofNat s + -8))] [] (am_wI B (am_up2 (am_up2 i 66 n (bcl x s)) 65 1 (Int32.ofNat (n + 1)))) := by
  rw [bk_197_3]
  simp (maxSteps := 1000000) (disch := omega) only [h, (fun d x0 x1 x2 B i => bk_197_43 d x0 x1 x2 (am_wI B i)), hF, y_ckd, y_ck2d, y_ond, y_onn, y_oI, y_oIx, y_oJ, y_oV, y_oVx, y_oR, y_oRn, y_oRx, y_b0, y_b1, y_bi, y_bid, y_wIK, y_wIL, y_wII, y_wIJ, y_wIR, y_wIN, y_wIw, y_sI, ↓reduceIte, Nat.reduceEqDiff, eq_self, true_or, or_true, false_or, or_false, and_true, true_and, false_and, and_false, not_true, not_false_eq_true, tf_T, tf_F, y_up1, y_up2, y_xx, y_nx, y_sJ, y_sR, Int32.reduceLT, y_nxK, y_nxL, y_nxR, y_sJK, y_sJL, y_sJR, y_sJN, y_sRK, y_sRL, y_sRN, Nat.add_zero, z_nat, z_lit, z_lit0, z_lit1, z_in0, z_in1, z_addl0, z_lt, z_ltl, z_llt, z_inj, z_injl, z_add, z_addl, z_ladd, z_mul, z_mull, z_lmul, z_neg, z_negl, z_in, z_inl, z_ltT, z_ltF, z_eqF, z_10, z_01, z_litne, z_ne0, z_0ne, z_ne1, z_1ne, z_lt64, z_02, z_03, z_04, z_05, z_12, z_13, z_14, z_15, z_20, z_21, z_23, z_24, z_25, z_30, z_31, z_32, z_34, z_35, z_40, z_41, z_42, z_43, z_45, z_50, z_51, z_52, z_53, z_54]
theorem c_four {n : Nat} (hF : Fc B) (h : i 65 1 = Int32.ofNat n) (hn : n + 4 ≤ 400) : ∃ i', am_fx am_P d 197 0 [some (.ref 65), some (.int x), none] [] (am_wI B i) = some (.inl none, am_wI B i') ∧ i' 65 1 = Int32.ofNat (n + 4) ∧ (∀ m, m < 4 → i' 66 (n + m) = bcl x (24 - 8 * m)) ∧ ∀ q k, (q = 65 → k ≠ 1) → (q = 66 → k < n ∨ n + 4 ≤ k) → i' q k = i q k := by
  refine ⟨am_up2 (am_up2 (am_up2 (am_up2 (am_up2 (am_up2 (am_up2 (am_up2 i 66 n (bcl x 24)) 65 1 (Int32.ofNat (n + 1))) 66 (n + 1) (bcl x 16)) 65 1 (Int32.ofNat (n + 2))) 66 (n + 2) (bcl x 8)) 65 1 (Int32.ofNat (n + 3))) 66 (n + 3) (bcl x 0)) 65 1 (Int32.ofNat (n + 4)), ?_, y_up1 rfl rfl, fun m hm => ?_, fun q k h1 h2 => by simp (disch := omega) only [y_up2]⟩
  · rw [bk_197_0]
    refine (c_four1 (s := 24) hF h (by omega) (by omega)).trans ?_
    rw [show Int32.ofNat 24 + -8 = Int32.ofNat 16 by decide]
    refine (c_four1 (n := n + 1) (s := 16) hF (y_up1 rfl rfl) (by omega) (by omega)).trans ?_
    rw [show Int32.ofNat 16 + -8 = Int32.ofNat 8 by decide]
    refine (c_four1 (n := n + 2) (s := 8) hF (y_up1 rfl rfl) (by omega) (by omega)).trans ?_
    rw [show Int32.ofNat 8 + -8 = Int32.ofNat 0 by decide]
    refine (c_four1 (n := n + 3) (s := 0) hF (y_up1 rfl rfl) (by omega) (by omega)).trans ?_
    rw [show Int32.ofNat 0 + -8 = -8 by decide, bk_197_3, if_pos (by decide)]
  · have hm : m = 0 ∨ m = 1 ∨ m = 2 ∨ m = 3 := by omega
    rcases hm with rfl | rfl | rfl | rfl <;> simp (disch := omega) only [Nat.add_zero, y_up1, y_up2]
theorem f_feed0 (h : CR B i σ) (hl : σ.2.2.2.2.2.1 ≤ 400) (g : 380 < σ.2.2.2.2.2.1) : FRs B i σ (am_fx am_P (d + 150) 291 0 [some (.ref 64), some (.int x), some (.int y), some (.int z), some (.int u), some (.int v)] [] (am_wI B i)) (.inl (some (.int (-1)))) := by
  refine FRs_0 h ?_
  have hF : Fc B := h.1.1
  have e1 := h.2.2.2.2.2.2.1
  rw [bk_291_0]
  simp (maxSteps := 1000000) (disch := omega) only [(fun d x0 x1 x2 x3 x4 x5 B i => bk_196_0 d x0 x1 x2 x3 x4 x5 (am_wI B i)), (fun d x0 x5 B i => bk_196_36 d x0 x5 (am_wI B i)), e1, hF, y_ckd, y_ck2d, y_ond, y_onn, y_oI, y_oIx, y_oJ, y_oV, y_oVx, y_oR, y_oRn, y_oRx, y_b0, y_b1, y_bi, y_bid, y_wIK, y_wIL, y_wII, y_wIJ, y_wIR, y_wIN, y_wIw, y_sI, ↓reduceIte, Nat.reduceEqDiff, eq_self, true_or, or_true, false_or, or_false, and_true, true_and, false_and, and_false, not_true, not_false_eq_true, tf_T, tf_F, y_up1, y_up2, y_xx, y_nx, y_sJ, y_sR, Int32.reduceLT, y_nxK, y_nxL, y_nxR, y_sJK, y_sJL, y_sJR, y_sJN, y_sRK, y_sRL, y_sRN, Nat.add_zero, z_nat, z_lit, z_lit0, z_lit1, z_in0, z_in1, z_addl0, z_lt, z_ltl, z_llt, z_inj, z_injl, z_add, z_addl, z_ladd, z_mul, z_mull, z_lmul, z_neg, z_negl, z_in, z_inl, z_ltT, z_ltF, z_eqF, z_10, z_01, z_litne, z_ne0, z_0ne, z_ne1, z_1ne, z_lt64, z_02, z_03, z_04, z_05, z_12, z_13, z_14, z_15, z_20, z_21, z_23, z_24, z_25, z_30, z_31, z_32, z_34, z_35, z_40, z_41, z_42, z_43, z_45, z_50, z_51, z_52, z_53, z_54]
theorem m_feed0 (h : MR B i σ) (hl : σ.2.2.2.2.2.1 ≤ 400) (g : 380 < σ.2.2.2.2.2.1) : MRs B i σ (am_fx am_P (d + 150) 36 0 [some (.ref 874), some (.int x), some (.int y), some (.int z), some (.int u), some (.int v), none] [] (am_wI B i)) (some (.int (-1))) 0 := by
  refine MRs_0 h ?_
  have hM : Md B := h.1.1
  have e1 := h.2.2.2.2.2.2.1
  rw [bk_36_0]
  simp (maxSteps := 1000000) (disch := omega) only [e1, hM, y_ckd, y_ck2d, y_ond, y_onn, y_oI, y_oIx, y_oJ, y_oV, y_oVx, y_oR, y_oRn, y_oRx, y_b0, y_b1, y_bi, y_bid, y_wIK, y_wIL, y_wII, y_wIJ, y_wIR, y_wIN, y_wIw, y_sI, ↓reduceIte, Nat.reduceEqDiff, eq_self, true_or, or_true, false_or, or_false, and_true, true_and, false_and, and_false, not_true, not_false_eq_true, tf_T, tf_F, y_up1, y_up2, y_xx, y_nx, y_sJ, y_sR, Int32.reduceLT, y_nxK, y_nxL, y_nxR, y_sJK, y_sJL, y_sJR, y_sJN, y_sRK, y_sRL, y_sRN, Nat.add_zero, z_nat, z_lit, z_lit0, z_lit1, z_in0, z_in1, z_addl0, z_lt, z_ltl, z_llt, z_inj, z_injl, z_add, z_addl, z_ladd, z_mul, z_mull, z_lmul, z_neg, z_negl, z_in, z_inl, z_ltT, z_ltF, z_eqF, z_10, z_01, z_litne, z_ne0, z_0ne, z_ne1, z_1ne, z_lt64, z_02, z_03, z_04, z_05, z_12, z_13, z_14, z_15, z_20, z_21, z_23, z_24, z_25, z_30, z_31, z_32, z_34, z_35, z_40, z_41, z_42, z_43, z_45, z_50, z_51, z_52, z_53, z_54]
theorem f_feed (h : CR B i σ) (g : σ.2.2.2.2.2.1 ≤ 380) : FRs B i (σ.1, σ.2.1, σ.2.2.1, σ.2.2.2.1, σ.2.2.2.2.1, (σ.2.2.2.2.2.1 + 20, ftp σ.2.2.2.2.2.2.1 σ.2.2.2.2.2.1 (vec x y z u v), σ.2.2.2.2.2.2.2)) (am_fx am_P (d + 150) 291 0 [some (.ref 64), some (.int x), some (.int y), some (.int z), some (.int u), some (.int v)] [] (am_wI B i)) (.inl (some (.int (Int32.ofNat (σ.2.2.2.2.2.1 + 20))))) := by
  have hF : Fc B := h.1.1
  obtain ⟨e1, e2, e3⟩ := h.2.2.2.2.2.2
  generalize hn : σ.2.2.2.2.2.1 = n at *
  obtain ⟨i1, E1, l1, b1, f1⟩ := c_four (x := x) (d := d + 148) hF e1 (by omega)
  obtain ⟨i2, E2, l2, b2, f2⟩ := c_four (x := y) (d := d + 148) hF l1 (by omega)
  obtain ⟨i3, E3, l3, b3, f3⟩ := c_four (x := z) (d := d + 148) hF l2 (by omega)
  obtain ⟨i4, E4, l4, b4, f4⟩ := c_four (x := u) (d := d + 148) hF l3 (by omega)
  obtain ⟨i5, E5, l5, b5, f5⟩ := c_four (x := v) (d := d + 148) hF l4 (by omega)
  refine FRs_t (i' := i5) h ?_ ⟨l5, fun k hk => ?_, ?_⟩ (fun q k hq => by rw [f5 _ _ (by omega) (by omega), f4 _ _ (by omega) (by omega), f3 _ _ (by omega) (by omega), f2 _ _ (by omega) (by omega), f1 _ _ (by omega) (by omega)])
  · rw [bk_291_0]
    simp (maxSteps := 1000000) (disch := omega) only [(fun d x0 x1 x2 x3 x4 x5 B i => bk_196_0 d x0 x1 x2 x3 x4 x5 (am_wI B i)), (fun d x0 x5 B i => bk_196_36 d x0 x5 (am_wI B i)), (fun d x0 x5 B i => bk_196_36 d x0 x5 (am_wI B i)), e1, E1, E2, E3, E4, E5, l5, hF, y_ckd, y_ck2d, y_ond, y_onn, y_oI, y_oIx, y_oJ, y_oV, y_oVx, y_oR, y_oRn, y_oRx, y_b0, y_b1, y_bi, y_bid, y_wIK, y_wIL, y_wII, y_wIJ, y_wIR, y_wIN, y_wIw, y_sI, ↓reduceIte, Nat.reduceEqDiff, eq_self, true_or, or_true, false_or, or_false, and_true, true_and, false_and, and_false, not_true, not_false_eq_true, tf_T, tf_F, y_up1, y_up2, y_xx, y_nx, y_sJ, y_sR, Int32.reduceLT, y_nxK, y_nxL, y_nxR, y_sJK, y_sJL, y_sJR, y_sJN, y_sRK, y_sRL, y_sRN, Nat.add_zero, z_nat, z_lit, z_lit0, z_lit1, z_in0, z_in1, z_addl0, z_lt, z_ltl, z_llt, z_inj, z_injl, z_add, z_addl, z_ladd, z_mul, z_mull, z_lmul, z_neg, z_negl, z_in, z_inl, z_ltT, z_ltF, z_eqF, z_10, z_01, z_litne, z_ne0, z_0ne, z_ne1, z_1ne, z_lt64, z_02, z_03, z_04, z_05, z_12, z_13, z_14, z_15, z_20, z_21, z_23, z_24, z_25, z_30, z_31, z_32, z_34, z_35, z_40, z_41, z_42, z_43, z_45, z_50, z_51, z_52, z_53, z_54]
  · show i5 66 k = (if k < n then σ.2.2.2.2.2.2.1 k else byt (vec x y z u v ((k - n) / 4)) (24 - 8 * ((k - n) % 4))) &&& 255
    by_cases c : k < n
    · rw [if_pos c, f5 _ _ (by omega) (by omega), f4 _ _ (by omega) (by omega), f3 _ _ (by omega) (by omega), f2 _ _ (by omega) (by omega), f1 _ _ (by omega) (by omega)]
      exact e2 k c
    · rw [if_neg c]
      have hk : k < n + 20 := hk
      obtain ⟨m, rfl⟩ : ∃ m, k = n + m := ⟨k - n, by omega⟩
      rw [Nat.add_sub_cancel_left]
      have m4 : m % 4 < 4 := Nat.mod_lt _ (by omega)
      rw [← by_eq m4]
      have hd : m / 4 = 0 ∨ m / 4 = 1 ∨ m / 4 = 2 ∨ m / 4 = 3 ∨ m / 4 = 4 := by omega
      rcases hd with e | e | e | e | e <;> rw [e]
      · rw [f5 _ _ (by omega) (by omega), f4 _ _ (by omega) (by omega), f3 _ _ (by omega) (by omega), f2 _ _ (by omega) (by omega), show n + m = n + m % 4 by omega]
        exact b1 _ m4
      · rw [f5 _ _ (by omega) (by omega), f4 _ _ (by omega) (by omega), f3 _ _ (by omega) (by omega), show n + m = n + 4 + m % 4 by omega]
        exact b2 _ m4
      · rw [f5 _ _ (by omega) (by omega), f4 _ _ (by omega) (by omega), show n + m = n + 4 + 4 + m % 4 by omega]
        exact b3 _ m4
      · rw [f5 _ _ (by omega) (by omega), show n + m = n + 4 + 4 + 4 + m % 4 by omega]
        exact b4 _ m4
      · rw [show n + m = n + 4 + 4 + 4 + 4 + m % 4 by omega]
        exact b5 _ m4
  · rw [f5 _ _ (by omega) (by omega), f4 _ _ (by omega) (by omega), f3 _ _ (by omega) (by omega), f2 _ _ (by omega) (by omega), f1 _ _ (by omega) (by omega)]
    exact e3
theorem m_feedL {n : Nat} {a : Nat → Int32} (hM : Md B) (h7 : i 874 7 = Int32.ofNat n) (hn : n ≤ 380) (ha : ∀ m, m < 5 → i 879 m = a m) : ∃ i', am_fx am_P d 36 60 [some (.ref 874), none, none, none, none, none, some (.int (Int32.ofNat 0))] [] (am_wI B i) = am_fx am_P d 36 60 [some (.ref 874), none, none, none, none, none, some (.int (Int32.ofNat 20))] [] (am_wI B i') ∧ (∀ m, m < 20 → i' 878 (n + m) = byt (a (m / 4)) (24 - 8 * (m % 4))) ∧ ∀ q k, (q = 878 → k < n ∨ n + 20 ≤ k) → i' q k = i q k := by
  obtain ⟨j, E, hj, hf⟩ := lp_inv (fun k j => am_fx am_P d 36 60 [some (.ref 874), none, none, none, none, none, some (.int (Int32.ofNat k))] [] (am_wI B j)) (fun k j => (∀ m, m < k → j 878 (n + m) = byt (a (m / 4)) (24 - 8 * (m % 4))) ∧ ∀ q m, (q = 878 → m < n ∨ n + 20 ≤ m) → j q m = i q m) 20 (fun k j hk hI => by
    obtain ⟨hj, hf⟩ := hI
    have j7 := (hf 874 7 (by omega)).trans h7
    have ja := (hf 879 (k / 4) (by omega)).trans (ha (k / 4) (by omega))
    have q4 : Int32.ofNat k / 4 = Int32.ofNat (k / 4) := (Int32.ofNat_div (by omega) (by decide)).symm
    have s4 : Int32.ofNat k - Int32.ofNat (k / 4 * 4) = Int32.ofNat (k % 4) := by
      rw [z_sub (Nat.div_mul_le_self k 4)]
      exact congrArg Int32.ofNat (by omega)
    have s24 : 24 - Int32.ofNat (8 * (k % 4)) = Int32.ofNat (24 - 8 * (k % 4)) := by
      rw [show (24 : Int32) = Int32.ofNat 24 from rfl, z_sub (by omega)]
    refine ⟨am_up2 j 878 (n + k) (byt (a (k / 4)) (24 - 8 * (k % 4))), ?_, fun m hm => ?_, fun q m hq => by rw [y_up2 (by omega)]; exact hf q m hq⟩
    · rw [bk_36_60]
      simp (maxSteps := 1000000) (disch := omega) only [j7, ja, q4, s4, s24, y_nz (show (4 : Int32) ≠ 0 by decide), hM, y_ckd, y_ck2d, y_ond, y_onn, y_oI, y_oIx, y_oJ, y_oV, y_oVx, y_oR, y_oRn, y_oRx, y_b0, y_b1, y_bi, y_bid, y_wIK, y_wIL, y_wII, y_wIJ, y_wIR, y_wIN, y_wIw, y_sI, ↓reduceIte, Nat.reduceEqDiff, eq_self, true_or, or_true, false_or, or_false, and_true, true_and, false_and, and_false, not_true, not_false_eq_true, tf_T, tf_F, y_up1, y_up2, y_xx, y_nx, y_sJ, y_sR, Int32.reduceLT, y_nxK, y_nxL, y_nxR, y_sJK, y_sJL, y_sJR, y_sJN, y_sRK, y_sRL, y_sRN, Nat.add_zero, z_nat, z_lit, z_lit0, z_lit1, z_in0, z_in1, z_addl0, z_lt, z_ltl, z_llt, z_inj, z_injl, z_add, z_addl, z_ladd, z_mul, z_mull, z_lmul, z_neg, z_negl, z_in, z_inl, z_ltT, z_ltF, z_eqF, z_10, z_01, z_litne, z_ne0, z_0ne, z_ne1, z_1ne, z_lt64, z_02, z_03, z_04, z_05, z_12, z_13, z_14, z_15, z_20, z_21, z_23, z_24, z_25, z_30, z_31, z_32, z_34, z_35, z_40, z_41, z_42, z_43, z_45, z_50, z_51, z_52, z_53, z_54]
    · by_cases e : m = k
      · rw [e, y_up1 rfl rfl]
      · rw [y_up2 (by omega)]
        exact hj m (by omega)) i ⟨fun m hm => absurd hm (by omega), fun _ _ _ => rfl⟩
  exact ⟨j, E, hj, hf⟩
theorem m_feed (h : MR B i σ) (g : σ.2.2.2.2.2.1 ≤ 380) : MRs B i (σ.1, σ.2.1, σ.2.2.1, σ.2.2.2.1, σ.2.2.2.2.1, (σ.2.2.2.2.2.1 + 20, ftp σ.2.2.2.2.2.2.1 σ.2.2.2.2.2.1 (vec x y z u v), σ.2.2.2.2.2.2.2)) (am_fx am_P (d + 150) 36 0 [some (.ref 874), some (.int x), some (.int y), some (.int z), some (.int u), some (.int v), none] [] (am_wI B i)) (some (.int (Int32.ofNat (σ.2.2.2.2.2.1 + 20)))) 0 := by
  have hM : Md B := h.1.1
  obtain ⟨e1, e2, e3⟩ := h.2.2.2.2.2.2
  generalize hn : σ.2.2.2.2.2.1 = n at *
  obtain ⟨j, E, hj, hf⟩ := m_feedL (i := am_up2 (am_up2 (am_up2 (am_up2 (am_up2 (am_up2 i 874 0 0) 879 0 x) 879 1 y) 879 2 z) 879 3 u) 879 4 v) (n := n) (a := vec x y z u v) (d := d + 150) hM (by simp (disch := omega) only [y_up2]; exact e1) g (fun m hm => by
    have hm : m = 0 ∨ m = 1 ∨ m = 2 ∨ m = 3 ∨ m = 4 := by omega
    rcases hm with rfl | rfl | rfl | rfl | rfl <;> simp (disch := omega) only [y_up1, y_up2] <;> rfl)
  have hf0 : ∀ q k, (q = 878 → k < n ∨ n + 20 ≤ k) → q ≠ 879 → (q = 874 → k ≠ 0) → j q k = i q k := fun q k h1 h2 h3 => by
    rw [hf q k h1]
    simp (disch := omega) only [y_up2]
  have j7 := (hf0 874 7 (by omega) (by omega) (by omega)).trans e1
  have j0 : j 874 0 = 0 := by
    rw [hf _ _ (by omega)]
    simp (disch := omega) only [y_up1, y_up2]
  refine MRs_t (i' := am_up2 j 874 7 (Int32.ofNat (n + 20))) h ?_ (by rw [y_up2 (by omega)]; exact j0) ⟨y_up1 rfl rfl, fun k hk => ?_, ?_⟩ (fun q k hq => by rw [y_up2 (by omega)]; exact hf0 q k (by omega) (by omega) (by omega))
  · rw [bk_36_0]
    simp (maxSteps := 1000000) (disch := omega) only [e1, (fun d x0 x3 x4 x5 B i => bk_36_34 d x0 x3 x4 x5 (am_wI B i)), (fun d x0 x5 B i => bk_36_49 d x0 x5 (am_wI B i)), hM, y_ckd, y_ck2d, y_ond, y_onn, y_oI, y_oIx, y_oJ, y_oV, y_oVx, y_oR, y_oRn, y_oRx, y_b0, y_b1, y_bi, y_bid, y_wIK, y_wIL, y_wII, y_wIJ, y_wIR, y_wIN, y_wIw, y_sI, ↓reduceIte, Nat.reduceEqDiff, eq_self, true_or, or_true, false_or, or_false, and_true, true_and, false_and, and_false, not_true, not_false_eq_true, tf_T, tf_F, y_up1, y_up2, y_xx, y_nx, y_sJ, y_sR, Int32.reduceLT, y_nxK, y_nxL, y_nxR, y_sJK, y_sJL, y_sJR, y_sJN, y_sRK, y_sRL, y_sRN, Nat.add_zero, z_nat, z_lit, z_lit0, z_lit1, z_in0, z_in1, z_addl0, z_lt, z_ltl, z_llt, z_inj, z_injl, z_add, z_addl, z_ladd, z_mul, z_mull, z_lmul, z_neg, z_negl, z_in, z_inl, z_ltT, z_ltF, z_eqF, z_10, z_01, z_litne, z_ne0, z_0ne, z_ne1, z_1ne, z_lt64, z_02, z_03, z_04, z_05, z_12, z_13, z_14, z_15, z_20, z_21, z_23, z_24, z_25, z_30, z_31, z_32, z_34, z_35, z_40, z_41, z_42, z_43, z_45, z_50, z_51, z_52, z_53, z_54]
    refine E.trans ?_
    rw [bk_36_60]
    simp (maxSteps := 1000000) (disch := omega) only [j7, hM, y_ckd, y_ck2d, y_ond, y_onn, y_oI, y_oIx, y_oJ, y_oV, y_oVx, y_oR, y_oRn, y_oRx, y_b0, y_b1, y_bi, y_bid, y_wIK, y_wIL, y_wII, y_wIJ, y_wIR, y_wIN, y_wIw, y_sI, ↓reduceIte, Nat.reduceEqDiff, eq_self, true_or, or_true, false_or, or_false, and_true, true_and, false_and, and_false, not_true, not_false_eq_true, tf_T, tf_F, y_up1, y_up2, y_xx, y_nx, y_sJ, y_sR, Int32.reduceLT, y_nxK, y_nxL, y_nxR, y_sJK, y_sJL, y_sJR, y_sJN, y_sRK, y_sRL, y_sRN, Nat.add_zero, z_nat, z_lit, z_lit0, z_lit1, z_in0, z_in1, z_addl0, z_lt, z_ltl, z_llt, z_inj, z_injl, z_add, z_addl, z_ladd, z_mul, z_mull, z_lmul, z_neg, z_negl, z_in, z_inl, z_ltT, z_ltF, z_eqF, z_10, z_01, z_litne, z_ne0, z_0ne, z_ne1, z_1ne, z_lt64, z_02, z_03, z_04, z_05, z_12, z_13, z_14, z_15, z_20, z_21, z_23, z_24, z_25, z_30, z_31, z_32, z_34, z_35, z_40, z_41, z_42, z_43, z_45, z_50, z_51, z_52, z_53, z_54]
  · show am_up2 j 874 7 (Int32.ofNat (n + 20)) 878 k = if k < n then σ.2.2.2.2.2.2.1 k else byt (vec x y z u v ((k - n) / 4)) (24 - 8 * ((k - n) % 4))
    rw [y_up2 (by omega)]
    by_cases c : k < n
    · rw [if_pos c, hf0 _ _ (by omega) (by omega) (by omega)]
      exact e2 k c
    · rw [if_neg c]
      have hk : k < n + 20 := hk
      have := hj (k - n) (by omega)
      rw [show n + (k - n) = k by omega] at this
      exact this
  · rw [y_up2 (by omega), hf0 _ _ (by omega) (by omega) (by omega)]
    exact e3
theorem k_feed (h : Sim B i σ) (hs : Sc B i L j) (hO : am_K B 892 = 22 ∧ am_L B 892 = 1) : Stq B i d 272 j := by
  have hl := h.2.2.2.2.2.1
  by_cases g : σ.2.2.2.2.2.1 ≤ 380
  · exact kk_0 (σ' := (σ.1, σ.2.1, σ.2.2.1, σ.2.2.2.1, σ.2.2.2.2.1, (σ.2.2.2.2.2.1 + 20, ftp σ.2.2.2.2.2.2.1 σ.2.2.2.2.2.1 (vec (i 0 (j + 1)) (i 0 (j + 2)) (i 0 (j + 3)) (i 0 (j + 4)) (i 0 (j + 5))), σ.2.2.2.2.2.2.2))) h hs hO ⟨h.2.2.1, h.2.2.2.1, h.2.2.2.2.1, (show σ.2.2.2.2.2.1 + 20 ≤ 400 by omega), fun k hk => by
      show ¬ ftp _ _ _ k < -128 ∧ ftp _ _ _ k < 128
      unfold ftp
      by_cases c : k < σ.2.2.2.2.2.1
      · rw [if_pos c]
        exact h.2.2.2.2.2.2 k c
      · rw [if_neg c]
        exact by_rng⟩ (f_feed (d := d + 49) h.1 g) fun B0 i0 h0 => m_feed (d := d + 49) h0 g
  · have g : 380 < σ.2.2.2.2.2.1 := Nat.lt_of_not_le g
    exact kk_0 h hs hO h.2.2 (f_feed0 (d := d + 49) h.1 hl g) fun B0 i0 h0 => m_feed0 (d := d + 49) h0 hl g
end Feed
