/-! TEXTS ON THE TAPE, the model: a tag, a fact. Made by wip/whole/math/938.py. -/
def FRm (i j : Nat → Nat → Int32) : Prop := ∀ q k, q ≠ 875 → (q = 874 → k ≠ 8 ∧ k ≠ 10 ∧ k ≠ 11 ∧ k ≠ 14) → j q k = i q k
def MP (i : Nat → Nat → Int32) (st : PS) : Prop := i 874 8 = Int32.ofNat st.1 ∧ i 874 14 = Int32.ofNat st.2.1 ∧ ∀ z, i 875 z = st.2.2 z
def MO (B : am_A) (i : Nat → Nat → Int32) (x : am_X) : PR → Prop
  | .inl f => ∃ j, x = some (.inl (some (.int 0)), am_wI B j) ∧ j 874 10 = Int32.ofNat f ∧ FRm i j ∧ ∀ z, z < 12042 → j 875 z = i 875 z
  | .inr st => ∃ j, x = some (.inl (some (.int 1)), am_wI B j) ∧ MP j st ∧ j 874 11 = i 874 11 ∧ FRm i j
section ModA
variable {B : am_A} {i j k : Nat → Nat → Int32} {N : Nat → Nat} {d L p b e q n s f c : Nat} {u : Nat → Int32} {st : PS} {x : am_X} {r : PR} {qs : List Nat}
theorem FRm.rf : FRm i i := fun _ _ _ _ => rfl
theorem FRm.tr (h1 : FRm i j) (h2 : FRm j k) : FRm i k := fun q l a b => (h2 q l a b).trans (h1 q l a b)
theorem MT_FRm (h : MT N L i) (hf : FRm i j) : MT N L j := MT_fr h (hf _ _ (by omega) (by omega)) fun k => hf _ _ (by omega) (by omega)
theorem Stx_FRm (h : Stx B i) (hf : FRm i j) : Stx B j := fun q h1 h2 => by
  obtain ⟨a1, a2, a3⟩ := h q h1 h2
  exact ⟨a1, a2, fun k hk => (hf _ _ (by omega) (by omega)).trans (a3 k hk)⟩
theorem MO_fr (hf : FRm i j) (h2 : j 874 11 = i 874 11) (hz : ∀ z, z < 12042 → j 875 z = i 875 z) (h : MO B j x r) : MO B i x r := by
  cases r with
  | inl f =>
    obtain ⟨m, a1, a2, a3, a4⟩ := h
    exact ⟨m, a1, a2, hf.tr a3, fun z hz2 => (a4 z hz2).trans (hz z hz2)⟩
  | inr st =>
    obtain ⟨m, a1, a2, a3, a4⟩ := h
    exact ⟨m, a1, a2, a3.trans h2, hf.tr a4⟩
/-- only the place on the tape has changed -/
def Mv (i j : Nat → Nat → Int32) : Prop := ∀ q k, (q = 874 → k ≠ 8 ∧ k ≠ 10) → j q k = i q k
theorem Mv.tr (h1 : Mv i j) (h2 : Mv j k) : Mv i k := fun q l a => (h2 q l a).trans (h1 q l a)
theorem Mv.fr (h : Mv i j) : FRm i j := fun q k a b => h q k (by omega)
theorem MT_Mv (h : MT N L i) (hf : Mv i j) : MT N L j := MT_FRm h hf.fr
theorem Stx_Mv (h : Stx B i) (hf : Mv i j) : Stx B j := Stx_FRm h hf.fr
theorem MO_mv (hf : Mv i j) (h : MO B j x r) : MO B i x r := MO_fr hf.fr (hf _ _ (by omega)) (fun z _ => hf _ _ (by omega)) h
theorem MO_bad (h : x = some (.inl (some (.int 0)), am_wI B j)) (hf : Mv i j) (h10 : j 874 10 = Int32.ofNat b) : MO B i x (.inl b) := ⟨j, h, h10, hf.fr, fun z _ => hf _ _ (by omega)⟩
/-- a step is written and all is well -/
theorem MO_emit {a c : Int32} (hM : Md B) (h8 : i 874 8 = Int32.ofNat p) (e14 : i 874 14 = Int32.ofNat s) (h4 : s < 400) (hu : ∀ z, i 875 z = u z) : ∃ j, am_fx am_P (d + 1) 49 0 [some (.ref 874), some (.int a), some (.int c), none] [] (am_wI B i) = some (.inl none, am_wI B j) ∧ MP j (p, s + 1, emt u s a c) ∧ j 874 11 = i 874 11 ∧ FRm i j := by
  obtain ⟨j, E, a14, az, f⟩ := m_emit (d := d) (a := a) (c := c) hM e14 h4 hu
  exact ⟨j, E, ⟨(f _ _ (by omega) (by omega)).trans h8, a14, az⟩, f _ _ (by omega) (by omega), fun q k h1 h2 => f q k h1 (by omega)⟩
theorem sxs : ∀ q, 2 ≤ q → q ≤ 28 → (sx q).length < 100 ∧ ∀ m, m < (sx q).length → (sx q).getD m 0 < 128 := by
  intro q h1 h2
  have h : q = 2 ∨ q = 3 ∨ q = 4 ∨ q = 5 ∨ q = 6 ∨ q = 7 ∨ q = 8 ∨ q = 9 ∨ q = 10 ∨ q = 11 ∨ q = 12 ∨ q = 13 ∨ q = 14 ∨ q = 15 ∨ q = 16 ∨ q = 17 ∨ q = 18 ∨ q = 19 ∨ q = 20 ∨ q = 21 ∨ q = 22 ∨ q = 23 ∨ q = 24 ∨ q = 25 ∨ q = 26 ∨ q = 27 ∨ q = 28 := by omega
  rcases h with rfl | rfl | rfl | rfl | rfl | rfl | rfl | rfl | rfl | rfl | rfl | rfl | rfl | rfl | rfl | rfl | rfl | rfl | rfl | rfl | rfl | rfl | rfl | rfl | rfl | rfl | rfl <;> exact ⟨by decide, by decide⟩
theorem m_tags {i' i'' : Nat → Nat → Int32} (hM : Md B) (hX : Stx B j) (hc : MT N L j) (e8 : j 874 8 = Int32.ofNat e) (e10 : j 874 10 = Int32.ofNat b) (hbe : b ≤ e) (heL : e ≤ L) (E1 : am_fx am_P (d + 3) 44 0 [some (.ref 874), some (.int 40)] [] (am_wI B i) = some (.inl (some (.int 0)), am_wI B i')) (E2 : am_fx am_P (d + 3) 43 0 [some (.ref 874), some (.ref 5)] [] (am_wI B i') = some (.inl (some (.int 0)), am_wI B i'')) (E3 : am_fx am_P (d + 3) 41 0 [some (.ref 874)] [] (am_wI B i'') = some (.inl none, am_wI B j)) (K5 : am_K B 5 = 43) : am_fx am_P (d + 3 + 1) 50 0 [some (.ref 874), none, none, none, none] [] (am_wI B i) = am_fx am_P (d + 3 + 1) 50 185 [some (.ref 874), none, none, none, none] [.int (txn (wix N b e [18, 19, 20, 21, 22] 0))] (am_wI B j) := by
  rw [show wix N b e [18, 19, 20, 21, 22] 0 = (if isw N b e (sx 18) then some 0 else (if isw N b e (sx 19) then some 1 else (if isw N b e (sx 20) then some 2 else (if isw N b e (sx 21) then some 3 else (if isw N b e (sx 22) then some 4 else none))))) from rfl]
  have W18 := m_isWord (d := d + 3) hM hX hc e8 e10 hbe heL (q := 18) (by omega) (sxs 18 (by omega) (by omega))
  have k18 := (hX 18 (by omega) (by omega)).1
  by_cases g18 : isw N b e (sx 18)
  · rw [if_pos g18] at W18 ⊢
    rw [bk_50_0]
    simp (disch := omega) only [E1, E2, E3, K5, k18, W18, txn, z_39, z_390, hM, y_ckd, y_ck2d, y_ond, y_onn, y_oI, y_oIx, y_oJ, y_oV, y_oVx, y_oR, y_oRn, y_oRx, y_b0, y_b1, y_bi, y_bid, y_wIK, y_wIL, y_wII, y_wIJ, y_wIR, y_wIN, y_wIw, y_sI, ↓reduceIte, Nat.reduceEqDiff, eq_self, true_or, or_true, false_or, or_false, and_true, true_and, false_and, and_false, not_true, not_false_eq_true, tf_T, tf_F, y_up1, y_up2, y_xx, y_nx, y_sJ, y_sR, Int32.reduceLT, y_nxK, y_nxL, y_nxR, y_sJK, y_sJL, y_sJR, y_sJN, y_sRK, y_sRL, y_sRN, Nat.add_zero, z_nat, z_lit, z_lit0, z_lit1, z_in0, z_in1, z_addl0, z_lt, z_ltl, z_llt, z_inj, z_injl, z_add, z_addl, z_ladd, z_mul, z_mull, z_lmul, z_neg, z_negl, z_in, z_inl, z_ltT, z_ltF, z_eqF, z_10, z_01, z_litne, z_ne0, z_0ne, z_ne1, z_1ne, z_lt64, z_02, z_03, z_04, z_05, z_12, z_13, z_14, z_15, z_20, z_21, z_23, z_24, z_25, z_30, z_31, z_32, z_34, z_35, z_40, z_41, z_42, z_43, z_45, z_50, z_51, z_52, z_53, z_54]
    rfl
  rw [if_neg g18] at W18 ⊢
  have W19 := m_isWord (d := d + 3) hM hX hc e8 e10 hbe heL (q := 19) (by omega) (sxs 19 (by omega) (by omega))
  have k19 := (hX 19 (by omega) (by omega)).1
  by_cases g19 : isw N b e (sx 19)
  · rw [if_pos g19] at W19 ⊢
    rw [bk_50_0]
    simp (disch := omega) only [E1, E2, E3, K5, k18, W18, k19, W19, txn, z_39, z_390, hM, y_ckd, y_ck2d, y_ond, y_onn, y_oI, y_oIx, y_oJ, y_oV, y_oVx, y_oR, y_oRn, y_oRx, y_b0, y_b1, y_bi, y_bid, y_wIK, y_wIL, y_wII, y_wIJ, y_wIR, y_wIN, y_wIw, y_sI, ↓reduceIte, Nat.reduceEqDiff, eq_self, true_or, or_true, false_or, or_false, and_true, true_and, false_and, and_false, not_true, not_false_eq_true, tf_T, tf_F, y_up1, y_up2, y_xx, y_nx, y_sJ, y_sR, Int32.reduceLT, y_nxK, y_nxL, y_nxR, y_sJK, y_sJL, y_sJR, y_sJN, y_sRK, y_sRL, y_sRN, Nat.add_zero, z_nat, z_lit, z_lit0, z_lit1, z_in0, z_in1, z_addl0, z_lt, z_ltl, z_llt, z_inj, z_injl, z_add, z_addl, z_ladd, z_mul, z_mull, z_lmul, z_neg, z_negl, z_in, z_inl, z_ltT, z_ltF, z_eqF, z_10, z_01, z_litne, z_ne0, z_0ne, z_ne1, z_1ne, z_lt64, z_02, z_03, z_04, z_05, z_12, z_13, z_14, z_15, z_20, z_21, z_23, z_24, z_25, z_30, z_31, z_32, z_34, z_35, z_40, z_41, z_42, z_43, z_45, z_50, z_51, z_52, z_53, z_54]
    rfl
  rw [if_neg g19] at W19 ⊢
  have W20 := m_isWord (d := d + 3) hM hX hc e8 e10 hbe heL (q := 20) (by omega) (sxs 20 (by omega) (by omega))
  have k20 := (hX 20 (by omega) (by omega)).1
  by_cases g20 : isw N b e (sx 20)
  · rw [if_pos g20] at W20 ⊢
    rw [bk_50_0]
    simp (disch := omega) only [E1, E2, E3, K5, k18, W18, k19, W19, k20, W20, txn, z_39, z_390, hM, y_ckd, y_ck2d, y_ond, y_onn, y_oI, y_oIx, y_oJ, y_oV, y_oVx, y_oR, y_oRn, y_oRx, y_b0, y_b1, y_bi, y_bid, y_wIK, y_wIL, y_wII, y_wIJ, y_wIR, y_wIN, y_wIw, y_sI, ↓reduceIte, Nat.reduceEqDiff, eq_self, true_or, or_true, false_or, or_false, and_true, true_and, false_and, and_false, not_true, not_false_eq_true, tf_T, tf_F, y_up1, y_up2, y_xx, y_nx, y_sJ, y_sR, Int32.reduceLT, y_nxK, y_nxL, y_nxR, y_sJK, y_sJL, y_sJR, y_sJN, y_sRK, y_sRL, y_sRN, Nat.add_zero, z_nat, z_lit, z_lit0, z_lit1, z_in0, z_in1, z_addl0, z_lt, z_ltl, z_llt, z_inj, z_injl, z_add, z_addl, z_ladd, z_mul, z_mull, z_lmul, z_neg, z_negl, z_in, z_inl, z_ltT, z_ltF, z_eqF, z_10, z_01, z_litne, z_ne0, z_0ne, z_ne1, z_1ne, z_lt64, z_02, z_03, z_04, z_05, z_12, z_13, z_14, z_15, z_20, z_21, z_23, z_24, z_25, z_30, z_31, z_32, z_34, z_35, z_40, z_41, z_42, z_43, z_45, z_50, z_51, z_52, z_53, z_54]
    rfl
  rw [if_neg g20] at W20 ⊢
  have W21 := m_isWord (d := d + 3) hM hX hc e8 e10 hbe heL (q := 21) (by omega) (sxs 21 (by omega) (by omega))
  have k21 := (hX 21 (by omega) (by omega)).1
  by_cases g21 : isw N b e (sx 21)
  · rw [if_pos g21] at W21 ⊢
    rw [bk_50_0]
    simp (disch := omega) only [E1, E2, E3, K5, k18, W18, k19, W19, k20, W20, k21, W21, txn, z_39, z_390, hM, y_ckd, y_ck2d, y_ond, y_onn, y_oI, y_oIx, y_oJ, y_oV, y_oVx, y_oR, y_oRn, y_oRx, y_b0, y_b1, y_bi, y_bid, y_wIK, y_wIL, y_wII, y_wIJ, y_wIR, y_wIN, y_wIw, y_sI, ↓reduceIte, Nat.reduceEqDiff, eq_self, true_or, or_true, false_or, or_false, and_true, true_and, false_and, and_false, not_true, not_false_eq_true, tf_T, tf_F, y_up1, y_up2, y_xx, y_nx, y_sJ, y_sR, Int32.reduceLT, y_nxK, y_nxL, y_nxR, y_sJK, y_sJL, y_sJR, y_sJN, y_sRK, y_sRL, y_sRN, Nat.add_zero, z_nat, z_lit, z_lit0, z_lit1, z_in0, z_in1, z_addl0, z_lt, z_ltl, z_llt, z_inj, z_injl, z_add, z_addl, z_ladd, z_mul, z_mull, z_lmul, z_neg, z_negl, z_in, z_inl, z_ltT, z_ltF, z_eqF, z_10, z_01, z_litne, z_ne0, z_0ne, z_ne1, z_1ne, z_lt64, z_02, z_03, z_04, z_05, z_12, z_13, z_14, z_15, z_20, z_21, z_23, z_24, z_25, z_30, z_31, z_32, z_34, z_35, z_40, z_41, z_42, z_43, z_45, z_50, z_51, z_52, z_53, z_54]
    rfl
  rw [if_neg g21] at W21 ⊢
  have W22 := m_isWord (d := d + 3) hM hX hc e8 e10 hbe heL (q := 22) (by omega) (sxs 22 (by omega) (by omega))
  have k22 := (hX 22 (by omega) (by omega)).1
  by_cases g22 : isw N b e (sx 22)
  · rw [if_pos g22] at W22 ⊢
    rw [bk_50_0]
    simp (disch := omega) only [E1, E2, E3, K5, k18, W18, k19, W19, k20, W20, k21, W21, k22, W22, txn, z_39, z_390, hM, y_ckd, y_ck2d, y_ond, y_onn, y_oI, y_oIx, y_oJ, y_oV, y_oVx, y_oR, y_oRn, y_oRx, y_b0, y_b1, y_bi, y_bid, y_wIK, y_wIL, y_wII, y_wIJ, y_wIR, y_wIN, y_wIw, y_sI, ↓reduceIte, Nat.reduceEqDiff, eq_self, true_or, or_true, false_or, or_false, and_true, true_and, false_and, and_false, not_true, not_false_eq_true, tf_T, tf_F, y_up1, y_up2, y_xx, y_nx, y_sJ, y_sR, Int32.reduceLT, y_nxK, y_nxL, y_nxR, y_sJK, y_sJL, y_sJR, y_sJN, y_sRK, y_sRL, y_sRN, Nat.add_zero, z_nat, z_lit, z_lit0, z_lit1, z_in0, z_in1, z_addl0, z_lt, z_ltl, z_llt, z_inj, z_injl, z_add, z_addl, z_ladd, z_mul, z_mull, z_lmul, z_neg, z_negl, z_in, z_inl, z_ltT, z_ltF, z_eqF, z_10, z_01, z_litne, z_ne0, z_0ne, z_ne1, z_1ne, z_lt64, z_02, z_03, z_04, z_05, z_12, z_13, z_14, z_15, z_20, z_21, z_23, z_24, z_25, z_30, z_31, z_32, z_34, z_35, z_40, z_41, z_42, z_43, z_45, z_50, z_51, z_52, z_53, z_54]
    rfl
  rw [if_neg g22] at W22 ⊢
  rw [bk_50_0]
  simp (disch := omega) only [E1, E2, E3, K5, k18, W18, k19, W19, k20, W20, k21, W21, k22, W22, txn, z_39, z_390, hM, y_ckd, y_ck2d, y_ond, y_onn, y_oI, y_oIx, y_oJ, y_oV, y_oVx, y_oR, y_oRn, y_oRx, y_b0, y_b1, y_bi, y_bid, y_wIK, y_wIL, y_wII, y_wIJ, y_wIR, y_wIN, y_wIw, y_sI, ↓reduceIte, Nat.reduceEqDiff, eq_self, true_or, or_true, false_or, or_false, and_true, true_and, false_and, and_false, not_true, not_false_eq_true, tf_T, tf_F, y_up1, y_up2, y_xx, y_nx, y_sJ, y_sR, Int32.reduceLT, y_nxK, y_nxL, y_nxR, y_sJK, y_sJL, y_sJR, y_sJN, y_sRK, y_sRL, y_sRN, Nat.add_zero, z_nat, z_lit, z_lit0, z_lit1, z_in0, z_in1, z_addl0, z_lt, z_ltl, z_llt, z_inj, z_injl, z_add, z_addl, z_ladd, z_mul, z_mull, z_lmul, z_neg, z_negl, z_in, z_inl, z_ltT, z_ltF, z_eqF, z_10, z_01, z_litne, z_ne0, z_0ne, z_ne1, z_1ne, z_lt64, z_02, z_03, z_04, z_05, z_12, z_13, z_14, z_15, z_20, z_21, z_23, z_24, z_25, z_30, z_31, z_32, z_34, z_35, z_40, z_41, z_42, z_43, z_45, z_50, z_51, z_52, z_53, z_54]
theorem m_facts (hM : Md B) (hX : Stx B j) (hc : MT N L j) (e8 : j 874 8 = Int32.ofNat e) (e10 : j 874 10 = Int32.ofNat b) (hbe : b ≤ e) (heL : e ≤ L) : am_fx am_P (d + 3 + 1) 50 185 [some (.ref 874), none, none, none, none] [.int (-1)] (am_wI B j) = am_fx am_P (d + 3 + 1) 50 277 [some (.ref 874), none, none, none, none] [.int (txn (wix N b e [23, 24, 25, 26, 27, 28] 0))] (am_wI B j) := by
  have nn : (-1 : Int32) < 0 := by decide
  rw [show wix N b e [23, 24, 25, 26, 27, 28] 0 = (if isw N b e (sx 23) then some 0 else (if isw N b e (sx 24) then some 1 else (if isw N b e (sx 25) then some 2 else (if isw N b e (sx 26) then some 3 else (if isw N b e (sx 27) then some 4 else (if isw N b e (sx 28) then some 5 else none)))))) from rfl]
  have W23 := m_isWord (d := d + 3) hM hX hc e8 e10 hbe heL (q := 23) (by omega) (sxs 23 (by omega) (by omega))
  have k23 := (hX 23 (by omega) (by omega)).1
  by_cases g23 : isw N b e (sx 23)
  · rw [if_pos g23] at W23 ⊢
    rw [bk_50_185]
    simp (disch := omega) only [nn, k23, W23, txn, z_39, z_390, hM, y_ckd, y_ck2d, y_ond, y_onn, y_oI, y_oIx, y_oJ, y_oV, y_oVx, y_oR, y_oRn, y_oRx, y_b0, y_b1, y_bi, y_bid, y_wIK, y_wIL, y_wII, y_wIJ, y_wIR, y_wIN, y_wIw, y_sI, ↓reduceIte, Nat.reduceEqDiff, eq_self, true_or, or_true, false_or, or_false, and_true, true_and, false_and, and_false, not_true, not_false_eq_true, tf_T, tf_F, y_up1, y_up2, y_xx, y_nx, y_sJ, y_sR, Int32.reduceLT, y_nxK, y_nxL, y_nxR, y_sJK, y_sJL, y_sJR, y_sJN, y_sRK, y_sRL, y_sRN, Nat.add_zero, z_nat, z_lit, z_lit0, z_lit1, z_in0, z_in1, z_addl0, z_lt, z_ltl, z_llt, z_inj, z_injl, z_add, z_addl, z_ladd, z_mul, z_mull, z_lmul, z_neg, z_negl, z_in, z_inl, z_ltT, z_ltF, z_eqF, z_10, z_01, z_litne, z_ne0, z_0ne, z_ne1, z_1ne, z_lt64, z_02, z_03, z_04, z_05, z_12, z_13, z_14, z_15, z_20, z_21, z_23, z_24, z_25, z_30, z_31, z_32, z_34, z_35, z_40, z_41, z_42, z_43, z_45, z_50, z_51, z_52, z_53, z_54]
    rfl
  rw [if_neg g23] at W23 ⊢
  have W24 := m_isWord (d := d + 3) hM hX hc e8 e10 hbe heL (q := 24) (by omega) (sxs 24 (by omega) (by omega))
  have k24 := (hX 24 (by omega) (by omega)).1
  by_cases g24 : isw N b e (sx 24)
  · rw [if_pos g24] at W24 ⊢
    rw [bk_50_185]
    simp (disch := omega) only [nn, k23, W23, k24, W24, txn, z_39, z_390, hM, y_ckd, y_ck2d, y_ond, y_onn, y_oI, y_oIx, y_oJ, y_oV, y_oVx, y_oR, y_oRn, y_oRx, y_b0, y_b1, y_bi, y_bid, y_wIK, y_wIL, y_wII, y_wIJ, y_wIR, y_wIN, y_wIw, y_sI, ↓reduceIte, Nat.reduceEqDiff, eq_self, true_or, or_true, false_or, or_false, and_true, true_and, false_and, and_false, not_true, not_false_eq_true, tf_T, tf_F, y_up1, y_up2, y_xx, y_nx, y_sJ, y_sR, Int32.reduceLT, y_nxK, y_nxL, y_nxR, y_sJK, y_sJL, y_sJR, y_sJN, y_sRK, y_sRL, y_sRN, Nat.add_zero, z_nat, z_lit, z_lit0, z_lit1, z_in0, z_in1, z_addl0, z_lt, z_ltl, z_llt, z_inj, z_injl, z_add, z_addl, z_ladd, z_mul, z_mull, z_lmul, z_neg, z_negl, z_in, z_inl, z_ltT, z_ltF, z_eqF, z_10, z_01, z_litne, z_ne0, z_0ne, z_ne1, z_1ne, z_lt64, z_02, z_03, z_04, z_05, z_12, z_13, z_14, z_15, z_20, z_21, z_23, z_24, z_25, z_30, z_31, z_32, z_34, z_35, z_40, z_41, z_42, z_43, z_45, z_50, z_51, z_52, z_53, z_54]
    rfl
  rw [if_neg g24] at W24 ⊢
  have W25 := m_isWord (d := d + 3) hM hX hc e8 e10 hbe heL (q := 25) (by omega) (sxs 25 (by omega) (by omega))
  have k25 := (hX 25 (by omega) (by omega)).1
  by_cases g25 : isw N b e (sx 25)
  · rw [if_pos g25] at W25 ⊢
    rw [bk_50_185]
    simp (disch := omega) only [nn, k23, W23, k24, W24, k25, W25, txn, z_39, z_390, hM, y_ckd, y_ck2d, y_ond, y_onn, y_oI, y_oIx, y_oJ, y_oV, y_oVx, y_oR, y_oRn, y_oRx, y_b0, y_b1, y_bi, y_bid, y_wIK, y_wIL, y_wII, y_wIJ, y_wIR, y_wIN, y_wIw, y_sI, ↓reduceIte, Nat.reduceEqDiff, eq_self, true_or, or_true, false_or, or_false, and_true, true_and, false_and, and_false, not_true, not_false_eq_true, tf_T, tf_F, y_up1, y_up2, y_xx, y_nx, y_sJ, y_sR, Int32.reduceLT, y_nxK, y_nxL, y_nxR, y_sJK, y_sJL, y_sJR, y_sJN, y_sRK, y_sRL, y_sRN, Nat.add_zero, z_nat, z_lit, z_lit0, z_lit1, z_in0, z_in1, z_addl0, z_lt, z_ltl, z_llt, z_inj, z_injl, z_add, z_addl, z_ladd, z_mul, z_mull, z_lmul, z_neg, z_negl, z_in, z_inl, z_ltT, z_ltF, z_eqF, z_10, z_01, z_litne, z_ne0, z_0ne, z_ne1, z_1ne, z_lt64, z_02, z_03, z_04, z_05, z_12, z_13, z_14, z_15, z_20, z_21, z_23, z_24, z_25, z_30, z_31, z_32, z_34, z_35, z_40, z_41, z_42, z_43, z_45, z_50, z_51, z_52, z_53, z_54]
    rfl
  rw [if_neg g25] at W25 ⊢
  have W26 := m_isWord (d := d + 3) hM hX hc e8 e10 hbe heL (q := 26) (by omega) (sxs 26 (by omega) (by omega))
  have k26 := (hX 26 (by omega) (by omega)).1
  by_cases g26 : isw N b e (sx 26)
  · rw [if_pos g26] at W26 ⊢
    rw [bk_50_185]
    simp (disch := omega) only [nn, k23, W23, k24, W24, k25, W25, k26, W26, txn, z_39, z_390, hM, y_ckd, y_ck2d, y_ond, y_onn, y_oI, y_oIx, y_oJ, y_oV, y_oVx, y_oR, y_oRn, y_oRx, y_b0, y_b1, y_bi, y_bid, y_wIK, y_wIL, y_wII, y_wIJ, y_wIR, y_wIN, y_wIw, y_sI, ↓reduceIte, Nat.reduceEqDiff, eq_self, true_or, or_true, false_or, or_false, and_true, true_and, false_and, and_false, not_true, not_false_eq_true, tf_T, tf_F, y_up1, y_up2, y_xx, y_nx, y_sJ, y_sR, Int32.reduceLT, y_nxK, y_nxL, y_nxR, y_sJK, y_sJL, y_sJR, y_sJN, y_sRK, y_sRL, y_sRN, Nat.add_zero, z_nat, z_lit, z_lit0, z_lit1, z_in0, z_in1, z_addl0, z_lt, z_ltl, z_llt, z_inj, z_injl, z_add, z_addl, z_ladd, z_mul, z_mull, z_lmul, z_neg, z_negl, z_in, z_inl, z_ltT, z_ltF, z_eqF, z_10, z_01, z_litne, z_ne0, z_0ne, z_ne1, z_1ne, z_lt64, z_02, z_03, z_04, z_05, z_12, z_13, z_14, z_15, z_20, z_21, z_23, z_24, z_25, z_30, z_31, z_32, z_34, z_35, z_40, z_41, z_42, z_43, z_45, z_50, z_51, z_52, z_53, z_54]
    rfl
  rw [if_neg g26] at W26 ⊢
  have W27 := m_isWord (d := d + 3) hM hX hc e8 e10 hbe heL (q := 27) (by omega) (sxs 27 (by omega) (by omega))
  have k27 := (hX 27 (by omega) (by omega)).1
  by_cases g27 : isw N b e (sx 27)
  · rw [if_pos g27] at W27 ⊢
    rw [bk_50_185]
    simp (disch := omega) only [nn, k23, W23, k24, W24, k25, W25, k26, W26, k27, W27, txn, z_39, z_390, hM, y_ckd, y_ck2d, y_ond, y_onn, y_oI, y_oIx, y_oJ, y_oV, y_oVx, y_oR, y_oRn, y_oRx, y_b0, y_b1, y_bi, y_bid, y_wIK, y_wIL, y_wII, y_wIJ, y_wIR, y_wIN, y_wIw, y_sI, ↓reduceIte, Nat.reduceEqDiff, eq_self, true_or, or_true, false_or, or_false, and_true, true_and, false_and, and_false, not_true, not_false_eq_true, tf_T, tf_F, y_up1, y_up2, y_xx, y_nx, y_sJ, y_sR, Int32.reduceLT, y_nxK, y_nxL, y_nxR, y_sJK, y_sJL, y_sJR, y_sJN, y_sRK, y_sRL, y_sRN, Nat.add_zero, z_nat, z_lit, z_lit0, z_lit1, z_in0, z_in1, z_addl0, z_lt, z_ltl, z_llt, z_inj, z_injl, z_add, z_addl, z_ladd, z_mul, z_mull, z_lmul, z_neg, z_negl, z_in, z_inl, z_ltT, z_ltF, z_eqF, z_10, z_01, z_litne, z_ne0, z_0ne, z_ne1, z_1ne, z_lt64, z_02, z_03, z_04, z_05, z_12, z_13, z_14, z_15, z_20, z_21, z_23, z_24, z_25, z_30, z_31, z_32, z_34, z_35, z_40, z_41, z_42, z_43, z_45, z_50, z_51, z_52, z_53, z_54]
    rfl
  rw [if_neg g27] at W27 ⊢
  have W28 := m_isWord (d := d + 3) hM hX hc e8 e10 hbe heL (q := 28) (by omega) (sxs 28 (by omega) (by omega))
  have k28 := (hX 28 (by omega) (by omega)).1
  by_cases g28 : isw N b e (sx 28)
  · rw [if_pos g28] at W28 ⊢
    rw [bk_50_185]
    simp (disch := omega) only [nn, k23, W23, k24, W24, k25, W25, k26, W26, k27, W27, k28, W28, txn, z_39, z_390, hM, y_ckd, y_ck2d, y_ond, y_onn, y_oI, y_oIx, y_oJ, y_oV, y_oVx, y_oR, y_oRn, y_oRx, y_b0, y_b1, y_bi, y_bid, y_wIK, y_wIL, y_wII, y_wIJ, y_wIR, y_wIN, y_wIw, y_sI, ↓reduceIte, Nat.reduceEqDiff, eq_self, true_or, or_true, false_or, or_false, and_true, true_and, false_and, and_false, not_true, not_false_eq_true, tf_T, tf_F, y_up1, y_up2, y_xx, y_nx, y_sJ, y_sR, Int32.reduceLT, y_nxK, y_nxL, y_nxR, y_sJK, y_sJL, y_sJR, y_sJN, y_sRK, y_sRL, y_sRN, Nat.add_zero, z_nat, z_lit, z_lit0, z_lit1, z_in0, z_in1, z_addl0, z_lt, z_ltl, z_llt, z_inj, z_injl, z_add, z_addl, z_ladd, z_mul, z_mull, z_lmul, z_neg, z_negl, z_in, z_inl, z_ltT, z_ltF, z_eqF, z_10, z_01, z_litne, z_ne0, z_0ne, z_ne1, z_1ne, z_lt64, z_02, z_03, z_04, z_05, z_12, z_13, z_14, z_15, z_20, z_21, z_23, z_24, z_25, z_30, z_31, z_32, z_34, z_35, z_40, z_41, z_42, z_43, z_45, z_50, z_51, z_52, z_53, z_54]
    rfl
  rw [if_neg g28] at W28 ⊢
  rw [bk_50_185]
  simp (disch := omega) only [nn, k23, W23, k24, W24, k25, W25, k26, W26, k27, W27, k28, W28, txn, z_39, z_390, hM, y_ckd, y_ck2d, y_ond, y_onn, y_oI, y_oIx, y_oJ, y_oV, y_oVx, y_oR, y_oRn, y_oRx, y_b0, y_b1, y_bi, y_bid, y_wIK, y_wIL, y_wII, y_wIJ, y_wIR, y_wIN, y_wIw, y_sI, ↓reduceIte, Nat.reduceEqDiff, eq_self, true_or, or_true, false_or, or_false, and_true, true_and, false_and, and_false, not_true, not_false_eq_true, tf_T, tf_F, y_up1, y_up2, y_xx, y_nx, y_sJ, y_sR, Int32.reduceLT, y_nxK, y_nxL, y_nxR, y_sJK, y_sJL, y_sJR, y_sJN, y_sRK, y_sRL, y_sRN, Nat.add_zero, z_nat, z_lit, z_lit0, z_lit1, z_in0, z_in1, z_addl0, z_lt, z_ltl, z_llt, z_inj, z_injl, z_add, z_addl, z_ladd, z_mul, z_mull, z_lmul, z_neg, z_negl, z_in, z_inl, z_ltT, z_ltF, z_eqF, z_10, z_01, z_litne, z_ne0, z_0ne, z_ne1, z_1ne, z_lt64, z_02, z_03, z_04, z_05, z_12, z_13, z_14, z_15, z_20, z_21, z_23, z_24, z_25, z_30, z_31, z_32, z_34, z_35, z_40, z_41, z_42, z_43, z_45, z_50, z_51, z_52, z_53, z_54]
end ModA
