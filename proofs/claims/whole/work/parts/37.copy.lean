/-! A YARD IS COPIED: first one row of it into another -/
section Copy1
variable {B : am_A} {i : Nat → Nat → Int32} {d : Nat}
set_option maxHeartbeats 4000000 in
theorem cp_tree {q q2 : Nat} (hq : am_K B q = 10) (hq2 : am_K B q2 = 10) (hne : q ≠ q2) (hf : i q2 6 = 0 ∨ i q2 6 = 1) : ∃ i', am_fx am_P (d + 1) 186 0 [some (.ref q), some (.ref q2)] [] (am_wI B i) = some (.inl none, am_wI B i') ∧ (∀ r, r ≠ q → i' r = i r) ∧ ∀ k, k < 7 → i' q k = i q2 k := by
  apply Exists.intro
  refine ⟨?_, ?_, ?_⟩
  · rw [bk_186_0]
    simp (disch := omega) only [(fun d x0 x1 x2 x3 x4 x5 x6 B i => bk_183_0 d x0 x1 x2 x3 x4 x5 x6 (am_wI B i)), (fun d x0 x3 x4 x5 x6 B i => bk_183_10 d x0 x3 x4 x5 x6 (am_wI B i)), (fun d x0 x5 x6 B i => bk_183_21 d x0 x5 x6 (am_wI B i)), (fun d x0 B i => bk_183_33 d x0 (am_wI B i)), hq, hq2, y_bx hf, y_ckd, y_ck2d, y_ond, y_onn, y_oI, y_oIx, y_oJ, y_oV, y_oVx, y_oR, y_oRn, y_oRx, y_b0, y_b1, y_bi, y_bid, y_wIK, y_wIL, y_wII, y_wIJ, y_wIR, y_wIN, y_wIw, y_sI, ↓reduceIte, Nat.reduceEqDiff, eq_self, true_or, or_true, false_or, or_false, and_true, true_and, false_and, and_false, not_true, not_false_eq_true, tf_T, tf_F, y_up1, y_up2, y_xx, y_nx, y_sJ, y_sR, Int32.reduceLT, y_nxK, y_nxL, y_nxR, y_sJK, y_sJL, y_sJR, y_sJN, y_sRK, y_sRL, y_sRN]
    exact rfl
  · intro r hr
    simp (disch := omega) only [y_upr]
  · intro k hk
    have h : k = 0 ∨ k = 1 ∨ k = 2 ∨ k = 3 ∨ k = 4 ∨ k = 5 ∨ k = 6 := by omega
    rcases h with rfl | rfl | rfl | rfl | rfl | rfl | rfl <;> simp (disch := omega) only [y_up1, y_up2]
set_option maxHeartbeats 4000000 in
theorem pc_begin {q : Nat} {x y z : Int32} (hq : am_K B q = 5) : ∃ i', am_fx am_P (d + 1) 153 0 [some (.ref q), some (.int x), some (.int y), some (.int z)] [] (am_wI B i) = some (.inl none, am_wI B i') ∧ (∀ r, r ≠ q → i' r = i r) ∧ (i' q 0 = x ∧ i' q 1 = y ∧ i' q 7 = z ∧ i' q 5 = -1 ∧ i' q 6 = 0 ∧ i' q 8 = z ∧ i' q 9 = 1 ∧ i' q 10 = 0 ∧ i' q 11 = 0 ∧ i' q 12 = 0 ∧ i' q 13 = 0 ∧ i' q 14 = 0 ∧ i' q 15 = -1 ∧ i' q 16 = -1 ∧ i' q 17 = -1 ∧ i' q 18 = 0) ∧ i' q 2 = i q 2 ∧ i' q 3 = i q 3 ∧ i' q 4 = i q 4 := by
  apply Exists.intro
  refine ⟨?_, ?_, ?_⟩
  · rw [bk_153_0]
    simp (disch := omega) only [(fun d x0 x1 x2 x3 B i => bk_153_0 d x0 x1 x2 x3 (am_wI B i)), (fun d x0 x3 B i => bk_153_10 d x0 x3 (am_wI B i)), (fun d x0 x3 B i => bk_153_20 d x0 x3 (am_wI B i)), (fun d x0 B i => bk_153_30 d x0 (am_wI B i)), (fun d x0 B i => bk_153_40 d x0 (am_wI B i)), (fun d x0 B i => bk_153_50 d x0 (am_wI B i)), (fun d x0 B i => bk_153_60 d x0 (am_wI B i)), (fun d x0 B i => bk_159_0 d x0 (am_wI B i)), (fun d x0 B i => bk_159_10 d x0 (am_wI B i)), hq, y_ckd, y_ck2d, y_ond, y_onn, y_oI, y_oIx, y_oJ, y_oV, y_oVx, y_oR, y_oRn, y_oRx, y_b0, y_b1, y_bi, y_bid, y_wIK, y_wIL, y_wII, y_wIJ, y_wIR, y_wIN, y_wIw, y_sI, ↓reduceIte, Nat.reduceEqDiff, eq_self, true_or, or_true, false_or, or_false, and_true, true_and, false_and, and_false, not_true, not_false_eq_true, tf_T, tf_F, y_up1, y_up2, y_xx, y_nx, y_sJ, y_sR, Int32.reduceLT, y_nxK, y_nxL, y_nxR, y_sJK, y_sJL, y_sJR, y_sJN, y_sRK, y_sRL, y_sRN]
    exact rfl
  · intro r hr
    simp (disch := omega) only [y_upr]
  · simp (disch := omega) only [y_up1, y_up2, and_self]
theorem pc_measure {q : Nat} {x y z : Int32} (hq : am_K B q = 5) : am_fx am_P d 154 0 [some (.ref q), some (.int x), some (.int y), some (.int z)] [] (am_wI B i) = some (.inl none, am_wI B (am_up2 (am_up2 (am_up2 i q 2 x) q 3 y) q 4 z)) := by
  rw [bk_154_0]
  simp (disch := omega) only [(fun d x0 x1 x2 x3 B i => bk_154_0 d x0 x1 x2 x3 (am_wI B i)), (fun d x0 x3 B i => bk_154_10 d x0 x3 (am_wI B i)), hq, y_ckd, y_ck2d, y_ond, y_onn, y_oI, y_oIx, y_oJ, y_oV, y_oVx, y_oR, y_oRn, y_oRx, y_b0, y_b1, y_bi, y_bid, y_wIK, y_wIL, y_wII, y_wIJ, y_wIR, y_wIN, y_wIw, y_sI, ↓reduceIte, Nat.reduceEqDiff, eq_self, true_or, or_true, false_or, or_false, and_true, true_and, false_and, and_false, not_true, not_false_eq_true, tf_T, tf_F, y_up1, y_up2, y_xx, y_nx, y_sJ, y_sR, Int32.reduceLT, y_nxK, y_nxL, y_nxR, y_sJK, y_sJL, y_sJR, y_sJN, y_sRK, y_sRL, y_sRN]
theorem pc_comeFrom {q : Nat} {x y : Int32} (hq : am_K B q = 5) : am_fx am_P d 155 0 [some (.ref q), some (.int x), some (.int y)] [] (am_wI B i) = some (.inl none, am_wI B (am_up2 (am_up2 i q 5 x) q 6 y)) := by
  rw [bk_155_0]
  simp (disch := omega) only [(fun d x0 x1 x2 B i => bk_155_0 d x0 x1 x2 (am_wI B i)), (fun d B i => bk_155_10 d (am_wI B i)), hq, y_ckd, y_ck2d, y_ond, y_onn, y_oI, y_oIx, y_oJ, y_oV, y_oVx, y_oR, y_oRn, y_oRx, y_b0, y_b1, y_bi, y_bid, y_wIK, y_wIL, y_wII, y_wIJ, y_wIR, y_wIN, y_wIw, y_sI, ↓reduceIte, Nat.reduceEqDiff, eq_self, true_or, or_true, false_or, or_false, and_true, true_and, false_and, and_false, not_true, not_false_eq_true, tf_T, tf_F, y_up1, y_up2, y_xx, y_nx, y_sJ, y_sR, Int32.reduceLT, y_nxK, y_nxL, y_nxR, y_sJK, y_sJL, y_sJR, y_sJN, y_sRK, y_sRL, y_sRN]
set_option maxHeartbeats 4000000 in
theorem cp_piece {q q2 : Nat} (hq : am_K B q = 5) (hq2 : am_K B q2 = 5) (hne : q ≠ q2) (hf : i q2 13 = 0 ∨ i q2 13 = 1) (hf2 : i q2 18 = 0 ∨ i q2 18 = 1) : ∃ i', am_fx am_P (d + 3) 166 0 [some (.ref q), some (.ref q2)] [] (am_wI B i) = some (.inl none, am_wI B i') ∧ (∀ r, r ≠ q → i' r = i r) ∧ ∀ k, k < 19 → i' q k = i q2 k := by
  obtain ⟨j, e, fr, g, -⟩ := pc_begin (B := B) (i := i) (d := d + 1) (q := q) (x := i q2 0) (y := i q2 1) (z := i q2 7) hq
  have f2 : j q2 = i q2 := fr q2 (Ne.symm hne)
  apply Exists.intro
  refine ⟨?_, ?_, ?_⟩
  · rw [bk_166_0]
    simp (maxSteps := 1000000) (disch := omega) only [(fun d x0 x1 B i => bk_166_0 d x0 x1 (am_wI B i)), (fun d x0 x1 B i => bk_166_60 d x0 x1 (am_wI B i)), (fun d x0 x1 B i => bk_166_76 d x0 x1 (am_wI B i)), (fun d x0 x1 B i => bk_166_92 d x0 x1 (am_wI B i)), (fun d x0 x1 B i => bk_166_108 d x0 x1 (am_wI B i)), (fun d x0 x1 B i => bk_166_124 d x0 x1 (am_wI B i)), e, f2, pc_measure hq, pc_comeFrom hq, hq, hq2, y_bx hf, y_bx hf2, y_ckd, y_ck2d, y_ond, y_onn, y_oI, y_oIx, y_oJ, y_oV, y_oVx, y_oR, y_oRn, y_oRx, y_b0, y_b1, y_bi, y_bid, y_wIK, y_wIL, y_wII, y_wIJ, y_wIR, y_wIN, y_wIw, y_sI, ↓reduceIte, Nat.reduceEqDiff, eq_self, true_or, or_true, false_or, or_false, and_true, true_and, false_and, and_false, not_true, not_false_eq_true, tf_T, tf_F, y_up1, y_up2, y_xx, y_nx, y_sJ, y_sR, Int32.reduceLT, y_nxK, y_nxL, y_nxR, y_sJK, y_sJL, y_sJR, y_sJN, y_sRK, y_sRL, y_sRN]
    exact rfl
  · intro r hr
    simp (disch := omega) only [y_upr, fr r hr]
  · intro k hk
    have h : k = 0 ∨ k = 1 ∨ k = 2 ∨ k = 3 ∨ k = 4 ∨ k = 5 ∨ k = 6 ∨ k = 7 ∨ k = 8 ∨ k = 9 ∨ k = 10 ∨ k = 11 ∨ k = 12 ∨ k = 13 ∨ k = 14 ∨ k = 15 ∨ k = 16 ∨ k = 17 ∨ k = 18 := by omega
    rcases h with rfl | rfl | rfl | rfl | rfl | rfl | rfl | rfl | rfl | rfl | rfl | rfl | rfl | rfl | rfl | rfl | rfl | rfl | rfl <;> simp (disch := omega) only [y_up1, y_up2, g]
end Copy1
