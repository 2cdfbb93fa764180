/-! THE TAPE CUT, THE FAULT TOLD: made by wip/whole/math/45.py. -/
section Five
variable {B : am_A} {i : Nat → Nat → Int32} {σ : Sg} {L j d : Nat}
theorem FRs_t {i' : Nat → Nat → Int32} {x : am_X} {v : Option Value} {t : Nat × (Nat → Int32) × Int32} (h : CR B i σ) (hx : x = some (.inl v, am_wI B i')) (ht : TpC i' t) (hi : ∀ q k, (q < 65 ∨ 94 ≤ q) → i' q k = i q k) : FRs B i (σ.1, σ.2.1, σ.2.2.1, σ.2.2.2.1, σ.2.2.2.2.1, t) x (.inl v) := by
  obtain ⟨⟨h1, h2, h3, h4, hN⟩, h5, h6, h7, h8, h9, h10⟩ := h
  have hT : ∀ q, 893 ≤ q → q < am_N B → i' q = i q := fun q hq _ => funext fun k => hi q k (by omega)
  refine ⟨B, i', hx, ⟨⟨h1, h2, h3, h4, hN⟩, Rep_fr h5 (Le.rf B) rfl (fun q k _ _ _ _ _ _ => hi q k (by omega)) hT fun _ _ => rfl, fun q => Rep_fr (h6 q) (Le.rf B) rfl (fun q k _ _ _ _ _ _ => hi q k (by omega)) hT fun _ _ => rfl, fun q => Rep_fr (h7 q) (Le.rf B) rfl (fun q k _ _ _ _ _ _ => hi q k (by omega)) hT fun _ _ => rfl, (hi _ _ (by omega)).trans h8, (hi _ _ (by omega)).trans h9, ht⟩, Le.rf B, ⟨by omega, by omega⟩, fun q k _ => hi q k (by omega)⟩
theorem MRs_t {i' : Nat → Nat → Int32} {x : am_X} {v : Option Value} {t : Nat × (Nat → Int32) × Int32} (h : MR B i σ) (hx : x = some (.inl v, am_wI B i')) (h0 : i' 874 0 = 0) (ht : TpM i' t) (hi : ∀ q k, (q < 874 ∨ (875 ≤ q ∧ q < 878) ∨ 893 ≤ q) ∨ (q = 874 ∧ (k = 4 ∨ k = 5)) → i' q k = i q k) : MRs B i (σ.1, σ.2.1, σ.2.2.1, σ.2.2.2.1, σ.2.2.2.2.1, t) x v 0 := by
  obtain ⟨h1, h2, h3, h4, h5, h6, h7⟩ := h
  exact ⟨B, i', hx, h0, ⟨h1, fun s hs => (hi _ _ (by omega)).trans (h2 s hs), fun q s hs => (hi _ _ (by omega)).trans (h3 q s hs), fun q s hs => (hi _ _ (by omega)).trans (h4 q s hs), (hi _ _ (by omega)).trans h5, (hi _ _ (by omega)).trans h6, ht⟩, Jq.rf B, fun q k hq => hi q k (by omega)⟩
theorem f_fault (h : CR B i σ) : FRs B i σ (am_fx am_P (d + 150) 302 0 [some (.ref 64)] [] (am_wI B i)) (.inl (some (.int σ.2.2.2.2.2.2.2))) := by
  refine FRs_0 h ?_
  have hF : Fc B := h.1.1
  have e : i 65 2 = σ.2.2.2.2.2.2.2 := h.2.2.2.2.2.2.2.2
  rw [bk_302_0]
  simp only [hF, e, y_ckd, y_ck2d, y_ond, y_onn, y_oI, y_oIx, y_oJ, y_oV, y_oVx, y_oR, y_oRn, y_oRx, y_b0, y_b1, y_bi, y_bid, y_wIK, y_wIL, y_wII, y_wIJ, y_wIR, y_wIN, y_wIw, y_sI, ↓reduceIte, Nat.reduceEqDiff, eq_self, true_or, or_true, false_or, or_false, and_true, true_and, false_and, and_false, not_true, not_false_eq_true, tf_T, tf_F, y_up1, y_up2, y_xx, y_nx, y_sJ, y_sR, Int32.reduceLT, y_nxK, y_nxL, y_nxR, y_sJK, y_sJL, y_sJR, y_sJN, y_sRK, y_sRL, y_sRN]
theorem m_fault (h : MR B i σ) : MRs B i σ (am_fx am_P (d + 150) 46 0 [some (.ref 874)] [] (am_wI B i)) (some (.int σ.2.2.2.2.2.2.2)) 0 := by
  refine MRs_0 h ?_
  have hM : Md B := h.1.1
  have e : i 874 12 = σ.2.2.2.2.2.2.2 := h.2.2.2.2.2.2.2.2
  rw [bk_46_0]
  simp (disch := omega) only [hM, e, y_ckd, y_ck2d, y_ond, y_onn, y_oI, y_oIx, y_oJ, y_oV, y_oVx, y_oR, y_oRn, y_oRx, y_b0, y_b1, y_bi, y_bid, y_wIK, y_wIL, y_wII, y_wIJ, y_wIR, y_wIN, y_wIw, y_sI, ↓reduceIte, Nat.reduceEqDiff, eq_self, true_or, or_true, false_or, or_false, and_true, true_and, false_and, and_false, not_true, not_false_eq_true, tf_T, tf_F, y_up1, y_up2, y_xx, y_nx, y_sJ, y_sR, Int32.reduceLT, y_nxK, y_nxL, y_nxR, y_sJK, y_sJL, y_sJR, y_sJN, y_sRK, y_sRL, y_sRN]
theorem k_fault (h : Sim B i σ) (hs : Sc B i L j) (hO : am_K B 892 = 22 ∧ am_L B 892 = 1) : Stq B i d 987 j :=
  kk_11 h hs hO h.2.2 (f_fault (d := d + 49) h.1) fun B0 i0 h0 => m_fault (d := d + 49) h0
theorem f_end0 {x : Int32} (h : CR B i σ) (g : ¬ (¬ x < 0 ∧ ¬ Int32.ofNat σ.2.2.2.2.2.1 < x)) : FRs B i σ (am_fx am_P (d + 150) 292 0 [some (.ref 64), some (.int x)] [] (am_wI B i)) (.inl (some (.int 0))) := by
  refine FRs_0 h ?_
  have hF : Fc B := h.1.1
  have e : i 65 1 = Int32.ofNat σ.2.2.2.2.2.1 := h.2.2.2.2.2.2.1
  rw [bk_292_0]
  by_cases g0 : x < 0
  · simp (disch := omega) only [(fun d x0 x1 B i => bk_198_0 d x0 x1 (am_wI B i)), g0, hF, e, y_ckd, y_ck2d, y_ond, y_onn, y_oI, y_oIx, y_oJ, y_oV, y_oVx, y_oR, y_oRn, y_oRx, y_b0, y_b1, y_bi, y_bid, y_wIK, y_wIL, y_wII, y_wIJ, y_wIR, y_wIN, y_wIw, y_sI, ↓reduceIte, Nat.reduceEqDiff, eq_self, true_or, or_true, false_or, or_false, and_true, true_and, false_and, and_false, not_true, not_false_eq_true, tf_T, tf_F, y_up1, y_up2, y_xx, y_nx, y_sJ, y_sR, Int32.reduceLT, y_nxK, y_nxL, y_nxR, y_sJK, y_sJL, y_sJR, y_sJN, y_sRK, y_sRL, y_sRN]
  · have g1 : Int32.ofNat σ.2.2.2.2.2.1 < x := Decidable.byContradiction fun q => g ⟨g0, q⟩
    simp (disch := omega) only [(fun d x0 x1 B i => bk_198_0 d x0 x1 (am_wI B i)), g0, g1, hF, e, y_ckd, y_ck2d, y_ond, y_onn, y_oI, y_oIx, y_oJ, y_oV, y_oVx, y_oR, y_oRn, y_oRx, y_b0, y_b1, y_bi, y_bid, y_wIK, y_wIL, y_wII, y_wIJ, y_wIR, y_wIN, y_wIw, y_sI, ↓reduceIte, Nat.reduceEqDiff, eq_self, true_or, or_true, false_or, or_false, and_true, true_and, false_and, and_false, not_true, not_false_eq_true, tf_T, tf_F, y_up1, y_up2, y_xx, y_nx, y_sJ, y_sR, Int32.reduceLT, y_nxK, y_nxL, y_nxR, y_sJK, y_sJL, y_sJR, y_sJN, y_sRK, y_sRL, y_sRN]
theorem m_end0 {x : Int32} (h : MR B i σ) (g : ¬ (¬ x < 0 ∧ ¬ Int32.ofNat σ.2.2.2.2.2.1 < x)) : MRs B i σ (am_fx am_P (d + 150) 37 0 [some (.ref 874), some (.int x)] [] (am_wI B i)) (some (.int 0)) 0 := by
  refine MRs_0 h ?_
  have hM : Md B := h.1.1
  have e : i 874 7 = Int32.ofNat σ.2.2.2.2.2.1 := h.2.2.2.2.2.2.1
  rw [bk_37_0]
  by_cases g0 : x < 0
  · simp (disch := omega) only [(fun d x0 x1 B i => bk_37_0 d x0 x1 (am_wI B i)), g0, hM, e, y_ckd, y_ck2d, y_ond, y_onn, y_oI, y_oIx, y_oJ, y_oV, y_oVx, y_oR, y_oRn, y_oRx, y_b0, y_b1, y_bi, y_bid, y_wIK, y_wIL, y_wII, y_wIJ, y_wIR, y_wIN, y_wIw, y_sI, ↓reduceIte, Nat.reduceEqDiff, eq_self, true_or, or_true, false_or, or_false, and_true, true_and, false_and, and_false, not_true, not_false_eq_true, tf_T, tf_F, y_up1, y_up2, y_xx, y_nx, y_sJ, y_sR, Int32.reduceLT, y_nxK, y_nxL, y_nxR, y_sJK, y_sJL, y_sJR, y_sJN, y_sRK, y_sRL, y_sRN]
  · have g1 : Int32.ofNat σ.2.2.2.2.2.1 < x := Decidable.byContradiction fun q => g ⟨g0, q⟩
    simp (disch := omega) only [(fun d x0 x1 B i => bk_37_0 d x0 x1 (am_wI B i)), g0, g1, hM, e, y_ckd, y_ck2d, y_ond, y_onn, y_oI, y_oIx, y_oJ, y_oV, y_oVx, y_oR, y_oRn, y_oRx, y_b0, y_b1, y_bi, y_bid, y_wIK, y_wIL, y_wII, y_wIJ, y_wIR, y_wIN, y_wIw, y_sI, ↓reduceIte, Nat.reduceEqDiff, eq_self, true_or, or_true, false_or, or_false, and_true, true_and, false_and, and_false, not_true, not_false_eq_true, tf_T, tf_F, y_up1, y_up2, y_xx, y_nx, y_sJ, y_sR, Int32.reduceLT, y_nxK, y_nxL, y_nxR, y_sJK, y_sJL, y_sJR, y_sJN, y_sRK, y_sRL, y_sRN]
theorem f_end {n : Nat} (h : CR B i σ) (hn : n ≤ σ.2.2.2.2.2.1) (hl : σ.2.2.2.2.2.1 ≤ 400) : FRs B i (σ.1, σ.2.1, σ.2.2.1, σ.2.2.2.1, σ.2.2.2.2.1, n, σ.2.2.2.2.2.2) (am_fx am_P (d + 150) 292 0 [some (.ref 64), some (.int (Int32.ofNat n))] [] (am_wI B i)) (.inl (some (.int 1))) := by
  have hF : Fc B := h.1.1
  have e : i 65 1 = Int32.ofNat σ.2.2.2.2.2.1 := h.2.2.2.2.2.2.1
  have g0 : ¬ Int32.ofNat n < 0 := by rw [z_neg (by omega)]; exact id
  have g1 : ¬ Int32.ofNat σ.2.2.2.2.2.1 < Int32.ofNat n := by rw [z_lt (by omega) (by omega)]; omega
  refine FRs_t (i' := am_up2 i 65 1 (Int32.ofNat n)) h ?_ ⟨y_up1 rfl rfl, fun k hk => ?_, ?_⟩ (by intros; simp (disch := omega) only [y_up2])
  · rw [bk_292_0]
    simp (disch := omega) only [(fun d x0 x1 B i => bk_198_0 d x0 x1 (am_wI B i)), hF, e, g0, g1, y_ckd, y_ck2d, y_ond, y_onn, y_oI, y_oIx, y_oJ, y_oV, y_oVx, y_oR, y_oRn, y_oRx, y_b0, y_b1, y_bi, y_bid, y_wIK, y_wIL, y_wII, y_wIJ, y_wIR, y_wIN, y_wIw, y_sI, ↓reduceIte, Nat.reduceEqDiff, eq_self, true_or, or_true, false_or, or_false, and_true, true_and, false_and, and_false, not_true, not_false_eq_true, tf_T, tf_F, y_up1, y_up2, y_xx, y_nx, y_sJ, y_sR, Int32.reduceLT, y_nxK, y_nxL, y_nxR, y_sJK, y_sJL, y_sJR, y_sJN, y_sRK, y_sRL, y_sRN]
  · rw [y_up2 (by omega)]
    exact h.2.2.2.2.2.2.2.1 k (by have : k < n := hk; omega)
  · rw [y_up2 (by omega)]
    exact h.2.2.2.2.2.2.2.2
theorem m_end {n : Nat} (h : MR B i σ) (hn : n ≤ σ.2.2.2.2.2.1) (hl : σ.2.2.2.2.2.1 ≤ 400) : MRs B i (σ.1, σ.2.1, σ.2.2.1, σ.2.2.2.1, σ.2.2.2.2.1, n, σ.2.2.2.2.2.2) (am_fx am_P (d + 150) 37 0 [some (.ref 874), some (.int (Int32.ofNat n))] [] (am_wI B i)) (some (.int 1)) 0 := by
  have hM : Md B := h.1.1
  have e : i 874 7 = Int32.ofNat σ.2.2.2.2.2.1 := h.2.2.2.2.2.2.1
  have g0 : ¬ Int32.ofNat n < 0 := by rw [z_neg (by omega)]; exact id
  have g1 : ¬ Int32.ofNat σ.2.2.2.2.2.1 < Int32.ofNat n := by rw [z_lt (by omega) (by omega)]; omega
  refine MRs_t (i' := am_up2 (am_up2 i 874 0 0) 874 7 (Int32.ofNat n)) h ?_ (by rw [y_up2 (by omega), y_up1 rfl rfl]) ⟨y_up1 rfl rfl, fun k hk => ?_, ?_⟩ (by intros; simp (disch := omega) only [y_up2])
  · rw [bk_37_0]
    simp (disch := omega) only [(fun d x0 x1 B i => bk_37_0 d x0 x1 (am_wI B i)), hM, e, g0, g1, y_ckd, y_ck2d, y_ond, y_onn, y_oI, y_oIx, y_oJ, y_oV, y_oVx, y_oR, y_oRn, y_oRx, y_b0, y_b1, y_bi, y_bid, y_wIK, y_wIL, y_wII, y_wIJ, y_wIR, y_wIN, y_wIw, y_sI, ↓reduceIte, Nat.reduceEqDiff, eq_self, true_or, or_true, false_or, or_false, and_true, true_and, false_and, and_false, not_true, not_false_eq_true, tf_T, tf_F, y_up1, y_up2, y_xx, y_nx, y_sJ, y_sR, Int32.reduceLT, y_nxK, y_nxL, y_nxR, y_sJK, y_sJL, y_sJR, y_sJN, y_sRK, y_sRL, y_sRN]
  · rw [y_up2 (by omega), y_up2 (by omega)]
    exact h.2.2.2.2.2.2.2.1 k (by have : k < n := hk; omega)
  · rw [y_up2 (by omega), y_up2 (by omega)]
    exact h.2.2.2.2.2.2.2.2
theorem k_end (h : Sim B i σ) (hs : Sc B i L j) (hO : am_K B 892 = 22 ∧ am_L B 892 = 1) : Stq B i d 345 j := by
  have hl := h.2.2.2.2.2.1
  by_cases g : ¬ i 0 (j + 1) < 0 ∧ ¬ Int32.ofNat σ.2.2.2.2.2.1 < i 0 (j + 1)
  · obtain ⟨n, e, hn⟩ := z_le σ.2.2.2.2.2.1 (by omega) g.1 g.2
    exact kk_1 (σ' := (σ.1, σ.2.1, σ.2.2.1, σ.2.2.2.1, σ.2.2.2.2.1, n, σ.2.2.2.2.2.2)) h hs hO ⟨h.2.2.1, h.2.2.2.1, h.2.2.2.2.1, by show n ≤ 400; omega, fun k hk => h.2.2.2.2.2.2 k (Nat.lt_of_lt_of_le hk hn)⟩ (by rw [e]; exact f_end (d := d + 49) h.1 hn hl) fun B0 i0 h0 => by rw [e]; exact m_end (d := d + 49) h0 hn hl
  · exact kk_1 h hs hO h.2.2 (f_end0 (d := d + 49) h.1 g) fun B0 i0 h0 => m_end0 (d := d + 49) h0 g
end Five
