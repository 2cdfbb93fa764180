/-! CLOSERS, AND THE CALLS THAT SET ONE NUMBER -/
section Closers
variable {B : am_A} {i i' : Nat → Nat → Int32} {σ : Sg} {x : am_X} {v : Option Value} {w' : Nat → Int32}
theorem FRs_x {e : Nat} (h : CR B i σ) (hx : x = some (.inr e, am_wI (am_xx B 1 6) i)) : FRs B i σ x (.inr e) :=
  ⟨am_xx B 1 6, i, hx, CR_fr h Le.xx ⟨rfl, rfl, rfl⟩ (fun _ _ _ _ _ _ _ _ _ => rfl) (fun _ _ _ => rfl), Le.xx, ⟨Nat.add_le_add_left (by omega) _, Nat.add_le_add_left (by omega) _⟩, fun _ _ _ => rfl⟩
theorem FRs_0 (h : CR B i σ) (hx : x = some (.inl v, am_wI B i)) : FRs B i σ x (.inl v) := ⟨B, i, hx, h, Le.rf B, ⟨by omega, by omega⟩, fun _ _ _ => rfl⟩
theorem FRs_s (h : CR B i σ) (hx : x = some (.inl v, am_wI B i')) (hi : ∀ q k, (q < 67 ∨ 94 ≤ q) → (q = 65 → k = 1 ∨ k = 2) → (q = 101 → k ≠ 3) → q ≠ 104 → q ≠ 115 → q ≠ 125 → i' q k = i q k) : FRs B i σ x (.inl v) := by
  refine ⟨B, i', hx, CR_fr h (Le.rf B) ⟨rfl, rfl, rfl⟩ (fun q k _ a b c d e f => hi q k a b c d e f) (fun q a _ => ?_), Le.rf B, ⟨by omega, by omega⟩, fun q k _ => hi q k (by omega) (by omega) (by omega) (by omega) (by omega) (by omega)⟩
  funext k
  exact hi q k (by omega) (by omega) (by omega) (by omega) (by omega) (by omega)
theorem FRs_w (h : CR B i σ) (hx : x = some (.inl v, am_wI B i')) (hr : Rep B i' 94 w') (hi : ∀ q k, (q < 67 ∨ 354 ≤ q) → (q = 65 → k = 1 ∨ k = 2) → i' q k = i q k) : FRs B i (w', σ.2) x (.inl v) := by
  refine ⟨B, i', hx, CR_now h (Le.rf B) hr ⟨rfl, rfl⟩ (fun q k _ _ => hi q k (by omega) (by omega)) (fun q _ _ => ?_), Le.rf B, ⟨by omega, by omega⟩, fun q k _ => hi q k (by omega) (by omega)⟩
  funext k
  exact hi q k (by omega) (by omega)
theorem MRs_w {t : Int32} (h : MR B i σ) (hx : x = some (.inl v, am_wI B i')) (ht : i' 874 0 = t) (hw : ∀ s, s < 12042 → i' 875 s = w' s) (hi : ∀ q k, (q < 875 ∨ (876 ≤ q ∧ q < 879) ∨ 893 ≤ q) → (q = 874 → k = 4 ∨ k = 5 ∨ k = 7 ∨ k = 12) → i' q k = i q k) : MRs B i (w', σ.2) x v t :=
  ⟨B, i', hx, ht, MR_now h (Le.rf B) hw (fun q k _ => hi q k (by omega) (by omega)), Jq.rf B, fun q k _ => hi q k (by omega) (by omega)⟩
theorem MRs_s {t : Int32} (h : MR B i σ) (hx : x = some (.inl v, am_wI B i')) (ht : i' 874 0 = t) (hi : ∀ q k, (q < 879 ∨ 893 ≤ q) → (q = 874 → k = 4 ∨ k = 5 ∨ k = 7 ∨ k = 12) → i' q k = i q k) : MRs B i σ x v t :=
  ⟨B, i', hx, ht, MR_fr h (Le.rf B) (fun q k _ => hi q k (by omega) (by omega)), Jq.rf B, fun q k _ => hi q k (by omega) (by omega)⟩
theorem MRs_x {c : Int32} (h : MR B i σ) (hx : x = some (.inl v, am_wI B (am_up2 (am_up2 i 874 0 0) 874 0 c))) : MRs B i σ x v c := MRs_s h hx (y_up1 rfl rfl) (by intros; simp (disch := omega) only [y_up2])
theorem MRs_0 (h : MR B i σ) (hx : x = some (.inl v, am_wI B (am_up2 i 874 0 0))) : MRs B i σ x v 0 := MRs_s h hx (y_up1 rfl rfl) (by intros; simp (disch := omega) only [y_up2])
theorem MRs_1 {s : Nat} {u : Int32} (h : MR B i σ) (hx : x = some (.inl v, am_wI B (am_up2 (am_up2 i 874 0 0) 875 s u))) : MRs B i (wu σ.1 s u, σ.2) x v 0 := by
  refine MRs_w h hx (by rw [y_up2 (by omega), y_up1 rfl rfl]) (fun z hz => ?_) (by intros; simp (disch := omega) only [y_up2])
  by_cases e : z = s
  · rw [y_up1 rfl e, wu_at e]
  · rw [y_up2 (by omega), y_up2 (by omega), wu_ne e]
    exact h.2.1 z hz
end Closers
section Base
variable {B : am_A} {i : Nat → Nat → Int32} {σ : Sg} {L j d : Nat} {v u : Int32}
theorem f_sheds (h : CR B i σ) (g1 : ¬ v < 1) (g2 : ¬ 120 < v) : FRs B i (wu σ.1 1 v, σ.2) (am_fx am_P (d + 150) 297 0 [some (.ref 64), some (.int v)] [] (am_wI B i)) (.inl none) := by
  have hb := h.2.1.1
  refine FRs_w (i' := am_up2 i 94 6 v) h ?_ ?_ (by intros; simp (disch := omega) only [y_up2])
  · rw [bk_297_0]
    simp (disch := omega) only [c_within, c_ckN1, g1, g2, h.1.1.1, h.1.2.1.1, y_ckd, y_ck2d, y_ond, y_onn, y_oI, y_oIx, y_oJ, y_oV, y_oVx, y_oR, y_oRn, y_oRx, y_b0, y_b1, y_bi, y_bid, y_wIK, y_wIL, y_wII, y_wIJ, y_wIR, y_wIN, y_wIw, y_sI, ↓reduceIte, Nat.reduceEqDiff, eq_self, true_or, or_true, false_or, or_false, and_true, true_and, false_and, and_false, not_true, not_false_eq_true, tf_T, tf_F, y_up1, y_up2, y_xx, y_nx, y_sJ, y_sR, Int32.reduceLT, y_nxK, y_nxL, y_nxR, y_sJK, y_sJL, y_sJR, y_sJN, y_sRK, y_sRL, y_sRN]
  · refine Rep_base h.2.1 (Le.rf B) (by omega) rfl ?_ (by intros; simp (disch := omega) only [y_up2]) (by intros; simp (disch := omega) only [y_upr]) (by intros; simp (disch := omega) only [wu_ne])
    simp (disch := omega) only [RB, y_up1, y_up2, wu_at, wu_ne, hb, implies_true, and_self, true_and]
    exact ⟨hb.2.2.2.2.2.1, hb.2.2.2.2.2.2.1, hb.2.2.2.2.2.2.2.2⟩
theorem f_sheds_x (h : CR B i σ) (g : ¬ (¬ v < 1 ∧ ¬ 120 < v)) : FRs B i σ (am_fx am_P (d + 150) 297 0 [some (.ref 64), some (.int v)] [] (am_wI B i)) (.inr 2) := by
  refine FRs_x h ?_
  rw [bk_297_0]
  simp (disch := omega) only [c_within, c_ckN0, g, y_ckd, y_ck2d, y_ond, y_onn, y_oI, y_oIx, y_oJ, y_oV, y_oVx, y_oR, y_oRn, y_oRx, y_b0, y_b1, y_bi, y_bid, y_wIK, y_wIL, y_wII, y_wIJ, y_wIR, y_wIN, y_wIw, y_sI, ↓reduceIte, Nat.reduceEqDiff, eq_self, true_or, or_true, false_or, or_false, and_true, true_and, false_and, and_false, not_true, not_false_eq_true, tf_T, tf_F, y_up1, y_up2, y_xx, y_nx, y_sJ, y_sR, Int32.reduceLT, y_nxK, y_nxL, y_nxR, y_sJK, y_sJL, y_sJR, y_sJN, y_sRK, y_sRL, y_sRN]
theorem m_sheds (h : MR B i σ) (g1 : ¬ v < 1) (g2 : ¬ 120 < v) : MRs B i (wu σ.1 1 v, σ.2) (am_fx am_P (d + 150) 31 0 [some (.ref 874), some (.int v)] [] (am_wI B i)) none 0 := by
  refine MRs_1 h ?_
  have hM := h.1.1
  rw [bk_31_0]
  simp (disch := omega) only [(fun d x0 x1 s0 s1 B i => bk_31_21 d x0 x1 s0 s1 (am_wI B i)), m_in, m_thr0, g1, g2, hM, y_ckd, y_ck2d, y_ond, y_onn, y_oI, y_oIx, y_oJ, y_oV, y_oVx, y_oR, y_oRn, y_oRx, y_b0, y_b1, y_bi, y_bid, y_wIK, y_wIL, y_wII, y_wIJ, y_wIR, y_wIN, y_wIw, y_sI, ↓reduceIte, Nat.reduceEqDiff, eq_self, true_or, or_true, false_or, or_false, and_true, true_and, false_and, and_false, not_true, not_false_eq_true, tf_T, tf_F, y_up1, y_up2, y_xx, y_nx, y_sJ, y_sR, Int32.reduceLT, y_nxK, y_nxL, y_nxR, y_sJK, y_sJL, y_sJR, y_sJN, y_sRK, y_sRL, y_sRN, z_nat, z_lit, z_lit0, z_lit1, z_in0, z_in1, z_addl0, z_lt, z_ltl, z_llt, z_inj, z_injl, z_add, z_addl, z_ladd, z_mul, z_mull, z_lmul, z_neg, z_negl, z_in, z_inl, z_ltT, z_ltF, z_eqF, z_10, z_01, z_litne, z_ne0, z_0ne, z_ne1, z_1ne, z_lt64, z_02, z_03, z_04, z_05, z_12, z_13, z_14, z_15, z_20, z_21, z_23, z_24, z_25, z_30, z_31, z_32, z_34, z_35, z_40, z_41, z_42, z_43, z_45, z_50, z_51, z_52, z_53, z_54]
theorem m_sheds_x (h : MR B i σ) (g : ¬ (¬ v < 1 ∧ ¬ 120 < v)) : MRs B i σ (am_fx am_P (d + 150) 31 0 [some (.ref 874), some (.int v)] [] (am_wI B i)) none 1 := by
  refine MRs_x h ?_
  have hM := h.1.1
  rw [bk_31_0]
  simp (disch := omega) only [(fun d x0 x1 s0 s1 B i => bk_31_21 d x0 x1 s0 s1 (am_wI B i)), m_in, m_thr1 hM, g, hM, y_ckd, y_ck2d, y_ond, y_onn, y_oI, y_oIx, y_oJ, y_oV, y_oVx, y_oR, y_oRn, y_oRx, y_b0, y_b1, y_bi, y_bid, y_wIK, y_wIL, y_wII, y_wIJ, y_wIR, y_wIN, y_wIw, y_sI, ↓reduceIte, Nat.reduceEqDiff, eq_self, true_or, or_true, false_or, or_false, and_true, true_and, false_and, and_false, not_true, not_false_eq_true, tf_T, tf_F, y_up1, y_up2, y_xx, y_nx, y_sJ, y_sR, Int32.reduceLT, y_nxK, y_nxL, y_nxR, y_sJK, y_sJL, y_sJR, y_sJN, y_sRK, y_sRL, y_sRN, z_nat, z_lit, z_lit0, z_lit1, z_in0, z_in1, z_addl0, z_lt, z_ltl, z_llt, z_inj, z_injl, z_add, z_addl, z_ladd, z_mul, z_mull, z_lmul, z_neg, z_negl, z_in, z_inl, z_ltT, z_ltF, z_eqF, z_10, z_01, z_litne, z_ne0, z_0ne, z_ne1, z_1ne, z_lt64, z_02, z_03, z_04, z_05, z_12, z_13, z_14, z_15, z_20, z_21, z_23, z_24, z_25, z_30, z_31, z_32, z_34, z_35, z_40, z_41, z_42, z_43, z_45, z_50, z_51, z_52, z_53, z_54]
theorem k_sheds (h : Sim B i σ) (hs : Sc B i L j) (hO : am_K B 892 = 22 ∧ am_L B 892 = 1) : Stq B i d 708 j := by
  by_cases g : ¬ i 0 (j + 1) < 1 ∧ ¬ 120 < i 0 (j + 1)
  · refine kk_6 h hs hO (SW_now h.2.2 (Wd_base h.2.2.1 ?_ (by intros; simp (disch := omega) only [wu_ne]))) (f_sheds (d := d + 48) h.1 g.1 g.2) fun B0 i0 h0 => m_sheds (d := d + 49) h0 g.1 g.2
    intro k hk
    simp (disch := omega) only [wu_ne]
    exact h.2.2.1.2.1 k hk
  · exact kx_6_2 h hs hO (f_sheds_x (d := d + 48) h.1 g) fun B0 i0 h0 => m_sheds_x (d := d + 49) h0 g
end Base
