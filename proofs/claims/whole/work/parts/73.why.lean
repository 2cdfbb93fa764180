/-! WHICH LINE LETS, AS THE MODEL ASKS; MAY, WHY: made by wip/whole/math/73.py. -/
section Why
variable {B : am_A} {i j : Nat → Nat → Int32} {σ : Sg} {w wt : Nat → Int32} {L d b : Nat} {fc : Fct} {x y z : Int32}
theorem lp_fsts {α β : Type} (H : Nat → α → β) (c : Nat → Bool) (R : Nat → α → β) (I : α → Prop) (n : Nat) (step : ∀ k s, k < n → I s → ∃ s', I s' ∧ H k s = if c k = true then R k s' else H (k + 1) s') (s : α) (h0 : I s) : ∃ s', I s' ∧ H 0 s = match fst0 c n with
    | some k => R k s'
    | none => H n s' := by
  have : ∀ m, m ≤ n → ∃ s', I s' ∧ H 0 s = match fst0 c m with
    | some k => R k s'
    | none => H m s' := by
    intro m
    induction m with
    | zero => exact fun _ => ⟨s, h0, rfl⟩
    | succ m ih =>
      intro h
      obtain ⟨s', hs', e⟩ := ih (by omega)
      rw [fst0_s]
      cases ef : fst0 c m with
      | some k =>
        rw [ef] at e
        exact ⟨s', hs', e⟩
      | none =>
        rw [ef] at e
        dsimp only at e ⊢
        obtain ⟨s2, h2, e2⟩ := step m s' (by omega) hs'
        refine ⟨s2, h2, e.trans (e2.trans ?_)⟩
        cases c m
        · simp only [Bool.false_eq_true, ↓reduceIte]
        · simp only [↓reduceIte]
  exact this n (Nat.le_refl n)
theorem m_looks {s : Nat} (hM : Md B) (hw : ∀ z, z < 12042 → i 875 z = w z) (hs : s < 8) (hg : isc w 3019 8) : ∃ j, am_fx am_P (d + 3) 61 0 [some (.ref 874), some (.int (Int32.ofNat s)), none] [] (am_wI B i) = some (.inl none, am_wI B j) ∧ (∀ k, k < 5 → j 880 k = if k = 3 then (if w (2622 + 49 * s + 3) = 1 then 1 else 0) else 0) ∧ (∀ m, m < 6 → j 881 m = if m = 5 then ngg w (Int32.ofNat s) else 0) ∧ ∀ q k, q ≠ 880 → q ≠ 881 → j q k = i q k := by
  obtain ⟨j1, E1, a1, f1⟩ := lp_inv (fun k j => am_fx am_P (d + 3) 61 2 [some (.ref 874), some (.int (Int32.ofNat s)), some (.int (Int32.ofNat k))] [] (am_wI B j)) (fun k j => (∀ m, m < k → j 880 m = 0) ∧ ∀ q m, q ≠ 880 → j q m = i q m) 5 (fun k j hk hI => by
    refine ⟨am_up2 j 880 k 0, ?_, fun m hm => ?_, fun q m hq => by rw [y_up2 (by omega)]; exact hI.2 q m hq⟩
    · rw [bk_61_2]
      simp (disch := omega) only [hM, y_ckd, y_ck2d, y_ond, y_onn, y_oI, y_oIx, y_oJ, y_oV, y_oVx, y_oR, y_oRn, y_oRx, y_b0, y_b1, y_bi, y_bid, y_wIK, y_wIL, y_wII, y_wIJ, y_wIR, y_wIN, y_wIw, y_sI, ↓reduceIte, Nat.reduceEqDiff, eq_self, true_or, or_true, false_or, or_false, and_true, true_and, false_and, and_false, not_true, not_false_eq_true, tf_T, tf_F, y_up1, y_up2, y_xx, y_nx, y_sJ, y_sR, Int32.reduceLT, y_nxK, y_nxL, y_nxR, y_sJK, y_sJL, y_sJR, y_sJN, y_sRK, y_sRL, y_sRN, Nat.add_zero, z_nat, z_lit, z_lit0, z_lit1, z_in0, z_in1, z_addl0, z_lt, z_ltl, z_llt, z_inj, z_injl, z_add, z_addl, z_ladd, z_mul, z_mull, z_lmul, z_neg, z_negl, z_in, z_inl, z_ltT, z_ltF, z_eqF, z_10, z_01, z_litne, z_ne0, z_0ne, z_ne1, z_1ne, z_lt64, z_02, z_03, z_04, z_05, z_12, z_13, z_14, z_15, z_20, z_21, z_23, z_24, z_25, z_30, z_31, z_32, z_34, z_35, z_40, z_41, z_42, z_43, z_45, z_50, z_51, z_52, z_53, z_54]
    · by_cases e : m = k
      · rw [y_up1 rfl e]
      · rw [y_up2 (by omega)]
        exact hI.1 m (by omega)) i ⟨fun m hm => absurd hm (Nat.not_lt_zero m), fun _ _ _ => rfl⟩
  obtain ⟨j2, E2, a2, f2⟩ := lp_inv (fun k j => am_fx am_P (d + 3) 61 22 [some (.ref 874), some (.int (Int32.ofNat s)), some (.int (Int32.ofNat k))] [] (am_wI B j)) (fun k j => (∀ m, m < k → j 881 m = 0) ∧ ∀ q m, q ≠ 881 → j q m = j1 q m) 6 (fun k j hk hI => by
    refine ⟨am_up2 j 881 k 0, ?_, fun m hm => ?_, fun q m hq => by rw [y_up2 (by omega)]; exact hI.2 q m hq⟩
    · rw [bk_61_22]
      simp (disch := omega) only [hM, y_ckd, y_ck2d, y_ond, y_onn, y_oI, y_oIx, y_oJ, y_oV, y_oVx, y_oR, y_oRn, y_oRx, y_b0, y_b1, y_bi, y_bid, y_wIK, y_wIL, y_wII, y_wIJ, y_wIR, y_wIN, y_wIw, y_sI, ↓reduceIte, Nat.reduceEqDiff, eq_self, true_or, or_true, false_or, or_false, and_true, true_and, false_and, and_false, not_true, not_false_eq_true, tf_T, tf_F, y_up1, y_up2, y_xx, y_nx, y_sJ, y_sR, Int32.reduceLT, y_nxK, y_nxL, y_nxR, y_sJK, y_sJL, y_sJR, y_sJN, y_sRK, y_sRL, y_sRN, Nat.add_zero, z_nat, z_lit, z_lit0, z_lit1, z_in0, z_in1, z_addl0, z_lt, z_ltl, z_llt, z_inj, z_injl, z_add, z_addl, z_ladd, z_mul, z_mull, z_lmul, z_neg, z_negl, z_in, z_inl, z_ltT, z_ltF, z_eqF, z_10, z_01, z_litne, z_ne0, z_0ne, z_ne1, z_1ne, z_lt64, z_02, z_03, z_04, z_05, z_12, z_13, z_14, z_15, z_20, z_21, z_23, z_24, z_25, z_30, z_31, z_32, z_34, z_35, z_40, z_41, z_42, z_43, z_45, z_50, z_51, z_52, z_53, z_54]
    · by_cases e : m = k
      · rw [y_up1 rfl e]
      · rw [y_up2 (by omega)]
        exact hI.1 m (by omega)) j1 ⟨fun m hm => absurd hm (Nat.not_lt_zero m), fun _ _ _ => rfl⟩
  have hw2 : ∀ v : Int32, ∀ z, z < 12042 → am_up2 j2 880 3 v 875 z = w z := fun v z hz => by rw [y_up2 (by omega), f2 _ _ (by omega), f1 _ _ (by omega)]; exact hw z hz
  have q3 : j2 875 (2622 + 49 * s + 3) = w (2622 + 49 * s + 3) := by rw [f2 _ _ (by omega), f1 _ _ (by omega)]; exact hw _ (by omega)
  have hgo := fun v => m_gangsOn (d := d) (x := Int32.ofNat s) hM (hw2 v) hg
  refine ⟨am_up2 (am_up2 j2 880 3 (if w (2622 + 49 * s + 3) = 1 then 1 else 0)) 881 5 (ngg w (Int32.ofNat s)), ?_, fun k hk => ?_, fun m hm => ?_, fun q k h1 h2 => by rw [y_up2 (by omega), y_up2 (by omega), f2 _ _ h2, f1 _ _ h1]⟩
  · rw [bk_61_0]
    refine E1.trans ?_
    rw [bk_61_2]
    simp (disch := omega) only [hM, y_ckd, y_ck2d, y_ond, y_onn, y_oI, y_oIx, y_oJ, y_oV, y_oVx, y_oR, y_oRn, y_oRx, y_b0, y_b1, y_bi, y_bid, y_wIK, y_wIL, y_wII, y_wIJ, y_wIR, y_wIN, y_wIw, y_sI, ↓reduceIte, Nat.reduceEqDiff, eq_self, true_or, or_true, false_or, or_false, and_true, true_and, false_and, and_false, not_true, not_false_eq_true, tf_T, tf_F, y_up1, y_up2, y_xx, y_nx, y_sJ, y_sR, Int32.reduceLT, y_nxK, y_nxL, y_nxR, y_sJK, y_sJL, y_sJR, y_sJN, y_sRK, y_sRL, y_sRN, Nat.add_zero, z_nat, z_lit, z_lit0, z_lit1, z_in0, z_in1, z_addl0, z_lt, z_ltl, z_llt, z_inj, z_injl, z_add, z_addl, z_ladd, z_mul, z_mull, z_lmul, z_neg, z_negl, z_in, z_inl, z_ltT, z_ltF, z_eqF, z_10, z_01, z_litne, z_ne0, z_0ne, z_ne1, z_1ne, z_lt64, z_02, z_03, z_04, z_05, z_12, z_13, z_14, z_15, z_20, z_21, z_23, z_24, z_25, z_30, z_31, z_32, z_34, z_35, z_40, z_41, z_42, z_43, z_45, z_50, z_51, z_52, z_53, z_54]
    refine E2.trans ?_
    rw [bk_61_22]
    by_cases g : w (2622 + 49 * s + 3) = 1
    · simp (disch := omega) only [(fun d x0 x1 x2 B i => bk_67_0 d x0 x1 x2 (am_wI B i)), (fun d x0 x1 B i => bk_66_0 d x0 x1 (am_wI B i)), (fun d x0 x1 s0 s1 s2 B i => bk_61_61 d x0 x1 s0 s1 s2 (am_wI B i)), q3, g, hgo, hM, y_ckd, y_ck2d, y_ond, y_onn, y_oI, y_oIx, y_oJ, y_oV, y_oVx, y_oR, y_oRn, y_oRx, y_b0, y_b1, y_bi, y_bid, y_wIK, y_wIL, y_wII, y_wIJ, y_wIR, y_wIN, y_wIw, y_sI, ↓reduceIte, Nat.reduceEqDiff, eq_self, true_or, or_true, false_or, or_false, and_true, true_and, false_and, and_false, not_true, not_false_eq_true, tf_T, tf_F, y_up1, y_up2, y_xx, y_nx, y_sJ, y_sR, Int32.reduceLT, y_nxK, y_nxL, y_nxR, y_sJK, y_sJL, y_sJR, y_sJN, y_sRK, y_sRL, y_sRN, Nat.add_zero, z_nat, z_lit, z_lit0, z_lit1, z_in0, z_in1, z_addl0, z_lt, z_ltl, z_llt, z_inj, z_injl, z_add, z_addl, z_ladd, z_mul, z_mull, z_lmul, z_neg, z_negl, z_in, z_inl, z_ltT, z_ltF, z_eqF, z_10, z_01, z_litne, z_ne0, z_0ne, z_ne1, z_1ne, z_lt64, z_02, z_03, z_04, z_05, z_12, z_13, z_14, z_15, z_20, z_21, z_23, z_24, z_25, z_30, z_31, z_32, z_34, z_35, z_40, z_41, z_42, z_43, z_45, z_50, z_51, z_52, z_53, z_54]
    · simp (disch := omega) only [(fun d x0 x1 x2 B i => bk_67_0 d x0 x1 x2 (am_wI B i)), (fun d x0 x1 B i => bk_66_0 d x0 x1 (am_wI B i)), (fun d x0 x1 s0 s1 s2 B i => bk_61_61 d x0 x1 s0 s1 s2 (am_wI B i)), q3, g, hgo, hM, y_ckd, y_ck2d, y_ond, y_onn, y_oI, y_oIx, y_oJ, y_oV, y_oVx, y_oR, y_oRn, y_oRx, y_b0, y_b1, y_bi, y_bid, y_wIK, y_wIL, y_wII, y_wIJ, y_wIR, y_wIN, y_wIw, y_sI, ↓reduceIte, Nat.reduceEqDiff, eq_self, true_or, or_true, false_or, or_false, and_true, true_and, false_and, and_false, not_true, not_false_eq_true, tf_T, tf_F, y_up1, y_up2, y_xx, y_nx, y_sJ, y_sR, Int32.reduceLT, y_nxK, y_nxL, y_nxR, y_sJK, y_sJL, y_sJR, y_sJN, y_sRK, y_sRL, y_sRN, Nat.add_zero, z_nat, z_lit, z_lit0, z_lit1, z_in0, z_in1, z_addl0, z_lt, z_ltl, z_llt, z_inj, z_injl, z_add, z_addl, z_ladd, z_mul, z_mull, z_lmul, z_neg, z_negl, z_in, z_inl, z_ltT, z_ltF, z_eqF, z_10, z_01, z_litne, z_ne0, z_0ne, z_ne1, z_1ne, z_lt64, z_02, z_03, z_04, z_05, z_12, z_13, z_14, z_15, z_20, z_21, z_23, z_24, z_25, z_30, z_31, z_32, z_34, z_35, z_40, z_41, z_42, z_43, z_45, z_50, z_51, z_52, z_53, z_54]
  · rw [y_up2 (by omega)]
    by_cases e : k = 3
    · rw [y_up1 rfl e, if_pos e]
    · rw [y_up2 (by omega), f2 _ _ (by omega), if_neg e]
      exact a1 k hk
  · by_cases e : m = 5
    · rw [y_up1 rfl e, if_pos e]
    · rw [y_up2 (by omega), y_up2 (by omega), if_neg e]
      exact a2 m hm
theorem m_whyP {p s : Nat} (hM : Md B) (hw : ∀ z, z < 12042 → i 875 z = w z) (hp : p < 120) (hs : s < 8) (hg : isc w 3019 8) : ∃ j, am_fx am_P (d + 4) 62 0 [some (.ref 874), some (.int (Int32.ofNat p)), some (.int (Int32.ofNat s)), some (.int x), none] [] (am_wI B i) = am_fx am_P (d + 4) 62 146 [some (.ref 874), some (.int (Int32.ofNat p)), none, some (.int x), some (.int 0)] [] (am_wI B j) ∧ (∀ k, k < 5 → j 880 k = if (fctP w p s).1 k = true then 1 else 0) ∧ (∀ m, m < 6 → j 881 m = (fctP w p s).2 m) ∧ ∀ q k, q ≠ 880 → q ≠ 881 → j q k = i q k := by
  obtain ⟨j0, E0, t0, u0, f0⟩ := m_looks (d := d) hM hw hs hg
  obtain ⟨j1, E1, a1, c1, f1⟩ := lp_inv (fun k j => am_fx am_P (d + 4) 62 8 [some (.ref 874), some (.int (Int32.ofNat p)), none, some (.int x), some (.int (Int32.ofNat k))] [] (am_wI B j)) (fun k j => (∀ m, m < k → j 880 m = if ¬ w (461 + 18 * p) = 3 ∧ w (461 + 18 * p + 5) = Int32.ofNat m then 1 else 0) ∧ (∀ m, 3 ≤ m → j 880 m = j0 880 m) ∧ ∀ q m, q ≠ 880 → j q m = j0 q m) 3 (fun k j hk hI => by
    obtain ⟨hI1, hI2, hI3⟩ := hI
    have q0 : j 875 (461 + 18 * p) = w (461 + 18 * p) := by rw [hI3 _ _ (by omega), f0 _ _ (by omega) (by omega)]; exact hw _ (by omega)
    have q5 : j 875 (461 + 18 * p + 5) = w (461 + 18 * p + 5) := by rw [hI3 _ _ (by omega), f0 _ _ (by omega) (by omega)]; exact hw _ (by omega)
    refine ⟨am_up2 j 880 k (if ¬ w (461 + 18 * p) = 3 ∧ w (461 + 18 * p + 5) = Int32.ofNat k then 1 else 0), ?_, fun m hm => ?_, fun m hm => by rw [y_up2 (by omega)]; exact hI2 m hm, fun q m hq => by rw [y_up2 (by omega)]; exact hI3 q m hq⟩
    · rw [bk_62_8]
      by_cases g : w (461 + 18 * p) = 3
      · rw [if_neg (c := ¬ w (461 + 18 * p) = 3 ∧ w (461 + 18 * p + 5) = Int32.ofNat k) (fun q => q.1 g)]
        simp (disch := omega) only [(fun d x0 x1 x2 B i => bk_24_0 d x0 x1 x2 (am_wI B i)), (fun d x0 x1 B i => bk_23_0 d x0 x1 (am_wI B i)), (fun d x0 x1 x3 x4 s0 s1 B i => bk_62_45 d x0 x1 x3 x4 s0 s1 (am_wI B i)), q0, q5, g, hM, y_ckd, y_ck2d, y_ond, y_onn, y_oI, y_oIx, y_oJ, y_oV, y_oVx, y_oR, y_oRn, y_oRx, y_b0, y_b1, y_bi, y_bid, y_wIK, y_wIL, y_wII, y_wIJ, y_wIR, y_wIN, y_wIw, y_sI, ↓reduceIte, Nat.reduceEqDiff, eq_self, true_or, or_true, false_or, or_false, and_true, true_and, false_and, and_false, not_true, not_false_eq_true, tf_T, tf_F, y_up1, y_up2, y_xx, y_nx, y_sJ, y_sR, Int32.reduceLT, y_nxK, y_nxL, y_nxR, y_sJK, y_sJL, y_sJR, y_sJN, y_sRK, y_sRL, y_sRN, Nat.add_zero, z_nat, z_lit, z_lit0, z_lit1, z_in0, z_in1, z_addl0, z_lt, z_ltl, z_llt, z_inj, z_injl, z_add, z_addl, z_ladd, z_mul, z_mull, z_lmul, z_neg, z_negl, z_in, z_inl, z_ltT, z_ltF, z_eqF, z_10, z_01, z_litne, z_ne0, z_0ne, z_ne1, z_1ne, z_lt64, z_02, z_03, z_04, z_05, z_12, z_13, z_14, z_15, z_20, z_21, z_23, z_24, z_25, z_30, z_31, z_32, z_34, z_35, z_40, z_41, z_42, z_43, z_45, z_50, z_51, z_52, z_53, z_54]
      · by_cases g2 : w (461 + 18 * p + 5) = Int32.ofNat k
        · rw [if_pos (c := ¬ w (461 + 18 * p) = 3 ∧ w (461 + 18 * p + 5) = Int32.ofNat k) ⟨g, g2⟩]
          simp (disch := omega) only [(fun d x0 x1 x2 B i => bk_24_0 d x0 x1 x2 (am_wI B i)), (fun d x0 x1 B i => bk_23_0 d x0 x1 (am_wI B i)), (fun d x0 x1 x3 x4 s0 s1 B i => bk_62_45 d x0 x1 x3 x4 s0 s1 (am_wI B i)), q0, q5, g, g2, hM, y_ckd, y_ck2d, y_ond, y_onn, y_oI, y_oIx, y_oJ, y_oV, y_oVx, y_oR, y_oRn, y_oRx, y_b0, y_b1, y_bi, y_bid, y_wIK, y_wIL, y_wII, y_wIJ, y_wIR, y_wIN, y_wIw, y_sI, ↓reduceIte, Nat.reduceEqDiff, eq_self, true_or, or_true, false_or, or_false, and_true, true_and, false_and, and_false, not_true, not_false_eq_true, tf_T, tf_F, y_up1, y_up2, y_xx, y_nx, y_sJ, y_sR, Int32.reduceLT, y_nxK, y_nxL, y_nxR, y_sJK, y_sJL, y_sJR, y_sJN, y_sRK, y_sRL, y_sRN, Nat.add_zero, z_nat, z_lit, z_lit0, z_lit1, z_in0, z_in1, z_addl0, z_lt, z_ltl, z_llt, z_inj, z_injl, z_add, z_addl, z_ladd, z_mul, z_mull, z_lmul, z_neg, z_negl, z_in, z_inl, z_ltT, z_ltF, z_eqF, z_10, z_01, z_litne, z_ne0, z_0ne, z_ne1, z_1ne, z_lt64, z_02, z_03, z_04, z_05, z_12, z_13, z_14, z_15, z_20, z_21, z_23, z_24, z_25, z_30, z_31, z_32, z_34, z_35, z_40, z_41, z_42, z_43, z_45, z_50, z_51, z_52, z_53, z_54]
        · rw [if_neg (c := ¬ w (461 + 18 * p) = 3 ∧ w (461 + 18 * p + 5) = Int32.ofNat k) (fun q => g2 q.2)]
          simp (disch := omega) only [(fun d x0 x1 x2 B i => bk_24_0 d x0 x1 x2 (am_wI B i)), (fun d x0 x1 B i => bk_23_0 d x0 x1 (am_wI B i)), (fun d x0 x1 x3 x4 s0 s1 B i => bk_62_45 d x0 x1 x3 x4 s0 s1 (am_wI B i)), q0, q5, g, g2, hM, y_ckd, y_ck2d, y_ond, y_onn, y_oI, y_oIx, y_oJ, y_oV, y_oVx, y_oR, y_oRn, y_oRx, y_b0, y_b1, y_bi, y_bid, y_wIK, y_wIL, y_wII, y_wIJ, y_wIR, y_wIN, y_wIw, y_sI, ↓reduceIte, Nat.reduceEqDiff, eq_self, true_or, or_true, false_or, or_false, and_true, true_and, false_and, and_false, not_true, not_false_eq_true, tf_T, tf_F, y_up1, y_up2, y_xx, y_nx, y_sJ, y_sR, Int32.reduceLT, y_nxK, y_nxL, y_nxR, y_sJK, y_sJL, y_sJR, y_sJN, y_sRK, y_sRL, y_sRN, Nat.add_zero, z_nat, z_lit, z_lit0, z_lit1, z_in0, z_in1, z_addl0, z_lt, z_ltl, z_llt, z_inj, z_injl, z_add, z_addl, z_ladd, z_mul, z_mull, z_lmul, z_neg, z_negl, z_in, z_inl, z_ltT, z_ltF, z_eqF, z_10, z_01, z_litne, z_ne0, z_0ne, z_ne1, z_1ne, z_lt64, z_02, z_03, z_04, z_05, z_12, z_13, z_14, z_15, z_20, z_21, z_23, z_24, z_25, z_30, z_31, z_32, z_34, z_35, z_40, z_41, z_42, z_43, z_45, z_50, z_51, z_52, z_53, z_54]
    · by_cases e : m = k
      · rw [y_up1 rfl e, e]
      · rw [y_up2 (by omega)]
        exact hI1 m (by omega)) j0 ⟨fun m hm => absurd hm (Nat.not_lt_zero m), fun _ _ => rfl, fun _ _ _ => rfl⟩
  have hq : ∀ z, z < 12042 → j1 875 z = w z := fun z hz => by rw [f1 _ _ (by omega), f0 _ _ (by omega) (by omega)]; exact hw z hz
  have e16 := hq (461 + 18 * p + 16) (by omega)
  have e6 := hq (461 + 18 * p + 6) (by omega)
  have e8 := hq (461 + 18 * p + 8) (by omega)
  have e3 := hq (461 + 18 * p + 3) (by omega)
  have e2 := hq (461 + 18 * p + 2) (by omega)
  have e10 := hq (461 + 18 * p + 10) (by omega)
  have e0 := hq 0 (by omega)
  refine ⟨am_up2 (am_up2 (am_up2 (am_up2 (am_up2 (am_up2 j1 880 4 (if w (461 + 18 * p + 16) = 1 then 1 else 0)) 881 0 (w (461 + 18 * p + 6))) 881 1 (w (461 + 18 * p + 8))) 881 2 (w (461 + 18 * p + 3))) 881 3 (w (461 + 18 * p + 2))) 881 4 (w 0 - w (461 + 18 * p + 10)), ?_, fun k hk => ?_, fun m hm => ?_, fun q k h1 h2 => by simp (disch := omega) only [y_up2]; rw [f1 _ _ h1, f0 _ _ h1 h2]⟩
  · rw [bk_62_0]
    simp (disch := omega) only [E0, hM, y_ckd, y_ck2d, y_ond, y_onn, y_oI, y_oIx, y_oJ, y_oV, y_oVx, y_oR, y_oRn, y_oRx, y_b0, y_b1, y_bi, y_bid, y_wIK, y_wIL, y_wII, y_wIJ, y_wIR, y_wIN, y_wIw, y_sI, ↓reduceIte, Nat.reduceEqDiff, eq_self, true_or, or_true, false_or, or_false, and_true, true_and, false_and, and_false, not_true, not_false_eq_true, tf_T, tf_F, y_up1, y_up2, y_xx, y_nx, y_sJ, y_sR, Int32.reduceLT, y_nxK, y_nxL, y_nxR, y_sJK, y_sJL, y_sJR, y_sJN, y_sRK, y_sRL, y_sRN, Nat.add_zero, z_nat, z_lit, z_lit0, z_lit1, z_in0, z_in1, z_addl0, z_lt, z_ltl, z_llt, z_inj, z_injl, z_add, z_addl, z_ladd, z_mul, z_mull, z_lmul, z_neg, z_negl, z_in, z_inl, z_ltT, z_ltF, z_eqF, z_10, z_01, z_litne, z_ne0, z_0ne, z_ne1, z_1ne, z_lt64, z_02, z_03, z_04, z_05, z_12, z_13, z_14, z_15, z_20, z_21, z_23, z_24, z_25, z_30, z_31, z_32, z_34, z_35, z_40, z_41, z_42, z_43, z_45, z_50, z_51, z_52, z_53, z_54]
    refine E1.trans ?_
    rw [bk_62_8]
    by_cases g : w (461 + 18 * p + 16) = 1
    · simp (maxSteps := 1000000) (disch := omega) only [(fun d x0 x1 x2 B i => bk_24_0 d x0 x1 x2 (am_wI B i)), (fun d x0 x1 B i => bk_23_0 d x0 x1 (am_wI B i)), (fun d x0 B i => bk_13_0 d x0 (am_wI B i)), (fun d x0 x1 x3 s0 s1 s2 B i => bk_62_74 d x0 x1 x3 s0 s1 s2 (am_wI B i)), (fun d x0 x1 x3 B i => bk_62_125 d x0 x1 x3 (am_wI B i)), e16, e6, e8, e3, e2, e10, e0, g, hM, y_ckd, y_ck2d, y_ond, y_onn, y_oI, y_oIx, y_oJ, y_oV, y_oVx, y_oR, y_oRn, y_oRx, y_b0, y_b1, y_bi, y_bid, y_wIK, y_wIL, y_wII, y_wIJ, y_wIR, y_wIN, y_wIw, y_sI, ↓reduceIte, Nat.reduceEqDiff, eq_self, true_or, or_true, false_or, or_false, and_true, true_and, false_and, and_false, not_true, not_false_eq_true, tf_T, tf_F, y_up1, y_up2, y_xx, y_nx, y_sJ, y_sR, Int32.reduceLT, y_nxK, y_nxL, y_nxR, y_sJK, y_sJL, y_sJR, y_sJN, y_sRK, y_sRL, y_sRN, Nat.add_zero, z_nat, z_lit, z_lit0, z_lit1, z_in0, z_in1, z_addl0, z_lt, z_ltl, z_llt, z_inj, z_injl, z_add, z_addl, z_ladd, z_mul, z_mull, z_lmul, z_neg, z_negl, z_in, z_inl, z_ltT, z_ltF, z_eqF, z_10, z_01, z_litne, z_ne0, z_0ne, z_ne1, z_1ne, z_lt64, z_02, z_03, z_04, z_05, z_12, z_13, z_14, z_15, z_20, z_21, z_23, z_24, z_25, z_30, z_31, z_32, z_34, z_35, z_40, z_41, z_42, z_43, z_45, z_50, z_51, z_52, z_53, z_54]
    · simp (maxSteps := 1000000) (disch := omega) only [(fun d x0 x1 x2 B i => bk_24_0 d x0 x1 x2 (am_wI B i)), (fun d x0 x1 B i => bk_23_0 d x0 x1 (am_wI B i)), (fun d x0 B i => bk_13_0 d x0 (am_wI B i)), (fun d x0 x1 x3 s0 s1 s2 B i => bk_62_74 d x0 x1 x3 s0 s1 s2 (am_wI B i)), (fun d x0 x1 x3 B i => bk_62_125 d x0 x1 x3 (am_wI B i)), e16, e6, e8, e3, e2, e10, e0, g, hM, y_ckd, y_ck2d, y_ond, y_onn, y_oI, y_oIx, y_oJ, y_oV, y_oVx, y_oR, y_oRn, y_oRx, y_b0, y_b1, y_bi, y_bid, y_wIK, y_wIL, y_wII, y_wIJ, y_wIR, y_wIN, y_wIw, y_sI, ↓reduceIte, Nat.reduceEqDiff, eq_self, true_or, or_true, false_or, or_false, and_true, true_and, false_and, and_false, not_true, not_false_eq_true, tf_T, tf_F, y_up1, y_up2, y_xx, y_nx, y_sJ, y_sR, Int32.reduceLT, y_nxK, y_nxL, y_nxR, y_sJK, y_sJL, y_sJR, y_sJN, y_sRK, y_sRL, y_sRN, Nat.add_zero, z_nat, z_lit, z_lit0, z_lit1, z_in0, z_in1, z_addl0, z_lt, z_ltl, z_llt, z_inj, z_injl, z_add, z_addl, z_ladd, z_mul, z_mull, z_lmul, z_neg, z_negl, z_in, z_inl, z_ltT, z_ltF, z_eqF, z_10, z_01, z_litne, z_ne0, z_0ne, z_ne1, z_1ne, z_lt64, z_02, z_03, z_04, z_05, z_12, z_13, z_14, z_15, z_20, z_21, z_23, z_24, z_25, z_30, z_31, z_32, z_34, z_35, z_40, z_41, z_42, z_43, z_45, z_50, z_51, z_52, z_53, z_54]
  · have h5 : k = 0 ∨ k = 1 ∨ k = 2 ∨ k = 3 ∨ k = 4 := by omega
    have hd : ∀ c : Prop, [Decidable c] → (if c then (1 : Int32) else 0) = if decide c = true then 1 else 0 := fun c _ => by
      by_cases g : c
      · rw [if_pos g, if_pos (decide_eq_true g)]
      · rw [if_neg g, if_neg (by rw [decide_eq_false g]; exact Bool.false_ne_true)]
    rcases h5 with rfl | rfl | rfl | rfl | rfl
    · simp (disch := omega) only [y_up2]
      exact (a1 0 (by omega)).trans (hd _)
    · simp (disch := omega) only [y_up2]
      exact (a1 1 (by omega)).trans (hd _)
    · simp (disch := omega) only [y_up2]
      exact (a1 2 (by omega)).trans (hd _)
    · simp (disch := omega) only [y_up2]
      exact ((c1 3 (by omega)).trans (t0 3 (by omega))).trans (hd _)
    · simp (disch := omega) only [y_up1, y_up2]
      exact hd _
  · have h5 : m = 0 ∨ m = 1 ∨ m = 2 ∨ m = 3 ∨ m = 4 ∨ m = 5 := by omega
    rcases h5 with rfl | rfl | rfl | rfl | rfl | rfl
    · simp (disch := omega) only [y_up1, y_up2]
      rfl
    · simp (disch := omega) only [y_up1, y_up2]
      rfl
    · simp (disch := omega) only [y_up1, y_up2]
      rfl
    · simp (disch := omega) only [y_up1, y_up2]
      rfl
    · simp (disch := omega) only [y_up1]
      rfl
    · simp (disch := omega) only [y_up2]
      exact (f1 _ _ (by omega)).trans (u0 5 (by omega))
theorem m_whyN {p s tt : Nat} (hM : Md B) (htt : tt ≤ 10) (hw : ∀ z, z < 12042 → i 875 z = w z) (hwt : ∀ z, 3542 + 850 * tt < z → z < 3542 + 850 * tt + 850 → i 875 z = wt z) (hW : TxW wt (3542 + 850 * tt)) (hp : p < 120) (hs : s < 8) (hg : isc w 3019 8) : ∃ j, am_fx am_P (d + 4) 62 0 [some (.ref 874), some (.int (Int32.ofNat p)), some (.int (Int32.ofNat s)), some (.int (Int32.ofNat tt)), none] [] (am_wI B i) = some (.inl (some (.int (whO wt (3542 + 850 * tt) (fctP w p s) (w (461 + 18 * p))))), am_wI B j) ∧ ∀ q k, q ≠ 880 → q ≠ 881 → q ≠ 882 → j q k = i q k := by
  have h12 := hW.2.1
  have n12 := h12.2
  obtain ⟨j0, E0, t0, u0, f0⟩ := m_whyP (d := d) (x := Int32.ofNat tt) hM hw hp hs hg
  obtain ⟨j, fj, E⟩ := lp_fsts (fun k j => am_fx am_P (d + 4) 62 146 [some (.ref 874), some (.int (Int32.ofNat p)), none, some (.int (Int32.ofNat tt)), some (.int (Int32.ofNat k))] [] (am_wI B j)) (ltl wt (3542 + 850 * tt) (fctP w p s) (w (461 + 18 * p))) (fun k j => some (.inl (some (.int (Int32.ofNat k))), am_wI B j)) (fun j => ∀ q k, q ≠ 882 → j q k = j0 q k) (cn wt (3542 + 850 * tt + 1)) (fun k j hk fj => by
    have hwj : ∀ z, 3542 + 850 * tt < z → z < 3542 + 850 * tt + 850 → j 875 z = wt z := fun z h1 h2 => by rw [fj _ _ (by omega), f0 _ _ (by omega) (by omega)]; exact hwt z h1 h2
    have e1 : j 875 (3542 + 850 * tt + 1) = Int32.ofNat (cn wt (3542 + 850 * tt + 1)) := (hwj _ (by omega) (by omega)).trans h12.1
    have e2 := hwj (3542 + 850 * tt + 2 + 4 * k) (by omega) (by omega)
    have e3 := hwj (3542 + 850 * tt + 2 + 4 * k + 1) (by omega) (by omega)
    have e4 : j 875 (461 + 18 * p) = w (461 + 18 * p) := by rw [fj _ _ (by omega), f0 _ _ (by omega) (by omega)]; exact hw _ (by omega)
    have tm : ¬ Int32.ofNat tt < 0 := by rw [z_neg (by omega)]; exact id
    by_cases g : wt (3542 + 850 * tt + 2 + 4 * k) = 0
    · by_cases g2 : wt (3542 + 850 * tt + 2 + 4 * k + 1) = w (461 + 18 * p)
      · obtain ⟨j', E', f'⟩ := m_holds (d := d + 1) (fc := fctP w p s) hM htt hwj hW hk (fun k hk => (fj _ _ (by omega)).trans (t0 k hk)) (fun m hm => (fj _ _ (by omega)).trans (u0 m hm))
        refine ⟨j', fun q k hq => (f' q k hq).trans (fj q k hq), ?_⟩
        rw [ltl2 g g2, bk_62_146]
        simp (maxSteps := 1000000) (disch := omega) only [(fun d x0 x1 B i => bk_58_0 d x0 x1 (am_wI B i)), (fun d x0 x1 B i => bk_48_0 d x0 x1 (am_wI B i)), (fun d x0 B i => bk_47_0 d x0 (am_wI B i)), (fun d x0 x1 x2 B i => bk_24_0 d x0 x1 x2 (am_wI B i)), (fun d x0 x1 B i => bk_23_0 d x0 x1 (am_wI B i)), (fun d x0 x1 x3 x4 B i => bk_62_192 d x0 x1 x3 x4 (am_wI B i)), tm, e1, e2, e3, e4, g, g2, E', b2_0, hM, y_ckd, y_ck2d, y_ond, y_onn, y_oI, y_oIx, y_oJ, y_oV, y_oVx, y_oR, y_oRn, y_oRx, y_b0, y_b1, y_bi, y_bid, y_wIK, y_wIL, y_wII, y_wIJ, y_wIR, y_wIN, y_wIw, y_sI, ↓reduceIte, Nat.reduceEqDiff, eq_self, true_or, or_true, false_or, or_false, and_true, true_and, false_and, and_false, not_true, not_false_eq_true, tf_T, tf_F, y_up1, y_up2, y_xx, y_nx, y_sJ, y_sR, Int32.reduceLT, y_nxK, y_nxL, y_nxR, y_sJK, y_sJL, y_sJR, y_sJN, y_sRK, y_sRL, y_sRN, Nat.add_zero, z_nat, z_lit, z_lit0, z_lit1, z_in0, z_in1, z_addl0, z_lt, z_ltl, z_llt, z_inj, z_injl, z_add, z_addl, z_ladd, z_mul, z_mull, z_lmul, z_neg, z_negl, z_in, z_inl, z_ltT, z_ltF, z_eqF, z_10, z_01, z_litne, z_ne0, z_0ne, z_ne1, z_1ne, z_lt64, z_02, z_03, z_04, z_05, z_12, z_13, z_14, z_15, z_20, z_21, z_23, z_24, z_25, z_30, z_31, z_32, z_34, z_35, z_40, z_41, z_42, z_43, z_45, z_50, z_51, z_52, z_53, z_54]
        cases hld wt (3542 + 850 * tt) (fctP w p s) k
        · simp only [Bool.false_eq_true, not_false_eq_true, ↓reduceIte]
        · simp only [not_true, ↓reduceIte]
      · refine ⟨j, fj, ?_⟩
        rw [ltl1 g2, bk_62_146]
        simp (maxSteps := 1000000) (disch := omega) only [(fun d x0 x1 B i => bk_58_0 d x0 x1 (am_wI B i)), (fun d x0 x1 B i => bk_48_0 d x0 x1 (am_wI B i)), (fun d x0 B i => bk_47_0 d x0 (am_wI B i)), (fun d x0 x1 x2 B i => bk_24_0 d x0 x1 x2 (am_wI B i)), (fun d x0 x1 B i => bk_23_0 d x0 x1 (am_wI B i)), tm, e1, e2, e3, e4, g, g2, Bool.false_eq_true, hM, y_ckd, y_ck2d, y_ond, y_onn, y_oI, y_oIx, y_oJ, y_oV, y_oVx, y_oR, y_oRn, y_oRx, y_b0, y_b1, y_bi, y_bid, y_wIK, y_wIL, y_wII, y_wIJ, y_wIR, y_wIN, y_wIw, y_sI, ↓reduceIte, Nat.reduceEqDiff, eq_self, true_or, or_true, false_or, or_false, and_true, true_and, false_and, and_false, not_true, not_false_eq_true, tf_T, tf_F, y_up1, y_up2, y_xx, y_nx, y_sJ, y_sR, Int32.reduceLT, y_nxK, y_nxL, y_nxR, y_sJK, y_sJL, y_sJR, y_sJN, y_sRK, y_sRL, y_sRN, Nat.add_zero, z_nat, z_lit, z_lit0, z_lit1, z_in0, z_in1, z_addl0, z_lt, z_ltl, z_llt, z_inj, z_injl, z_add, z_addl, z_ladd, z_mul, z_mull, z_lmul, z_neg, z_negl, z_in, z_inl, z_ltT, z_ltF, z_eqF, z_10, z_01, z_litne, z_ne0, z_0ne, z_ne1, z_1ne, z_lt64, z_02, z_03, z_04, z_05, z_12, z_13, z_14, z_15, z_20, z_21, z_23, z_24, z_25, z_30, z_31, z_32, z_34, z_35, z_40, z_41, z_42, z_43, z_45, z_50, z_51, z_52, z_53, z_54]
    · refine ⟨j, fj, ?_⟩
      rw [ltl0 g, bk_62_146]
      simp (maxSteps := 1000000) (disch := omega) only [(fun d x0 x1 B i => bk_58_0 d x0 x1 (am_wI B i)), (fun d x0 x1 B i => bk_48_0 d x0 x1 (am_wI B i)), (fun d x0 B i => bk_47_0 d x0 (am_wI B i)), (fun d x0 x1 x2 B i => bk_24_0 d x0 x1 x2 (am_wI B i)), (fun d x0 x1 B i => bk_23_0 d x0 x1 (am_wI B i)), tm, e1, e2, e3, e4, g, Bool.false_eq_true, hM, y_ckd, y_ck2d, y_ond, y_onn, y_oI, y_oIx, y_oJ, y_oV, y_oVx, y_oR, y_oRn, y_oRx, y_b0, y_b1, y_bi, y_bid, y_wIK, y_wIL, y_wII, y_wIJ, y_wIR, y_wIN, y_wIw, y_sI, ↓reduceIte, Nat.reduceEqDiff, eq_self, true_or, or_true, false_or, or_false, and_true, true_and, false_and, and_false, not_true, not_false_eq_true, tf_T, tf_F, y_up1, y_up2, y_xx, y_nx, y_sJ, y_sR, Int32.reduceLT, y_nxK, y_nxL, y_nxR, y_sJK, y_sJL, y_sJR, y_sJN, y_sRK, y_sRL, y_sRN, Nat.add_zero, z_nat, z_lit, z_lit0, z_lit1, z_in0, z_in1, z_addl0, z_lt, z_ltl, z_llt, z_inj, z_injl, z_add, z_addl, z_ladd, z_mul, z_mull, z_lmul, z_neg, z_negl, z_in, z_inl, z_ltT, z_ltF, z_eqF, z_10, z_01, z_litne, z_ne0, z_0ne, z_ne1, z_1ne, z_lt64, z_02, z_03, z_04, z_05, z_12, z_13, z_14, z_15, z_20, z_21, z_23, z_24, z_25, z_30, z_31, z_32, z_34, z_35, z_40, z_41, z_42, z_43, z_45, z_50, z_51, z_52, z_53, z_54]) j0 (fun _ _ _ => rfl)
  refine ⟨j, ?_, fun q k h1 h2 h3 => (fj q k h3).trans (f0 q k h1 h2)⟩
  refine E0.trans (E.trans ?_)
  unfold whO
  cases fst0 (ltl wt (3542 + 850 * tt) (fctP w p s) (w (461 + 18 * p))) (cn wt (3542 + 850 * tt + 1)) with
  | some k => rfl
  | none =>
    dsimp only
    have e1 : j 875 (3542 + 850 * tt + 1) = Int32.ofNat (cn wt (3542 + 850 * tt + 1)) := by rw [fj _ _ (by omega), f0 _ _ (by omega) (by omega)]; exact (hwt _ (by omega) (by omega)).trans h12.1
    have tm : ¬ Int32.ofNat tt < 0 := by rw [z_neg (by omega)]; exact id
    rw [bk_62_146]
    simp (disch := omega) only [(fun d x0 x1 B i => bk_58_0 d x0 x1 (am_wI B i)), (fun d x0 B i => bk_47_0 d x0 (am_wI B i)), tm, e1, hM, y_ckd, y_ck2d, y_ond, y_onn, y_oI, y_oIx, y_oJ, y_oV, y_oVx, y_oR, y_oRn, y_oRx, y_b0, y_b1, y_bi, y_bid, y_wIK, y_wIL, y_wII, y_wIJ, y_wIR, y_wIN, y_wIw, y_sI, ↓reduceIte, Nat.reduceEqDiff, eq_self, true_or, or_true, false_or, or_false, and_true, true_and, false_and, and_false, not_true, not_false_eq_true, tf_T, tf_F, y_up1, y_up2, y_xx, y_nx, y_sJ, y_sR, Int32.reduceLT, y_nxK, y_nxL, y_nxR, y_sJK, y_sJL, y_sJR, y_sJN, y_sRK, y_sRL, y_sRN, Nat.add_zero, z_nat, z_lit, z_lit0, z_lit1, z_in0, z_in1, z_addl0, z_lt, z_ltl, z_llt, z_inj, z_injl, z_add, z_addl, z_ladd, z_mul, z_mull, z_lmul, z_neg, z_negl, z_in, z_inl, z_ltT, z_ltF, z_eqF, z_10, z_01, z_litne, z_ne0, z_0ne, z_ne1, z_1ne, z_lt64, z_02, z_03, z_04, z_05, z_12, z_13, z_14, z_15, z_20, z_21, z_23, z_24, z_25, z_30, z_31, z_32, z_34, z_35, z_40, z_41, z_42, z_43, z_45, z_50, z_51, z_52, z_53, z_54]
theorem m_why0 {p s : Nat} (hM : Md B) (hw : ∀ z, z < 12042 → i 875 z = w z) (hp : p < 120) (hs : s < 8) (hg : isc w 3019 8) : ∃ j, am_fx am_P (d + 4) 62 0 [some (.ref 874), some (.int (Int32.ofNat p)), some (.int (Int32.ofNat s)), some (.int (-1)), none] [] (am_wI B i) = some (.inl (some (.int (-1))), am_wI B j) ∧ ∀ q k, q ≠ 880 → q ≠ 881 → q ≠ 882 → j q k = i q k := by
  obtain ⟨j0, E0, -, -, f0⟩ := m_whyP (d := d) (x := -1) hM hw hp hs hg
  refine ⟨j0, E0.trans ?_, fun q k h1 h2 _ => f0 q k h1 h2⟩
  rw [bk_62_146]
  simp (disch := omega) only [(fun d x0 x1 B i => bk_58_0 d x0 x1 (am_wI B i)), z_lm1, hM, y_ckd, y_ck2d, y_ond, y_onn, y_oI, y_oIx, y_oJ, y_oV, y_oVx, y_oR, y_oRn, y_oRx, y_b0, y_b1, y_bi, y_bid, y_wIK, y_wIL, y_wII, y_wIJ, y_wIR, y_wIN, y_wIw, y_sI, ↓reduceIte, Nat.reduceEqDiff, eq_self, true_or, or_true, false_or, or_false, and_true, true_and, false_and, and_false, not_true, not_false_eq_true, tf_T, tf_F, y_up1, y_up2, y_xx, y_nx, y_sJ, y_sR, Int32.reduceLT, y_nxK, y_nxL, y_nxR, y_sJK, y_sJL, y_sJR, y_sJN, y_sRK, y_sRL, y_sRN, Nat.add_zero, z_nat, z_lit, z_lit0, z_lit1, z_in0, z_in1, z_addl0, z_lt, z_ltl, z_llt, z_inj, z_injl, z_add, z_addl, z_ladd, z_mul, z_mull, z_lmul, z_neg, z_negl, z_in, z_inl, z_ltT, z_ltF, z_eqF, z_10, z_01, z_litne, z_ne0, z_0ne, z_ne1, z_1ne, z_lt64, z_02, z_03, z_04, z_05, z_12, z_13, z_14, z_15, z_20, z_21, z_23, z_24, z_25, z_30, z_31, z_32, z_34, z_35, z_40, z_41, z_42, z_43, z_45, z_50, z_51, z_52, z_53, z_54]
theorem m_why {p s : Nat} {t : Option Nat} (hM : Md B) (hw : ∀ z, z < 12042 → i 875 z = w z) (hX : WdX w) (ht : ∀ k, t = some k → k < cn w 3541 ∧ k < 10) (hp : p < 120) (hs : s < 8) (hg : isc w 3019 8) : ∃ j, am_fx am_P (d + 4) 62 0 [some (.ref 874), some (.int (Int32.ofNat p)), some (.int (Int32.ofNat s)), some (.int (txn t)), none] [] (am_wI B i) = some (.inl (some (.int (whT w p s t))), am_wI B j) ∧ ∀ q k, q ≠ 880 → q ≠ 881 → q ≠ 882 → j q k = i q k := by
  cases t with
  | none => exact m_why0 hM hw hp hs hg
  | some k =>
    obtain ⟨h1, h2⟩ := ht k rfl
    exact m_whyN hM (by omega) hw (fun z _ _ => hw z (by omega)) (hX k h1 h2) hp hs hg
end Why
