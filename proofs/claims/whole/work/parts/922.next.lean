/-! TEXTS ON THE TAPE, the class: words and numbers. Made by wip/whole/math/922.py. -/
/-- the thing at hand -/
def LD (N : Nat → Nat) (L b : Nat) (i : Nat → Nat → Int32) : Prop := i 65 3 = Int32.ofNat (tke N L b) ∧ i 65 4 = Int32.ofNat b ∧ i 65 5 = Int32.ofNat (tkn N L b) ∧ i 65 6 = Int32.ofNat (tkv N L b)
section Lex2
variable {B : am_A} {i : Nat → Nat → Int32} {N : Nat → Nat} {d L p b hi q n : Nat}
theorem c_next (hF : Fc B) (hc : CT N L i) (e3 : i 65 3 = Int32.ofNat p) (hp : p ≤ L) : ∃ j, am_fx am_P d 211 0 [some (.ref 65)] [] (am_wI B i) = some (.inl none, am_wI B j) ∧ LD N L (tb N L p) j ∧ (∀ q k, (q = 65 → k ≠ 3 ∧ k ≠ 4 ∧ k ≠ 5 ∧ k ≠ 6) → j q k = i q k) := by
  obtain ⟨j0, E0, a3, f0⟩ := c_nx0 (d := d) hF (L - p) p i (Nat.le_refl _) hp hc e3
  have bL : tb N L p ≤ L := rn_le hp
  have l400 := hc.2.1
  generalize hb : tb N L p = b at a3 bL
  have E38 : am_fx am_P d 211 38 [some (.ref 65)] [] (am_wI B j0) = am_fx am_P d 211 56 [some (.ref 65)] [] (am_wI B (am_up2 (am_up2 (am_up2 j0 65 4 (Int32.ofNat b)) 65 6 0) 65 5 0)) := by
    rw [bk_211_38]
    simp (disch := omega) only [bk_211_51, a3, hF, y_ckd, y_ck2d, y_ond, y_onn, y_oI, y_oIx, y_oJ, y_oV, y_oVx, y_oR, y_oRn, y_oRx, y_b0, y_b1, y_bi, y_bid, y_wIK, y_wIL, y_wII, y_wIJ, y_wIR, y_wIN, y_wIw, y_sI, ↓reduceIte, Nat.reduceEqDiff, eq_self, true_or, or_true, false_or, or_false, and_true, true_and, false_and, and_false, not_true, not_false_eq_true, tf_T, tf_F, y_up1, y_up2, y_xx, y_nx, y_sJ, y_sR, Int32.reduceLT, y_nxK, y_nxL, y_nxR, y_sJK, y_sJL, y_sJR, y_sJN, y_sRK, y_sRL, y_sRN, Nat.add_zero, z_nat, z_lit, z_lit0, z_lit1, z_in0, z_in1, z_addl0, z_lt, z_ltl, z_llt, z_inj, z_injl, z_add, z_addl, z_ladd, z_mul, z_mull, z_lmul, z_neg, z_negl, z_in, z_inl, z_ltT, z_ltF, z_eqF, z_10, z_01, z_litne, z_ne0, z_0ne, z_ne1, z_1ne, z_lt64, z_02, z_03, z_04, z_05, z_12, z_13, z_14, z_15, z_20, z_21, z_23, z_24, z_25, z_30, z_31, z_32, z_34, z_35, z_40, z_41, z_42, z_43, z_45, z_50, z_51, z_52, z_53, z_54]
  generalize ej1 : am_up2 (am_up2 (am_up2 j0 65 4 (Int32.ofNat b)) 65 6 0) 65 5 0 = j1 at E38
  have c1 : CT N L j1 := CT_fr hc (by rw [← ej1, y_up2 (by omega), y_up2 (by omega), y_up2 (by omega)]; exact f0 _ _ (by omega)) fun k => by rw [← ej1, y_up2 (by omega), y_up2 (by omega), y_up2 (by omega)]; exact f0 _ _ (by omega)
  have b3 : j1 65 3 = Int32.ofNat b := by rw [← ej1, y_up2 (by omega), y_up2 (by omega), y_up2 (by omega)]; exact a3
  have b4 : j1 65 4 = Int32.ofNat b := by rw [← ej1, y_up2 (by omega), y_up2 (by omega), y_up1 rfl rfl]
  have b5 : j1 65 5 = 0 := by rw [← ej1, y_up1 rfl rfl]
  have b6 : j1 65 6 = 0 := by rw [← ej1, y_up2 (by omega), y_up1 rfl rfl]
  have f1 : (∀ q k, (q = 65 → k ≠ 3 ∧ k ≠ 4 ∧ k ≠ 5 ∧ k ≠ 6) → j1 q k = i q k) := fun q k hq => by rw [← ej1, y_up2 (by omega), y_up2 (by omega), y_up2 (by omega)]; exact f0 q k (by omega)
  obtain ⟨j2, E2, g3, g5, g6, f2⟩ := c_nx56 (d := d) hF (L - b) b j1 (Nat.le_refl _) bL c1 b3
  have c2 : CT N L j2 := CT_fr c1 (f2 _ _ (by omega)) fun k => f2 _ _ (by omega)
  have h4 : j2 65 4 = Int32.ofNat b := (f2 _ _ (by omega)).trans b4
  have h6 : j2 65 6 = 0 := (f2 _ _ (by omega)).trans b6
  have f20 : (∀ q k, (q = 65 → k ≠ 3 ∧ k ≠ 4 ∧ k ≠ 5 ∧ k ≠ 6) → j2 q k = i q k) := fun q k hq => (f2 q k (by omega)).trans (f1 q k hq)
  rw [E0, E38, E2]
  by_cases gw : b < L ∧ 97 ≤ N b ∧ N b ≤ 122
  · have lb : b < lw N L b := by
      have : lw N L b = lw N L (b + 1) := rn_s gw
      have : b + 1 ≤ lw N L (b + 1) := rn_ge
      omega
    have ll : lw N L b ≤ L := rn_le bL
    have w5 := g5 lb
    have c21 := c2.1
    refine ⟨j2, ?_, ⟨?_, h4, ?_, ?_⟩, f20⟩
    · rw [bk_211_113]
      by_cases q : lw N L b < L
      · simp (disch := omega) only [bk_211_220, g3, w5, c21, q, hF, y_ckd, y_ck2d, y_ond, y_onn, y_oI, y_oIx, y_oJ, y_oV, y_oVx, y_oR, y_oRn, y_oRx, y_b0, y_b1, y_bi, y_bid, y_wIK, y_wIL, y_wII, y_wIJ, y_wIR, y_wIN, y_wIw, y_sI, ↓reduceIte, Nat.reduceEqDiff, eq_self, true_or, or_true, false_or, or_false, and_true, true_and, false_and, and_false, not_true, not_false_eq_true, tf_T, tf_F, y_up1, y_up2, y_xx, y_nx, y_sJ, y_sR, Int32.reduceLT, y_nxK, y_nxL, y_nxR, y_sJK, y_sJL, y_sJR, y_sJN, y_sRK, y_sRL, y_sRN, Nat.add_zero, z_nat, z_lit, z_lit0, z_lit1, z_in0, z_in1, z_addl0, z_lt, z_ltl, z_llt, z_inj, z_injl, z_add, z_addl, z_ladd, z_mul, z_mull, z_lmul, z_neg, z_negl, z_in, z_inl, z_ltT, z_ltF, z_eqF, z_10, z_01, z_litne, z_ne0, z_0ne, z_ne1, z_1ne, z_lt64, z_02, z_03, z_04, z_05, z_12, z_13, z_14, z_15, z_20, z_21, z_23, z_24, z_25, z_30, z_31, z_32, z_34, z_35, z_40, z_41, z_42, z_43, z_45, z_50, z_51, z_52, z_53, z_54]
      · simp (disch := omega) only [bk_211_220, g3, w5, c21, q, hF, y_ckd, y_ck2d, y_ond, y_onn, y_oI, y_oIx, y_oJ, y_oV, y_oVx, y_oR, y_oRn, y_oRx, y_b0, y_b1, y_bi, y_bid, y_wIK, y_wIL, y_wII, y_wIJ, y_wIR, y_wIN, y_wIw, y_sI, ↓reduceIte, Nat.reduceEqDiff, eq_self, true_or, or_true, false_or, or_false, and_true, true_and, false_and, and_false, not_true, not_false_eq_true, tf_T, tf_F, y_up1, y_up2, y_xx, y_nx, y_sJ, y_sR, Int32.reduceLT, y_nxK, y_nxL, y_nxR, y_sJK, y_sJL, y_sJR, y_sJN, y_sRK, y_sRL, y_sRN, Nat.add_zero, z_nat, z_lit, z_lit0, z_lit1, z_in0, z_in1, z_addl0, z_lt, z_ltl, z_llt, z_inj, z_injl, z_add, z_addl, z_ladd, z_mul, z_mull, z_lmul, z_neg, z_negl, z_in, z_inl, z_ltT, z_ltF, z_eqF, z_10, z_01, z_litne, z_ne0, z_0ne, z_ne1, z_1ne, z_lt64, z_02, z_03, z_04, z_05, z_12, z_13, z_14, z_15, z_20, z_21, z_23, z_24, z_25, z_30, z_31, z_32, z_34, z_35, z_40, z_41, z_42, z_43, z_45, z_50, z_51, z_52, z_53, z_54]
    · unfold tke
      rw [if_pos gw.1, if_pos gw.2]
      exact g3
    · unfold tkn
      rw [if_pos gw.1, if_pos gw.2]
      exact w5
    · unfold tkv
      rw [if_pos gw.1, if_pos gw.2]
      exact h6
  have el : lw N L b = b := rn_0 gw
  rw [el] at g3
  have w5 : j2 65 5 = 0 := (g6 el).trans b5
  obtain ⟨j3, E3, k3, k5, k6, f3⟩ := c_nx113 (b := b) (d := d) hF (L - (b + 0)) 0 j2 (Nat.le_refl _) bL c2 g3 h4 (by rw [if_pos rfl]; exact w5) h6 fun m hm => absurd hm (Nat.not_lt_zero m)
  rw [Nat.add_zero] at k3 k5 k6
  have c3 : CT N L j3 := CT_fr c2 (f3 _ _ (by omega)) fun k => f3 _ _ (by omega)
  have m4 : j3 65 4 = Int32.ofNat b := (f3 _ _ (by omega)).trans h4
  have f30 : (∀ q k, (q = 65 → k ≠ 3 ∧ k ≠ 4 ∧ k ≠ 5 ∧ k ≠ 6) → j3 q k = i q k) := fun q k hq => (f3 q k (by omega)).trans (f20 q k hq)
  rw [E3, bk_211_220]
  have c31 := c3.1
  by_cases gb : b < L
  rotate_left
  · have er : rn N L 48 57 b = b := rn_0 fun q => gb q.1
    rw [er] at k3
    rw [if_pos er] at k5
    rw [er, Nat.sub_self] at k6
    refine ⟨j3, ?_, ⟨?_, m4, ?_, ?_⟩, f30⟩
    · simp (disch := omega) only [k3, c31, gb, hF, y_ckd, y_ck2d, y_ond, y_onn, y_oI, y_oIx, y_oJ, y_oV, y_oVx, y_oR, y_oRn, y_oRx, y_b0, y_b1, y_bi, y_bid, y_wIK, y_wIL, y_wII, y_wIJ, y_wIR, y_wIN, y_wIw, y_sI, ↓reduceIte, Nat.reduceEqDiff, eq_self, true_or, or_true, false_or, or_false, and_true, true_and, false_and, and_false, not_true, not_false_eq_true, tf_T, tf_F, y_up1, y_up2, y_xx, y_nx, y_sJ, y_sR, Int32.reduceLT, y_nxK, y_nxL, y_nxR, y_sJK, y_sJL, y_sJR, y_sJN, y_sRK, y_sRL, y_sRN, Nat.add_zero, z_nat, z_lit, z_lit0, z_lit1, z_in0, z_in1, z_addl0, z_lt, z_ltl, z_llt, z_inj, z_injl, z_add, z_addl, z_ladd, z_mul, z_mull, z_lmul, z_neg, z_negl, z_in, z_inl, z_ltT, z_ltF, z_eqF, z_10, z_01, z_litne, z_ne0, z_0ne, z_ne1, z_1ne, z_lt64, z_02, z_03, z_04, z_05, z_12, z_13, z_14, z_15, z_20, z_21, z_23, z_24, z_25, z_30, z_31, z_32, z_34, z_35, z_40, z_41, z_42, z_43, z_45, z_50, z_51, z_52, z_53, z_54]
    · unfold tke
      rw [if_neg gb]
      exact k3
    · unfold tkn
      rw [if_neg gb]
      exact k5
    · unfold tkv
      rw [if_neg gb]
      exact k6
  have gw2 : ¬ (97 ≤ N b ∧ N b ≤ 122) := fun q => gw ⟨gb, q⟩
  by_cases gd : 48 ≤ N b ∧ N b ≤ 57
  · have lb : b < rn N L 48 57 b := by
      have : rn N L 48 57 b = rn N L 48 57 (b + 1) := rn_s ⟨gb, gd⟩
      have : b + 1 ≤ rn N L 48 57 (b + 1) := rn_ge
      omega
    have ll : rn N L 48 57 b ≤ L := rn_le bL
    rw [if_neg (by omega)] at k5
    refine ⟨j3, ?_, ⟨?_, m4, ?_, ?_⟩, f30⟩
    · by_cases q : rn N L 48 57 b < L
      · simp (disch := omega) only [k3, k5, c31, q, z_20, hF, y_ckd, y_ck2d, y_ond, y_onn, y_oI, y_oIx, y_oJ, y_oV, y_oVx, y_oR, y_oRn, y_oRx, y_b0, y_b1, y_bi, y_bid, y_wIK, y_wIL, y_wII, y_wIJ, y_wIR, y_wIN, y_wIw, y_sI, ↓reduceIte, Nat.reduceEqDiff, eq_self, true_or, or_true, false_or, or_false, and_true, true_and, false_and, and_false, not_true, not_false_eq_true, tf_T, tf_F, y_up1, y_up2, y_xx, y_nx, y_sJ, y_sR, Int32.reduceLT, y_nxK, y_nxL, y_nxR, y_sJK, y_sJL, y_sJR, y_sJN, y_sRK, y_sRL, y_sRN, Nat.add_zero, z_nat, z_lit, z_lit0, z_lit1, z_in0, z_in1, z_addl0, z_lt, z_ltl, z_llt, z_inj, z_injl, z_add, z_addl, z_ladd, z_mul, z_mull, z_lmul, z_neg, z_negl, z_in, z_inl, z_ltT, z_ltF, z_eqF, z_10, z_01, z_litne, z_ne0, z_0ne, z_ne1, z_1ne, z_lt64, z_02, z_03, z_04, z_05, z_12, z_13, z_14, z_15, z_20, z_21, z_23, z_24, z_25, z_30, z_31, z_32, z_34, z_35, z_40, z_41, z_42, z_43, z_45, z_50, z_51, z_52, z_53, z_54]
      · simp (disch := omega) only [k3, k5, c31, q, hF, y_ckd, y_ck2d, y_ond, y_onn, y_oI, y_oIx, y_oJ, y_oV, y_oVx, y_oR, y_oRn, y_oRx, y_b0, y_b1, y_bi, y_bid, y_wIK, y_wIL, y_wII, y_wIJ, y_wIR, y_wIN, y_wIw, y_sI, ↓reduceIte, Nat.reduceEqDiff, eq_self, true_or, or_true, false_or, or_false, and_true, true_and, false_and, and_false, not_true, not_false_eq_true, tf_T, tf_F, y_up1, y_up2, y_xx, y_nx, y_sJ, y_sR, Int32.reduceLT, y_nxK, y_nxL, y_nxR, y_sJK, y_sJL, y_sJR, y_sJN, y_sRK, y_sRL, y_sRN, Nat.add_zero, z_nat, z_lit, z_lit0, z_lit1, z_in0, z_in1, z_addl0, z_lt, z_ltl, z_llt, z_inj, z_injl, z_add, z_addl, z_ladd, z_mul, z_mull, z_lmul, z_neg, z_negl, z_in, z_inl, z_ltT, z_ltF, z_eqF, z_10, z_01, z_litne, z_ne0, z_0ne, z_ne1, z_1ne, z_lt64, z_02, z_03, z_04, z_05, z_12, z_13, z_14, z_15, z_20, z_21, z_23, z_24, z_25, z_30, z_31, z_32, z_34, z_35, z_40, z_41, z_42, z_43, z_45, z_50, z_51, z_52, z_53, z_54]
    · unfold tke
      rw [if_pos gb, if_neg gw2, if_pos gd]
      exact k3
    · unfold tkn
      rw [if_pos gb, if_neg gw2, if_pos gd]
      exact k5
    · unfold tkv
      rw [if_pos gb, if_neg gw2, if_pos gd]
      exact k6
  · have er : rn N L 48 57 b = b := rn_0 fun q => gd q.2
    rw [er] at k3
    rw [if_pos er] at k5
    have e66 := c3.2.2.1 b gb
    refine ⟨am_up2 (am_up2 (am_up2 j3 65 5 3) 65 6 (Int32.ofNat (N b))) 65 3 (Int32.ofNat (b + 1)), ?_, ⟨?_, ?_, ?_, ?_⟩, fun q k hq => by rw [y_up2 (by omega), y_up2 (by omega), y_up2 (by omega)]; exact f30 q k hq⟩
    · simp (disch := omega) only [bk_211_256, k3, k5, c31, e66, gb, hF, y_ckd, y_ck2d, y_ond, y_onn, y_oI, y_oIx, y_oJ, y_oV, y_oVx, y_oR, y_oRn, y_oRx, y_b0, y_b1, y_bi, y_bid, y_wIK, y_wIL, y_wII, y_wIJ, y_wIR, y_wIN, y_wIw, y_sI, ↓reduceIte, Nat.reduceEqDiff, eq_self, true_or, or_true, false_or, or_false, and_true, true_and, false_and, and_false, not_true, not_false_eq_true, tf_T, tf_F, y_up1, y_up2, y_xx, y_nx, y_sJ, y_sR, Int32.reduceLT, y_nxK, y_nxL, y_nxR, y_sJK, y_sJL, y_sJR, y_sJN, y_sRK, y_sRL, y_sRN, Nat.add_zero, z_nat, z_lit, z_lit0, z_lit1, z_in0, z_in1, z_addl0, z_lt, z_ltl, z_llt, z_inj, z_injl, z_add, z_addl, z_ladd, z_mul, z_mull, z_lmul, z_neg, z_negl, z_in, z_inl, z_ltT, z_ltF, z_eqF, z_10, z_01, z_litne, z_ne0, z_0ne, z_ne1, z_1ne, z_lt64, z_02, z_03, z_04, z_05, z_12, z_13, z_14, z_15, z_20, z_21, z_23, z_24, z_25, z_30, z_31, z_32, z_34, z_35, z_40, z_41, z_42, z_43, z_45, z_50, z_51, z_52, z_53, z_54]
    · unfold tke
      rw [if_pos gb, if_neg gw2, if_neg gd, y_up1 rfl rfl]
    · rw [y_up2 (by omega), y_up2 (by omega), y_up2 (by omega)]
      exact m4
    · unfold tkn
      rw [if_pos gb, if_neg gw2, if_neg gd, y_up2 (by omega), y_up2 (by omega), y_up1 rfl rfl]
      rfl
    · unfold tkv
      rw [if_pos gb, if_neg gw2, if_neg gd, y_up2 (by omega), y_up1 rfl rfl]
theorem c_sign {c : Int32} {n : Nat} (hF : Fc B) (hn : c = Int32.ofNat n) (h128 : n < 2147483648) (hc : CT N L i) (hl : LD N L b i) (hs : ¬ (97 ≤ n ∧ n ≤ 122) ∧ ¬ (48 ≤ n ∧ n ≤ 57)) : am_fx am_P d 212 0 [some (.ref 65), some (.int c)] [] (am_wI B i) = some (.inl (some (.int (if b < L ∧ N b = n then 1 else 0))), am_wI B i) := by
  obtain ⟨l3, l4, l5, l6⟩ := hl
  subst hn
  have h0 : ¬ (b < L ∧ N b = n) → (if b < L ∧ N b = n then (1 : Int32) else 0) = 0 := fun q => if_neg q
  have h1 : b < L ∧ N b = n → (if b < L ∧ N b = n then (1 : Int32) else 0) = 1 := fun q => if_pos q
  rw [bk_212_0]
  unfold tkn at l5
  unfold tkv at l6
  by_cases gb : b < L
  · have n256 := hc.2.2.2 b gb
    rw [if_pos gb] at l5 l6
    by_cases gw : 97 ≤ N b ∧ N b ≤ 122
    · rw [if_pos gw] at l5
      rw [h0 fun q => by omega]
      simp (disch := omega) only [l5, hF, y_ckd, y_ck2d, y_ond, y_onn, y_oI, y_oIx, y_oJ, y_oV, y_oVx, y_oR, y_oRn, y_oRx, y_b0, y_b1, y_bi, y_bid, y_wIK, y_wIL, y_wII, y_wIJ, y_wIR, y_wIN, y_wIw, y_sI, ↓reduceIte, Nat.reduceEqDiff, eq_self, true_or, or_true, false_or, or_false, and_true, true_and, false_and, and_false, not_true, not_false_eq_true, tf_T, tf_F, y_up1, y_up2, y_xx, y_nx, y_sJ, y_sR, Int32.reduceLT, y_nxK, y_nxL, y_nxR, y_sJK, y_sJL, y_sJR, y_sJN, y_sRK, y_sRL, y_sRN, Nat.add_zero, z_nat, z_lit, z_lit0, z_lit1, z_in0, z_in1, z_addl0, z_lt, z_ltl, z_llt, z_inj, z_injl, z_add, z_addl, z_ladd, z_mul, z_mull, z_lmul, z_neg, z_negl, z_in, z_inl, z_ltT, z_ltF, z_eqF, z_10, z_01, z_litne, z_ne0, z_0ne, z_ne1, z_1ne, z_lt64, z_02, z_03, z_04, z_05, z_12, z_13, z_14, z_15, z_20, z_21, z_23, z_24, z_25, z_30, z_31, z_32, z_34, z_35, z_40, z_41, z_42, z_43, z_45, z_50, z_51, z_52, z_53, z_54]
    · rw [if_neg gw] at l5 l6
      by_cases gd : 48 ≤ N b ∧ N b ≤ 57
      · rw [if_pos gd] at l5
        rw [h0 fun q => by omega]
        simp (disch := omega) only [l5, hF, y_ckd, y_ck2d, y_ond, y_onn, y_oI, y_oIx, y_oJ, y_oV, y_oVx, y_oR, y_oRn, y_oRx, y_b0, y_b1, y_bi, y_bid, y_wIK, y_wIL, y_wII, y_wIJ, y_wIR, y_wIN, y_wIw, y_sI, ↓reduceIte, Nat.reduceEqDiff, eq_self, true_or, or_true, false_or, or_false, and_true, true_and, false_and, and_false, not_true, not_false_eq_true, tf_T, tf_F, y_up1, y_up2, y_xx, y_nx, y_sJ, y_sR, Int32.reduceLT, y_nxK, y_nxL, y_nxR, y_sJK, y_sJL, y_sJR, y_sJN, y_sRK, y_sRL, y_sRN, Nat.add_zero, z_nat, z_lit, z_lit0, z_lit1, z_in0, z_in1, z_addl0, z_lt, z_ltl, z_llt, z_inj, z_injl, z_add, z_addl, z_ladd, z_mul, z_mull, z_lmul, z_neg, z_negl, z_in, z_inl, z_ltT, z_ltF, z_eqF, z_10, z_01, z_litne, z_ne0, z_0ne, z_ne1, z_1ne, z_lt64, z_02, z_03, z_04, z_05, z_12, z_13, z_14, z_15, z_20, z_21, z_23, z_24, z_25, z_30, z_31, z_32, z_34, z_35, z_40, z_41, z_42, z_43, z_45, z_50, z_51, z_52, z_53, z_54]
      · rw [if_neg gd] at l5 l6
        by_cases g : N b = n
        · rw [h1 ⟨gb, g⟩]
          rw [g] at l6
          simp (disch := omega) only [l5, l6, hF, y_ckd, y_ck2d, y_ond, y_onn, y_oI, y_oIx, y_oJ, y_oV, y_oVx, y_oR, y_oRn, y_oRx, y_b0, y_b1, y_bi, y_bid, y_wIK, y_wIL, y_wII, y_wIJ, y_wIR, y_wIN, y_wIw, y_sI, ↓reduceIte, Nat.reduceEqDiff, eq_self, true_or, or_true, false_or, or_false, and_true, true_and, false_and, and_false, not_true, not_false_eq_true, tf_T, tf_F, y_up1, y_up2, y_xx, y_nx, y_sJ, y_sR, Int32.reduceLT, y_nxK, y_nxL, y_nxR, y_sJK, y_sJL, y_sJR, y_sJN, y_sRK, y_sRL, y_sRN, Nat.add_zero, z_nat, z_lit, z_lit0, z_lit1, z_in0, z_in1, z_addl0, z_lt, z_ltl, z_llt, z_inj, z_injl, z_add, z_addl, z_ladd, z_mul, z_mull, z_lmul, z_neg, z_negl, z_in, z_inl, z_ltT, z_ltF, z_eqF, z_10, z_01, z_litne, z_ne0, z_0ne, z_ne1, z_1ne, z_lt64, z_02, z_03, z_04, z_05, z_12, z_13, z_14, z_15, z_20, z_21, z_23, z_24, z_25, z_30, z_31, z_32, z_34, z_35, z_40, z_41, z_42, z_43, z_45, z_50, z_51, z_52, z_53, z_54]
        · rw [h0 fun q => g q.2]
          simp (disch := omega) only [l5, l6, g, hF, y_ckd, y_ck2d, y_ond, y_onn, y_oI, y_oIx, y_oJ, y_oV, y_oVx, y_oR, y_oRn, y_oRx, y_b0, y_b1, y_bi, y_bid, y_wIK, y_wIL, y_wII, y_wIJ, y_wIR, y_wIN, y_wIw, y_sI, ↓reduceIte, Nat.reduceEqDiff, eq_self, true_or, or_true, false_or, or_false, and_true, true_and, false_and, and_false, not_true, not_false_eq_true, tf_T, tf_F, y_up1, y_up2, y_xx, y_nx, y_sJ, y_sR, Int32.reduceLT, y_nxK, y_nxL, y_nxR, y_sJK, y_sJL, y_sJR, y_sJN, y_sRK, y_sRL, y_sRN, Nat.add_zero, z_nat, z_lit, z_lit0, z_lit1, z_in0, z_in1, z_addl0, z_lt, z_ltl, z_llt, z_inj, z_injl, z_add, z_addl, z_ladd, z_mul, z_mull, z_lmul, z_neg, z_negl, z_in, z_inl, z_ltT, z_ltF, z_eqF, z_10, z_01, z_litne, z_ne0, z_0ne, z_ne1, z_1ne, z_lt64, z_02, z_03, z_04, z_05, z_12, z_13, z_14, z_15, z_20, z_21, z_23, z_24, z_25, z_30, z_31, z_32, z_34, z_35, z_40, z_41, z_42, z_43, z_45, z_50, z_51, z_52, z_53, z_54]
  · rw [if_neg gb] at l5
    rw [h0 fun q => gb q.1]
    simp (disch := omega) only [l5, hF, y_ckd, y_ck2d, y_ond, y_onn, y_oI, y_oIx, y_oJ, y_oV, y_oVx, y_oR, y_oRn, y_oRx, y_b0, y_b1, y_bi, y_bid, y_wIK, y_wIL, y_wII, y_wIJ, y_wIR, y_wIN, y_wIw, y_sI, ↓reduceIte, Nat.reduceEqDiff, eq_self, true_or, or_true, false_or, or_false, and_true, true_and, false_and, and_false, not_true, not_false_eq_true, tf_T, tf_F, y_up1, y_up2, y_xx, y_nx, y_sJ, y_sR, Int32.reduceLT, y_nxK, y_nxL, y_nxR, y_sJK, y_sJL, y_sJR, y_sJN, y_sRK, y_sRL, y_sRN, Nat.add_zero, z_nat, z_lit, z_lit0, z_lit1, z_in0, z_in1, z_addl0, z_lt, z_ltl, z_llt, z_inj, z_injl, z_add, z_addl, z_ladd, z_mul, z_mull, z_lmul, z_neg, z_negl, z_in, z_inl, z_ltT, z_ltF, z_eqF, z_10, z_01, z_litne, z_ne0, z_0ne, z_ne1, z_1ne, z_lt64, z_02, z_03, z_04, z_05, z_12, z_13, z_14, z_15, z_20, z_21, z_23, z_24, z_25, z_30, z_31, z_32, z_34, z_35, z_40, z_41, z_42, z_43, z_45, z_50, z_51, z_52, z_53, z_54]
theorem c_upTo {c : Int32} (hF : Fc B) (hn : c = Int32.ofNat hi) (h99 : hi < 100000) (hl : LD N L b i) (hbL : b ≤ L) (hL : L ≤ 400) : am_fx am_P d 213 0 [some (.ref 65), some (.int c)] [] (am_wI B i) = some (.inl (some (.int (txn (num N L b hi)))), am_wI B i) := by
  obtain ⟨l3, l4, l5, l6⟩ := hl
  subst hn
  rw [bk_213_0]
  unfold tkn at l5
  unfold tkv at l6
  have no : ¬ (b < L ∧ 48 ≤ N b ∧ N b ≤ 57) → num N L b hi = none := fun q => if_pos (Or.inl (rn_0 q))
  by_cases gb : b < L
  · rw [if_pos gb] at l5 l6
    by_cases gw : 97 ≤ N b ∧ N b ≤ 122
    · rw [if_pos gw] at l5
      rw [no fun q => by omega]
      simp (disch := omega) only [l5, hF, y_ckd, y_ck2d, y_ond, y_onn, y_oI, y_oIx, y_oJ, y_oV, y_oVx, y_oR, y_oRn, y_oRx, y_b0, y_b1, y_bi, y_bid, y_wIK, y_wIL, y_wII, y_wIJ, y_wIR, y_wIN, y_wIw, y_sI, ↓reduceIte, Nat.reduceEqDiff, eq_self, true_or, or_true, false_or, or_false, and_true, true_and, false_and, and_false, not_true, not_false_eq_true, tf_T, tf_F, y_up1, y_up2, y_xx, y_nx, y_sJ, y_sR, Int32.reduceLT, y_nxK, y_nxL, y_nxR, y_sJK, y_sJL, y_sJR, y_sJN, y_sRK, y_sRL, y_sRN, Nat.add_zero, z_nat, z_lit, z_lit0, z_lit1, z_in0, z_in1, z_addl0, z_lt, z_ltl, z_llt, z_inj, z_injl, z_add, z_addl, z_ladd, z_mul, z_mull, z_lmul, z_neg, z_negl, z_in, z_inl, z_ltT, z_ltF, z_eqF, z_10, z_01, z_litne, z_ne0, z_0ne, z_ne1, z_1ne, z_lt64, z_02, z_03, z_04, z_05, z_12, z_13, z_14, z_15, z_20, z_21, z_23, z_24, z_25, z_30, z_31, z_32, z_34, z_35, z_40, z_41, z_42, z_43, z_45, z_50, z_51, z_52, z_53, z_54]
      rfl
    · rw [if_neg gw] at l5 l6
      by_cases gd : 48 ≤ N b ∧ N b ≤ 57
      · rw [if_pos gd] at l5 l6
        have lb : b < rn N L 48 57 b := by
          have : rn N L 48 57 b = rn N L 48 57 (b + 1) := rn_s ⟨gb, gd⟩
          have : b + 1 ≤ rn N L 48 57 (b + 1) := rn_ge
          omega
        unfold num
        unfold vcl at l6
        by_cases g5 : rn N L 48 57 b - b ≤ 5
        · rw [if_pos g5] at l6
          have lt : dgv N b (rn N L 48 57 b - b) < 10 ^ (rn N L 48 57 b - b) := dgv_lt fun m hm => (rn_in (N := N) (L := L) (lo := 48) (hi := 57) (b := b) (Nat.le_add_right b m) (by omega)).2
          have p5 : 10 ^ (rn N L 48 57 b - b) ≤ 10 ^ 5 := Nat.pow_le_pow_right (by omega) g5
          by_cases g : hi < dgv N b (rn N L 48 57 b - b)
          · rw [if_pos (Or.inr (Or.inr g))]
            simp (disch := omega) only [l5, l6, g, hF, y_ckd, y_ck2d, y_ond, y_onn, y_oI, y_oIx, y_oJ, y_oV, y_oVx, y_oR, y_oRn, y_oRx, y_b0, y_b1, y_bi, y_bid, y_wIK, y_wIL, y_wII, y_wIJ, y_wIR, y_wIN, y_wIw, y_sI, ↓reduceIte, Nat.reduceEqDiff, eq_self, true_or, or_true, false_or, or_false, and_true, true_and, false_and, and_false, not_true, not_false_eq_true, tf_T, tf_F, y_up1, y_up2, y_xx, y_nx, y_sJ, y_sR, Int32.reduceLT, y_nxK, y_nxL, y_nxR, y_sJK, y_sJL, y_sJR, y_sJN, y_sRK, y_sRL, y_sRN, Nat.add_zero, z_nat, z_lit, z_lit0, z_lit1, z_in0, z_in1, z_addl0, z_lt, z_ltl, z_llt, z_inj, z_injl, z_add, z_addl, z_ladd, z_mul, z_mull, z_lmul, z_neg, z_negl, z_in, z_inl, z_ltT, z_ltF, z_eqF, z_10, z_01, z_litne, z_ne0, z_0ne, z_ne1, z_1ne, z_lt64, z_02, z_03, z_04, z_05, z_12, z_13, z_14, z_15, z_20, z_21, z_23, z_24, z_25, z_30, z_31, z_32, z_34, z_35, z_40, z_41, z_42, z_43, z_45, z_50, z_51, z_52, z_53, z_54]
            rfl
          · have c0 : ¬ (rn N L 48 57 b = b ∨ 5 < rn N L 48 57 b - b ∨ hi < dgv N b (rn N L 48 57 b - b)) := by omega
            rw [if_neg c0]
            simp (disch := omega) only [l5, l6, g, hF, y_ckd, y_ck2d, y_ond, y_onn, y_oI, y_oIx, y_oJ, y_oV, y_oVx, y_oR, y_oRn, y_oRx, y_b0, y_b1, y_bi, y_bid, y_wIK, y_wIL, y_wII, y_wIJ, y_wIR, y_wIN, y_wIw, y_sI, ↓reduceIte, Nat.reduceEqDiff, eq_self, true_or, or_true, false_or, or_false, and_true, true_and, false_and, and_false, not_true, not_false_eq_true, tf_T, tf_F, y_up1, y_up2, y_xx, y_nx, y_sJ, y_sR, Int32.reduceLT, y_nxK, y_nxL, y_nxR, y_sJK, y_sJL, y_sJR, y_sJN, y_sRK, y_sRL, y_sRN, Nat.add_zero, z_nat, z_lit, z_lit0, z_lit1, z_in0, z_in1, z_addl0, z_lt, z_ltl, z_llt, z_inj, z_injl, z_add, z_addl, z_ladd, z_mul, z_mull, z_lmul, z_neg, z_negl, z_in, z_inl, z_ltT, z_ltF, z_eqF, z_10, z_01, z_litne, z_ne0, z_0ne, z_ne1, z_1ne, z_lt64, z_02, z_03, z_04, z_05, z_12, z_13, z_14, z_15, z_20, z_21, z_23, z_24, z_25, z_30, z_31, z_32, z_34, z_35, z_40, z_41, z_42, z_43, z_45, z_50, z_51, z_52, z_53, z_54]
            rfl
        · rw [if_neg g5] at l6
          rw [if_pos (Or.inr (Or.inl (by omega)))]
          simp (disch := omega) only [l5, l6, h99, hF, y_ckd, y_ck2d, y_ond, y_onn, y_oI, y_oIx, y_oJ, y_oV, y_oVx, y_oR, y_oRn, y_oRx, y_b0, y_b1, y_bi, y_bid, y_wIK, y_wIL, y_wII, y_wIJ, y_wIR, y_wIN, y_wIw, y_sI, ↓reduceIte, Nat.reduceEqDiff, eq_self, true_or, or_true, false_or, or_false, and_true, true_and, false_and, and_false, not_true, not_false_eq_true, tf_T, tf_F, y_up1, y_up2, y_xx, y_nx, y_sJ, y_sR, Int32.reduceLT, y_nxK, y_nxL, y_nxR, y_sJK, y_sJL, y_sJR, y_sJN, y_sRK, y_sRL, y_sRN, Nat.add_zero, z_nat, z_lit, z_lit0, z_lit1, z_in0, z_in1, z_addl0, z_lt, z_ltl, z_llt, z_inj, z_injl, z_add, z_addl, z_ladd, z_mul, z_mull, z_lmul, z_neg, z_negl, z_in, z_inl, z_ltT, z_ltF, z_eqF, z_10, z_01, z_litne, z_ne0, z_0ne, z_ne1, z_1ne, z_lt64, z_02, z_03, z_04, z_05, z_12, z_13, z_14, z_15, z_20, z_21, z_23, z_24, z_25, z_30, z_31, z_32, z_34, z_35, z_40, z_41, z_42, z_43, z_45, z_50, z_51, z_52, z_53, z_54]
          rfl
      · rw [if_neg gd] at l5
        rw [no fun q => by omega]
        simp (disch := omega) only [l5, hF, y_ckd, y_ck2d, y_ond, y_onn, y_oI, y_oIx, y_oJ, y_oV, y_oVx, y_oR, y_oRn, y_oRx, y_b0, y_b1, y_bi, y_bid, y_wIK, y_wIL, y_wII, y_wIJ, y_wIR, y_wIN, y_wIw, y_sI, ↓reduceIte, Nat.reduceEqDiff, eq_self, true_or, or_true, false_or, or_false, and_true, true_and, false_and, and_false, not_true, not_false_eq_true, tf_T, tf_F, y_up1, y_up2, y_xx, y_nx, y_sJ, y_sR, Int32.reduceLT, y_nxK, y_nxL, y_nxR, y_sJK, y_sJL, y_sJR, y_sJN, y_sRK, y_sRL, y_sRN, Nat.add_zero, z_nat, z_lit, z_lit0, z_lit1, z_in0, z_in1, z_addl0, z_lt, z_ltl, z_llt, z_inj, z_injl, z_add, z_addl, z_ladd, z_mul, z_mull, z_lmul, z_neg, z_negl, z_in, z_inl, z_ltT, z_ltF, z_eqF, z_10, z_01, z_litne, z_ne0, z_0ne, z_ne1, z_1ne, z_lt64, z_02, z_03, z_04, z_05, z_12, z_13, z_14, z_15, z_20, z_21, z_23, z_24, z_25, z_30, z_31, z_32, z_34, z_35, z_40, z_41, z_42, z_43, z_45, z_50, z_51, z_52, z_53, z_54]
        rfl
  · rw [if_neg gb] at l5
    rw [no fun q => by omega]
    simp (disch := omega) only [l5, hF, y_ckd, y_ck2d, y_ond, y_onn, y_oI, y_oIx, y_oJ, y_oV, y_oVx, y_oR, y_oRn, y_oRx, y_b0, y_b1, y_bi, y_bid, y_wIK, y_wIL, y_wII, y_wIJ, y_wIR, y_wIN, y_wIw, y_sI, ↓reduceIte, Nat.reduceEqDiff, eq_self, true_or, or_true, false_or, or_false, and_true, true_and, false_and, and_false, not_true, not_false_eq_true, tf_T, tf_F, y_up1, y_up2, y_xx, y_nx, y_sJ, y_sR, Int32.reduceLT, y_nxK, y_nxL, y_nxR, y_sJK, y_sJL, y_sJR, y_sJN, y_sRK, y_sRL, y_sRN, Nat.add_zero, z_nat, z_lit, z_lit0, z_lit1, z_in0, z_in1, z_addl0, z_lt, z_ltl, z_llt, z_inj, z_injl, z_add, z_addl, z_ladd, z_mul, z_mull, z_lmul, z_neg, z_negl, z_in, z_inl, z_ltT, z_ltF, z_eqF, z_10, z_01, z_litne, z_ne0, z_0ne, z_ne1, z_1ne, z_lt64, z_02, z_03, z_04, z_05, z_12, z_13, z_14, z_15, z_20, z_21, z_23, z_24, z_25, z_30, z_31, z_32, z_34, z_35, z_40, z_41, z_42, z_43, z_45, z_50, z_51, z_52, z_53, z_54]
    rfl
end Lex2
