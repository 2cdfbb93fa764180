/-! TEXTS ON THE TAPE, the model: a line, all of it. Made by wip/whole/math/943.py. -/
def ML (B : am_A) (i : Nat → Nat → Int32) (x : am_X) : PR → Prop
  | .inl f => ∃ j, x = some (.inl (some (.int 0)), am_wI B j) ∧ j 874 10 = Int32.ofNat f ∧ FRm i j ∧ ∀ z, z < 12042 → j 875 z = i 875 z
  | .inr st => ∃ j, x = some (.inl (some (.int 1)), am_wI B j) ∧ MP j st ∧ FRm i j ∧ ∀ z, z < 12042 → j 875 z = i 875 z
def VO (i j : Nat → Nat → Int32) (z : Int32) (b : Nat) : Nat ⊕ (Nat × Nat) → Prop
  | .inl f => z = -1 ∧ f = b
  | .inr a => z = Int32.ofNat a.1 ∧ j 874 8 = Int32.ofNat a.2
section ModF
variable {B : am_A} {i j k i' : Nat → Nat → Int32} {N : Nat → Nat} {d D L p b e q n s f c v K : Nat} {u : Nat → Int32} {st : PS} {x : am_X} {r : PR}
theorem ML_fr (hf : FRm i j) (hz : ∀ z, z < 12042 → j 875 z = i 875 z) (h : ML B j x r) : ML B i x r := by
  cases r with
  | inl f =>
    obtain ⟨m, a1, a2, a3, a4⟩ := h
    exact ⟨m, a1, a2, hf.tr a3, fun z hz2 => (a4 z hz2).trans (hz z hz2)⟩
  | inr st =>
    obtain ⟨m, a1, a2, a3, a4⟩ := h
    exact ⟨m, a1, a2, hf.tr a3, fun z hz2 => (a4 z hz2).trans (hz z hz2)⟩
theorem m_val (hM : Md B) (hX : Stx B i) (hc : MT N L i) (e8 : i 874 8 = Int32.ofNat p) (hp : p ≤ L) (hK : K + 4 < 12892) (hv : v < 4) : ∃ j z, am_fx am_P (D + 3 + 1) 53 92 [some (.ref 874), none, some (.int (Int32.ofNat K)), some (.int (Int32.ofNat v))] [] (am_wI B i) = am_fx am_P (D + 3 + 1) 53 219 [some (.ref 874), none, some (.int (Int32.ofNat K)), some (.int (Int32.ofNat v))] [] (am_wI B (am_up2 j 875 (K + 1) z)) ∧ Mv (am_up2 i 875 (K + 3) (i 874 14)) j ∧ j 874 10 = Int32.ofNat (tb N L p) ∧ VO i j z (tb N L p) (valS N L v p) := by
  have l400 := hc.2.1
  have f3 : ∀ q k, q ≠ 875 → am_up2 i 875 (K + 3) (i 874 14) q k = i q k := fun q k h => y_up2 (by omega)
  have X3 : Stx B (am_up2 i 875 (K + 3) (i 874 14)) := Stx_FRm hX fun q k h1 h2 => f3 q k h1
  have c3 : MT N L (am_up2 i 875 (K + 3) (i 874 14)) := MT_FRm hc fun q k h1 h2 => f3 q k h1
  unfold valS
  by_cases v0 : v = 0
  · rw [if_pos v0]
    subst v0
    obtain ⟨j, E, a8, a10, f⟩ := m_word (d := D + 1) hM c3 ((f3 _ _ (by omega)).trans e8) hp
    have f : Mv (am_up2 i 875 (K + 3) (i 874 14)) j := f
    have T := m_kinds (D := D) hM (Stx_Mv X3 f) (MT_Mv c3 f) a8 a10 rn_ge (rn_le (rn_le hp)) E hK
    refine ⟨j, _, T, f, a10, ?_⟩
    cases hw : wix N (tb N L p) (lw N L (tb N L p)) [14, 15, 16, 17] 0 with
    | none => exact ⟨rfl, rfl⟩
    | some y => exact ⟨rfl, a8⟩
  · rw [if_neg v0]
    have n0 : ¬ Int32.ofNat v = 0 := fun q => v0 (by rw [show (0 : Int32) = Int32.ofNat 0 from rfl, z_inj (by omega) (by omega)] at q; exact q)
    have nl : ¬ Int32.ofNat v < 0 := by rw [z_neg (by omega)]; exact id
    have ml : mos v ≤ 99999 := by
      unfold mos
      split
      · omega
      · split <;> omega
    obtain ⟨j, E, a8, a10, f⟩ := m_num (d := D + 1) (c := Int32.ofNat (mos v)) (hi := mos v) hM c3 ((f3 _ _ (by omega)).trans e8) hp rfl (by omega)
    have f : Mv (am_up2 i 875 (K + 3) (i 874 14)) j := f
    refine ⟨j, txn (num N L (tb N L p) (mos v)), ?_, f, a10, ?_⟩
    · have h : v = 1 ∨ v = 2 ∨ v = 3 := by omega
      rw [bk_53_92]
      rcases h with rfl | rfl | rfl
      · have E : am_fx am_P (D + 3) 45 0 [some (.ref 874), some (.int 1000), none] [] (am_wI B (am_up2 i 875 (K + 3) (i 874 14))) = some (.inl (some (.int (txn (num N L (tb N L p) (mos 1))))), am_wI B j) := E
        have w3 : ¬ Int32.ofNat 1 = 3 := by decide
        have w1 : Int32.ofNat 1 = 1 := rfl
        simp (disch := omega) only [nl, n0, w3, w1, bk_53_215, E, hM, y_ckd, y_ck2d, y_ond, y_onn, y_oI, y_oIx, y_oJ, y_oV, y_oVx, y_oR, y_oRn, y_oRx, y_b0, y_b1, y_bi, y_bid, y_wIK, y_wIL, y_wII, y_wIJ, y_wIR, y_wIN, y_wIw, y_sI, ↓reduceIte, Nat.reduceEqDiff, eq_self, true_or, or_true, false_or, or_false, and_true, true_and, false_and, and_false, not_true, not_false_eq_true, tf_T, tf_F, y_up1, y_up2, y_xx, y_nx, y_sJ, y_sR, Int32.reduceLT, y_nxK, y_nxL, y_nxR, y_sJK, y_sJL, y_sJR, y_sJN, y_sRK, y_sRL, y_sRN, Nat.add_zero, z_nat, z_lit, z_lit0, z_lit1, z_in0, z_in1, z_addl0, z_lt, z_ltl, z_llt, z_inj, z_injl, z_add, z_addl, z_ladd, z_mul, z_mull, z_lmul, z_neg, z_negl, z_in, z_inl, z_ltT, z_ltF, z_eqF, z_10, z_01, z_litne, z_ne0, z_0ne, z_ne1, z_1ne, z_lt64, z_02, z_03, z_04, z_05, z_12, z_13, z_14, z_15, z_20, z_21, z_23, z_24, z_25, z_30, z_31, z_32, z_34, z_35, z_40, z_41, z_42, z_43, z_45, z_50, z_51, z_52, z_53, z_54]
        try rfl
      · have E : am_fx am_P (D + 3) 45 0 [some (.ref 874), some (.int 99999), none] [] (am_wI B (am_up2 i 875 (K + 3) (i 874 14))) = some (.inl (some (.int (txn (num N L (tb N L p) (mos 2))))), am_wI B j) := E
        have w3 : ¬ Int32.ofNat 2 = 3 := by decide
        have w1 : ¬ Int32.ofNat 2 = 1 := by decide
        simp (disch := omega) only [nl, n0, w3, w1, bk_53_215, E, hM, y_ckd, y_ck2d, y_ond, y_onn, y_oI, y_oIx, y_oJ, y_oV, y_oVx, y_oR, y_oRn, y_oRx, y_b0, y_b1, y_bi, y_bid, y_wIK, y_wIL, y_wII, y_wIJ, y_wIR, y_wIN, y_wIw, y_sI, ↓reduceIte, Nat.reduceEqDiff, eq_self, true_or, or_true, false_or, or_false, and_true, true_and, false_and, and_false, not_true, not_false_eq_true, tf_T, tf_F, y_up1, y_up2, y_xx, y_nx, y_sJ, y_sR, Int32.reduceLT, y_nxK, y_nxL, y_nxR, y_sJK, y_sJL, y_sJR, y_sJN, y_sRK, y_sRL, y_sRN, Nat.add_zero, z_nat, z_lit, z_lit0, z_lit1, z_in0, z_in1, z_addl0, z_lt, z_ltl, z_llt, z_inj, z_injl, z_add, z_addl, z_ladd, z_mul, z_mull, z_lmul, z_neg, z_negl, z_in, z_inl, z_ltT, z_ltF, z_eqF, z_10, z_01, z_litne, z_ne0, z_0ne, z_ne1, z_1ne, z_lt64, z_02, z_03, z_04, z_05, z_12, z_13, z_14, z_15, z_20, z_21, z_23, z_24, z_25, z_30, z_31, z_32, z_34, z_35, z_40, z_41, z_42, z_43, z_45, z_50, z_51, z_52, z_53, z_54]
      · have E : am_fx am_P (D + 3) 45 0 [some (.ref 874), some (.int 100), none] [] (am_wI B (am_up2 i 875 (K + 3) (i 874 14))) = some (.inl (some (.int (txn (num N L (tb N L p) (mos 3))))), am_wI B j) := E
        have w3 : Int32.ofNat 3 = 3 := rfl
        simp (disch := omega) only [nl, n0, w3, bk_53_215, E, hM, y_ckd, y_ck2d, y_ond, y_onn, y_oI, y_oIx, y_oJ, y_oV, y_oVx, y_oR, y_oRn, y_oRx, y_b0, y_b1, y_bi, y_bid, y_wIK, y_wIL, y_wII, y_wIJ, y_wIR, y_wIN, y_wIw, y_sI, ↓reduceIte, Nat.reduceEqDiff, eq_self, true_or, or_true, false_or, or_false, and_true, true_and, false_and, and_false, not_true, not_false_eq_true, tf_T, tf_F, y_up1, y_up2, y_xx, y_nx, y_sJ, y_sR, Int32.reduceLT, y_nxK, y_nxL, y_nxR, y_sJK, y_sJL, y_sJR, y_sJN, y_sRK, y_sRL, y_sRN, Nat.add_zero, z_nat, z_lit, z_lit0, z_lit1, z_in0, z_in1, z_addl0, z_lt, z_ltl, z_llt, z_inj, z_injl, z_add, z_addl, z_ladd, z_mul, z_mull, z_lmul, z_neg, z_negl, z_in, z_inl, z_ltT, z_ltF, z_eqF, z_10, z_01, z_litne, z_ne0, z_0ne, z_ne1, z_1ne, z_lt64, z_02, z_03, z_04, z_05, z_12, z_13, z_14, z_15, z_20, z_21, z_23, z_24, z_25, z_30, z_31, z_32, z_34, z_35, z_40, z_41, z_42, z_43, z_45, z_50, z_51, z_52, z_53, z_54]
        try rfl
    · cases hw : num N L (tb N L p) (mos v) with
      | none => exact ⟨rfl, rfl⟩
      | some y => exact ⟨rfl, a8⟩
end ModF
