/-! GANGS: a way, the strengths of its ships. Made by wip/whole/math/86.py. -/
section Gangs2
variable {B B1 : am_A} {i i1 : Nat → Nat → Int32} {σ σ' : Sg} {w : Nat → Int32} {L j d b : Nat} {x y z : Int32}
/-- the strengths that a way gives: gang g goes to the place that the digit of the way tells -/
abbrev fst1 (w : Nat → Int32) (c t g : Nat) (r : Nat → Int32) : Nat → Int32 := fun m => if m = t / c ^ g % c then r m + w (3020 + 2 * g) else r m
def stw (w : Nat → Int32) (c t n : Nat) : Nat → Int32 := itr (fst1 w c t) n fun _ => 0
theorem stw_s {c t n : Nat} : stw w c t (n + 1) = fst1 w c t n (stw w c t n) := rfl
theorem z_divn {a c : Nat} (ha : a < 2147483648) (hc : c < 2147483648) : Int32.ofNat a / Int32.ofNat c = Int32.ofNat (a / c) := (Int32.ofNat_div ha hc).symm
theorem z_modn {a c : Nat} : Int32.ofNat a - Int32.ofNat (a / c * c) = Int32.ofNat (a % c) := by
  rw [z_sub (Nat.div_mul_le_self a c)]
  have := Nat.div_add_mod a c
  have e : c * (a / c) = a / c * c := Nat.mul_comm _ _
  exact congrArg Int32.ofNat (by omega)
theorem c_str {c t n : Nat} (hF : Fc B) (hY : Yd B 94) (hG : RG i 94 w) (hc : 0 < c) (c4 : c ≤ 4) (ht : t < 2147483648) (hn : n ≤ cn w 3019) (n8 : n ≤ 8) (hz : ∀ m, m < 4 → i 78 m = 0) : ∃ i', am_fx am_P (d + 1) 283 14 [some (.ref 71), some (.ref 94), none, some (.int (Int32.ofNat n)), some (.int (Int32.ofNat c)), some (.int (Int32.ofNat (t / c ^ 0))), some (.int (Int32.ofNat 0)), none] [] (am_wI B i) = am_fx am_P (d + 1) 283 58 [some (.ref 71), none, none, none, some (.int (Int32.ofNat c)), none, none, none] [] (am_wI B i') ∧ (∀ m, m < 4 → i' 78 m = stw w c t n m) ∧ ∀ q m, q ≠ 78 → i' q m = i q m := by
  obtain ⟨j, E, hj, hf⟩ := lp_inv (fun k j => am_fx am_P (d + 1) 283 14 [some (.ref 71), some (.ref 94), none, some (.int (Int32.ofNat n)), some (.int (Int32.ofNat c)), some (.int (Int32.ofNat (t / c ^ k))), some (.int (Int32.ofNat k)), none] [] (am_wI B j)) (fun k j => (∀ m, m < 4 → j 78 m = stw w c t k m) ∧ ∀ q m, q ≠ 78 → j q m = i q m) n (fun k j hk hI => by
    obtain ⟨hj, hf⟩ := hI
    have e1 := (hf _ _ (by omega)).trans (hG.2 k (by omega) (by omega)).1
    have hq : t / c ^ k ≤ t := Nat.div_le_self _ _
    have hm : t / c ^ k % c < c := Nat.mod_lt _ hc
    have ed := z_divn (a := t / c ^ k) (c := c) (by omega) (by omega)
    have em := z_modn (a := t / c ^ k) (c := c)
    have es : t / c ^ (k + 1) = t / c ^ k / c := by rw [Nat.pow_succ, Nat.div_div_eq_div_mul]
    have nz : Int32.ofNat c ≠ 0 := by rw [show (0 : Int32) = Int32.ofNat 0 from rfl, Ne, z_inj (by omega) (by omega)]; omega
    have gp : (0 : Int32) < Int32.ofNat c := by rw [show (0 : Int32) = Int32.ofNat 0 from rfl, z_lt (by omega) (by omega)]; exact hc
    refine ⟨am_up2 j 78 (t / c ^ k % c) (j 78 (t / c ^ k % c) + w (3020 + 2 * k)), ?_, fun m hm4 => ?_, fun q m hq => by rw [y_up2 (by omega)]; exact hf q m hq⟩
    · rw [bk_283_14, es]
      generalize t / c ^ k = a at *
      have hl := z_mul (a := a / c) (b := c)
      simp (maxSteps := 1000000) (disch := omega) only [ed, hl, em, e1, gp, y_nz nz, hF, hY, y_ckd, y_ck2d, y_ond, y_onn, y_oI, y_oIx, y_oJ, y_oV, y_oVx, y_oR, y_oRn, y_oRx, y_b0, y_b1, y_bi, y_bid, y_wIK, y_wIL, y_wII, y_wIJ, y_wIR, y_wIN, y_wIw, y_sI, ↓reduceIte, Nat.reduceEqDiff, eq_self, true_or, or_true, false_or, or_false, and_true, true_and, false_and, and_false, not_true, not_false_eq_true, tf_T, tf_F, y_up1, y_up2, y_xx, y_nx, y_sJ, y_sR, Int32.reduceLT, y_nxK, y_nxL, y_nxR, y_sJK, y_sJL, y_sJR, y_sJN, y_sRK, y_sRL, y_sRN, Nat.add_zero, z_nat, z_lit, z_lit0, z_lit1, z_in0, z_in1, z_addl0, z_lt, z_ltl, z_llt, z_inj, z_injl, z_add, z_addl, z_ladd, z_mul, z_mull, z_lmul, z_neg, z_negl, z_in, z_inl, z_ltT, z_ltF, z_eqF, z_10, z_01, z_litne, z_ne0, z_0ne, z_ne1, z_1ne, z_lt64, z_02, z_03, z_04, z_05, z_12, z_13, z_14, z_15, z_20, z_21, z_23, z_24, z_25, z_30, z_31, z_32, z_34, z_35, z_40, z_41, z_42, z_43, z_45, z_50, z_51, z_52, z_53, z_54]
    · rw [stw_s]
      show _ = if m = t / c ^ k % c then stw w c t k m + w (3020 + 2 * k) else stw w c t k m
      by_cases e : m = t / c ^ k % c
      · rw [y_up1 rfl e, if_pos e, e, hj _ (by omega)]
      · rw [y_up2 (by omega), if_neg e]
        exact hj m hm4) i ⟨hz, fun _ _ _ => rfl⟩
  refine ⟨j, E.trans ?_, hj, hf⟩
  rw [bk_283_14]
  simp (maxSteps := 1000000) (disch := omega) only [hF, hY, y_ckd, y_ck2d, y_ond, y_onn, y_oI, y_oIx, y_oJ, y_oV, y_oVx, y_oR, y_oRn, y_oRx, y_b0, y_b1, y_bi, y_bid, y_wIK, y_wIL, y_wII, y_wIJ, y_wIR, y_wIN, y_wIw, y_sI, ↓reduceIte, Nat.reduceEqDiff, eq_self, true_or, or_true, false_or, or_false, and_true, true_and, false_and, and_false, not_true, not_false_eq_true, tf_T, tf_F, y_up1, y_up2, y_xx, y_nx, y_sJ, y_sR, Int32.reduceLT, y_nxK, y_nxL, y_nxR, y_sJK, y_sJL, y_sJR, y_sJN, y_sRK, y_sRL, y_sRN, Nat.add_zero, z_nat, z_lit, z_lit0, z_lit1, z_in0, z_in1, z_addl0, z_lt, z_ltl, z_llt, z_inj, z_injl, z_add, z_addl, z_ladd, z_mul, z_mull, z_lmul, z_neg, z_negl, z_in, z_inl, z_ltT, z_ltF, z_eqF, z_10, z_01, z_litne, z_ne0, z_0ne, z_ne1, z_1ne, z_lt64, z_02, z_03, z_04, z_05, z_12, z_13, z_14, z_15, z_20, z_21, z_23, z_24, z_25, z_30, z_31, z_32, z_34, z_35, z_40, z_41, z_42, z_43, z_45, z_50, z_51, z_52, z_53, z_54]
theorem m_zero4 {c t n : Nat} (hM : Md B) (c4 : c ≤ 4) : ∃ i', am_fx am_P (d + 1) 114 128 [some (.ref 874), some (.int (Int32.ofNat c)), some (.int (Int32.ofNat n)), some (.int x), some (.int y), some (.int (Int32.ofNat t)), some (.int (Int32.ofNat 0)), none, none] [] (am_wI B i) = am_fx am_P (d + 1) 114 155 [some (.ref 874), some (.int (Int32.ofNat c)), some (.int (Int32.ofNat n)), some (.int x), some (.int y), some (.int (Int32.ofNat t)), some (.int (Int32.ofNat t)), some (.int 0), none] [] (am_wI B i') ∧ (∀ m, m < c → i' 888 m = 0) ∧ ∀ q m, q ≠ 888 → i' q m = i q m := by
  obtain ⟨j, E, hj, hf⟩ := lp_inv (fun k j => am_fx am_P (d + 1) 114 128 [some (.ref 874), some (.int (Int32.ofNat c)), some (.int (Int32.ofNat n)), some (.int x), some (.int y), some (.int (Int32.ofNat t)), some (.int (Int32.ofNat k)), none, none] [] (am_wI B j)) (fun k j => (∀ m, m < k → j 888 m = 0) ∧ ∀ q m, q ≠ 888 → j q m = i q m) c (fun k j hk hI => by
    refine ⟨am_up2 j 888 k 0, ?_, fun m hm => ?_, fun q m hq => by rw [y_up2 (by omega)]; exact hI.2 q m hq⟩
    · rw [bk_114_128]
      simp (maxSteps := 1000000) (disch := omega) only [hM, y_ckd, y_ck2d, y_ond, y_onn, y_oI, y_oIx, y_oJ, y_oV, y_oVx, y_oR, y_oRn, y_oRx, y_b0, y_b1, y_bi, y_bid, y_wIK, y_wIL, y_wII, y_wIJ, y_wIR, y_wIN, y_wIw, y_sI, ↓reduceIte, Nat.reduceEqDiff, eq_self, true_or, or_true, false_or, or_false, and_true, true_and, false_and, and_false, not_true, not_false_eq_true, tf_T, tf_F, y_up1, y_up2, y_xx, y_nx, y_sJ, y_sR, Int32.reduceLT, y_nxK, y_nxL, y_nxR, y_sJK, y_sJL, y_sJR, y_sJN, y_sRK, y_sRL, y_sRN, Nat.add_zero, z_nat, z_lit, z_lit0, z_lit1, z_in0, z_in1, z_addl0, z_lt, z_ltl, z_llt, z_inj, z_injl, z_add, z_addl, z_ladd, z_mul, z_mull, z_lmul, z_neg, z_negl, z_in, z_inl, z_ltT, z_ltF, z_eqF, z_10, z_01, z_litne, z_ne0, z_0ne, z_ne1, z_1ne, z_lt64, z_02, z_03, z_04, z_05, z_12, z_13, z_14, z_15, z_20, z_21, z_23, z_24, z_25, z_30, z_31, z_32, z_34, z_35, z_40, z_41, z_42, z_43, z_45, z_50, z_51, z_52, z_53, z_54]
    · by_cases e : m = k
      · rw [y_up1 rfl e]
      · rw [y_up2 (by omega)]
        exact hI.1 m (by omega)) i ⟨fun m hm => absurd hm (Nat.not_lt_zero _), fun _ _ _ => rfl⟩
  refine ⟨j, E.trans ?_, hj, hf⟩
  rw [bk_114_128]
  simp (maxSteps := 1000000) (disch := omega) only [hM, y_ckd, y_ck2d, y_ond, y_onn, y_oI, y_oIx, y_oJ, y_oV, y_oVx, y_oR, y_oRn, y_oRx, y_b0, y_b1, y_bi, y_bid, y_wIK, y_wIL, y_wII, y_wIJ, y_wIR, y_wIN, y_wIw, y_sI, ↓reduceIte, Nat.reduceEqDiff, eq_self, true_or, or_true, false_or, or_false, and_true, true_and, false_and, and_false, not_true, not_false_eq_true, tf_T, tf_F, y_up1, y_up2, y_xx, y_nx, y_sJ, y_sR, Int32.reduceLT, y_nxK, y_nxL, y_nxR, y_sJK, y_sJL, y_sJR, y_sJN, y_sRK, y_sRL, y_sRN, Nat.add_zero, z_nat, z_lit, z_lit0, z_lit1, z_in0, z_in1, z_addl0, z_lt, z_ltl, z_llt, z_inj, z_injl, z_add, z_addl, z_ladd, z_mul, z_mull, z_lmul, z_neg, z_negl, z_in, z_inl, z_ltT, z_ltF, z_eqF, z_10, z_01, z_litne, z_ne0, z_0ne, z_ne1, z_1ne, z_lt64, z_02, z_03, z_04, z_05, z_12, z_13, z_14, z_15, z_20, z_21, z_23, z_24, z_25, z_30, z_31, z_32, z_34, z_35, z_40, z_41, z_42, z_43, z_45, z_50, z_51, z_52, z_53, z_54]
theorem m_str {c t n : Nat} (hM : Md B) (hw : ∀ s, s < 12042 → i 875 s = w s) (hc : 0 < c) (c4 : c ≤ 4) (ht : t < 2147483648) (n8 : n ≤ 8) (hz : ∀ m, m < c → i 888 m = 0) : ∃ i', am_fx am_P (d + 1) 114 155 [some (.ref 874), some (.int (Int32.ofNat c)), some (.int (Int32.ofNat n)), some (.int x), some (.int y), some (.int (Int32.ofNat t)), some (.int (Int32.ofNat (t / c ^ 0))), some (.int (Int32.ofNat 0)), none] [] (am_wI B i) = am_fx am_P (d + 1) 114 204 [some (.ref 874), some (.int (Int32.ofNat c)), some (.int (Int32.ofNat n)), some (.int x), some (.int y), some (.int (Int32.ofNat t)), none, some (.int 0), some (.int 0)] [] (am_wI B i') ∧ (∀ m, m < c → i' 888 m = stw w c t n m) ∧ ∀ q m, q ≠ 888 → i' q m = i q m := by
  obtain ⟨j, E, hj, hf⟩ := lp_inv (fun k j => am_fx am_P (d + 1) 114 155 [some (.ref 874), some (.int (Int32.ofNat c)), some (.int (Int32.ofNat n)), some (.int x), some (.int y), some (.int (Int32.ofNat t)), some (.int (Int32.ofNat (t / c ^ k))), some (.int (Int32.ofNat k)), none] [] (am_wI B j)) (fun k j => (∀ m, m < c → j 888 m = stw w c t k m) ∧ ∀ q m, q ≠ 888 → j q m = i q m) n (fun k j hk hI => by
    obtain ⟨hj, hf⟩ := hI
    have e1 := (hf 875 (3020 + 2 * k) (by omega)).trans (hw _ (by omega))
    have hq : t / c ^ k ≤ t := Nat.div_le_self _ _
    have hm : t / c ^ k % c < c := Nat.mod_lt _ hc
    have ed := z_divn (a := t / c ^ k) (c := c) (by omega) (by omega)
    have em := z_modn (a := t / c ^ k) (c := c)
    have es : t / c ^ (k + 1) = t / c ^ k / c := by rw [Nat.pow_succ, Nat.div_div_eq_div_mul]
    have nz : Int32.ofNat c ≠ 0 := by rw [show (0 : Int32) = Int32.ofNat 0 from rfl, Ne, z_inj (by omega) (by omega)]; omega
    refine ⟨am_up2 j 888 (t / c ^ k % c) (j 888 (t / c ^ k % c) + w (3020 + 2 * k)), ?_, fun m hm4 => ?_, fun q m hq => by rw [y_up2 (by omega)]; exact hf q m hq⟩
    · rw [bk_114_155, es]
      generalize t / c ^ k = a at *
      have hl := z_mul (a := a / c) (b := c)
      simp (maxSteps := 1000000) (disch := omega) only [ed, hl, em, e1, y_nz nz, hM, y_ckd, y_ck2d, y_ond, y_onn, y_oI, y_oIx, y_oJ, y_oV, y_oVx, y_oR, y_oRn, y_oRx, y_b0, y_b1, y_bi, y_bid, y_wIK, y_wIL, y_wII, y_wIJ, y_wIR, y_wIN, y_wIw, y_sI, ↓reduceIte, Nat.reduceEqDiff, eq_self, true_or, or_true, false_or, or_false, and_true, true_and, false_and, and_false, not_true, not_false_eq_true, tf_T, tf_F, y_up1, y_up2, y_xx, y_nx, y_sJ, y_sR, Int32.reduceLT, y_nxK, y_nxL, y_nxR, y_sJK, y_sJL, y_sJR, y_sJN, y_sRK, y_sRL, y_sRN, Nat.add_zero, z_nat, z_lit, z_lit0, z_lit1, z_in0, z_in1, z_addl0, z_lt, z_ltl, z_llt, z_inj, z_injl, z_add, z_addl, z_ladd, z_mul, z_mull, z_lmul, z_neg, z_negl, z_in, z_inl, z_ltT, z_ltF, z_eqF, z_10, z_01, z_litne, z_ne0, z_0ne, z_ne1, z_1ne, z_lt64, z_02, z_03, z_04, z_05, z_12, z_13, z_14, z_15, z_20, z_21, z_23, z_24, z_25, z_30, z_31, z_32, z_34, z_35, z_40, z_41, z_42, z_43, z_45, z_50, z_51, z_52, z_53, z_54]
    · rw [stw_s]
      show _ = if m = t / c ^ k % c then stw w c t k m + w (3020 + 2 * k) else stw w c t k m
      by_cases e : m = t / c ^ k % c
      · rw [y_up1 rfl e, if_pos e, e, hj _ (by omega)]
      · rw [y_up2 (by omega), if_neg e]
        exact hj m hm4) i ⟨hz, fun _ _ _ => rfl⟩
  refine ⟨j, E.trans ?_, hj, hf⟩
  rw [bk_114_155]
  simp (maxSteps := 1000000) (disch := omega) only [hM, y_ckd, y_ck2d, y_ond, y_onn, y_oI, y_oIx, y_oJ, y_oV, y_oVx, y_oR, y_oRn, y_oRx, y_b0, y_b1, y_bi, y_bid, y_wIK, y_wIL, y_wII, y_wIJ, y_wIR, y_wIN, y_wIw, y_sI, ↓reduceIte, Nat.reduceEqDiff, eq_self, true_or, or_true, false_or, or_false, and_true, true_and, false_and, and_false, not_true, not_false_eq_true, tf_T, tf_F, y_up1, y_up2, y_xx, y_nx, y_sJ, y_sR, Int32.reduceLT, y_nxK, y_nxL, y_nxR, y_sJK, y_sJL, y_sJR, y_sJN, y_sRK, y_sRL, y_sRN, Nat.add_zero, z_nat, z_lit, z_lit0, z_lit1, z_in0, z_in1, z_addl0, z_lt, z_ltl, z_llt, z_inj, z_injl, z_add, z_addl, z_ladd, z_mul, z_mull, z_lmul, z_neg, z_negl, z_in, z_inl, z_ltT, z_ltF, z_eqF, z_10, z_01, z_litne, z_ne0, z_0ne, z_ne1, z_1ne, z_lt64, z_02, z_03, z_04, z_05, z_12, z_13, z_14, z_15, z_20, z_21, z_23, z_24, z_25, z_30, z_31, z_32, z_34, z_35, z_40, z_41, z_42, z_43, z_45, z_50, z_51, z_52, z_53, z_54]
end Gangs2
