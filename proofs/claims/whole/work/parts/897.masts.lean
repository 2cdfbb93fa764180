/-! MASTS: made by wip/whole/math/897.py. -/
section Masts
variable {B B1 : am_A} {i i1 : Nat → Nat → Int32} {σ σ' : Sg} {w : Nat → Int32} {L j d b m n c T : Nat} {x y z : Int32} {f : Nat → Nat}
/-- how many a set has -/
def pcn (T : Nat) : Nat := itr (fun k a => if bt2 T k then a + 1 else a) 8 0
def bcx (x0 : Int32) : Int32 := ((((((((x0 - (((x0.toUInt32 >>> ((1 : Int32).toUInt32 &&& Int32.toUInt32 31)).toInt32) &&& 1431655765)) &&& 858993459) + ((((x0 - (((x0.toUInt32 >>> ((1 : Int32).toUInt32 &&& Int32.toUInt32 31)).toInt32) &&& 1431655765)).toUInt32 >>> ((2 : Int32).toUInt32 &&& Int32.toUInt32 31)).toInt32) &&& 858993459)) + (((((x0 - (((x0.toUInt32 >>> ((1 : Int32).toUInt32 &&& Int32.toUInt32 31)).toInt32) &&& 1431655765)) &&& 858993459) + ((((x0 - (((x0.toUInt32 >>> ((1 : Int32).toUInt32 &&& Int32.toUInt32 31)).toInt32) &&& 1431655765)).toUInt32 >>> ((2 : Int32).toUInt32 &&& Int32.toUInt32 31)).toInt32) &&& 858993459)).toUInt32 >>> ((4 : Int32).toUInt32 &&& Int32.toUInt32 31)).toInt32)) &&& 252645135) + (((((((x0 - (((x0.toUInt32 >>> ((1 : Int32).toUInt32 &&& Int32.toUInt32 31)).toInt32) &&& 1431655765)) &&& 858993459) + ((((x0 - (((x0.toUInt32 >>> ((1 : Int32).toUInt32 &&& Int32.toUInt32 31)).toInt32) &&& 1431655765)).toUInt32 >>> ((2 : Int32).toUInt32 &&& Int32.toUInt32 31)).toInt32) &&& 858993459)) + (((((x0 - (((x0.toUInt32 >>> ((1 : Int32).toUInt32 &&& Int32.toUInt32 31)).toInt32) &&& 1431655765)) &&& 858993459) + ((((x0 - (((x0.toUInt32 >>> ((1 : Int32).toUInt32 &&& Int32.toUInt32 31)).toInt32) &&& 1431655765)).toUInt32 >>> ((2 : Int32).toUInt32 &&& Int32.toUInt32 31)).toInt32) &&& 858993459)).toUInt32 >>> ((4 : Int32).toUInt32 &&& Int32.toUInt32 31)).toInt32)) &&& 252645135).toUInt32 >>> ((8 : Int32).toUInt32 &&& Int32.toUInt32 31)).toInt32)) + ((((((((x0 - (((x0.toUInt32 >>> ((1 : Int32).toUInt32 &&& Int32.toUInt32 31)).toInt32) &&& 1431655765)) &&& 858993459) + ((((x0 - (((x0.toUInt32 >>> ((1 : Int32).toUInt32 &&& Int32.toUInt32 31)).toInt32) &&& 1431655765)).toUInt32 >>> ((2 : Int32).toUInt32 &&& Int32.toUInt32 31)).toInt32) &&& 858993459)) + (((((x0 - (((x0.toUInt32 >>> ((1 : Int32).toUInt32 &&& Int32.toUInt32 31)).toInt32) &&& 1431655765)) &&& 858993459) + ((((x0 - (((x0.toUInt32 >>> ((1 : Int32).toUInt32 &&& Int32.toUInt32 31)).toInt32) &&& 1431655765)).toUInt32 >>> ((2 : Int32).toUInt32 &&& Int32.toUInt32 31)).toInt32) &&& 858993459)).toUInt32 >>> ((4 : Int32).toUInt32 &&& Int32.toUInt32 31)).toInt32)) &&& 252645135) + (((((((x0 - (((x0.toUInt32 >>> ((1 : Int32).toUInt32 &&& Int32.toUInt32 31)).toInt32) &&& 1431655765)) &&& 858993459) + ((((x0 - (((x0.toUInt32 >>> ((1 : Int32).toUInt32 &&& Int32.toUInt32 31)).toInt32) &&& 1431655765)).toUInt32 >>> ((2 : Int32).toUInt32 &&& Int32.toUInt32 31)).toInt32) &&& 858993459)) + (((((x0 - (((x0.toUInt32 >>> ((1 : Int32).toUInt32 &&& Int32.toUInt32 31)).toInt32) &&& 1431655765)) &&& 858993459) + ((((x0 - (((x0.toUInt32 >>> ((1 : Int32).toUInt32 &&& Int32.toUInt32 31)).toInt32) &&& 1431655765)).toUInt32 >>> ((2 : Int32).toUInt32 &&& Int32.toUInt32 31)).toInt32) &&& 858993459)).toUInt32 >>> ((4 : Int32).toUInt32 &&& Int32.toUInt32 31)).toInt32)) &&& 252645135).toUInt32 >>> ((8 : Int32).toUInt32 &&& Int32.toUInt32 31)).toInt32)).toUInt32 >>> ((16 : Int32).toUInt32 &&& Int32.toUInt32 31)).toInt32)) &&& 63)
theorem bcx_ok : ∀ T, T < 256 → bcx (Int32.ofNat T) = Int32.ofNat (pcn T) := by decide +kernel
theorem pcn_8 : ∀ T, T < 256 → pcn T ≤ 8 := by decide +kernel
theorem c_bits {A : am_A} (h : T < 256) : am_fx am_P d 5 0 [some (.int (Int32.ofNat T))] [] A = some (.inl (some (.int (Int32.ofNat (pcn T)))), A) := by
  rw [bk_5_0]
  exact congrArg (fun v => some (Sum.inl (some (Value.int v)), A)) (bcx_ok T h)
theorem zb_tsu : ∀ T, T < 256 → ∀ n, n < 8 → ((((Int32.ofNat T).toUInt32 >>> ((Int32.ofNat n).toUInt32 &&& Int32.toUInt32 31)).toInt32) &&& 1 = 1 ↔ bt2 T n) := by decide +kernel
theorem zb_ts0 : ∀ T, T < 256 → ∀ n, n < 8 → ((Int32.ofNat T >>> (Int32.ofNat n &&& 31)) &&& 1 = 0 ↔ ¬ bt2 T n) := by decide +kernel
theorem pcn_bit : ∀ c, c < 9 → ∀ T, T < 2 ^ c → 0 < T → ∃ k, k < c ∧ bt2 T k := by decide +kernel
/-- the first eight masts in pond or shed -/
abbrev ism (w : Nat → Int32) (p : Nat) : Prop := w (461 + 18 * p) = 2 ∧ (w (461 + 18 * p + 1) = 1 ∨ w (461 + 18 * p + 1) = 2)
abbrev fms (w : Nat → Int32) (p : Nat) (a : Nat × (Nat → Nat)) : Nat × (Nat → Nat) := if a.1 < 8 ∧ ism w p then (a.1 + 1, fun j => if j = a.1 then p else a.2 j) else a
def mst (w : Nat → Int32) (n : Nat) : Nat × (Nat → Nat) := itr (fms w) n (0, fun _ => 0)
theorem mst_s : mst w (n + 1) = fms w n (mst w n) := rfl
theorem mst_ok {w : Nat → Int32} : ∀ n, (mst w n).1 ≤ 8 ∧ (∀ j, j < (mst w n).1 → (mst w n).2 j < n ∧ ism w ((mst w n).2 j)) ∧ ∀ j k, j < k → k < (mst w n).1 → (mst w n).2 j < (mst w n).2 k
  | 0 => ⟨Nat.zero_le _, fun j h => absurd h (Nat.not_lt_zero j), fun j k _ h => absurd h (Nat.not_lt_zero k)⟩
  | n + 1 => by
    obtain ⟨h1, h2, h3⟩ := mst_ok (w := w) n
    rw [mst_s]
    unfold fms
    by_cases g : (mst w n).1 < 8 ∧ ism w n
    · rw [if_pos g]
      refine ⟨g.1, fun j hj => ?_, fun j k hjk hk => ?_⟩
      · have hj : j < (mst w n).1 + 1 := hj
        show (if j = (mst w n).1 then n else (mst w n).2 j) < n + 1 ∧ ism w (if j = (mst w n).1 then n else (mst w n).2 j)
        by_cases e : j = (mst w n).1
        · rw [if_pos e]
          exact ⟨by omega, g.2⟩
        · rw [if_neg e]
          obtain ⟨a1, a2⟩ := h2 j (by omega)
          exact ⟨by omega, a2⟩
      · have hk : k < (mst w n).1 + 1 := hk
        show (if j = (mst w n).1 then n else (mst w n).2 j) < (if k = (mst w n).1 then n else (mst w n).2 k)
        rw [if_neg (by omega)]
        by_cases e : k = (mst w n).1
        · rw [if_pos e]
          exact (h2 j (by omega)).1
        · rw [if_neg e]
          exact h3 j k hjk (by omega)
    · rw [if_neg g]
      exact ⟨h1, fun j hj => by obtain ⟨a1, a2⟩ := h2 j hj; exact ⟨by omega, a2⟩, h3⟩
abbrev mc (w : Nat → Int32) : Nat := (mst w (cn w 460)).1
abbrev mf (w : Nat → Int32) : Nat → Nat := (mst w (cn w 460)).2
theorem c_listM (hF : Fc B) (hY : Yd B 94) (hR : RP i 94 w) (hc : isc w 460 120) : ∃ i', am_fx am_P d 279 0 [some (.ref 71), some (.ref 94), none, none] [] (am_wI B i) = some (.inl none, am_wI B i') ∧ (∀ q k, q ≠ 76 → (q = 71 → k ≠ 6) → i' q k = i q k) ∧ i' 71 6 = Int32.ofNat (mc w) ∧ ∀ j, j < mc w → i' 76 j = Int32.ofNat (mf w j) := by
  have h2 := hc.2
  have e5 : i 94 5 = Int32.ofNat (cn w 460) := hR.1.trans hc.1
  obtain ⟨j1, E, hf, hj1, hj2⟩ := lp_inv (fun k j => if (mst w k).1 < 8 then am_fx am_P d 279 7 [some (.ref 71), some (.ref 94), some (.int (Int32.ofNat k)), none] [] (am_wI B j) else some (.inl none, am_wI B j)) (fun k j => (∀ q k, q ≠ 76 → (q = 71 → k ≠ 6) → j q k = i q k) ∧ j 71 6 = Int32.ofNat (mst w k).1 ∧ ∀ m, m < (mst w k).1 → j 76 m = Int32.ofNat ((mst w k).2 m)) (cn w 460) (fun k j hk hI => by
    obtain ⟨hf, e1, e2⟩ := hI
    have e5 := (hf 94 5 (by omega) (by omega)).trans e5
    obtain ⟨b0, b1, -⟩ := hR.2 k hk (by omega)
    have b0 := (hf _ 0 (by omega) (by omega)).trans b0
    have b1 := (hf _ 9 (by omega) (by omega)).trans b1
    rw [mst_s]
    unfold fms
    obtain ⟨l1, -⟩ := mst_ok (w := w) k
    generalize mst w k = a at *
    obtain ⟨c, f⟩ := a
    have e1 : j 71 6 = Int32.ofNat c := e1
    have e2 : ∀ m, m < c → j 76 m = Int32.ofNat (f m) := e2
    have l1 : c ≤ 8 := l1
    by_cases g8 : c < 8
    rotate_left
    · rw [if_neg (c := c < 8) g8, if_neg (c := c < 8 ∧ ism w k) (fun q => g8 q.1)]
      exact ⟨j, by rw [if_neg (c := c < 8) g8], hf, e1, e2⟩
    rw [if_pos (c := c < 8) g8]
    by_cases g : ism w k
    · rw [if_pos (c := c < 8 ∧ ism w k) ⟨g8, g⟩]
      refine ⟨am_up2 (am_up2 j 76 c (Int32.ofNat k)) 71 6 (Int32.ofNat (c + 1)), ?_, fun q k h1 h2 => by rw [y_up2 (by omega), y_up2 (Or.inl h1)]; exact hf q k h1 h2, y_up1 rfl rfl, fun m hm => ?_⟩
      · have e75 : am_fx am_P d 279 75 [some (.ref 71), some (.ref 94), some (.int (Int32.ofNat k)), none] [] (am_wI B (am_up2 (am_up2 j 76 c (Int32.ofNat k)) 71 6 (Int32.ofNat (c + 1)))) = if c + 1 < 8 then am_fx am_P d 279 7 [some (.ref 71), some (.ref 94), some (.int (Int32.ofNat (k + 1))), none] [] (am_wI B (am_up2 (am_up2 j 76 c (Int32.ofNat k)) 71 6 (Int32.ofNat (c + 1)))) else some (.inl none, am_wI B (am_up2 (am_up2 j 76 c (Int32.ofNat k)) 71 6 (Int32.ofNat (c + 1)))) := by
          rw [bk_279_75]
          by_cases q : c + 1 < 8
          · rw [if_pos q, show Int32.ofNat k + 1 = Int32.ofNat (k + 1) from z_add k 1]
          · rw [if_neg q, bk_279_7]
            have q8 : c + 1 = 8 := by omega
            rw [q8]
            by_cases q2 : k + 1 < cn w 460
            · simp (maxSteps := 1000000) (disch := omega) only [e5, hF, hY, y_ckd, y_ck2d, y_ond, y_onn, y_oI, y_oIx, y_oJ, y_oV, y_oVx, y_oR, y_oRn, y_oRx, y_b0, y_b1, y_bi, y_bid, y_wIK, y_wIL, y_wII, y_wIJ, y_wIR, y_wIN, y_wIw, y_sI, ↓reduceIte, Nat.reduceEqDiff, eq_self, true_or, or_true, false_or, or_false, and_true, true_and, false_and, and_false, not_true, not_false_eq_true, tf_T, tf_F, y_up1, y_up2, y_xx, y_nx, y_sJ, y_sR, Int32.reduceLT, y_nxK, y_nxL, y_nxR, y_sJK, y_sJL, y_sJR, y_sJN, y_sRK, y_sRL, y_sRN, Nat.add_zero, z_nat, z_lit, z_lit0, z_lit1, z_in0, z_in1, z_addl0, z_lt, z_ltl, z_llt, z_inj, z_injl, z_add, z_addl, z_ladd, z_mul, z_mull, z_lmul, z_neg, z_negl, z_in, z_inl, z_ltT, z_ltF, z_eqF, z_10, z_01, z_litne, z_ne0, z_0ne, z_ne1, z_1ne, z_lt64, z_02, z_03, z_04, z_05, z_12, z_13, z_14, z_15, z_20, z_21, z_23, z_24, z_25, z_30, z_31, z_32, z_34, z_35, z_40, z_41, z_42, z_43, z_45, z_50, z_51, z_52, z_53, z_54]
            · simp (maxSteps := 1000000) (disch := omega) only [e5, hF, hY, y_ckd, y_ck2d, y_ond, y_onn, y_oI, y_oIx, y_oJ, y_oV, y_oVx, y_oR, y_oRn, y_oRx, y_b0, y_b1, y_bi, y_bid, y_wIK, y_wIL, y_wII, y_wIJ, y_wIR, y_wIN, y_wIw, y_sI, ↓reduceIte, Nat.reduceEqDiff, eq_self, true_or, or_true, false_or, or_false, and_true, true_and, false_and, and_false, not_true, not_false_eq_true, tf_T, tf_F, y_up1, y_up2, y_xx, y_nx, y_sJ, y_sR, Int32.reduceLT, y_nxK, y_nxL, y_nxR, y_sJK, y_sJL, y_sJR, y_sJN, y_sRK, y_sRL, y_sRN, Nat.add_zero, z_nat, z_lit, z_lit0, z_lit1, z_in0, z_in1, z_addl0, z_lt, z_ltl, z_llt, z_inj, z_injl, z_add, z_addl, z_ladd, z_mul, z_mull, z_lmul, z_neg, z_negl, z_in, z_inl, z_ltT, z_ltF, z_eqF, z_10, z_01, z_litne, z_ne0, z_0ne, z_ne1, z_1ne, z_lt64, z_02, z_03, z_04, z_05, z_12, z_13, z_14, z_15, z_20, z_21, z_23, z_24, z_25, z_30, z_31, z_32, z_34, z_35, z_40, z_41, z_42, z_43, z_45, z_50, z_51, z_52, z_53, z_54]
        rw [← e75, bk_279_7]
        rcases g.2 with q | q
        · rw [g.1] at b0
          rw [q] at b1
          simp (maxSteps := 1000000) (disch := omega) only [(fun d x0 x1 x2 B i => bk_279_55 d x0 x1 x2 (am_wI B i)), e5, e1, b0, b1, g8, hF, hY, y_ckd, y_ck2d, y_ond, y_onn, y_oI, y_oIx, y_oJ, y_oV, y_oVx, y_oR, y_oRn, y_oRx, y_b0, y_b1, y_bi, y_bid, y_wIK, y_wIL, y_wII, y_wIJ, y_wIR, y_wIN, y_wIw, y_sI, ↓reduceIte, Nat.reduceEqDiff, eq_self, true_or, or_true, false_or, or_false, and_true, true_and, false_and, and_false, not_true, not_false_eq_true, tf_T, tf_F, y_up1, y_up2, y_xx, y_nx, y_sJ, y_sR, Int32.reduceLT, y_nxK, y_nxL, y_nxR, y_sJK, y_sJL, y_sJR, y_sJN, y_sRK, y_sRL, y_sRN, Nat.add_zero, z_nat, z_lit, z_lit0, z_lit1, z_in0, z_in1, z_addl0, z_lt, z_ltl, z_llt, z_inj, z_injl, z_add, z_addl, z_ladd, z_mul, z_mull, z_lmul, z_neg, z_negl, z_in, z_inl, z_ltT, z_ltF, z_eqF, z_10, z_01, z_litne, z_ne0, z_0ne, z_ne1, z_1ne, z_lt64, z_02, z_03, z_04, z_05, z_12, z_13, z_14, z_15, z_20, z_21, z_23, z_24, z_25, z_30, z_31, z_32, z_34, z_35, z_40, z_41, z_42, z_43, z_45, z_50, z_51, z_52, z_53, z_54]
        · rw [g.1] at b0
          rw [q] at b1
          simp (maxSteps := 1000000) (disch := omega) only [(fun d x0 x1 x2 B i => bk_279_55 d x0 x1 x2 (am_wI B i)), e5, e1, b0, b1, g8, hF, hY, y_ckd, y_ck2d, y_ond, y_onn, y_oI, y_oIx, y_oJ, y_oV, y_oVx, y_oR, y_oRn, y_oRx, y_b0, y_b1, y_bi, y_bid, y_wIK, y_wIL, y_wII, y_wIJ, y_wIR, y_wIN, y_wIw, y_sI, ↓reduceIte, Nat.reduceEqDiff, eq_self, true_or, or_true, false_or, or_false, and_true, true_and, false_and, and_false, not_true, not_false_eq_true, tf_T, tf_F, y_up1, y_up2, y_xx, y_nx, y_sJ, y_sR, Int32.reduceLT, y_nxK, y_nxL, y_nxR, y_sJK, y_sJL, y_sJR, y_sJN, y_sRK, y_sRL, y_sRN, Nat.add_zero, z_nat, z_lit, z_lit0, z_lit1, z_in0, z_in1, z_addl0, z_lt, z_ltl, z_llt, z_inj, z_injl, z_add, z_addl, z_ladd, z_mul, z_mull, z_lmul, z_neg, z_negl, z_in, z_inl, z_ltT, z_ltF, z_eqF, z_10, z_01, z_litne, z_ne0, z_0ne, z_ne1, z_1ne, z_lt64, z_02, z_03, z_04, z_05, z_12, z_13, z_14, z_15, z_20, z_21, z_23, z_24, z_25, z_30, z_31, z_32, z_34, z_35, z_40, z_41, z_42, z_43, z_45, z_50, z_51, z_52, z_53, z_54]
      · have hm : m < c + 1 := hm
        show _ = Int32.ofNat (if m = c then k else f m)
        rw [y_up2 (by omega)]
        by_cases e : m = c
        · rw [y_up1 rfl e, if_pos e]
        · rw [y_up2 (by omega), if_neg e]
          exact e2 m (by omega)
    · rw [if_neg (c := c < 8 ∧ ism w k) (fun q => g q.2)]
      refine ⟨j, ?_, hf, e1, e2⟩
      rw [if_pos (c := c < 8) g8, bk_279_7]
      by_cases g0 : w (461 + 18 * k) = 2
      · have g1 : ¬ w (461 + 18 * k + 1) = 1 := fun q => g ⟨g0, Or.inl q⟩
        have g2 : ¬ w (461 + 18 * k + 1) = 2 := fun q => g ⟨g0, Or.inr q⟩
        simp (maxSteps := 1000000) (disch := omega) only [(fun d x0 x1 x2 B i => bk_279_75 d x0 x1 x2 (am_wI B i)), e5, e1, b0, b1, g0, g1, g2, g8, hF, hY, y_ckd, y_ck2d, y_ond, y_onn, y_oI, y_oIx, y_oJ, y_oV, y_oVx, y_oR, y_oRn, y_oRx, y_b0, y_b1, y_bi, y_bid, y_wIK, y_wIL, y_wII, y_wIJ, y_wIR, y_wIN, y_wIw, y_sI, ↓reduceIte, Nat.reduceEqDiff, eq_self, true_or, or_true, false_or, or_false, and_true, true_and, false_and, and_false, not_true, not_false_eq_true, tf_T, tf_F, y_up1, y_up2, y_xx, y_nx, y_sJ, y_sR, Int32.reduceLT, y_nxK, y_nxL, y_nxR, y_sJK, y_sJL, y_sJR, y_sJN, y_sRK, y_sRL, y_sRN, Nat.add_zero, z_nat, z_lit, z_lit0, z_lit1, z_in0, z_in1, z_addl0, z_lt, z_ltl, z_llt, z_inj, z_injl, z_add, z_addl, z_ladd, z_mul, z_mull, z_lmul, z_neg, z_negl, z_in, z_inl, z_ltT, z_ltF, z_eqF, z_10, z_01, z_litne, z_ne0, z_0ne, z_ne1, z_1ne, z_lt64, z_02, z_03, z_04, z_05, z_12, z_13, z_14, z_15, z_20, z_21, z_23, z_24, z_25, z_30, z_31, z_32, z_34, z_35, z_40, z_41, z_42, z_43, z_45, z_50, z_51, z_52, z_53, z_54]
      · simp (maxSteps := 1000000) (disch := omega) only [(fun d x0 x1 x2 B i => bk_279_75 d x0 x1 x2 (am_wI B i)), e5, e1, b0, b1, g0, g8, hF, hY, y_ckd, y_ck2d, y_ond, y_onn, y_oI, y_oIx, y_oJ, y_oV, y_oVx, y_oR, y_oRn, y_oRx, y_b0, y_b1, y_bi, y_bid, y_wIK, y_wIL, y_wII, y_wIJ, y_wIR, y_wIN, y_wIw, y_sI, ↓reduceIte, Nat.reduceEqDiff, eq_self, true_or, or_true, false_or, or_false, and_true, true_and, false_and, and_false, not_true, not_false_eq_true, tf_T, tf_F, y_up1, y_up2, y_xx, y_nx, y_sJ, y_sR, Int32.reduceLT, y_nxK, y_nxL, y_nxR, y_sJK, y_sJL, y_sJR, y_sJN, y_sRK, y_sRL, y_sRN, Nat.add_zero, z_nat, z_lit, z_lit0, z_lit1, z_in0, z_in1, z_addl0, z_lt, z_ltl, z_llt, z_inj, z_injl, z_add, z_addl, z_ladd, z_mul, z_mull, z_lmul, z_neg, z_negl, z_in, z_inl, z_ltT, z_ltF, z_eqF, z_10, z_01, z_litne, z_ne0, z_0ne, z_ne1, z_1ne, z_lt64, z_02, z_03, z_04, z_05, z_12, z_13, z_14, z_15, z_20, z_21, z_23, z_24, z_25, z_30, z_31, z_32, z_34, z_35, z_40, z_41, z_42, z_43, z_45, z_50, z_51, z_52, z_53, z_54]) (am_up2 i 71 6 0) ⟨fun q k h1 h2 => y_up2 (by omega), y_up1 rfl rfl, fun m hm => absurd hm (Nat.not_lt_zero _)⟩
  refine ⟨j1, ?_, hf, hj1, hj2⟩
  rw [bk_279_0]
  rw [if_pos (show (mst w 0).1 < 8 from Nat.zero_lt_succ 7)] at E
  have e51 := (hf 94 5 (by omega) (by omega)).trans e5
  simp (maxSteps := 1000000) (disch := omega) only [hF, y_ckd, y_ck2d, y_ond, y_onn, y_oI, y_oIx, y_oJ, y_oV, y_oVx, y_oR, y_oRn, y_oRx, y_b0, y_b1, y_bi, y_bid, y_wIK, y_wIL, y_wII, y_wIJ, y_wIR, y_wIN, y_wIw, y_sI, ↓reduceIte, Nat.reduceEqDiff, eq_self, true_or, or_true, false_or, or_false, and_true, true_and, false_and, and_false, not_true, not_false_eq_true, tf_T, tf_F, y_up1, y_up2, y_xx, y_nx, y_sJ, y_sR, Int32.reduceLT, y_nxK, y_nxL, y_nxR, y_sJK, y_sJL, y_sJR, y_sJN, y_sRK, y_sRL, y_sRN]
  refine E.trans ?_
  split
  · rw [bk_279_7]
    simp (maxSteps := 1000000) (disch := omega) only [e51, hF, hY, y_ckd, y_ck2d, y_ond, y_onn, y_oI, y_oIx, y_oJ, y_oV, y_oVx, y_oR, y_oRn, y_oRx, y_b0, y_b1, y_bi, y_bid, y_wIK, y_wIL, y_wII, y_wIJ, y_wIR, y_wIN, y_wIw, y_sI, ↓reduceIte, Nat.reduceEqDiff, eq_self, true_or, or_true, false_or, or_false, and_true, true_and, false_and, and_false, not_true, not_false_eq_true, tf_T, tf_F, y_up1, y_up2, y_xx, y_nx, y_sJ, y_sR, Int32.reduceLT, y_nxK, y_nxL, y_nxR, y_sJK, y_sJL, y_sJR, y_sJN, y_sRK, y_sRL, y_sRN, Nat.add_zero, z_nat, z_lit, z_lit0, z_lit1, z_in0, z_in1, z_addl0, z_lt, z_ltl, z_llt, z_inj, z_injl, z_add, z_addl, z_ladd, z_mul, z_mull, z_lmul, z_neg, z_negl, z_in, z_inl, z_ltT, z_ltF, z_eqF, z_10, z_01, z_litne, z_ne0, z_0ne, z_ne1, z_1ne, z_lt64, z_02, z_03, z_04, z_05, z_12, z_13, z_14, z_15, z_20, z_21, z_23, z_24, z_25, z_30, z_31, z_32, z_34, z_35, z_40, z_41, z_42, z_43, z_45, z_50, z_51, z_52, z_53, z_54]
  · rfl
theorem m_gath (hM : Md B) (hw : ∀ z, z < 12042 → i 875 z = w z) (hc : isc w 460 120) : ∃ i', am_fx am_P (d + 2) 90 0 [some (.ref 874), none] [] (am_wI B i) = some (.inl none, am_wI B i') ∧ (∀ q k, q ≠ 886 → (q = 874 → k ≠ 23) → i' q k = i q k) ∧ i' 874 23 = Int32.ofNat (mc w) ∧ ∀ j, j < mc w → i' 886 j = Int32.ofNat (mf w j) := by
  have h2 := hc.2
  obtain ⟨j1, E, hf, hj1, hj2⟩ := lp_inv (fun k j => if (mst w k).1 < 8 then am_fx am_P (d + 2) 90 7 [some (.ref 874), some (.int (Int32.ofNat k))] [] (am_wI B j) else some (.inl none, am_wI B j)) (fun k j => (∀ q k, q ≠ 886 → (q = 874 → k ≠ 23) → j q k = i q k) ∧ j 874 23 = Int32.ofNat (mst w k).1 ∧ ∀ m, m < (mst w k).1 → j 886 m = Int32.ofNat ((mst w k).2 m)) (cn w 460) (fun k j hk hI => by
    obtain ⟨hf, e1, e2⟩ := hI
    have e5 : j 875 460 = Int32.ofNat (cn w 460) := (hf 875 460 (by omega) (by omega)).trans ((hw _ (by omega)).trans hc.1)
    have b0 : j 875 (461 + 18 * k) = w (461 + 18 * k) := (hf _ _ (by omega) (by omega)).trans (hw _ (by omega))
    have b1 : j 875 (461 + 18 * k + 1) = w (461 + 18 * k + 1) := (hf _ _ (by omega) (by omega)).trans (hw _ (by omega))
    rw [mst_s]
    unfold fms
    obtain ⟨l1, -⟩ := mst_ok (w := w) k
    generalize mst w k = a at *
    obtain ⟨c, f⟩ := a
    have e1 : j 874 23 = Int32.ofNat c := e1
    have e2 : ∀ m, m < c → j 886 m = Int32.ofNat (f m) := e2
    have l1 : c ≤ 8 := l1
    by_cases g8 : c < 8
    rotate_left
    · rw [if_neg (c := c < 8) g8, if_neg (c := c < 8 ∧ ism w k) (fun q => g8 q.1)]
      exact ⟨j, by rw [if_neg (c := c < 8) g8], hf, e1, e2⟩
    rw [if_pos (c := c < 8) g8]
    by_cases g : ism w k
    · rw [if_pos (c := c < 8 ∧ ism w k) ⟨g8, g⟩]
      refine ⟨am_up2 (am_up2 j 886 c (Int32.ofNat k)) 874 23 (Int32.ofNat (c + 1)), ?_, fun q k h1 h2 => by rw [y_up2 (by omega), y_up2 (Or.inl h1)]; exact hf q k h1 h2, y_up1 rfl rfl, fun m hm => ?_⟩
      · have e75 : am_fx am_P (d + 2) 90 75 [some (.ref 874), some (.int (Int32.ofNat k))] [] (am_wI B (am_up2 (am_up2 j 886 c (Int32.ofNat k)) 874 23 (Int32.ofNat (c + 1)))) = if c + 1 < 8 then am_fx am_P (d + 2) 90 7 [some (.ref 874), some (.int (Int32.ofNat (k + 1)))] [] (am_wI B (am_up2 (am_up2 j 886 c (Int32.ofNat k)) 874 23 (Int32.ofNat (c + 1)))) else some (.inl none, am_wI B (am_up2 (am_up2 j 886 c (Int32.ofNat k)) 874 23 (Int32.ofNat (c + 1)))) := by
          rw [bk_90_75]
          by_cases q : c + 1 < 8
          · rw [if_pos q, show Int32.ofNat k + 1 = Int32.ofNat (k + 1) from z_add k 1]
          · rw [if_neg q, bk_90_7]
            have q8 : c + 1 = 8 := by omega
            rw [q8]
            by_cases q2 : k + 1 < cn w 460
            · simp (maxSteps := 1000000) (disch := omega) only [e5, hM, y_ckd, y_ck2d, y_ond, y_onn, y_oI, y_oIx, y_oJ, y_oV, y_oVx, y_oR, y_oRn, y_oRx, y_b0, y_b1, y_bi, y_bid, y_wIK, y_wIL, y_wII, y_wIJ, y_wIR, y_wIN, y_wIw, y_sI, ↓reduceIte, Nat.reduceEqDiff, eq_self, true_or, or_true, false_or, or_false, and_true, true_and, false_and, and_false, not_true, not_false_eq_true, tf_T, tf_F, y_up1, y_up2, y_xx, y_nx, y_sJ, y_sR, Int32.reduceLT, y_nxK, y_nxL, y_nxR, y_sJK, y_sJL, y_sJR, y_sJN, y_sRK, y_sRL, y_sRN, Nat.add_zero, z_nat, z_lit, z_lit0, z_lit1, z_in0, z_in1, z_addl0, z_lt, z_ltl, z_llt, z_inj, z_injl, z_add, z_addl, z_ladd, z_mul, z_mull, z_lmul, z_neg, z_negl, z_in, z_inl, z_ltT, z_ltF, z_eqF, z_10, z_01, z_litne, z_ne0, z_0ne, z_ne1, z_1ne, z_lt64, z_02, z_03, z_04, z_05, z_12, z_13, z_14, z_15, z_20, z_21, z_23, z_24, z_25, z_30, z_31, z_32, z_34, z_35, z_40, z_41, z_42, z_43, z_45, z_50, z_51, z_52, z_53, z_54]
            · simp (maxSteps := 1000000) (disch := omega) only [e5, hM, y_ckd, y_ck2d, y_ond, y_onn, y_oI, y_oIx, y_oJ, y_oV, y_oVx, y_oR, y_oRn, y_oRx, y_b0, y_b1, y_bi, y_bid, y_wIK, y_wIL, y_wII, y_wIJ, y_wIR, y_wIN, y_wIw, y_sI, ↓reduceIte, Nat.reduceEqDiff, eq_self, true_or, or_true, false_or, or_false, and_true, true_and, false_and, and_false, not_true, not_false_eq_true, tf_T, tf_F, y_up1, y_up2, y_xx, y_nx, y_sJ, y_sR, Int32.reduceLT, y_nxK, y_nxL, y_nxR, y_sJK, y_sJL, y_sJR, y_sJN, y_sRK, y_sRL, y_sRN, Nat.add_zero, z_nat, z_lit, z_lit0, z_lit1, z_in0, z_in1, z_addl0, z_lt, z_ltl, z_llt, z_inj, z_injl, z_add, z_addl, z_ladd, z_mul, z_mull, z_lmul, z_neg, z_negl, z_in, z_inl, z_ltT, z_ltF, z_eqF, z_10, z_01, z_litne, z_ne0, z_0ne, z_ne1, z_1ne, z_lt64, z_02, z_03, z_04, z_05, z_12, z_13, z_14, z_15, z_20, z_21, z_23, z_24, z_25, z_30, z_31, z_32, z_34, z_35, z_40, z_41, z_42, z_43, z_45, z_50, z_51, z_52, z_53, z_54]
        rw [← e75, bk_90_7]
        have in1 : ∀ {d : Nat} {A : am_A}, am_fx am_P d 11 0 [some (.int 1), some (.int 1), some (.int 2)] [] A = some (.inl (some (.int 1)), A) := fun {d} {A} => by rw [m_in, tf_p (by decide)]
        have in2 : ∀ {d : Nat} {A : am_A}, am_fx am_P d 11 0 [some (.int 2), some (.int 1), some (.int 2)] [] A = some (.inl (some (.int 1)), A) := fun {d} {A} => by rw [m_in, tf_p (by decide)]
        rcases g.2 with q | q
        · rw [g.1] at b0
          rw [q] at b1
          simp (maxSteps := 1000000) (disch := omega) only [(fun d x0 x1 x2 B i => bk_24_0 d x0 x1 x2 (am_wI B i)), (fun d x0 x1 B i => bk_23_0 d x0 x1 (am_wI B i)), in1, e5, e1, b0, b1, g8, hM, y_ckd, y_ck2d, y_ond, y_onn, y_oI, y_oIx, y_oJ, y_oV, y_oVx, y_oR, y_oRn, y_oRx, y_b0, y_b1, y_bi, y_bid, y_wIK, y_wIL, y_wII, y_wIJ, y_wIR, y_wIN, y_wIw, y_sI, ↓reduceIte, Nat.reduceEqDiff, eq_self, true_or, or_true, false_or, or_false, and_true, true_and, false_and, and_false, not_true, not_false_eq_true, tf_T, tf_F, y_up1, y_up2, y_xx, y_nx, y_sJ, y_sR, Int32.reduceLT, y_nxK, y_nxL, y_nxR, y_sJK, y_sJL, y_sJR, y_sJN, y_sRK, y_sRL, y_sRN, Nat.add_zero, z_nat, z_lit, z_lit0, z_lit1, z_in0, z_in1, z_addl0, z_lt, z_ltl, z_llt, z_inj, z_injl, z_add, z_addl, z_ladd, z_mul, z_mull, z_lmul, z_neg, z_negl, z_in, z_inl, z_ltT, z_ltF, z_eqF, z_10, z_01, z_litne, z_ne0, z_0ne, z_ne1, z_1ne, z_lt64, z_02, z_03, z_04, z_05, z_12, z_13, z_14, z_15, z_20, z_21, z_23, z_24, z_25, z_30, z_31, z_32, z_34, z_35, z_40, z_41, z_42, z_43, z_45, z_50, z_51, z_52, z_53, z_54]
        · rw [g.1] at b0
          rw [q] at b1
          simp (maxSteps := 1000000) (disch := omega) only [(fun d x0 x1 x2 B i => bk_24_0 d x0 x1 x2 (am_wI B i)), (fun d x0 x1 B i => bk_23_0 d x0 x1 (am_wI B i)), in2, e5, e1, b0, b1, g8, hM, y_ckd, y_ck2d, y_ond, y_onn, y_oI, y_oIx, y_oJ, y_oV, y_oVx, y_oR, y_oRn, y_oRx, y_b0, y_b1, y_bi, y_bid, y_wIK, y_wIL, y_wII, y_wIJ, y_wIR, y_wIN, y_wIw, y_sI, ↓reduceIte, Nat.reduceEqDiff, eq_self, true_or, or_true, false_or, or_false, and_true, true_and, false_and, and_false, not_true, not_false_eq_true, tf_T, tf_F, y_up1, y_up2, y_xx, y_nx, y_sJ, y_sR, Int32.reduceLT, y_nxK, y_nxL, y_nxR, y_sJK, y_sJL, y_sJR, y_sJN, y_sRK, y_sRL, y_sRN, Nat.add_zero, z_nat, z_lit, z_lit0, z_lit1, z_in0, z_in1, z_addl0, z_lt, z_ltl, z_llt, z_inj, z_injl, z_add, z_addl, z_ladd, z_mul, z_mull, z_lmul, z_neg, z_negl, z_in, z_inl, z_ltT, z_ltF, z_eqF, z_10, z_01, z_litne, z_ne0, z_0ne, z_ne1, z_1ne, z_lt64, z_02, z_03, z_04, z_05, z_12, z_13, z_14, z_15, z_20, z_21, z_23, z_24, z_25, z_30, z_31, z_32, z_34, z_35, z_40, z_41, z_42, z_43, z_45, z_50, z_51, z_52, z_53, z_54]
      · have hm : m < c + 1 := hm
        show _ = Int32.ofNat (if m = c then k else f m)
        rw [y_up2 (by omega)]
        by_cases e : m = c
        · rw [y_up1 rfl e, if_pos e]
        · rw [y_up2 (by omega), if_neg e]
          exact e2 m (by omega)
    · rw [if_neg (c := c < 8 ∧ ism w k) (fun q => g q.2)]
      refine ⟨j, ?_, hf, e1, e2⟩
      rw [if_pos (c := c < 8) g8, bk_90_7]
      by_cases g0 : w (461 + 18 * k) = 2
      · have in0 : ∀ {d : Nat} {A : am_A}, am_fx am_P d 11 0 [some (.int (w (461 + 18 * k + 1))), some (.int 1), some (.int 2)] [] A = some (.inl (some (.int 0)), A) := fun {d} {A} => by
          rw [m_in, tf_n fun q => g ⟨g0, ?_⟩]
          have q := q
          generalize w (461 + 18 * k + 1) = v at *
          have h1 : ¬ v < 1 := q.1
          have h2 : ¬ 2 < v := q.2
          rw [Int32.lt_iff_toInt_lt] at h1 h2
          have k1 : (1 : Int32).toInt = 1 := by decide
          have k2 : (2 : Int32).toInt = 2 := by decide
          by_cases e : v.toInt = 1
          · exact Or.inl (Int32.toInt_inj.mp (e.trans k1.symm))
          · exact Or.inr (Int32.toInt_inj.mp (by omega))
        rw [g0] at b0
        simp (maxSteps := 1000000) (disch := omega) only [(fun d x0 x1 x2 B i => bk_24_0 d x0 x1 x2 (am_wI B i)), (fun d x0 x1 B i => bk_23_0 d x0 x1 (am_wI B i)), (fun d x0 x1 B i => bk_90_75 d x0 x1 (am_wI B i)), in0, e5, e1, b0, b1, g8, hM, y_ckd, y_ck2d, y_ond, y_onn, y_oI, y_oIx, y_oJ, y_oV, y_oVx, y_oR, y_oRn, y_oRx, y_b0, y_b1, y_bi, y_bid, y_wIK, y_wIL, y_wII, y_wIJ, y_wIR, y_wIN, y_wIw, y_sI, ↓reduceIte, Nat.reduceEqDiff, eq_self, true_or, or_true, false_or, or_false, and_true, true_and, false_and, and_false, not_true, not_false_eq_true, tf_T, tf_F, y_up1, y_up2, y_xx, y_nx, y_sJ, y_sR, Int32.reduceLT, y_nxK, y_nxL, y_nxR, y_sJK, y_sJL, y_sJR, y_sJN, y_sRK, y_sRL, y_sRN, Nat.add_zero, z_nat, z_lit, z_lit0, z_lit1, z_in0, z_in1, z_addl0, z_lt, z_ltl, z_llt, z_inj, z_injl, z_add, z_addl, z_ladd, z_mul, z_mull, z_lmul, z_neg, z_negl, z_in, z_inl, z_ltT, z_ltF, z_eqF, z_10, z_01, z_litne, z_ne0, z_0ne, z_ne1, z_1ne, z_lt64, z_02, z_03, z_04, z_05, z_12, z_13, z_14, z_15, z_20, z_21, z_23, z_24, z_25, z_30, z_31, z_32, z_34, z_35, z_40, z_41, z_42, z_43, z_45, z_50, z_51, z_52, z_53, z_54]
      · simp (maxSteps := 1000000) (disch := omega) only [(fun d x0 x1 x2 B i => bk_24_0 d x0 x1 x2 (am_wI B i)), (fun d x0 x1 B i => bk_23_0 d x0 x1 (am_wI B i)), (fun d x0 x1 B i => bk_90_75 d x0 x1 (am_wI B i)), e5, e1, b0, b1, g0, g8, hM, y_ckd, y_ck2d, y_ond, y_onn, y_oI, y_oIx, y_oJ, y_oV, y_oVx, y_oR, y_oRn, y_oRx, y_b0, y_b1, y_bi, y_bid, y_wIK, y_wIL, y_wII, y_wIJ, y_wIR, y_wIN, y_wIw, y_sI, ↓reduceIte, Nat.reduceEqDiff, eq_self, true_or, or_true, false_or, or_false, and_true, true_and, false_and, and_false, not_true, not_false_eq_true, tf_T, tf_F, y_up1, y_up2, y_xx, y_nx, y_sJ, y_sR, Int32.reduceLT, y_nxK, y_nxL, y_nxR, y_sJK, y_sJL, y_sJR, y_sJN, y_sRK, y_sRL, y_sRN, Nat.add_zero, z_nat, z_lit, z_lit0, z_lit1, z_in0, z_in1, z_addl0, z_lt, z_ltl, z_llt, z_inj, z_injl, z_add, z_addl, z_ladd, z_mul, z_mull, z_lmul, z_neg, z_negl, z_in, z_inl, z_ltT, z_ltF, z_eqF, z_10, z_01, z_litne, z_ne0, z_0ne, z_ne1, z_1ne, z_lt64, z_02, z_03, z_04, z_05, z_12, z_13, z_14, z_15, z_20, z_21, z_23, z_24, z_25, z_30, z_31, z_32, z_34, z_35, z_40, z_41, z_42, z_43, z_45, z_50, z_51, z_52, z_53, z_54]) (am_up2 i 874 23 0) ⟨fun q k h1 h2 => y_up2 (by omega), y_up1 rfl rfl, fun m hm => absurd hm (Nat.not_lt_zero _)⟩
  refine ⟨j1, ?_, hf, hj1, hj2⟩
  rw [bk_90_0]
  rw [if_pos (show (mst w 0).1 < 8 from Nat.zero_lt_succ 7)] at E
  have e51 : j1 875 460 = Int32.ofNat (cn w 460) := (hf 875 460 (by omega) (by omega)).trans ((hw _ (by omega)).trans hc.1)
  simp (maxSteps := 1000000) (disch := omega) only [hM, y_ckd, y_ck2d, y_ond, y_onn, y_oI, y_oIx, y_oJ, y_oV, y_oVx, y_oR, y_oRn, y_oRx, y_b0, y_b1, y_bi, y_bid, y_wIK, y_wIL, y_wII, y_wIJ, y_wIR, y_wIN, y_wIw, y_sI, ↓reduceIte, Nat.reduceEqDiff, eq_self, true_or, or_true, false_or, or_false, and_true, true_and, false_and, and_false, not_true, not_false_eq_true, tf_T, tf_F, y_up1, y_up2, y_xx, y_nx, y_sJ, y_sR, Int32.reduceLT, y_nxK, y_nxL, y_nxR, y_sJK, y_sJL, y_sJR, y_sJN, y_sRK, y_sRL, y_sRN]
  refine E.trans ?_
  split
  · rw [bk_90_7]
    simp (maxSteps := 1000000) (disch := omega) only [e51, hM, y_ckd, y_ck2d, y_ond, y_onn, y_oI, y_oIx, y_oJ, y_oV, y_oVx, y_oR, y_oRn, y_oRx, y_b0, y_b1, y_bi, y_bid, y_wIK, y_wIL, y_wII, y_wIJ, y_wIR, y_wIN, y_wIw, y_sI, ↓reduceIte, Nat.reduceEqDiff, eq_self, true_or, or_true, false_or, or_false, and_true, true_and, false_and, and_false, not_true, not_false_eq_true, tf_T, tf_F, y_up1, y_up2, y_xx, y_nx, y_sJ, y_sR, Int32.reduceLT, y_nxK, y_nxL, y_nxR, y_sJK, y_sJL, y_sJR, y_sJN, y_sRK, y_sRL, y_sRN, Nat.add_zero, z_nat, z_lit, z_lit0, z_lit1, z_in0, z_in1, z_addl0, z_lt, z_ltl, z_llt, z_inj, z_injl, z_add, z_addl, z_ladd, z_mul, z_mull, z_lmul, z_neg, z_negl, z_in, z_inl, z_ltT, z_ltF, z_eqF, z_10, z_01, z_litne, z_ne0, z_0ne, z_ne1, z_1ne, z_lt64, z_02, z_03, z_04, z_05, z_12, z_13, z_14, z_15, z_20, z_21, z_23, z_24, z_25, z_30, z_31, z_32, z_34, z_35, z_40, z_41, z_42, z_43, z_45, z_50, z_51, z_52, z_53, z_54]
  · rfl
end Masts
