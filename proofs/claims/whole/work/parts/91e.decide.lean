/-! WAR: ship by ship, the class. Made by wip/whole/math/91e.py. -/
/-- what deciding the ships from s does to the heap -/
def DOut (B : am_A) (w : Nat → Int32) (s b : Nat) (g : Nat → Bool) (i : Nat → Nat → Int32) (x : am_X) : Prop := ∃ (j : Nat → Nat → Int32) (b' : Nat), x = some (.inl none, am_wI B j) ∧ j 71 16 = Int32.ofNat b' ∧ b' < 256 ∧ DO w s g b b' ∧ ∀ q k, (q ≤ 80 + s ∨ 88 < q) → (q < 90 ∨ 93 < q) → (q = 71 → k ≠ 16) → j q k = i q k
section DecC2
variable {B : am_A} {w : Nat → Int32}
section Heads
variable {d a s n : Nat} {i j1 : Nat → Nat → Int32} {st : Int32}
theorem d_h2 (hF : Fc B) (hY : Yd B 94) (h8 : i 94 8 = Int32.ofNat n) (hs : s < n) (n8 : n ≤ 8) (h3 : i (94 + 212 + 6 * s) 3 = st) (v10 : ∀ A, am_fx am_P d 352 0 [some (.int st), some (.int 2), some (.int 4)] [] A = some (.inl (some (.int 1)), A)) : am_fx am_P (d + 1) 286 0 [some (.ref 71), some (.ref 94), some (.int (Int32.ofNat s)), some (.int (Int32.ofNat (a))), none, none, none] [] (am_wI B i) = am_fx am_P (d + 1) 286 128 [some (.ref 71), some (.ref 94), some (.int (Int32.ofNat s)), some (.int (Int32.ofNat (a))), none, some (.int 1), none] [] (am_wI B (cpf i (80 + s) (80 + (s + 1)) 120)) := by
  rw [bk_286_0]
  simp (maxSteps := 2000000) (disch := omega) only [h8, h3, v10, y_cp0, z_80n, z_39, z_390, hF, hY, y_ckd, y_ck2d, y_ond, y_onn, y_oI, y_oIx, y_oJ, y_oV, y_oVx, y_oR, y_oRn, y_oRx, y_b0, y_b1, y_bi, y_bid, y_wIK, y_wIL, y_wII, y_wIJ, y_wIR, y_wIN, y_wIw, y_sI, ↓reduceIte, Nat.reduceEqDiff, eq_self, true_or, or_true, false_or, or_false, and_true, true_and, false_and, and_false, not_true, not_false_eq_true, tf_T, tf_F, y_up1, y_up2, y_xx, y_nx, y_sJ, y_sR, Int32.reduceLT, y_nxK, y_nxL, y_nxR, y_sJK, y_sJL, y_sJR, y_sJN, y_sRK, y_sRL, y_sRN, Nat.add_zero, z_nat, z_lit, z_lit0, z_lit1, z_in0, z_in1, z_addl0, z_lt, z_ltl, z_llt, z_inj, z_injl, z_add, z_addl, z_ladd, z_mul, z_mull, z_lmul, z_neg, z_negl, z_in, z_inl, z_ltT, z_ltF, z_eqF, z_10, z_01, z_litne, z_ne0, z_0ne, z_ne1, z_1ne, z_lt64, z_02, z_03, z_04, z_05, z_12, z_13, z_14, z_15, z_20, z_21, z_23, z_24, z_25, z_30, z_31, z_32, z_34, z_35, z_40, z_41, z_42, z_43, z_45, z_50, z_51, z_52, z_53, z_54]
theorem d_h0 (hF : Fc B) (hY : Yd B 94) (h8 : i 94 8 = Int32.ofNat n) (hs : s < n) (n8 : n ≤ 8) (h3 : i (94 + 212 + 6 * s) 3 = st) (g : ¬ st = 1) (v10 : ∀ A, am_fx am_P d 352 0 [some (.int st), some (.int 2), some (.int 4)] [] A = some (.inl (some (.int 0)), A)) : am_fx am_P (d + 1) 286 0 [some (.ref 71), some (.ref 94), some (.int (Int32.ofNat s)), some (.int (Int32.ofNat (a))), none, none, none] [] (am_wI B i) = am_fx am_P (d + 1) 286 141 [some (.ref 71), some (.ref 94), some (.int (Int32.ofNat s)), some (.int (Int32.ofNat (a))), none, some (.int 0), none] [] (am_wI B (cpf i (80 + s) (80 + (s + 1)) 120)) := by
  rw [bk_286_0]
  simp (maxSteps := 2000000) (disch := omega) only [h8, h3, g, v10, y_cp0, z_80n, z_39, z_390, hF, hY, y_ckd, y_ck2d, y_ond, y_onn, y_oI, y_oIx, y_oJ, y_oV, y_oVx, y_oR, y_oRn, y_oRx, y_b0, y_b1, y_bi, y_bid, y_wIK, y_wIL, y_wII, y_wIJ, y_wIR, y_wIN, y_wIw, y_sI, ↓reduceIte, Nat.reduceEqDiff, eq_self, true_or, or_true, false_or, or_false, and_true, true_and, false_and, and_false, not_true, not_false_eq_true, tf_T, tf_F, y_up1, y_up2, y_xx, y_nx, y_sJ, y_sR, Int32.reduceLT, y_nxK, y_nxL, y_nxR, y_sJK, y_sJL, y_sJR, y_sJN, y_sRK, y_sRL, y_sRN, Nat.add_zero, z_nat, z_lit, z_lit0, z_lit1, z_in0, z_in1, z_addl0, z_lt, z_ltl, z_llt, z_inj, z_injl, z_add, z_addl, z_ladd, z_mul, z_mull, z_lmul, z_neg, z_negl, z_in, z_inl, z_ltT, z_ltF, z_eqF, z_10, z_01, z_litne, z_ne0, z_0ne, z_ne1, z_1ne, z_lt64, z_02, z_03, z_04, z_05, z_12, z_13, z_14, z_15, z_20, z_21, z_23, z_24, z_25, z_30, z_31, z_32, z_34, z_35, z_40, z_41, z_42, z_43, z_45, z_50, z_51, z_52, z_53, z_54]
theorem d_h1 {v : Int32} (hF : Fc B) (hY : Yd B 94) (h8 : i 94 8 = Int32.ofNat n) (hs : s < n) (n8 : n ≤ 8) (h3 : i (94 + 212 + 6 * s) 3 = 1) (v10 : ∀ A, am_fx am_P d 352 0 [some (.int 1), some (.int 2), some (.int 4)] [] A = some (.inl (some (.int 0)), A)) (E : am_fx am_P d 287 0 [some (.ref 71), some (.ref 94), some (.int (Int32.ofNat s)), some (.ref (80 + (s + 1))), none] [] (am_wI B (cpf i (80 + s) (80 + (s + 1)) 120)) = some (.inl (some (.int v)), am_wI B j1)) : am_fx am_P (d + 1) 286 0 [some (.ref 71), some (.ref 94), some (.int (Int32.ofNat s)), some (.int (Int32.ofNat (a))), none, none, none] [] (am_wI B i) = if v = 0 then am_fx am_P (d + 1) 286 141 [some (.ref 71), some (.ref 94), some (.int (Int32.ofNat s)), some (.int (Int32.ofNat (a))), none, some (.int 0), none] [] (am_wI B j1) else am_fx am_P (d + 1) 286 128 [some (.ref 71), some (.ref 94), some (.int (Int32.ofNat s)), some (.int (Int32.ofNat (a))), none, some (.int 0), none] [] (am_wI B j1) := by
  rw [bk_286_0]
  simp (maxSteps := 2000000) (disch := omega) only [h8, h3, v10, E, y_cp0, z_80n, hF, hY, y_ckd, y_ck2d, y_ond, y_onn, y_oI, y_oIx, y_oJ, y_oV, y_oVx, y_oR, y_oRn, y_oRx, y_b0, y_b1, y_bi, y_bid, y_wIK, y_wIL, y_wII, y_wIJ, y_wIR, y_wIN, y_wIw, y_sI, ↓reduceIte, Nat.reduceEqDiff, eq_self, true_or, or_true, false_or, or_false, and_true, true_and, false_and, and_false, not_true, not_false_eq_true, tf_T, tf_F, y_up1, y_up2, y_xx, y_nx, y_sJ, y_sR, Int32.reduceLT, y_nxK, y_nxL, y_nxR, y_sJK, y_sJL, y_sJR, y_sJN, y_sRK, y_sRL, y_sRN, Nat.add_zero, z_nat, z_lit, z_lit0, z_lit1, z_in0, z_in1, z_addl0, z_lt, z_ltl, z_llt, z_inj, z_injl, z_add, z_addl, z_ladd, z_mul, z_mull, z_lmul, z_neg, z_negl, z_in, z_inl, z_ltT, z_ltF, z_eqF, z_10, z_01, z_litne, z_ne0, z_0ne, z_ne1, z_1ne, z_lt64, z_02, z_03, z_04, z_05, z_12, z_13, z_14, z_15, z_20, z_21, z_23, z_24, z_25, z_30, z_31, z_32, z_34, z_35, z_40, z_41, z_42, z_43, z_45, z_50, z_51, z_52, z_53, z_54]
end Heads
theorem c_decide (hF : Fc B) (hY : Yd B 94) (hW : Wd w) (m : Nat) : ∀ (d s b : Nat) (g : Nat → Bool) (h : Nat → Option Nat) (i : Nat → Nat → Int32), s + m = cn w 2621 → Rep B i 94 w → i 71 11 = Int32.ofNat (pls w).1 → (∀ k, k < (pls w).1 → i 89 k = Int32.ofNat ((pls w).2 k)) → i 71 16 = Int32.ofNat b → b < 256 → VGa w g s → mat (eP w) (pls w).1 (gnd w g s) h → (∀ k, k < (pls w).1 → i (80 + s) k = txn (h k)) → DOut B w s b g i (am_fx am_P (d + m + 8) 286 0 [some (.ref 71), some (.ref 94), some (.int (Int32.ofNat s)), some (.int (Int32.ofNat (cst g s))), none, none, none] [] (am_wI B i)) := by
  have n8 : cn w 2621 ≤ 8 := hW.1.2.2.2.1.2
  have n120 : (pls w).1 ≤ 120 := Nat.le_trans pls_n hW.1.2.2.1.2
  induction m with
  | zero =>
    intro d s b g h i hsm hR h11 h89 hS hb hV hm hbd
    have h8 : i 94 8 = Int32.ofNat (cn w 2621) := hR.2.2.2.1.1.trans hW.1.2.2.2.1.1
    have a256 : cst g s < 256 := cst_256 (by omega)
    refine ⟨_, mxb (cst g s) b, ?_, y_up1 rfl rfl, mxb_lt a256 hb, DO_leaf (by omega) hV hm, fun q k a1 a2 a3 => y_up2 (by omega)⟩
    rw [show d + 0 + 8 = d + 7 + 1 by omega, bk_286_0]
    simp (disch := omega) only [h8, d_leaf (d := d + 7) (a := cst g s) hF hS hb a256, hF, hY, y_ckd, y_ck2d, y_ond, y_onn, y_oI, y_oIx, y_oJ, y_oV, y_oVx, y_oR, y_oRn, y_oRx, y_b0, y_b1, y_bi, y_bid, y_wIK, y_wIL, y_wII, y_wIJ, y_wIR, y_wIN, y_wIw, y_sI, ↓reduceIte, Nat.reduceEqDiff, eq_self, true_or, or_true, false_or, or_false, and_true, true_and, false_and, and_false, not_true, not_false_eq_true, tf_T, tf_F, y_up1, y_up2, y_xx, y_nx, y_sJ, y_sR, Int32.reduceLT, y_nxK, y_nxL, y_nxR, y_sJK, y_sJL, y_sJR, y_sJN, y_sRK, y_sRL, y_sRN, Nat.add_zero, z_nat, z_lit, z_lit0, z_lit1, z_in0, z_in1, z_addl0, z_lt, z_ltl, z_llt, z_inj, z_injl, z_add, z_addl, z_ladd, z_mul, z_mull, z_lmul, z_neg, z_negl, z_in, z_inl, z_ltT, z_ltF, z_eqF, z_10, z_01, z_litne, z_ne0, z_0ne, z_ne1, z_1ne, z_lt64, z_02, z_03, z_04, z_05, z_12, z_13, z_14, z_15, z_20, z_21, z_23, z_24, z_25, z_30, z_31, z_32, z_34, z_35, z_40, z_41, z_42, z_43, z_45, z_50, z_51, z_52, z_53, z_54]
  | succ m ih =>
    intro d s b g h i hsm hR h11 h89 hS hb hV hm hbd
    have sN : s < cn w 2621 := by omega
    have h8 : i 94 8 = Int32.ofNat (cn w 2621) := hR.2.2.2.1.1.trans hW.1.2.2.2.1.1
    have h3 : i (94 + 212 + 6 * s) 3 = w (2622 + 49 * s) := (hR.2.2.2.1.2 s sN (by omega)).1
    have a256 : cst g s < 256 := cst_256 (by omega)
    rw [show d + (m + 1) + 8 = d + m + 8 + 1 by omega]
    -- what the ships after s give, from a heap where row s + 1 is right
    have REC : ∀ (x : Bool) (b2 : Nat) (h2 : Nat → Option Nat) (j : Nat → Nat → Int32), (∀ q k, (q ≤ 80 + s ∨ 88 < q) → (q < 90 ∨ 93 < q) → (q = 71 → k ≠ 16) → j q k = i q k) → j 71 16 = Int32.ofNat b2 → b2 < 256 → VGa w (gup g s x) (s + 1) → mat (eP w) (pls w).1 (gnd w (gup g s x) (s + 1)) h2 → (∀ k, k < (pls w).1 → j (80 + s + 1) k = txn (h2 k)) → ∃ (j2 : Nat → Nat → Int32) (b3 : Nat), am_fx am_P (d + m + 8) 286 0 [some (.ref 71), some (.ref 94), some (.int (Int32.ofNat (s + 1))), some (.int (Int32.ofNat (cst (gup g s x) (s + 1)))), none, none, none] [] (am_wI B j) = some (.inl none, am_wI B j2) ∧ j2 71 16 = Int32.ofNat b3 ∧ b3 < 256 ∧ DO w (s + 1) (gup g s x) b2 b3 ∧ (∀ q k, (q ≤ 80 + s ∨ 88 < q) → (q < 90 ∨ 93 < q) → (q = 71 → k ≠ 16) → j2 q k = i q k) := by
      intro x b2 h2 j fj j16 b256 V2 m2 hj
      obtain ⟨j2, b3, E, r1, r2, r3, f2⟩ := ih d (s + 1) b2 (gup g s x) h2 j (by omega) (Rep_fr hR (Le.rf B) rfl (fun q k _ _ _ _ _ _ => fj q k (by omega) (by omega) (by omega)) (fun q h1 _ => funext fun k => fj q k (by omega) (by omega) (by omega)) fun _ _ => rfl) ((fj _ _ (by omega) (by omega) (by omega)).trans h11) (fun k hk => (fj _ _ (by omega) (by omega) (by omega)).trans (h89 k hk)) j16 b256 V2 m2 hj
      exact ⟨j2, b3, E, r1, r2, r3, fun q k a1 a2 a3 => (f2 q k (by omega) a2 a3).trans (fj q k a1 a2 a3)⟩
    -- without the ship s
    have V0 : ¬ wf2 w s = true → VGa w (gup g s false) (s + 1) := fun n2 => by
      refine ⟨fun k hk q => ?_, fun k hk q => ?_⟩
      · by_cases e : k = s
        · rw [e] at q
          exact absurd q n2
        · rw [gup_ne e]
          exact hV.1 k (by omega) q
      · by_cases e : k = s
        · rw [e, gup_at] at q
          exact nomatch q
        · rw [gup_ne e] at q
          exact hV.2 k (by omega) q
    have M0 : mat (eP w) (pls w).1 (gnd w (gup g s false) (s + 1)) h := mat_cg (fun u => by
      constructor
      · rintro ⟨u1, u2, u3, u4⟩
        exact ⟨by omega, by rw [gup_ne (by omega)]; exact u2, u3, u4⟩
      · rintro ⟨u1, u2, u3, u4⟩
        by_cases e : u / 8 = s
        · rw [e, gup_at] at u2
          exact nomatch u2
        · rw [gup_ne e] at u2
          exact ⟨by omega, u2, u3, u4⟩) (fun _ _ => rfl) hm
    have T0 : ∀ (b2 : Nat) (j : Nat → Nat → Int32), ¬ wf2 w s = true → (∀ q k, (q ≤ 80 + s ∨ 88 < q) → (q < 90 ∨ 93 < q) → (q = 71 → k ≠ 16) → j q k = i q k) → j 71 16 = Int32.ofNat b2 → b2 < 256 → DT w s g b b2 → DOut B w s b g i (am_fx am_P (d + m + 8 + 1) 286 141 [some (.ref 71), some (.ref 94), some (.int (Int32.ofNat s)), some (.int (Int32.ofNat (cst g s))), none, some (.int 0), none] [] (am_wI B j)) := by
      intro b2 j n2 fj j16 b256 hD
      have j8 : j 94 8 = Int32.ofNat (cn w 2621) := (fj _ _ (by omega) (by omega) (by omega)).trans h8
      rw [d_141 hF hY j16 b256 a256 j8 sN n8]
      by_cases g1 : pcn (cst g s) + cn w 2621 - s - 1 < pcn b2
      · rw [if_pos g1, bk_286_169]
        refine ⟨j, b2, ?_, j16, b256, DO_cut hD sN n8 g1, fj⟩
        simp (disch := omega) only [hF, hY, y_ckd, y_ck2d, y_ond, y_onn, y_oI, y_oIx, y_oJ, y_oV, y_oVx, y_oR, y_oRn, y_oRx, y_b0, y_b1, y_bi, y_bid, y_wIK, y_wIL, y_wII, y_wIJ, y_wIR, y_wIN, y_wIw, y_sI, ↓reduceIte, Nat.reduceEqDiff, eq_self, true_or, or_true, false_or, or_false, and_true, true_and, false_and, and_false, not_true, not_false_eq_true, tf_T, tf_F, y_up1, y_up2, y_xx, y_nx, y_sJ, y_sR, Int32.reduceLT, y_nxK, y_nxL, y_nxR, y_sJK, y_sJL, y_sJR, y_sJN, y_sRK, y_sRL, y_sRN, Nat.add_zero, z_nat, z_lit, z_lit0, z_lit1, z_in0, z_in1, z_addl0, z_lt, z_ltl, z_llt, z_inj, z_injl, z_add, z_addl, z_ladd, z_mul, z_mull, z_lmul, z_neg, z_negl, z_in, z_inl, z_ltT, z_ltF, z_eqF, z_10, z_01, z_litne, z_ne0, z_0ne, z_ne1, z_1ne, z_lt64, z_02, z_03, z_04, z_05, z_12, z_13, z_14, z_15, z_20, z_21, z_23, z_24, z_25, z_30, z_31, z_32, z_34, z_35, z_40, z_41, z_42, z_43, z_45, z_50, z_51, z_52, z_53, z_54]
      · rw [if_neg g1, bk_286_169]
        have fc : ∀ q k, (q ≤ 80 + s ∨ 88 < q) → (q < 90 ∨ 93 < q) → (q = 71 → k ≠ 16) → cpf j (80 + s) (80 + (s + 1)) 120 q k = i q k := fun q k a1 a2 a3 => (cpf_ne (by omega)).trans (fj q k a1 a2 a3)
        obtain ⟨j2, b3, E, r1, r2, r3, f2⟩ := REC false b2 h (cpf j (80 + s) (80 + (s + 1)) 120) fc ((cpf_ne (by omega)).trans j16) b256 (V0 n2) M0 (fun k hk => by
          rw [show 80 + s + 1 = 80 + (s + 1) by omega]
          exact (if_pos ⟨rfl, by omega⟩).trans ((fj _ _ (by omega) (by omega) (by omega)).trans (hbd k hk)))
        rw [cst_up0] at E
        refine ⟨j2, b3, ?_, r1, r2, DO_both hD r3, f2⟩
        simp (disch := omega) only [E, y_cp0, z_80n, hF, hY, y_ckd, y_ck2d, y_ond, y_onn, y_oI, y_oIx, y_oJ, y_oV, y_oVx, y_oR, y_oRn, y_oRx, y_b0, y_b1, y_bi, y_bid, y_wIK, y_wIL, y_wII, y_wIJ, y_wIR, y_wIN, y_wIw, y_sI, ↓reduceIte, Nat.reduceEqDiff, eq_self, true_or, or_true, false_or, or_false, and_true, true_and, false_and, and_false, not_true, not_false_eq_true, tf_T, tf_F, y_up1, y_up2, y_xx, y_nx, y_sJ, y_sR, Int32.reduceLT, y_nxK, y_nxL, y_nxR, y_sJK, y_sJL, y_sJR, y_sJN, y_sRK, y_sRL, y_sRN, Nat.add_zero, z_nat, z_lit, z_lit0, z_lit1, z_in0, z_in1, z_addl0, z_lt, z_ltl, z_llt, z_inj, z_injl, z_add, z_addl, z_ladd, z_mul, z_mull, z_lmul, z_neg, z_negl, z_in, z_inl, z_ltT, z_ltF, z_eqF, z_10, z_01, z_litne, z_ne0, z_0ne, z_ne1, z_1ne, z_lt64, z_02, z_03, z_04, z_05, z_12, z_13, z_14, z_15, z_20, z_21, z_23, z_24, z_25, z_30, z_31, z_32, z_34, z_35, z_40, z_41, z_42, z_43, z_45, z_50, z_51, z_52, z_53, z_54]
    -- with the ship s
    have V1 : wf1 w s = true ∨ wf2 w s = true → VGa w (gup g s true) (s + 1) := fun n2 => by
      refine ⟨fun k hk q => ?_, fun k hk q => ?_⟩
      · by_cases e : k = s
        · rw [e]
          exact gup_at
        · rw [gup_ne e]
          exact hV.1 k (by omega) q
      · by_cases e : k = s
        · rw [e]
          exact n2
        · rw [gup_ne e] at q
          exact hV.2 k (by omega) q
    generalize ec : cpf i (80 + s) (80 + (s + 1)) 120 = j0
    have fc : ∀ q k, (q ≤ 80 + s ∨ 88 < q) → (q < 90 ∨ 93 < q) → (q = 71 → k ≠ 16) → j0 q k = i q k := fun q k a1 a2 a3 => by rw [← ec]; exact cpf_ne (by omega)
    have c16 : j0 71 16 = Int32.ofNat b := (by rw [← ec]; exact cpf_ne (by omega) : j0 71 16 = i 71 16).trans hS
    have cb : ∀ k, k < (pls w).1 → j0 (80 + (s + 1)) k = txn (h k) := fun k hk => by
      rw [← ec]
      exact (if_pos ⟨rfl, by omega⟩).trans (hbd k hk)
    by_cases g2 : wf2 w s = true
    · obtain ⟨st1, st2⟩ := of_decide_eq_true g2
      have M1 : mat (eP w) (pls w).1 (gnd w (gup g s true) (s + 1)) h := mat_cg (fun u => by
        constructor
        · rintro ⟨u1, u2, u3, u4⟩
          exact ⟨by omega, by rw [gup_ne (by omega)]; exact u2, u3, u4⟩
        · rintro ⟨u1, u2, u3, u4⟩
          by_cases e : u / 8 = s
          · rw [e] at u3
            exact (wf_dis u3 g2).elim
          · rw [gup_ne e] at u2
            exact ⟨by omega, u2, u3, u4⟩) (fun _ _ => rfl) hm
      obtain ⟨j2, b3, E, r1, r2, r3, f2⟩ := REC true b h j0 fc c16 hb (V1 (Or.inr g2)) M1 (fun k hk => by rw [show 80 + s + 1 = 80 + (s + 1) by omega]; exact cb k hk)
      rw [← cst_up1 (by omega)] at E
      have j8 : j2 94 8 = Int32.ofNat (cn w 2621) := (f2 _ _ (by omega) (by omega) (by omega)).trans h8
      refine ⟨j2, b3, ?_, r1, r2, DO_2 (DT_1 r3) g2 sN, f2⟩
      rw [d_h2 hF hY h8 sN n8 h3 (fun A => by rw [bk_352_0, if_neg st1, if_neg st2, y_b1]), ec, bk_286_128]
      simp (disch := omega) only [E, hF, hY, y_ckd, y_ck2d, y_ond, y_onn, y_oI, y_oIx, y_oJ, y_oV, y_oVx, y_oR, y_oRn, y_oRx, y_b0, y_b1, y_bi, y_bid, y_wIK, y_wIL, y_wII, y_wIJ, y_wIR, y_wIN, y_wIw, y_sI, ↓reduceIte, Nat.reduceEqDiff, eq_self, true_or, or_true, false_or, or_false, and_true, true_and, false_and, and_false, not_true, not_false_eq_true, tf_T, tf_F, y_up1, y_up2, y_xx, y_nx, y_sJ, y_sR, Int32.reduceLT, y_nxK, y_nxL, y_nxR, y_sJK, y_sJL, y_sJR, y_sJN, y_sRK, y_sRL, y_sRN, Nat.add_zero, z_nat, z_lit, z_lit0, z_lit1, z_in0, z_in1, z_addl0, z_lt, z_ltl, z_llt, z_inj, z_injl, z_add, z_addl, z_ladd, z_mul, z_mull, z_lmul, z_neg, z_negl, z_in, z_inl, z_ltT, z_ltF, z_eqF, z_10, z_01, z_litne, z_ne0, z_0ne, z_ne1, z_1ne, z_lt64, z_02, z_03, z_04, z_05, z_12, z_13, z_14, z_15, z_20, z_21, z_23, z_24, z_25, z_30, z_31, z_32, z_34, z_35, z_40, z_41, z_42, z_43, z_45, z_50, z_51, z_52, z_53, z_54]
      rw [d_141 hF hY r1 r2 a256 j8 sN n8]
      split
      · rw [bk_286_169]
        simp (disch := omega) only [hF, hY, y_ckd, y_ck2d, y_ond, y_onn, y_oI, y_oIx, y_oJ, y_oV, y_oVx, y_oR, y_oRn, y_oRx, y_b0, y_b1, y_bi, y_bid, y_wIK, y_wIL, y_wII, y_wIJ, y_wIR, y_wIN, y_wIw, y_sI, ↓reduceIte, Nat.reduceEqDiff, eq_self, true_or, or_true, false_or, or_false, and_true, true_and, false_and, and_false, not_true, not_false_eq_true, tf_T, tf_F, y_up1, y_up2, y_xx, y_nx, y_sJ, y_sR, Int32.reduceLT, y_nxK, y_nxL, y_nxR, y_sJK, y_sJL, y_sJR, y_sJN, y_sRK, y_sRL, y_sRN, Nat.add_zero, z_nat, z_lit, z_lit0, z_lit1, z_in0, z_in1, z_addl0, z_lt, z_ltl, z_llt, z_inj, z_injl, z_add, z_addl, z_ladd, z_mul, z_mull, z_lmul, z_neg, z_negl, z_in, z_inl, z_ltT, z_ltF, z_eqF, z_10, z_01, z_litne, z_ne0, z_0ne, z_ne1, z_1ne, z_lt64, z_02, z_03, z_04, z_05, z_12, z_13, z_14, z_15, z_20, z_21, z_23, z_24, z_25, z_30, z_31, z_32, z_34, z_35, z_40, z_41, z_42, z_43, z_45, z_50, z_51, z_52, z_53, z_54]
      · rw [bk_286_169]
        simp (disch := omega) only [hF, hY, y_ckd, y_ck2d, y_ond, y_onn, y_oI, y_oIx, y_oJ, y_oV, y_oVx, y_oR, y_oRn, y_oRx, y_b0, y_b1, y_bi, y_bid, y_wIK, y_wIL, y_wII, y_wIJ, y_wIR, y_wIN, y_wIw, y_sI, ↓reduceIte, Nat.reduceEqDiff, eq_self, true_or, or_true, false_or, or_false, and_true, true_and, false_and, and_false, not_true, not_false_eq_true, tf_T, tf_F, y_up1, y_up2, y_xx, y_nx, y_sJ, y_sR, Int32.reduceLT, y_nxK, y_nxL, y_nxR, y_sJK, y_sJL, y_sJR, y_sJN, y_sRK, y_sRL, y_sRN, Nat.add_zero, z_nat, z_lit, z_lit0, z_lit1, z_in0, z_in1, z_addl0, z_lt, z_ltl, z_llt, z_inj, z_injl, z_add, z_addl, z_ladd, z_mul, z_mull, z_lmul, z_neg, z_negl, z_in, z_inl, z_ltT, z_ltF, z_eqF, z_10, z_01, z_litne, z_ne0, z_0ne, z_ne1, z_1ne, z_lt64, z_02, z_03, z_04, z_05, z_12, z_13, z_14, z_15, z_20, z_21, z_23, z_24, z_25, z_30, z_31, z_32, z_34, z_35, z_40, z_41, z_42, z_43, z_45, z_50, z_51, z_52, z_53, z_54]
    have v10 : ∀ A, am_fx am_P (d + m + 8) 352 0 [some (.int (w (2622 + 49 * s))), some (.int 2), some (.int 4)] [] A = some (.inl (some (.int 0)), A) := fun A => by
      rw [bk_352_0]
      by_cases q : w (2622 + 49 * s) < 2
      · rw [if_pos q, y_b0]
      · rw [if_neg q]
        by_cases q2 : 4 < w (2622 + 49 * s)
        · rw [if_pos q2, y_b0]
        · exact absurd (decide_eq_true ⟨q, q2⟩) g2
    by_cases g1 : wf1 w s = true
    rotate_left
    · have st : ¬ w (2622 + 49 * s) = 1 := fun q => g1 (decide_eq_true q)
      have R := T0 b j0 g2 fc c16 hb (DT_oth sN g1 g2)
      rw [d_h0 hF hY h8 sN n8 h3 st v10, ec]
      exact R
    have st : w (2622 + 49 * s) = 1 := of_decide_eq_true g1
    rw [st] at h3 v10
    have C := c_seatAll (B := B) (d := d + m + 4) (i := j0) (r := 80 + (s + 1)) (s := s) (S := gnd w g s) (h := h) hF hY (Rep_fr hR (Le.rf B) rfl (fun q k _ _ _ _ _ _ => fc q k (by omega) (by omega) (by omega)) (fun q h1 _ => funext fun k => fc q k (by omega) (by omega) (by omega)) fun _ _ => rfl) hW ⟨by omega, by omega⟩ (by simp (disch := omega) only [hF]) (by simp (disch := omega) only [hF]) ((fc _ _ (by omega) (by omega) (by omega)).trans h11) (fun k hk => (fc _ _ (by omega) (by omega) (by omega)).trans (h89 k hk)) sN (fun u hu => by have := hu.1; omega) (fun v hv => ⟨by have := hv.1; omega, hv.2.2.2⟩) hm cb
    have eS : ∀ u, sgS (gnd w g s) s (nnd w s) u ↔ gnd w (gup g s true) (s + 1) u := fun u => by
      constructor
      · rintro (⟨u1, u2, u3, u4⟩ | ⟨u1, u2⟩)
        · exact ⟨by omega, by rw [gup_ne (by omega)]; exact u2, u3, u4⟩
        · exact ⟨by omega, by rw [u1]; exact gup_at, by rw [u1]; exact g1, by rw [u1]; exact u2⟩
      · rintro ⟨u1, u2, u3, u4⟩
        by_cases e : u / 8 = s
        · rw [e] at u4
          exact Or.inr ⟨e, u4⟩
        · rw [gup_ne e] at u2
          exact Or.inl ⟨by omega, u2, u3, u4⟩
    rcases C with ⟨j1, h1, E1, b1, m1, f1⟩ | ⟨j1, E1, no, f1⟩
    · have f1' : ∀ q k, (q ≤ 80 + s ∨ 88 < q) → (q < 90 ∨ 93 < q) → (q = 71 → k ≠ 16) → j1 q k = i q k := fun q k a1 a2 a3 => (f1 q k (by omega) (by omega) (by omega) (by omega) (by omega)).trans (fc q k a1 a2 a3)
      obtain ⟨j2, b3, E, r1, r2, r3, f2⟩ := REC true b h1 j1 f1' ((f1 _ _ (by omega) (by omega) (by omega) (by omega) (by omega)).trans c16) hb (V1 (Or.inl g1)) (mat_cg eS (fun _ _ => rfl) m1) (fun k hk => by rw [show 80 + s + 1 = 80 + (s + 1) by omega]; exact b1 k hk)
      rw [← cst_up1 (by omega)] at E
      have R := T0 b3 j2 g2 f2 r1 r2 (DT_1 r3)
      rw [d_h1 hF hY h8 sN n8 h3 v10 (by rw [ec]; exact E1), if_neg (by decide), bk_286_128]
      simp (disch := omega) only [E, hF, hY, y_ckd, y_ck2d, y_ond, y_onn, y_oI, y_oIx, y_oJ, y_oV, y_oVx, y_oR, y_oRn, y_oRx, y_b0, y_b1, y_bi, y_bid, y_wIK, y_wIL, y_wII, y_wIJ, y_wIR, y_wIN, y_wIw, y_sI, ↓reduceIte, Nat.reduceEqDiff, eq_self, true_or, or_true, false_or, or_false, and_true, true_and, false_and, and_false, not_true, not_false_eq_true, tf_T, tf_F, y_up1, y_up2, y_xx, y_nx, y_sJ, y_sR, Int32.reduceLT, y_nxK, y_nxL, y_nxR, y_sJK, y_sJL, y_sJR, y_sJN, y_sRK, y_sRL, y_sRN, Nat.add_zero, z_nat, z_lit, z_lit0, z_lit1, z_in0, z_in1, z_addl0, z_lt, z_ltl, z_llt, z_inj, z_injl, z_add, z_addl, z_ladd, z_mul, z_mull, z_lmul, z_neg, z_negl, z_in, z_inl, z_ltT, z_ltF, z_eqF, z_10, z_01, z_litne, z_ne0, z_0ne, z_ne1, z_1ne, z_lt64, z_02, z_03, z_04, z_05, z_12, z_13, z_14, z_15, z_20, z_21, z_23, z_24, z_25, z_30, z_31, z_32, z_34, z_35, z_40, z_41, z_42, z_43, z_45, z_50, z_51, z_52, z_53, z_54]
      exact R
    · have R := T0 b j1 g2 (fun q k a1 a2 a3 => (f1 q k (by omega) (by omega) (by omega) (by omega) (by omega)).trans (fc q k a1 a2 a3)) ((f1 _ _ (by omega) (by omega) (by omega) (by omega) (by omega)).trans c16) hb (DT_no sN fun q => no ((okS_cong eS).mpr q))
      rw [d_h1 hF hY h8 sN n8 h3 v10 (by rw [ec]; exact E1), if_pos rfl]
      exact R
end DecC2
