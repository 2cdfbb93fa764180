/-! WAR: all needs of a ship are seated. Made by wip/whole/math/91a.py. -/
/-- the needs of S and of the first c needs of the ship s -/
abbrev sgS (S : Nat → Prop) (s c u : Nat) : Prop := S u ∨ (u / 8 = s ∧ u % 8 < c)
def SAOut (B : am_A) (S : Nat → Prop) (E : Nat → Nat → Prop) (P s c r : Nat) (i : Nat → Nat → Int32) (x : am_X) : Prop := (∃ (j : Nat → Nat → Int32) (h' : Nat → Option Nat), x = some (.inl (some (.int 1)), am_wI B j) ∧ (∀ k, k < P → j r k = txn (h' k)) ∧ mat E P (sgS S s c) h' ∧ ∀ q k, q ≠ r → q ≠ 90 → q ≠ 91 → q ≠ 92 → q ≠ 93 → j q k = i q k) ∨ (∃ j : Nat → Nat → Int32, x = some (.inl (some (.int 0)), am_wI B j) ∧ ¬ okS E P (sgS S s c) ∧ ∀ q k, q ≠ r → q ≠ 90 → q ≠ 91 → q ≠ 92 → q ≠ 93 → j q k = i q k)
section SeatAll
variable {B : am_A} {w : Nat → Int32} {d s r : Nat} {i : Nat → Nat → Int32} {S : Nat → Prop} {h : Nat → Option Nat}
theorem c_seatA (hF : Fc B) (hY : Yd B 94) (hR : Rep B i 94 w) (hW : Wd w) (hr : 79 < r ∧ r < 89) (hk : am_K B r = 21) (hl : am_L B r = 120) (h11 : i 71 11 = Int32.ofNat (pls w).1) (h89 : ∀ k, k < (pls w).1 → i 89 k = Int32.ofNat ((pls w).2 k)) (hs : s < cn w 2621) (h0 : ∀ u, S u → u / 8 ≠ s) (hnd : ∀ v, S v → v / 8 < cn w 2621 ∧ v % 8 < nnd w (v / 8)) (m : Nat) : ∀ (k : Nat) (j : Nat → Nat → Int32) (h : Nat → Option Nat), k + m = nnd w s → mat (eP w) (pls w).1 (sgS S s k) h → (∀ k, k < (pls w).1 → j r k = txn (h k)) → (∀ q k, q ≠ r → q ≠ 90 → q ≠ 91 → q ≠ 92 → q ≠ 93 → j q k = i q k) → SAOut B S (eP w) (pls w).1 s (nnd w s) r i (am_fx am_P (d + 4) 287 3 [some (.ref 71), some (.ref 94), some (.int (Int32.ofNat s)), some (.ref r), some (.int (Int32.ofNat k))] [] (am_wI B j)) := by
  have n21 := hW.1.2.2.2.1.2
  have nn8 := (nnd_e (k := s) hW (by omega)).2
  have nne := (nnd_e (k := s) hW (by omega)).1
  have s8 : i (94 + 212 + 6 * s) 8 = Int32.ofNat (nnd w s) := ((hR.2.2.2.1.2 s hs (by omega)).2.2.2.2.2.2.2.2.1).trans nne
  induction m with
  | zero =>
    intro k j h hkm hm hb fj
    have j8 : j (94 + 212 + 6 * s) 8 = Int32.ofNat (nnd w s) := (fj _ _ (by omega) (by omega) (by omega) (by omega) (by omega)).trans s8
    refine Or.inl ⟨j, h, ?_, hb, ?_, fj⟩
    · rw [bk_287_3]
      simp (disch := omega) only [j8, hF, hY, y_ckd, y_ck2d, y_ond, y_onn, y_oI, y_oIx, y_oJ, y_oV, y_oVx, y_oR, y_oRn, y_oRx, y_b0, y_b1, y_bi, y_bid, y_wIK, y_wIL, y_wII, y_wIJ, y_wIR, y_wIN, y_wIw, y_sI, ↓reduceIte, Nat.reduceEqDiff, eq_self, true_or, or_true, false_or, or_false, and_true, true_and, false_and, and_false, not_true, not_false_eq_true, tf_T, tf_F, y_up1, y_up2, y_xx, y_nx, y_sJ, y_sR, Int32.reduceLT, y_nxK, y_nxL, y_nxR, y_sJK, y_sJL, y_sJR, y_sJN, y_sRK, y_sRL, y_sRN, Nat.add_zero, z_nat, z_lit, z_lit0, z_lit1, z_in0, z_in1, z_addl0, z_lt, z_ltl, z_llt, z_inj, z_injl, z_add, z_addl, z_ladd, z_mul, z_mull, z_lmul, z_neg, z_negl, z_in, z_inl, z_ltT, z_ltF, z_eqF, z_10, z_01, z_litne, z_ne0, z_0ne, z_ne1, z_1ne, z_lt64, z_02, z_03, z_04, z_05, z_12, z_13, z_14, z_15, z_20, z_21, z_23, z_24, z_25, z_30, z_31, z_32, z_34, z_35, z_40, z_41, z_42, z_43, z_45, z_50, z_51, z_52, z_53, z_54]
    · rw [← show k = nnd w s by omega]
      exact hm
  | succ m ih =>
    intro k j h hkm hm hb fj
    have j8 : j (94 + 212 + 6 * s) 8 = Int32.ofNat (nnd w s) := (fj _ _ (by omega) (by omega) (by omega) (by omega) (by omega)).trans s8
    have hRj : Rep B j 94 w := Rep_fr hR (Le.rf B) rfl (fun q k _ _ _ _ _ _ => fj q k (by omega) (by omega) (by omega) (by omega) (by omega)) (fun q h1 _ => funext fun k => fj q k (by omega) (by omega) (by omega) (by omega) (by omega)) fun _ _ => rfl
    have eu : ∀ v, (sgS S s k v ∨ v = s * 8 + k) ↔ sgS S s (k + 1) v := fun v => by
      constructor
      · rintro ((q | q) | q)
        · exact Or.inl q
        · exact Or.inr ⟨q.1, by omega⟩
        · exact Or.inr ⟨by omega, by omega⟩
      · rintro (q | q)
        · exact Or.inl (Or.inl q)
        · by_cases e : v % 8 = k
          · exact Or.inr (by omega)
          · exact Or.inl (Or.inr ⟨q.1, by omega⟩)
    have C := c_seat (B := B) (d := d) (u0 := s * 8 + k) hF hY hRj hW hr hk hl ((fj _ _ (by omega) (by omega) (by omega) (by omega) (by omega)).trans h11) (fun l hl' => (fj _ _ (by omega) (by omega) (by omega) (by omega) (by omega)).trans (h89 l hl')) (fun q => by
      rcases q with q | q
      · exact h0 _ q (by omega)
      · omega) (fun v hv => by
      rcases (eu v).mp hv with q | ⟨q1, q2⟩
      · exact hnd v q
      · rw [q1]
        exact ⟨hs, by omega⟩) hm hb
    rcases C with ⟨j2, h2, E, b2, m2, f2⟩ | ⟨j2, E, no, f2⟩
    · have e2 : am_fx am_P (d + 4) 287 3 [some (.ref 71), some (.ref 94), some (.int (Int32.ofNat s)), some (.ref r), some (.int (Int32.ofNat k))] [] (am_wI B j) = am_fx am_P (d + 4) 287 3 [some (.ref 71), some (.ref 94), some (.int (Int32.ofNat s)), some (.ref r), some (.int (Int32.ofNat (k + 1)))] [] (am_wI B j2) := by
        rw [bk_287_3]
        simp (disch := omega) only [j8, E, z_39, z_390, hF, hY, y_ckd, y_ck2d, y_ond, y_onn, y_oI, y_oIx, y_oJ, y_oV, y_oVx, y_oR, y_oRn, y_oRx, y_b0, y_b1, y_bi, y_bid, y_wIK, y_wIL, y_wII, y_wIJ, y_wIR, y_wIN, y_wIw, y_sI, ↓reduceIte, Nat.reduceEqDiff, eq_self, true_or, or_true, false_or, or_false, and_true, true_and, false_and, and_false, not_true, not_false_eq_true, tf_T, tf_F, y_up1, y_up2, y_xx, y_nx, y_sJ, y_sR, Int32.reduceLT, y_nxK, y_nxL, y_nxR, y_sJK, y_sJL, y_sJR, y_sJN, y_sRK, y_sRL, y_sRN, Nat.add_zero, z_nat, z_lit, z_lit0, z_lit1, z_in0, z_in1, z_addl0, z_lt, z_ltl, z_llt, z_inj, z_injl, z_add, z_addl, z_ladd, z_mul, z_mull, z_lmul, z_neg, z_negl, z_in, z_inl, z_ltT, z_ltF, z_eqF, z_10, z_01, z_litne, z_ne0, z_0ne, z_ne1, z_1ne, z_lt64, z_02, z_03, z_04, z_05, z_12, z_13, z_14, z_15, z_20, z_21, z_23, z_24, z_25, z_30, z_31, z_32, z_34, z_35, z_40, z_41, z_42, z_43, z_45, z_50, z_51, z_52, z_53, z_54]
      rw [e2]
      exact ih (k + 1) j2 h2 (by omega) (mat_cg eu (fun _ _ => rfl) m2) b2 fun q l a1 a2 a3 a4 a5 => (f2 q l a1 a2 a3 a4 a5).trans (fj q l a1 a2 a3 a4 a5)
    · refine Or.inr ⟨j2, ?_, fun q => no (okS_mono (fun v hv => ?_) q), fun q l a1 a2 a3 a4 a5 => (f2 q l a1 a2 a3 a4 a5).trans (fj q l a1 a2 a3 a4 a5)⟩
      · rw [bk_287_3]
        simp (disch := omega) only [j8, E, z_39, z_390, hF, hY, y_ckd, y_ck2d, y_ond, y_onn, y_oI, y_oIx, y_oJ, y_oV, y_oVx, y_oR, y_oRn, y_oRx, y_b0, y_b1, y_bi, y_bid, y_wIK, y_wIL, y_wII, y_wIJ, y_wIR, y_wIN, y_wIw, y_sI, ↓reduceIte, Nat.reduceEqDiff, eq_self, true_or, or_true, false_or, or_false, and_true, true_and, false_and, and_false, not_true, not_false_eq_true, tf_T, tf_F, y_up1, y_up2, y_xx, y_nx, y_sJ, y_sR, Int32.reduceLT, y_nxK, y_nxL, y_nxR, y_sJK, y_sJL, y_sJR, y_sJN, y_sRK, y_sRL, y_sRN, Nat.add_zero, z_nat, z_lit, z_lit0, z_lit1, z_in0, z_in1, z_addl0, z_lt, z_ltl, z_llt, z_inj, z_injl, z_add, z_addl, z_ladd, z_mul, z_mull, z_lmul, z_neg, z_negl, z_in, z_inl, z_ltT, z_ltF, z_eqF, z_10, z_01, z_litne, z_ne0, z_0ne, z_ne1, z_1ne, z_lt64, z_02, z_03, z_04, z_05, z_12, z_13, z_14, z_15, z_20, z_21, z_23, z_24, z_25, z_30, z_31, z_32, z_34, z_35, z_40, z_41, z_42, z_43, z_45, z_50, z_51, z_52, z_53, z_54]
      · rcases (eu v).mp hv with q | ⟨q1, q2⟩
        · exact Or.inl q
        · exact Or.inr ⟨q1, by omega⟩
theorem c_seatAll (hF : Fc B) (hY : Yd B 94) (hR : Rep B i 94 w) (hW : Wd w) (hr : 79 < r ∧ r < 89) (hk : am_K B r = 21) (hl : am_L B r = 120) (h11 : i 71 11 = Int32.ofNat (pls w).1) (h89 : ∀ k, k < (pls w).1 → i 89 k = Int32.ofNat ((pls w).2 k)) (hs : s < cn w 2621) (h0 : ∀ u, S u → u / 8 ≠ s) (hnd : ∀ v, S v → v / 8 < cn w 2621 ∧ v % 8 < nnd w (v / 8)) (hm : mat (eP w) (pls w).1 S h) (hb : ∀ k, k < (pls w).1 → i r k = txn (h k)) : SAOut B S (eP w) (pls w).1 s (nnd w s) r i (am_fx am_P (d + 4) 287 0 [some (.ref 71), some (.ref 94), some (.int (Int32.ofNat s)), some (.ref r), none] [] (am_wI B i)) := by
  rw [bk_287_0]
  exact c_seatA (d := d) hF hY hR hW hr hk hl h11 h89 hs h0 hnd (nnd w s) 0 i h (Nat.zero_add _) (mat_cg (fun v => ⟨Or.inl, fun q => q.elim id fun q => absurd q.2 (Nat.not_lt_zero _)⟩) (fun _ _ => rfl) hm) hb fun _ _ _ _ _ _ _ => rfl
end SeatAll
