/-! WAR: along the path, the class. Made by wip/whole/math/916.py. -/
section Move
variable {B : am_A} {w : Nat → Int32} {d P u0 r : Nat} {S : Nat → Prop} {E : Nat → Nat → Prop} {qf sl pr : Nat → Nat}
/-- the way by which the need t of the queue was reached -/
def way (i : Nat → Nat → Int32) (E : Nat → Nat → Prop) (P : Nat) (qf sl pr : Nat → Nat) (h : Nat → Option Nat) (t : Nat) : Prop := ∀ s, 0 < s → s ≤ t → i 92 (qf s) = Int32.ofNat (sl s) ∧ sl s < P ∧ h (sl s) = some (qf s) ∧ pr s < s ∧ i 91 (sl s) = Int32.ofNat (qf (pr s)) ∧ E (qf (pr s)) (sl s)
theorem c_move (hF : Fc B) (hk : am_K B r = 21) (hl : am_L B r = 120) (hr : 79 < r ∧ r < 89) (hP : P ≤ 120) (h0 : ¬ S u0) (q0 : qf 0 = u0) (t : Nat) : ∀ (a x : Nat) (i : Nat → Nat → Int32) (h : Nat → Option Nat), x + t < 64 → (∀ k, k < P → i r k = txn (h k)) → mat E P S (hup h a none) → way i E P qf sl pr h t → i 92 u0 = -1 → (∀ s, s ≤ t → qf s < 64) → (∀ s s', s ≤ t → s' ≤ t → qf s = qf s' → s = s') → a < P → i 91 a = Int32.ofNat (qf t) → E (qf t) a → (∀ s, 0 < s → s ≤ t → sl s ≠ a) → ∃ (j : Nat → Nat → Int32) (h' : Nat → Option Nat), am_fx am_P d 289 5 [some (.ref 71), some (.ref r), none, some (.int (Int32.ofNat a)), some (.int (Int32.ofNat x))] [] (am_wI B i) = some (.inl none, am_wI B j) ∧ (∀ k, k < P → j r k = txn (h' k)) ∧ mat E P (fun v => S v ∨ v = u0) h' ∧ (∀ q k, q ≠ r → j q k = i q k) ∧ ∀ k, P ≤ k → j r k = i r k := by
  induction t using Nat.strongRecOn with
  | ind t ih =>
    intro a x i h hx hb hm hw hu0 h64 hinj ha ea hE hne
    have n1 : ¬ Int32.ofNat a = -1 := z_nm1 (by omega)
    have p64 := h64 t (Nat.le_refl t)
    have hsame : ∀ (h1 : Nat → Option Nat) (v : Option Nat), hup (hup h1 a none) a v = hup h1 a v := fun h1 v => funext fun l => by
      by_cases q : l = a
      · rw [q, hup_at, hup_at]
      · rw [hup_ne q, hup_ne q, hup_ne q]
    by_cases t0 : t = 0
    · subst t0
      rw [q0] at ea hE p64
      have hm2 := mat_fill hm ha hup_at hE h0
      rw [hsame] at hm2
      refine ⟨am_up2 i r a (Int32.ofNat u0), hup h a (some u0), ?_, fun k hk' => ?_, hm2, fun q k hq => y_up2 (by omega), fun k hk' => y_up2 (by omega)⟩
      · rw [bk_289_5]
        simp (disch := omega) only [n1, ea, hu0, hk, hl, hF, y_ckd, y_ck2d, y_ond, y_onn, y_oI, y_oIx, y_oJ, y_oV, y_oVx, y_oR, y_oRn, y_oRx, y_b0, y_b1, y_bi, y_bid, y_wIK, y_wIL, y_wII, y_wIJ, y_wIR, y_wIN, y_wIw, y_sI, ↓reduceIte, Nat.reduceEqDiff, eq_self, true_or, or_true, false_or, or_false, and_true, true_and, false_and, and_false, not_true, not_false_eq_true, tf_T, tf_F, y_up1, y_up2, y_xx, y_nx, y_sJ, y_sR, Int32.reduceLT, y_nxK, y_nxL, y_nxR, y_sJK, y_sJL, y_sJR, y_sJN, y_sRK, y_sRL, y_sRN, Nat.add_zero, z_nat, z_lit, z_lit0, z_lit1, z_in0, z_in1, z_addl0, z_lt, z_ltl, z_llt, z_inj, z_injl, z_add, z_addl, z_ladd, z_mul, z_mull, z_lmul, z_neg, z_negl, z_in, z_inl, z_ltT, z_ltF, z_eqF, z_10, z_01, z_litne, z_ne0, z_0ne, z_ne1, z_1ne, z_lt64, z_02, z_03, z_04, z_05, z_12, z_13, z_14, z_15, z_20, z_21, z_23, z_24, z_25, z_30, z_31, z_32, z_34, z_35, z_40, z_41, z_42, z_43, z_45, z_50, z_51, z_52, z_53, z_54]
        rw [bk_289_5]
        by_cases g : x + 1 < 64
        · simp (disch := omega) only [g, hF, y_ckd, y_ck2d, y_ond, y_onn, y_oI, y_oIx, y_oJ, y_oV, y_oVx, y_oR, y_oRn, y_oRx, y_b0, y_b1, y_bi, y_bid, y_wIK, y_wIL, y_wII, y_wIJ, y_wIR, y_wIN, y_wIw, y_sI, ↓reduceIte, Nat.reduceEqDiff, eq_self, true_or, or_true, false_or, or_false, and_true, true_and, false_and, and_false, not_true, not_false_eq_true, tf_T, tf_F, y_up1, y_up2, y_xx, y_nx, y_sJ, y_sR, Int32.reduceLT, y_nxK, y_nxL, y_nxR, y_sJK, y_sJL, y_sJR, y_sJN, y_sRK, y_sRL, y_sRN, Nat.add_zero, z_nat, z_lit, z_lit0, z_lit1, z_in0, z_in1, z_addl0, z_lt, z_ltl, z_llt, z_inj, z_injl, z_add, z_addl, z_ladd, z_mul, z_mull, z_lmul, z_neg, z_negl, z_in, z_inl, z_ltT, z_ltF, z_eqF, z_10, z_01, z_litne, z_ne0, z_0ne, z_ne1, z_1ne, z_lt64, z_02, z_03, z_04, z_05, z_12, z_13, z_14, z_15, z_20, z_21, z_23, z_24, z_25, z_30, z_31, z_32, z_34, z_35, z_40, z_41, z_42, z_43, z_45, z_50, z_51, z_52, z_53, z_54]
        · simp (disch := omega) only [g, hF, y_ckd, y_ck2d, y_ond, y_onn, y_oI, y_oIx, y_oJ, y_oV, y_oVx, y_oR, y_oRn, y_oRx, y_b0, y_b1, y_bi, y_bid, y_wIK, y_wIL, y_wII, y_wIJ, y_wIR, y_wIN, y_wIw, y_sI, ↓reduceIte, Nat.reduceEqDiff, eq_self, true_or, or_true, false_or, or_false, and_true, true_and, false_and, and_false, not_true, not_false_eq_true, tf_T, tf_F, y_up1, y_up2, y_xx, y_nx, y_sJ, y_sR, Int32.reduceLT, y_nxK, y_nxL, y_nxR, y_sJK, y_sJL, y_sJR, y_sJN, y_sRK, y_sRL, y_sRN, Nat.add_zero, z_nat, z_lit, z_lit0, z_lit1, z_in0, z_in1, z_addl0, z_lt, z_ltl, z_llt, z_inj, z_injl, z_add, z_addl, z_ladd, z_mul, z_mull, z_lmul, z_neg, z_negl, z_in, z_inl, z_ltT, z_ltF, z_eqF, z_10, z_01, z_litne, z_ne0, z_0ne, z_ne1, z_1ne, z_lt64, z_02, z_03, z_04, z_05, z_12, z_13, z_14, z_15, z_20, z_21, z_23, z_24, z_25, z_30, z_31, z_32, z_34, z_35, z_40, z_41, z_42, z_43, z_45, z_50, z_51, z_52, z_53, z_54]
      · by_cases e : k = a
        · rw [y_up1 rfl e, e, hup_at]
          rfl
        · rw [y_up2 (by omega), hup_ne e]
          exact hb k hk'
    · obtain ⟨w1, w2, w3, w4, w5, w6⟩ := hw t (by omega) (Nat.le_refl t)
      have la : sl t ≠ a := hne t (by omega) (Nat.le_refl t)
      have hm2 := mat_move (l := sl t) hm ha w2 hup_at (by rw [hup_ne la]; exact w3) hE
      rw [hsame] at hm2
      have hb1 : ∀ k, k < P → am_up2 i r a (Int32.ofNat (qf t)) r k = txn (hup h a (some (qf t)) k) := by
        intro k hk'
        by_cases e : k = a
        · rw [y_up1 rfl e, e, hup_at]
          rfl
        · rw [y_up2 (by omega), hup_ne e]
          exact hb k hk'
      obtain ⟨j, h', E1, g1, g2, g3, g4⟩ := ih (pr t) w4 (sl t) (x + 1) (am_up2 i r a (Int32.ofNat (qf t))) (hup h a (some (qf t))) (by omega) hb1 hm2 (fun s s0 st => by
        obtain ⟨v1, v2, v3, v4, v5, v6⟩ := hw s s0 (by omega)
        refine ⟨(y_up2 (by omega)).trans v1, v2, ?_, v4, (y_up2 (by omega)).trans v5, v6⟩
        rw [hup_ne (hne s s0 (by omega))]
        exact v3) ((y_up2 (by omega)).trans hu0) (fun s hs => h64 s (by omega)) (fun s s' hs hs' => hinj s s' (by omega) (by omega)) w2 ((y_up2 (by omega)).trans w5) w6 (fun s s0 st q => by
        have v3 := (hw s s0 (by omega)).2.2.1
        rw [q, w3] at v3
        have := hinj t s (Nat.le_refl t) (by omega) (Option.some.inj v3)
        omega)
      refine ⟨j, h', ?_, g1, g2, fun q k hq => (g3 q k hq).trans (y_up2 (by omega)), fun k hk' => (g4 k hk').trans (y_up2 (by omega))⟩
      rw [bk_289_5]
      simp (disch := omega) only [n1, ea, w1, hk, hl, hF, y_ckd, y_ck2d, y_ond, y_onn, y_oI, y_oIx, y_oJ, y_oV, y_oVx, y_oR, y_oRn, y_oRx, y_b0, y_b1, y_bi, y_bid, y_wIK, y_wIL, y_wII, y_wIJ, y_wIR, y_wIN, y_wIw, y_sI, ↓reduceIte, Nat.reduceEqDiff, eq_self, true_or, or_true, false_or, or_false, and_true, true_and, false_and, and_false, not_true, not_false_eq_true, tf_T, tf_F, y_up1, y_up2, y_xx, y_nx, y_sJ, y_sR, Int32.reduceLT, y_nxK, y_nxL, y_nxR, y_sJK, y_sJL, y_sJR, y_sJN, y_sRK, y_sRL, y_sRN, Nat.add_zero, z_nat, z_lit, z_lit0, z_lit1, z_in0, z_in1, z_addl0, z_lt, z_ltl, z_llt, z_inj, z_injl, z_add, z_addl, z_ladd, z_mul, z_mull, z_lmul, z_neg, z_negl, z_in, z_inl, z_ltT, z_ltF, z_eqF, z_10, z_01, z_litne, z_ne0, z_0ne, z_ne1, z_1ne, z_lt64, z_02, z_03, z_04, z_05, z_12, z_13, z_14, z_15, z_20, z_21, z_23, z_24, z_25, z_30, z_31, z_32, z_34, z_35, z_40, z_41, z_42, z_43, z_45, z_50, z_51, z_52, z_53, z_54]
      exact E1
end Move
