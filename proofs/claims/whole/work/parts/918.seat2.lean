/-! WAR: a need is seated, the class, whole. Made by wip/whole/math/918.py. -/
section Seat2
variable {B : am_A} {w : Nat → Int32} {d u0 r : Nat} {i : Nat → Nat → Int32} {S : Nat → Prop} {h : Nat → Option Nat}
theorem c_seat28 (hF : Fc B) (hY : Yd B 94) (hR : Rep B i 94 w) (hW : Wd w) (hr : 79 < r ∧ r < 89) (hk : am_K B r = 21) (hl : am_L B r = 120) (h11 : i 71 11 = Int32.ofNat (pls w).1) (h89 : ∀ k, k < (pls w).1 → i 89 k = Int32.ofNat ((pls w).2 k)) (h0 : ¬ S u0) (hnd : ∀ v, (S v ∨ v = u0) → v / 8 < cn w 2621 ∧ v % 8 < nnd w (v / 8)) (hm : mat (eP w) (pls w).1 S h) (hb : ∀ k, k < (pls w).1 → i r k = txn (h k)) (m : Nat) : ∀ (c : Nat) (j : Nat → Nat → Int32) (V : Nat → Bool) (len : Nat) (qf sl pr : Nat → Nat), c + m = 64 → BI j (eP w) (pls w).1 u0 h V len qf sl pr → (∀ q k, q ≠ 90 → q ≠ 91 → q ≠ 92 → q ≠ 93 → j q k = i q k) → c ≤ len → (∀ t l, t < c → l < (pls w).1 → eP w (qf t) l → V l = true) → SOut B S (eP w) (pls w).1 u0 r i (am_fx am_P (d + 3) 288 28 [some (.ref 71), some (.ref 94), none, some (.ref r), some (.int (Int32.ofNat len)), some (.int (Int32.ofNat c)), none, none, none] [] (am_wI B j)) := by
  have n21 := hW.1.2.2.2.1.2
  have n8z : ∀ {r : am_X}, am_nz 8 r = r := y_nz (by decide)
  have hend : ∀ (c : Nat) (j : Nat → Nat → Int32) (V : Nat → Bool) (len : Nat) (qf sl pr : Nat → Nat), BI j (eP w) (pls w).1 u0 h V len qf sl pr → (∀ q k, q ≠ 90 → q ≠ 91 → q ≠ 92 → q ≠ 93 → j q k = i q k) → c = len → (∀ t l, t < c → l < (pls w).1 → eP w (qf t) l → V l = true) → am_fx am_P (d + 3) 288 28 [some (.ref 71), some (.ref 94), none, some (.ref r), some (.int (Int32.ofNat len)), some (.int (Int32.ofNat c)), none, none, none] [] (am_wI B j) = some (.inl (some (.int 0)), am_wI B j) → SOut B S (eP w) (pls w).1 u0 r i (am_fx am_P (d + 3) 288 28 [some (.ref 71), some (.ref 94), none, some (.ref r), some (.int (Int32.ofNat len)), some (.int (Int32.ofNat c)), none, none, none] [] (am_wI B j)) := by
    intro c j V len qf sl pr hB fj ec C1 E
    obtain ⟨b1, b2, b3, b4, ⟨b5, b6, b7⟩, b8, b9, b10⟩ := hB
    refine Or.inr ⟨j, E, ?_, fun q k _ a2 a3 a4 a5 => fj q k a2 a3 a4 a5⟩
    refine hall (N := 64) (u0 := u0) (R := fun v => ∃ t, t < len ∧ qf t = v) (V := fun l => V l = true) hm (fun v q => by have := (hnd v q).1; omega) h0 ⟨0, b6, b5⟩ (fun v q => ?_) (fun v l q hl' he => ?_) (fun l hl' g => ?_)
    · obtain ⟨t, ht, et⟩ := q
      by_cases t0 : t = 0
      · rw [t0, b5] at et
        exact Or.inr et.symm
      · obtain ⟨-, v2, v3, -⟩ := b3 t (by omega) (by omega)
        rw [et] at v3
        exact Or.inl (hm.1 _ _ v2 v3).1
    · obtain ⟨t, ht, et⟩ := q
      exact C1 t l (by omega) hl' (et ▸ he)
    · obtain ⟨t, t0, t1, t2⟩ := b9 l hl' g
      obtain ⟨-, v2, v3, -⟩ := b3 t t0 (by omega)
      rw [t2] at v3
      exact ⟨qf t, v3, t, t1, rfl⟩
  induction m with
  | zero =>
    intro c j V len qf sl pr hcm hB fj hc C1
    have b7 := hB.2.2.2.2.1.2.2
    refine hend c j V len qf sl pr hB fj (by omega) C1 ?_
    rw [show c = 64 by omega, bk_288_28]
    simp (disch := omega) only [hF, hY, y_ckd, y_ck2d, y_ond, y_onn, y_oI, y_oIx, y_oJ, y_oV, y_oVx, y_oR, y_oRn, y_oRx, y_b0, y_b1, y_bi, y_bid, y_wIK, y_wIL, y_wII, y_wIJ, y_wIR, y_wIN, y_wIw, y_sI, ↓reduceIte, Nat.reduceEqDiff, eq_self, true_or, or_true, false_or, or_false, and_true, true_and, false_and, and_false, not_true, not_false_eq_true, tf_T, tf_F, y_up1, y_up2, y_xx, y_nx, y_sJ, y_sR, Int32.reduceLT, y_nxK, y_nxL, y_nxR, y_sJK, y_sJL, y_sJR, y_sJN, y_sRK, y_sRL, y_sRN, Nat.add_zero, z_nat, z_lit, z_lit0, z_lit1, z_in0, z_in1, z_addl0, z_lt, z_ltl, z_llt, z_inj, z_injl, z_add, z_addl, z_ladd, z_mul, z_mull, z_lmul, z_neg, z_negl, z_in, z_inl, z_ltT, z_ltF, z_eqF, z_10, z_01, z_litne, z_ne0, z_0ne, z_ne1, z_1ne, z_lt64, z_02, z_03, z_04, z_05, z_12, z_13, z_14, z_15, z_20, z_21, z_23, z_24, z_25, z_30, z_31, z_32, z_34, z_35, z_40, z_41, z_42, z_43, z_45, z_50, z_51, z_52, z_53, z_54]
  | succ m ih =>
    intro c j V len qf sl pr hcm hB fj hc C1
    have b7 := hB.2.2.2.2.1.2.2
    by_cases g : c < len
    · have k93 := (hB.2.1 c g).1
      have x64 := (hB.2.1 c g).2
      have e8 : Int32.ofNat (qf c) / 8 = Int32.ofNat (qf c / 8) := z_divn (a := qf c) (c := 8) (by omega) (by omega)
      have e62 : am_fx am_P (d + 3) 288 28 [some (.ref 71), some (.ref 94), none, some (.ref r), some (.int (Int32.ofNat len)), some (.int (Int32.ofNat c)), none, none, none] [] (am_wI B j) = am_fx am_P (d + 3) 288 62 [some (.ref 71), some (.ref 94), none, some (.ref r), some (.int (Int32.ofNat len)), some (.int (Int32.ofNat c)), some (.ref (94 + 212 + 6 * (qf c / 8))), some (.int (Int32.ofNat 0)), none] [] (am_wI B j) := by
        rw [bk_288_28]
        simp (disch := omega) only [g, k93, e8, n8z, hF, hY, y_ckd, y_ck2d, y_ond, y_onn, y_oI, y_oIx, y_oJ, y_oV, y_oVx, y_oR, y_oRn, y_oRx, y_b0, y_b1, y_bi, y_bid, y_wIK, y_wIL, y_wII, y_wIJ, y_wIR, y_wIN, y_wIw, y_sI, ↓reduceIte, Nat.reduceEqDiff, eq_self, true_or, or_true, false_or, or_false, and_true, true_and, false_and, and_false, not_true, not_false_eq_true, tf_T, tf_F, y_up1, y_up2, y_xx, y_nx, y_sJ, y_sR, Int32.reduceLT, y_nxK, y_nxL, y_nxR, y_sJK, y_sJL, y_sJR, y_sJN, y_sRK, y_sRL, y_sRN, Nat.add_zero, z_nat, z_lit, z_lit0, z_lit1, z_in0, z_in1, z_addl0, z_lt, z_ltl, z_llt, z_inj, z_injl, z_add, z_addl, z_ladd, z_mul, z_mull, z_lmul, z_neg, z_negl, z_in, z_inl, z_ltT, z_ltF, z_eqF, z_10, z_01, z_litne, z_ne0, z_0ne, z_ne1, z_1ne, z_lt64, z_02, z_03, z_04, z_05, z_12, z_13, z_14, z_15, z_20, z_21, z_23, z_24, z_25, z_30, z_31, z_32, z_34, z_35, z_40, z_41, z_42, z_43, z_45, z_50, z_51, z_52, z_53, z_54]
        rfl
      rw [e62]
      exact c_seat62 (d := d) hF hY hR hW hr hk hl h11 h89 h0 hnd hm hb (fun j V len qf sl pr a1 a2 a3 a4 => ih (c + 1) j V len qf sl pr (by omega) a1 a2 a3 a4) (pls w).1 0 j V len qf sl pr (by omega) hB fj g C1 (fun l q => absurd q (Nat.not_lt_zero l))
    · refine hend c j V len qf sl pr hB fj (by omega) C1 ?_
      have : c = len := by omega
      subst this
      rw [bk_288_28]
      simp (disch := omega) only [hF, hY, y_ckd, y_ck2d, y_ond, y_onn, y_oI, y_oIx, y_oJ, y_oV, y_oVx, y_oR, y_oRn, y_oRx, y_b0, y_b1, y_bi, y_bid, y_wIK, y_wIL, y_wII, y_wIJ, y_wIR, y_wIN, y_wIw, y_sI, ↓reduceIte, Nat.reduceEqDiff, eq_self, true_or, or_true, false_or, or_false, and_true, true_and, false_and, and_false, not_true, not_false_eq_true, tf_T, tf_F, y_up1, y_up2, y_xx, y_nx, y_sJ, y_sR, Int32.reduceLT, y_nxK, y_nxL, y_nxR, y_sJK, y_sJL, y_sJR, y_sJN, y_sRK, y_sRL, y_sRN, Nat.add_zero, z_nat, z_lit, z_lit0, z_lit1, z_in0, z_in1, z_addl0, z_lt, z_ltl, z_llt, z_inj, z_injl, z_add, z_addl, z_ladd, z_mul, z_mull, z_lmul, z_neg, z_negl, z_in, z_inl, z_ltT, z_ltF, z_eqF, z_10, z_01, z_litne, z_ne0, z_0ne, z_ne1, z_1ne, z_lt64, z_02, z_03, z_04, z_05, z_12, z_13, z_14, z_15, z_20, z_21, z_23, z_24, z_25, z_30, z_31, z_32, z_34, z_35, z_40, z_41, z_42, z_43, z_45, z_50, z_51, z_52, z_53, z_54]
end Seat2
