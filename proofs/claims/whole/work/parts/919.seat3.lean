/-! WAR: a need is seated, the call. Made by wip/whole/math/919.py. -/
section Seat3
variable {B : am_A} {w : Nat → Int32} {d u0 r : Nat} {i : Nat → Nat → Int32} {S : Nat → Prop} {h : Nat → Option Nat}
theorem c_seat (hF : Fc B) (hY : Yd B 94) (hR : Rep B i 94 w) (hW : Wd w) (hr : 79 < r ∧ r < 89) (hk : am_K B r = 21) (hl : am_L B r = 120) (h11 : i 71 11 = Int32.ofNat (pls w).1) (h89 : ∀ k, k < (pls w).1 → i 89 k = Int32.ofNat ((pls w).2 k)) (h0 : ¬ S u0) (hnd : ∀ v, (S v ∨ v = u0) → v / 8 < cn w 2621 ∧ v % 8 < nnd w (v / 8)) (hm : mat (eP w) (pls w).1 S h) (hb : ∀ k, k < (pls w).1 → i r k = txn (h k)) : SOut B S (eP w) (pls w).1 u0 r i (am_fx am_P (d + 3) 288 0 [some (.ref 71), some (.ref 94), some (.int (Int32.ofNat u0)), some (.ref r), none, none, none, none, none] [] (am_wI B i)) := by
  have n21 := hW.1.2.2.2.1.2
  have n120 : (pls w).1 ≤ 120 := Nat.le_trans pls_n hW.1.2.2.1.2
  have u64 : u0 < 64 := by have := (hnd u0 (Or.inr rfl)).1; omega
  obtain ⟨j, E, f0, f⟩ := c_fill (B := B) (d := d + 2) (i := i) (q := 90) (n := 120) (v := 0) (by simp (disch := omega) only [hF]) (by simp (disch := omega) only [hF]) (by omega)
  have e28 : am_fx am_P (d + 3) 288 0 [some (.ref 71), some (.ref 94), some (.int (Int32.ofNat u0)), some (.ref r), none, none, none, none, none] [] (am_wI B i) = am_fx am_P (d + 3) 288 28 [some (.ref 71), some (.ref 94), none, some (.ref r), some (.int (Int32.ofNat 1)), some (.int (Int32.ofNat 0)), none, none, none] [] (am_wI B (am_up2 (am_up2 j 92 u0 (-1)) 93 0 (Int32.ofNat u0))) := by
    rw [bk_288_0]
    simp (disch := omega) only [E, bk_288_22, hF, hY, y_ckd, y_ck2d, y_ond, y_onn, y_oI, y_oIx, y_oJ, y_oV, y_oVx, y_oR, y_oRn, y_oRx, y_b0, y_b1, y_bi, y_bid, y_wIK, y_wIL, y_wII, y_wIJ, y_wIR, y_wIN, y_wIw, y_sI, ↓reduceIte, Nat.reduceEqDiff, eq_self, true_or, or_true, false_or, or_false, and_true, true_and, false_and, and_false, not_true, not_false_eq_true, tf_T, tf_F, y_up1, y_up2, y_xx, y_nx, y_sJ, y_sR, Int32.reduceLT, y_nxK, y_nxL, y_nxR, y_sJK, y_sJL, y_sJR, y_sJN, y_sRK, y_sRL, y_sRN, Nat.add_zero, z_nat, z_lit, z_lit0, z_lit1, z_in0, z_in1, z_addl0, z_lt, z_ltl, z_llt, z_inj, z_injl, z_add, z_addl, z_ladd, z_mul, z_mull, z_lmul, z_neg, z_negl, z_in, z_inl, z_ltT, z_ltF, z_eqF, z_10, z_01, z_litne, z_ne0, z_0ne, z_ne1, z_1ne, z_lt64, z_02, z_03, z_04, z_05, z_12, z_13, z_14, z_15, z_20, z_21, z_23, z_24, z_25, z_30, z_31, z_32, z_34, z_35, z_40, z_41, z_42, z_43, z_45, z_50, z_51, z_52, z_53, z_54]
    rfl
  rw [e28]
  refine c_seat28 (d := d) hF hY hR hW hr hk hl h11 h89 h0 hnd hm hb 64 0 _ (fun _ => false) 1 (fun _ => u0) (fun _ => 0) (fun _ => 0) (by omega) ⟨fun k hk' => ?_, fun t ht => ?_, fun s s0 s1 => absurd s1 (by omega), ?_, ⟨rfl, by omega, by omega⟩, fun s s' hs hs' _ => by omega, (fun k _ q => nomatch q), fun t t0 t1 => absurd t1 (by omega)⟩ (fun q k a1 a2 a3 a4 => ?_) (by omega) (fun t l q => absurd q (Nat.not_lt_zero _))
  · rw [y_up2 (by omega), y_up2 (by omega), f0 k (by omega)]
    exact (if_neg Bool.false_ne_true).symm
  · rw [y_up1 rfl (by omega)]
    exact ⟨rfl, u64⟩
  · rw [y_up2 (by omega), y_up1 rfl rfl]
  · rw [y_up2 (by omega), y_up2 (by omega)]
    exact f q k a1
end Seat3
