/-! MAKE: the call. Made by wip/whole/math/89d.py. -/
section Make3
variable {B B1 : am_A} {i i1 : Nat → Nat → Int32} {σ σ' : Sg} {w : Nat → Int32} {L j d b m n c s T p k : Nat} {x y z : Int32} {f : Nat → Nat}
def nt74 (x a : Int32) : Int32 := a + ((x.toUInt32 >>> ((1 : Int32).toUInt32 &&& Int32.toUInt32 31)).toInt32)
def nt62 (x a : Int32) : Int32 := if 4 < x then nt74 ((x.toUInt32 >>> ((2 : Int32).toUInt32 &&& Int32.toUInt32 31)).toInt32) (a + 2) else nt74 x a
def nt49 (x a : Int32) : Int32 := if 16 < x then nt62 ((x.toUInt32 >>> ((4 : Int32).toUInt32 &&& Int32.toUInt32 31)).toInt32) (a + 4) else nt62 x a
def nt34 (x a : Int32) : Int32 := if 256 < x then nt49 ((x.toUInt32 >>> ((8 : Int32).toUInt32 &&& Int32.toUInt32 31)).toInt32) (a + 8) else nt49 x a
def nt0 (x : Int32) : Int32 := if 0 < ((x ^^^ (-1)) &&& (x - 1)) then (if 65536 < ((x ^^^ (-1)) &&& (x - 1)) then nt34 ((((x ^^^ (-1)) &&& (x - 1)).toUInt32 >>> ((16 : Int32).toUInt32 &&& Int32.toUInt32 31)).toInt32) (1 + 16) else nt34 ((x ^^^ (-1)) &&& (x - 1)) 1) else (((x ^^^ (-1)) &&& (x - 1)) &&& 32)
theorem nt0_ok : ∀ T, T < 256 → 0 < T → nt0 (Int32.ofNat T) = Int32.ofNat (fb T) := by decide +kernel
theorem c_nt62 {A : am_A} : am_fx am_P d 6 62 [some (.int x), some (.int y)] [] A = some (.inl (some (.int (nt62 x y))), A) := by
  rw [bk_6_62]
  unfold nt62
  split <;> rw [bk_6_74] <;> rfl
theorem c_nt49 {A : am_A} : am_fx am_P d 6 49 [some (.int x), some (.int y)] [] A = some (.inl (some (.int (nt49 x y))), A) := by
  rw [bk_6_49]
  unfold nt49
  split <;> rw [c_nt62]
theorem c_nt34 {A : am_A} : am_fx am_P d 6 34 [some (.int x), some (.int y)] [] A = some (.inl (some (.int (nt34 x y))), A) := by
  rw [bk_6_34]
  unfold nt34
  split <;> rw [c_nt49]
theorem c_ntz {A : am_A} (hT : T < 256) (h0 : 0 < T) : am_fx am_P d 6 0 [some (.int (Int32.ofNat T)), none] [] A = some (.inl (some (.int (Int32.ofNat (fb T)))), A) := by
  rw [bk_6_0, ← nt0_ok T hT h0]
  unfold nt0
  split
  · split <;> rw [c_nt34]
  · rfl
/-- the used ones, in the class's heap -/
theorem Rep_usw {i' : Nat → Nat → Int32} (h : Rep B i 94 w) (hW : Wd w) (hi : ∀ q m, (m = 9 → ∀ r, r < mc w → bt2 T r → q ≠ 94 + 92 + mf w r) → i' q m = i q m) (h5 : ∀ r, r < mc w → bt2 T r → i' (94 + 92 + mf w r) 9 = 5) : Rep B i' 94 (usw w (mf w) T (mc w)) := by
  obtain ⟨m8, hm⟩ := mf_ok hW
  have h120 := hW.1.2.2.1.2
  have hf : ∀ r, r < mc w → mf w r < 120 := fun r hr => by have := (hm r hr).1; omega
  have hh : ∀ t, hrt (usw w (mf w) T (mc w)) t = hrt w t := hrt_fr fun t ht => usw_out (by omega) hf
  refine Rep_piece h (Le.rf B) (by omega) rfl ⟨?_, fun p hp p6 => ?_⟩ (fun q k h1 h2 h3 h4 => hi q k fun _ r hr _ => by have := hf r hr; omega) (fun q h1 _ => funext fun k => hi q k fun _ r hr _ => by have := hf r hr; omega) fun z h1 h2 => usw_out (by omega) hf
  · rw [hi _ _ (fun e => absurd e (by omega)), usw_out (by omega) hf]
    exact h.2.2.1.1
  · have hp : p < cn w 460 := by unfold cn at hp ⊢; rw [usw_out (by omega) hf] at hp; exact hp
    obtain ⟨a1, a2, a3, a4, a5, a6, a7, a8, a9, a10, a11, a12, a13, a14, a15, a16, a17, a18, a19⟩ := h.2.2.1.2 p hp p6
    have i9 : ∀ m, m ≠ 9 → i' (94 + 92 + p) m = i (94 + 92 + p) m := fun m hm => hi _ _ fun e => absurd e hm
    have e0 : usw w (mf w) T (mc w) (461 + 18 * p) = w (461 + 18 * p) := usw_r (r := 0) (by omega) (by omega)
    by_cases q : ∃ r, r < mc w ∧ bt2 T r ∧ p = mf w r
    · obtain ⟨r, hr, hb, rfl⟩ := q
      refine ⟨?_, ?_, ?_, ?_, ?_, ?_, ?_, ?_, ?_, ?_, ?_, ?_, ?_, ?_, ?_, ?_, ?_, fun e => ?_, ?_⟩
      all_goals try (rw [i9 _ (by omega), usw_r (by omega) (by omega)]; assumption)
      · rw [i9 _ (by omega), e0]
        exact a1
      · rw [h5 r hr hb, usw_at hr hb]
      · rw [usw_at hr hb] at e
        exact absurd e (by decide)
      · rw [i9 _ (by omega), usw_r (by omega) (by omega), hh]
        exact a19
    · have e1 : usw w (mf w) T (mc w) (461 + 18 * p + 1) = w (461 + 18 * p + 1) := usw_ne fun r hr hb e => q ⟨r, hr, hb, by omega⟩
      have i9b : i' (94 + 92 + p) 9 = i (94 + 92 + p) 9 := hi _ _ fun _ r hr hb e => q ⟨r, hr, hb, by omega⟩
      refine ⟨?_, ?_, ?_, ?_, ?_, ?_, ?_, ?_, ?_, ?_, ?_, ?_, ?_, ?_, ?_, ?_, ?_, fun e => ?_, ?_⟩
      all_goals try (rw [i9 _ (by omega), usw_r (by omega) (by omega)]; assumption)
      · rw [i9 _ (by omega), e0]
        exact a1
      · rw [i9b, e1]
        exact a2
      · rw [i9 _ (by omega), usw_r (by omega) (by omega)]
        exact a18 (by rw [← e1]; exact e)
      · rw [i9 _ (by omega), usw_r (by omega) (by omega), hh]
        exact a19
theorem c_joinAll {c : Nat} (hF : Fc B) (hY : Yd B 94) (hR : Rep B i 94 w) (hW : Wd w) (hc : w 460 = Int32.ofNat c) (c6 : c < 120) (hT : T < 2 ^ mc w) (h0 : 0 < T) (e7 : ∀ k, k < mc w → i 76 k = Int32.ofNat (mf w k)) : ∃ i', am_fx am_P (d + 3) 242 0 [some (.ref 94), some (.ref 76), some (.int (Int32.ofNat (mc w))), some (.int (Int32.ofNat T)), none, none, none, none] [] (am_wI B i) = some (.inl (some (.int (Int32.ofNat c))), am_wI B i') ∧ Rep B i' 94 (mkw w T c) ∧ ∀ q k, (q < 94 ∨ 354 ≤ q) → i' q k = i q k := by
  obtain ⟨m8, hm⟩ := mf_ok hW
  obtain ⟨p1, p2⟩ := p2_le m8
  have hcn := cn_of hc (by omega)
  obtain ⟨f1, f2, f3⟩ := fb_ok (c := mc w) (by omega) hT h0
  have hf : ∀ r, r < mc w → mf w r < c := fun r hr => by have := (hm r hr).1; omega
  have ec : i 94 5 = Int32.ofNat c := hR.2.2.1.1.trans hc
  have k0 : i 94 0 = w 0 := hR.1.1
  have kq : am_K B (94 + 92 + c) = 5 := by simp (disch := omega) only [hY]
  obtain ⟨j, E, hI⟩ := lp_inv (fun k j => am_fx am_P (d + 3) 242 12 [some (.ref 94), some (.ref 76), some (.int (Int32.ofNat (mc w))), some (.int (Int32.ofNat T)), some (.ref (94 + 92 + c)), some (.int (if fb T < k then 0 else 1)), some (.int (Int32.ofNat k)), none] [] (am_wI B j)) (fun k j => mdI (am_up2 i 94 5 (Int32.ofNat (c + 1))) j w T c k) (mc w) (fun k j hk hI => c_join (d := d) hY hR hW hF hc c6 hT h0 e7 hk hI) (am_up2 i 94 5 (Int32.ofNat (c + 1))) ⟨fun _ _ _ _ => rfl, fun r hr => absurd hr (Nat.not_lt_zero r), fun hr => absurd hr (Nat.not_lt_zero _)⟩
  obtain ⟨I1, I2, I3⟩ := hI
  have hM := I3 (by omega)
  have j0 : j 94 0 = w 0 := by rw [I1 _ _ (by omega) (fun e => absurd e (by omega)), y_up2 (by omega)]; exact k0
  have j5 : j 94 5 = Int32.ofNat (c + 1) := by rw [I1 _ _ (by omega) (fun e => absurd e (by omega)), y_up1 rfl rfl]
  refine ⟨am_up2 (am_up2 j (94 + 92 + c) 9 2) (94 + 92 + c) 15 (w 0), ?_, ?_, fun q k hq => ?_⟩
  · rw [bk_242_0]
    have hn := c_newPiece (d := d + 1) hY ec c6
    simp (maxSteps := 1000000) (disch := omega) only [hn, hY, y_ckd, y_ck2d, y_ond, y_onn, y_oI, y_oIx, y_oJ, y_oV, y_oVx, y_oR, y_oRn, y_oRx, y_b0, y_b1, y_bi, y_bid, y_wIK, y_wIL, y_wII, y_wIJ, y_wIR, y_wIN, y_wIw, y_sI, ↓reduceIte, Nat.reduceEqDiff, eq_self, true_or, or_true, false_or, or_false, and_true, true_and, false_and, and_false, not_true, not_false_eq_true, tf_T, tf_F, y_up1, y_up2, y_xx, y_nx, y_sJ, y_sR, Int32.reduceLT, y_nxK, y_nxL, y_nxR, y_sJK, y_sJL, y_sJR, y_sJN, y_sRK, y_sRL, y_sRN]
    rw [if_neg (Nat.not_lt_zero _)] at E
    refine E.trans ?_
    rw [bk_242_12, if_neg Int32.lt_irrefl]
    simp (maxSteps := 1000000) (disch := omega) only [bk_157_0, bk_157_10, j0, j5, kq, z_n1, hY, y_ckd, y_ck2d, y_ond, y_onn, y_oI, y_oIx, y_oJ, y_oV, y_oVx, y_oR, y_oRn, y_oRx, y_b0, y_b1, y_bi, y_bid, y_wIK, y_wIL, y_wII, y_wIJ, y_wIR, y_wIN, y_wIw, y_sI, ↓reduceIte, Nat.reduceEqDiff, eq_self, true_or, or_true, false_or, or_false, and_true, true_and, false_and, and_false, not_true, not_false_eq_true, tf_T, tf_F, y_up1, y_up2, y_xx, y_nx, y_sJ, y_sR, Int32.reduceLT, y_nxK, y_nxL, y_nxR, y_sJK, y_sJL, y_sJR, y_sJN, y_sRK, y_sRL, y_sRN, Nat.add_zero, z_nat, z_lit, z_lit0, z_lit1, z_in0, z_in1, z_addl0, z_lt, z_ltl, z_llt, z_inj, z_injl, z_add, z_addl, z_ladd, z_mul, z_mull, z_lmul, z_neg, z_negl, z_in, z_inl, z_ltT, z_ltF, z_eqF, z_10, z_01, z_litne, z_ne0, z_0ne, z_ne1, z_1ne, z_lt64, z_02, z_03, z_04, z_05, z_12, z_13, z_14, z_15, z_20, z_21, z_23, z_24, z_25, z_30, z_31, z_32, z_34, z_35, z_40, z_41, z_42, z_43, z_45, z_50, z_51, z_52, z_53, z_54]
  · have hU : Rep B (fun q m => if ∃ r, r < mc w ∧ bt2 T r ∧ q = 94 + 92 + mf w r ∧ m = 9 then 5 else i q m) 94 (usw w (mf w) T (mc w)) := Rep_usw hR hW (fun q m h => if_neg fun ⟨r, hr, hb, e, e9⟩ => h e9 r hr hb e) fun r hr hb => if_pos ⟨r, hr, hb, rfl, rfl⟩
    have hcu : usw w (mf w) T (mc w) 460 = Int32.ofNat c := by rw [usw_out (by omega) fun r hr => by have := hf r hr; omega]; exact hc
    refine Rep_new hU (by omega) hcu c6 (fun q k h1 h2 => ?_) (by rw [y_up2 (by omega), y_up2 (by omega)]; exact j5) ?_
    · rw [y_up2 (by omega), y_up2 (by omega)]
      by_cases e : ∃ r, r < mc w ∧ bt2 T r ∧ q = 94 + 92 + mf w r ∧ k = 9
      · rw [if_pos e]
        obtain ⟨r, hr, hb, rfl, rfl⟩ := e
        exact I2 r hr hb
      · rw [if_neg e, I1 q k h2 fun e9 r hr hb eq => e ⟨r, hr, hb, eq, e9⟩, y_up2 (by omega)]
    · obtain ⟨c0, c1, c2, c3, c4, c5, c6', c7, c10, c11, c12, c13, c14, c16, c17, c18⟩ := hM
      have hh : hrt (pcw (usw w (mf w) T (mc w)) c (mkf w T)) (w (461 + 18 * mf w (fb T) + 9)) = hrt w (w (461 + 18 * mf w (fb T) + 9)) := hrt_fr (fun t ht => by rw [pcw_ne (by omega), usw_out (by omega) fun r hr => by have := hf r hr; omega]) _
      refine ⟨?_, ?_, ?_, ?_, ?_, ?_, ?_, ?_, ?_, ?_, ?_, ?_, ?_, ?_, ?_, ?_, ?_, fun e => ?_, ?_⟩
      all_goals try (rw [pcw_0]; simp (disch := omega) only [y_up2]; exact c0)
      all_goals try (rw [pcw_at (by omega)]; simp (disch := omega) only [y_up1, y_up2, c0, c1, c2, c3, c4, c5, c7, c10, c11, c12, c13, c14, c16, c17, c18]; rfl)
      · rw [pcw_at (by omega)] at e
        exact absurd e (by show ¬ (2 : Int32) = 0; decide)
      · rw [pcw_at (by omega)]
        simp (disch := omega) only [y_up2]
        exact c6'.trans hh.symm
  · rw [y_up2 (by omega), y_up2 (by omega), I1 q k (by omega) (fun _ r hr _ => by have := hf r hr; omega), y_up2 (by omega)]
theorem fv_T (h : ¬ msv w s n = 0) (hW : Wd w) : fv (msv w s n) = Int32.ofNat (msv w s n) ∧ 0 < msv w s n ∧ msv w s n < 2 ^ mc w ∧ w (2622 + 49 * s + 9 + 5 * n) = 2 := by
  obtain ⟨m8, -⟩ := mf_ok hW
  obtain ⟨p1, p2⟩ := p2_le m8
  refine ⟨fv_p h, by omega, ?_, ?_⟩
  · unfold msv
    split
    · have := (bsm_ok (w := w) (s := s) (n := n) (2 ^ mc w - 1)).1
      omega
    · omega
  · unfold msv at h
    by_cases g : w (2622 + 49 * s + 9 + 5 * n) = 2
    · exact g
    · rw [if_neg g] at h
      exact absurd rfl h
theorem f_make_x0 (h : CR B i σ) (g : ¬ (¬ x < 0 ∧ x < σ.1 2621)) : FRs B i σ (am_fx am_P (d + 150) 315 0 [some (.ref 64), some (.int x), some (.int y), none, none] [] (am_wI B i)) (.inr 1) := by
  refine FRs_x h ?_
  have hF : Fc B := h.1.1
  have hY : Yd B 94 := h.1.2.1
  rw [bk_315_0]
  simp (disch := omega) only [c_shN0 hF hY h.2.1.2.2.2.1.1 g, hF, hY, y_ckd, y_ck2d, y_ond, y_onn, y_oI, y_oIx, y_oJ, y_oV, y_oVx, y_oR, y_oRn, y_oRx, y_b0, y_b1, y_bi, y_bid, y_wIK, y_wIL, y_wII, y_wIJ, y_wIR, y_wIN, y_wIw, y_sI, ↓reduceIte, Nat.reduceEqDiff, eq_self, true_or, or_true, false_or, or_false, and_true, true_and, false_and, and_false, not_true, not_false_eq_true, tf_T, tf_F, y_up1, y_up2, y_xx, y_nx, y_sJ, y_sR, Int32.reduceLT, y_nxK, y_nxL, y_nxR, y_sJK, y_sJL, y_sJR, y_sJN, y_sRK, y_sRL, y_sRN, Nat.add_zero, z_nat, z_lit, z_lit0, z_lit1, z_in0, z_in1, z_addl0, z_lt, z_ltl, z_llt, z_inj, z_injl, z_add, z_addl, z_ladd, z_mul, z_mull, z_lmul, z_neg, z_negl, z_in, z_inl, z_ltT, z_ltF, z_eqF, z_10, z_01, z_litne, z_ne0, z_0ne, z_ne1, z_1ne, z_lt64, z_02, z_03, z_04, z_05, z_12, z_13, z_14, z_15, z_20, z_21, z_23, z_24, z_25, z_30, z_31, z_32, z_34, z_35, z_40, z_41, z_42, z_43, z_45, z_50, z_51, z_52, z_53, z_54]
theorem f_make_x1 (h : CR B i σ) (hW : Wd σ.1) (hs : s < cn σ.1 2621) (g : ¬ (¬ y < 0 ∧ y < σ.1 (2622 + 49 * s + 8))) : FRs B i σ (am_fx am_P (d + 150) 315 0 [some (.ref 64), some (.int (Int32.ofNat s)), some (.int y), none, none] [] (am_wI B i)) (.inr 1) := by
  refine FRs_x h ?_
  have hF : Fc B := h.1.1
  have hY : Yd B 94 := h.1.2.1
  have hc := hW.1.2.2.2.1
  have h8 := hc.2
  have a9 := (h.2.1.2.2.2.1.2 s hs (by omega)).2.2.2.2.2.2.2.2.1
  rw [bk_315_0]
  simp (disch := omega) only [c_shN hF hY h.2.1.2.2.2.1.1 hc hs, a9, c_ckI0 g, hF, hY, y_ckd, y_ck2d, y_ond, y_onn, y_oI, y_oIx, y_oJ, y_oV, y_oVx, y_oR, y_oRn, y_oRx, y_b0, y_b1, y_bi, y_bid, y_wIK, y_wIL, y_wII, y_wIJ, y_wIR, y_wIN, y_wIw, y_sI, ↓reduceIte, Nat.reduceEqDiff, eq_self, true_or, or_true, false_or, or_false, and_true, true_and, false_and, and_false, not_true, not_false_eq_true, tf_T, tf_F, y_up1, y_up2, y_xx, y_nx, y_sJ, y_sR, Int32.reduceLT, y_nxK, y_nxL, y_nxR, y_sJK, y_sJL, y_sJR, y_sJN, y_sRK, y_sRL, y_sRN, Nat.add_zero, z_nat, z_lit, z_lit0, z_lit1, z_in0, z_in1, z_addl0, z_lt, z_ltl, z_llt, z_inj, z_injl, z_add, z_addl, z_ladd, z_mul, z_mull, z_lmul, z_neg, z_negl, z_in, z_inl, z_ltT, z_ltF, z_eqF, z_10, z_01, z_litne, z_ne0, z_0ne, z_ne1, z_1ne, z_lt64, z_02, z_03, z_04, z_05, z_12, z_13, z_14, z_15, z_20, z_21, z_23, z_24, z_25, z_30, z_31, z_32, z_34, z_35, z_40, z_41, z_42, z_43, z_45, z_50, z_51, z_52, z_53, z_54]
theorem f_make0 (h : CR B i σ) (hW : Wd σ.1) (hs : s < cn σ.1 2621) (hn : n < cn σ.1 (2622 + 49 * s + 8)) (g : msv σ.1 s n = 0 ∨ cn σ.1 460 = 120) : FRs B i σ (am_fx am_P (d + 150) 315 0 [some (.ref 64), some (.int (Int32.ofNat s)), some (.int (Int32.ofNat n)), none, none] [] (am_wI B i)) (.inl (some (.int (-1)))) := by
  have hF : Fc B := h.1.1
  have hY : Yd B 94 := h.1.2.1
  have hc := hW.1.2.2.2.1
  have h8 := hc.2
  have h4 := hW.1.2.2.1
  have h120 := h4.2
  have e5 : i 94 5 = Int32.ofNat (cn σ.1 460) := h.2.1.2.2.1.1.trans h4.1
  obtain ⟨-, -, -, -, -, -, -, hnc, -⟩ := hW.2.2.2.2.1.1 s hs (by omega)
  have a9 := (h.2.1.2.2.2.1.2 s hs (by omega)).2.2.2.2.2.2.2.2.1
  by_cases q : cn σ.1 460 = 120
  · have q2 : ¬ Int32.ofNat (cn σ.1 460) < 120 := by rw [show (120 : Int32) = Int32.ofNat 120 from rfl, z_lt (by omega) (by omega)]; omega
    refine FRs_0 h ?_
    rw [bk_315_0]
    simp (disch := omega) only [(fun d x0 s0 B i => bk_315_43 d x0 s0 (am_wI B i)), c_shN hF hY h.2.1.2.2.2.1.1 hc hs, a9, c_ckI1 (ck_nat hnc (by omega) hn), e5, q2, hF, hY, y_ckd, y_ond, y_oR, y_oV, y_oI, y_wII, y_wIR, ↓reduceIte]
  · have q2 : Int32.ofNat (cn σ.1 460) < 120 := by rw [show (120 : Int32) = Int32.ofNat 120 from rfl, z_lt (by omega) (by omega)]; omega
    obtain ⟨i1, E1, f1, -⟩ := c_mset (d := d + 146) h hW hs hn
    rw [g.resolve_right q, show fv 0 = -1 from rfl] at E1
    refine FRs_s (i' := i1) h ?_ fun q k a _ b c _ _ => f1 q k (by omega) (by omega)
    rw [bk_315_0]
    simp (disch := omega) only [(fun d x0 s0 B i => bk_315_43 d x0 s0 (am_wI B i)), c_shN hF hY h.2.1.2.2.2.1.1 hc hs, a9, c_ckI1 (ck_nat hnc (by omega) hn), e5, q2, E1, hF, hY, y_ckd, y_ond, y_oR, y_oV, y_oI, y_wII, y_wIR, ↓reduceIte]
theorem f_make {c : Nat} (h : CR B i σ) (hW : Wd σ.1) (hs : s < cn σ.1 2621) (hn : n < cn σ.1 (2622 + 49 * s + 8)) (g : ¬ msv σ.1 s n = 0) (hcc : σ.1 460 = Int32.ofNat c) (c6 : c < 120) : FRs B i (mkw σ.1 (msv σ.1 s n) c, σ.1, σ.2.2.1, true, σ.2.2.2.2) (am_fx am_P (d + 150) 315 0 [some (.ref 64), some (.int (Int32.ofNat s)), some (.int (Int32.ofNat n)), none, none] [] (am_wI B i)) (.inl (some (.int (Int32.ofNat c)))) := by
  have hF : Fc B := h.1.1
  have hY : Yd B 94 := h.1.2.1
  have hc := hW.1.2.2.2.1
  have h8 := hc.2
  have e5 : i 94 5 = Int32.ofNat c := h.2.1.2.2.1.1.trans hcc
  obtain ⟨-, -, -, -, -, -, -, hnc, -⟩ := hW.2.2.2.2.1.1 s hs (by omega)
  have a9 := (h.2.1.2.2.2.1.2 s hs (by omega)).2.2.2.2.2.2.2.2.1
  have q2 : Int32.ofNat c < 120 := by rw [show (120 : Int32) = Int32.ofNat 120 from rfl, z_lt (by omega) (by omega)]; omega
  obtain ⟨v1, v2, v3, v4⟩ := fv_T g hW
  obtain ⟨i1, E1, f1, e67⟩ := c_mset (d := d + 146) h hW hs hn
  obtain ⟨e6, e7⟩ := e67 v4
  rw [v1] at E1
  have nm : ¬ Int32.ofNat (msv σ.1 s n) = -1 := z_nm1 (by obtain ⟨m8, -⟩ := mf_ok hW; obtain ⟨p1, p2⟩ := p2_le m8; omega)
  have h1 : CR B i1 σ := LsC_CR (s := (B, i1)) h ⟨Jy.rf, fun q k a _ _ => f1 q k (by omega) (by omega)⟩
  obtain ⟨B2, i2, E2, hC, hS, hf⟩ := c_remember (d := d + 143) h1 hW
  have hF2 : Fc B2 := hC.1.1
  have hY2 : Yd B2 94 := hC.1.2.1
  have e62 : i2 71 6 = Int32.ofNat (mc σ.1) := (hf _ _ (by omega) (by omega)).trans e6
  obtain ⟨i3, E3, hR3, f3⟩ := c_joinAll (d := d + 146) hF2 hY2 hC.2.1 hW hcc c6 v3 v2 fun k hk => (hf _ _ (by omega) (by omega)).trans (e7 k hk)
  refine FRs_pre (i' := i1) (fun q k hq => f1 q k (by omega) (by omega)) (FRs_tr hS hf (FRs_w (i' := i3) hC ?_ hR3 fun q k hq _ => f3 q k (by omega)))
  rw [bk_315_0]
  generalize msv σ.1 s n = T at *
  simp (disch := omega) only [(fun d x0 s0 B i => bk_315_43 d x0 s0 (am_wI B i)), c_shN hF hY h.2.1.2.2.2.1.1 hc hs, a9, c_ckI1 (ck_nat hnc (by omega) hn), e5, q2, E1, nm, E2, e62, E3, hF, hF2, hY, hY2, y_ckd, y_ond, y_oR, y_oV, y_oI, y_wII, y_wIR, ↓reduceIte]
end Make3
