/-! BESIDE, the class. Made by wip/whole/math/953.py. -/
/-- what beside answers -/
def bsV (w : Nat → Int32) (s : Nat) (y : Int32) : Nat := if y = 0 then bes w (fun p => whO w 12042 (fctP w p s) (w (461 + 18 * p))) (fun p => whT w p s (txi w (w 0) (cn w 3541))) (cn w 460) else bes w (fun p => whT w p s (txi w (w 0) (cn w 3541))) (fun p => whO w 12042 (fctP w p s) (w (461 + 18 * p))) (cn w 460)
section Besf
variable {B B1 : am_A} {i j : Nat → Nat → Int32} {σ : Sg} {w u : Nat → Int32} {d f s M : Nat} {x y : Int32} {r : Nat × PS}
theorem f_bes_x (h : CR B i σ) (g : ¬ (¬ x < 0 ∧ x < σ.1 2621)) (hc : isc σ.1 2621 8) : FRs B i (sgt σ σ.1 σ.2.2.2.2.2.2.2) (am_fx am_P (d + 150) 305 0 [some (.ref 64), some (.int x), some (.int y), none, none] [] (am_wI B i)) (.inr 1) := by
  have hF : Fc B := h.1.1
  have hY : Yd B 94 := h.1.2.1
  have r8 : i 94 8 = σ.1 2621 := h.2.1.2.2.2.1.1
  have e0 : ∀ A, am_fx am_P (d + 149) 352 0 [some (.int x), some (.int 0), some (.int (σ.1 2621 - 1))] [] A = some (.inl (some (.int 0)), A) := fun A => by
    rw [bk_352_0]
    by_cases g1 : x < 0
    · rw [if_pos g1, y_b0]
    · have g2 : σ.1 2621 - 1 < x := by
        rw [z_pred hc.1 (by have := hc.2; omega)]
        exact fun q => g ⟨g1, q⟩
      rw [if_neg g1, if_pos g2, y_b0]
  refine FRs_gx (B1 := B) (j := am_up2 i 65 1 0) h ?_ (Le.rf B) (fun _ _ => rfl) ⟨by omega, by omega⟩ (y_up1 rfl rfl) ((y_up2 (by omega)).trans h.2.2.2.2.2.2.2.2) (fun q k _ hq => y_up2 (by omega))
  rw [bk_305_0]
  simp (disch := omega) only [bk_199_0, r8, e0, hF, hY, y_ckd, y_ck2d, y_ond, y_onn, y_oI, y_oIx, y_oJ, y_oV, y_oVx, y_oR, y_oRn, y_oRx, y_b0, y_b1, y_bi, y_bid, y_wIK, y_wIL, y_wII, y_wIJ, y_wIR, y_wIN, y_wIw, y_sI, ↓reduceIte, Nat.reduceEqDiff, eq_self, true_or, or_true, false_or, or_false, and_true, true_and, false_and, and_false, not_true, not_false_eq_true, tf_T, tf_F, y_up1, y_up2, y_xx, y_nx, y_sJ, y_sR, Int32.reduceLT, y_nxK, y_nxL, y_nxR, y_sJK, y_sJL, y_sJR, y_sJN, y_sRK, y_sRL, y_sRN, Nat.add_zero, z_nat, z_lit, z_lit0, z_lit1, z_in0, z_in1, z_addl0, z_lt, z_ltl, z_llt, z_inj, z_injl, z_add, z_addl, z_ladd, z_mul, z_mull, z_lmul, z_neg, z_negl, z_in, z_inl, z_ltT, z_ltF, z_eqF, z_10, z_01, z_litne, z_ne0, z_0ne, z_ne1, z_1ne, z_lt64, z_02, z_03, z_04, z_05, z_12, z_13, z_14, z_15, z_20, z_21, z_23, z_24, z_25, z_30, z_31, z_32, z_34, z_35, z_40, z_41, z_42, z_43, z_45, z_50, z_51, z_52, z_53, z_54]
theorem bes_in (hc : isc w 2621 8) (hs : s < cn w 2621) {A : am_A} : am_fx am_P d 352 0 [some (.int (Int32.ofNat s)), some (.int 0), some (.int (w 2621 - 1))] [] A = some (.inl (some (.int 1)), A) :=
  c_within1 ⟨(ck_nat hc (by omega) hs).1, by rw [z_pred hc.1 (by have := hc.2; omega)]; exact fun q => q (ck_nat hc (by omega) hs).2⟩
theorem f_bes_f (h : CR B i σ) (hS : SW σ) (hX : Stx B i) (hs : s < cn σ.1 2621) (ht : txtS (nyb σ) σ.2.2.2.2.2.1 u = .inl f) : FRs B i (sgt σ σ.1 (Int32.ofNat f)) (am_fx am_P (d + 150) 305 0 [some (.ref 64), some (.int (Int32.ofNat s)), some (.int y), none, none] [] (am_wI B i)) (.inr 2) := by
  have hF : Fc B := h.1.1
  have hY : Yd B 94 := h.1.2.1
  have r8 : i 94 8 = σ.1 2621 := h.2.1.2.2.2.1.1
  have R := c_text (d := d + 119) (u := u) hF hX (CT_of h hS) h.1.2.2.2.2
  rw [ht, show d + 119 + 30 = d + 149 by omega] at R
  obtain ⟨j, E, ⟨j1, j2⟩, fj⟩ := R
  refine FRs_gx (B1 := B) (j := j) h ?_ (Le.rf B) (fun _ _ => rfl) ⟨by omega, by omega⟩ j1 j2 (fun q k _ hq => fj q k (by omega))
  rw [bk_305_0]
  simp (disch := omega) only [r8, bes_in hS.1.1.2.2.2.1 hs, E, z_39, z_390, hF, hY, y_ckd, y_ck2d, y_ond, y_onn, y_oI, y_oIx, y_oJ, y_oV, y_oVx, y_oR, y_oRn, y_oRx, y_b0, y_b1, y_bi, y_bid, y_wIK, y_wIL, y_wII, y_wIJ, y_wIR, y_wIN, y_wIw, y_sI, ↓reduceIte, Nat.reduceEqDiff, eq_self, true_or, or_true, false_or, or_false, and_true, true_and, false_and, and_false, not_true, not_false_eq_true, tf_T, tf_F, y_up1, y_up2, y_xx, y_nx, y_sJ, y_sR, Int32.reduceLT, y_nxK, y_nxL, y_nxR, y_sJK, y_sJL, y_sJR, y_sJN, y_sRK, y_sRL, y_sRN, Nat.add_zero, z_nat, z_lit, z_lit0, z_lit1, z_in0, z_in1, z_addl0, z_lt, z_ltl, z_llt, z_inj, z_injl, z_add, z_addl, z_ladd, z_mul, z_mull, z_lmul, z_neg, z_negl, z_in, z_inl, z_ltT, z_ltF, z_eqF, z_10, z_01, z_litne, z_ne0, z_0ne, z_ne1, z_1ne, z_lt64, z_02, z_03, z_04, z_05, z_12, z_13, z_14, z_15, z_20, z_21, z_23, z_24, z_25, z_30, z_31, z_32, z_34, z_35, z_40, z_41, z_42, z_43, z_45, z_50, z_51, z_52, z_53, z_54]
/-- the two lines that let -/
theorem bes_D (hY : Yd B1 94) (hR : Rep B1 j 94 w) (hW : Wd w) (hs : s < cn w 2621) (hN : 893 ≤ am_N B1) (hT : TxR B1 j M w 12042) (hX : TxW w 12042) (hl : am_L B1 (M + 4) ≤ 400) : ∀ i', FrL j i' → ∀ p, p < cn w 460 → ∃ i'', am_fx am_P (d + 3) 250 0 [some (.ref 94), some (.ref M), some (.ref (94 + 92 + p)), some (.int (Int32.ofNat s))] [] (am_wI B1 i') = some (.inl (some (.int (whO w 12042 (fctP w p s) (w (461 + 18 * p))))), am_wI B1 i'') ∧ FrL i' i'' := by
  intro i' hf p hp
  have hR' : Rep B1 i' 94 w := Rep_fr hR (Le.rf B1) rfl (fun q k _ _ a b _ _ => hf q k (by omega) (by omega)) (fun q h1 _ => funext fun k => hf q k (by omega) (by omega)) fun _ _ => rfl
  have hT' : TxR B1 i' M w (3542 + 850 * 10) := TxR_fr hT (Le.rf B1) (fun y h1 h2 => funext fun k => hf y k (by omega) (by omega)) (fun _ _ => rfl) hX.2.1.2 hl
  obtain ⟨i'', E, f⟩ := c_lineFor (B := B1) (b := 94) (i := i') (d := d) (k := 10) hY (Or.inl rfl) hR' hW hp hs hT' hX hl
  exact ⟨i'', E, fun q k a b => f q k a b⟩
theorem bes_T {k q : Nat} (hY : Yd B1 94) (hR : Rep B1 j 94 w) (hW : Wd w) (hs : s < cn w 2621) (hk : k < cn w 3541) (eq : am_R B1 (94 + 8) k = some q) : ∀ i', FrL j i' → ∀ p, p < cn w 460 → ∃ i'', am_fx am_P (d + 3) 250 0 [some (.ref 94), some (.ref q), some (.ref (94 + 92 + p)), some (.int (Int32.ofNat s))] [] (am_wI B1 i') = some (.inl (some (.int (whT w p s (some k)))), am_wI B1 i'') ∧ FrL i' i'' := by
  intro i' hf p hp
  have hx := hW.1.2.2.2.2.2.2.2.2.2.2
  have hR' : Rep B1 i' 94 w := Rep_fr hR (Le.rf B1) rfl (fun q k _ _ a b _ _ => hf q k (by omega) (by omega)) (fun q h1 _ => funext fun k => hf q k (by omega) (by omega)) fun _ _ => rfl
  obtain ⟨-, q', eq', -, hl, hT⟩ := hR'.2.2.2.2.2.2.2.2.2 k hk (by omega)
  have : q' = q := by rw [eq] at eq'; exact (Option.some.inj eq').symm
  subst this
  obtain ⟨i'', E, f⟩ := c_lineFor (B := B1) (b := 94) (i := i') (d := d) (k := k) hY (Or.inl rfl) hR' hW hp hs hT (hW.2.2.2.2.2.2.2.2.1 k hk (by omega)) hl
  exact ⟨i'', E, fun q k a b => f q k a b⟩
theorem bes_0 {X : Nat} : ∀ i', FrL j i' → ∀ p, p < X → ∃ i'', am_fx am_P (d + 1) 250 0 [some (.ref 94), some .null, some (.ref (94 + 92 + p)), some (.int (Int32.ofNat s))] [] (am_wI B1 i') = some (.inl (some (.int (whT w p s none))), am_wI B1 i'') ∧ FrL i' i'' := fun i' _ p _ => ⟨i', by rw [bk_250_0]; rfl, FrL.rf⟩
/-- both ways round -/
theorem c_besV (hY : Yd B1 94) (hR : Rep B1 j 94 w) (hW : Wd w) (hs : s < cn w 2621) (hN : 893 ≤ am_N B1) (hT : TxR B1 j M w 12042) (hX : TxW w 12042) (hl : am_L B1 (M + 4) ≤ 400) : ∃ j2, (match txi w (w 0) (cn w 3541) with
    | none => if y = 0 then am_fx am_P (d + 4) 251 0 [some (.ref 94), some (.ref M), some .null, some (.int (Int32.ofNat s)), none, none, none] [] (am_wI B1 j) else am_fx am_P (d + 4) 251 0 [some (.ref 94), some .null, some (.ref M), some (.int (Int32.ofNat s)), none, none, none] [] (am_wI B1 j)
    | some k => match am_R B1 (94 + 8) k with
      | none => none
      | some q => if y = 0 then am_fx am_P (d + 4) 251 0 [some (.ref 94), some (.ref M), some (.ref q), some (.int (Int32.ofNat s)), none, none, none] [] (am_wI B1 j) else am_fx am_P (d + 4) 251 0 [some (.ref 94), some (.ref q), some (.ref M), some (.int (Int32.ofNat s)), none, none, none] [] (am_wI B1 j)) = some (.inl (some (.int (Int32.ofNat (bsV w s y)))), am_wI B1 j2) ∧ FrL j j2 := by
  have n120 := hW.1.2.2.1.2
  have h5 : j 94 5 = Int32.ofNat (cn w 460) := hR.2.2.1.1.trans hW.1.2.2.1.1
  have h9 : ∀ p, p < cn w 460 → j (94 + 92 + p) 9 = w (461 + 18 * p + 1) := fun p hp => (hR.2.2.1.2 p hp (by omega)).2.1
  have D := bes_D (d := d) hY hR hW hs hN hT hX hl
  unfold bsV
  cases ht : txi w (w 0) (cn w 3541) with
  | none =>
    dsimp only
    by_cases g : y = 0
    · rw [if_pos g, if_pos g]
      exact c_moreA (d := d + 3) hY n120 h5 h9 D (bes_0 (d := d + 2))
    · rw [if_neg g, if_neg g]
      exact c_moreB (d := d + 3) hY n120 h5 h9 (bes_0 (d := d + 2)) D
  | some k =>
    have hk := txi_lt _ ht
    have hx := hW.1.2.2.2.2.2.2.2.2.2.2
    obtain ⟨-, q, eq, -⟩ := hR.2.2.2.2.2.2.2.2.2 k hk (by omega)
    have T := bes_T (d := d) hY hR hW hs hk eq
    dsimp only
    rw [eq]
    dsimp only
    by_cases g : y = 0
    · rw [if_pos g, if_pos g]
      exact c_moreC (d := d + 3) hY n120 h5 h9 D T
    · rw [if_neg g, if_neg g]
      exact c_moreC (d := d + 3) hY n120 h5 h9 T D
theorem f_bes (h : CR B i σ) (hS : SW σ) (hX : Stx B i) (hs : s < cn σ.1 2621) (ht : txtS (nyb σ) σ.2.2.2.2.2.1 u = .inr r) : FRs B i (sgt σ σ.1 (-1)) (am_fx am_P (d + 150) 305 0 [some (.ref 64), some (.int (Int32.ofNat s)), some (.int y), none, none] [] (am_wI B i)) (.inl (some (.int (Int32.ofNat (bsV (wpl σ.1 (wu r.2.2.2 12043 (Int32.ofNat r.1))) s y))))) := by
  have hF : Fc B := h.1.1
  have hY : Yd B 94 := h.1.2.1
  have hN := h.1.2.2.2.2
  have r8 : i 94 8 = σ.1 2621 := h.2.1.2.2.2.1.1
  have r12 := txt_12 ht
  have R := c_text (d := d + 119) (u := u) hF hX (CT_of h hS) hN
  rw [ht, show d + 119 + 30 = d + 149 by omega] at R
  obtain ⟨B1, j, E, ⟨j1, j2⟩, fj, ⟨n1, n2, n3, n4⟩, T, l4⟩ := R
  have hL := Le_5 n1 hN n4
  have hF1 : Fc B1 := Fc_le hL hN hF
  have hY1 : Yd B1 94 := Yd_le hL hN (by omega) hY
  generalize eM : am_N B = M at hN fj n1 n4 T l4 E
  generalize ev : wu r.2.2.2 12043 (Int32.ofNat r.1) = v at T
  have w1 : ∀ z, z < 12042 → wpl σ.1 v z = σ.1 z := fun z hz => wpl_lo hz
  have hW : Wd (wpl σ.1 v) := Wd_pl hS.1
  have hR1 : Rep B1 j 94 (wpl σ.1 v) := Rep_fr h.2.1 hL (n4 102 (by omega)).2.2.2 (fun q k _ _ _ _ _ _ => fj q k (by omega) (by omega)) (fun q _ h2 => funext fun k => fj q k (by omega) (by omega)) w1
  have vn : v 12043 = Int32.ofNat r.1 := by rw [← ev]; exact wu_at rfl
  have cT : cn v (12042 + 1) ≤ 12 := by
    unfold cn
    rw [vn, z_nat (by omega)]
    exact r12
  have T1 : TxR B1 j M (wpl σ.1 v) 12042 := TxR_mv T (Nat.le_refl _) (fun _ _ _ => ⟨rfl, rfl, rfl⟩) (fun _ _ _ _ => rfl) cT l4 fun z h1 h2 => wpl_hi (by omega)
  have X1 : TxW (wpl σ.1 v) 12042 := TxW_new (day := 0) ⟨by decide, by decide⟩ ht hS.2.2.2.1 wpl_0 fun z h1 h2 => by rw [ev]; exact wpl_hi (by omega)
  have hs1 : s < cn (wpl σ.1 v) 2621 := by
    unfold cn
    rw [w1 _ (by omega)]
    exact hs
  have F1 := c_inForce (d := d + 149) (x := wpl σ.1 v 0) hY1 hR1.2.2.2.2.2.2.2.2 hW.1.2.2.2.2.2.2.2.2.2 hW.2.2.2.2.2.2.2.2.1
  obtain ⟨j3, E3, f3⟩ := c_besV (d := d + 145) (y := y) hY1 hR1 hW hs1 (by omega) T1 X1 l4
  have k0 : j 94 0 = wpl σ.1 v 0 := hR1.1.1
  have fi : ∀ q k, q < M → (q < 65 ∨ 71 ≤ q) → (q = 101 → k ≠ 3) → q ≠ 104 → j3 q k = i q k := fun q k h1 h2 h3 h4 => (f3 q k h3 h4).trans (fj q k h1 (by omega))
  refine FRs_g (B1 := B1) (i1 := j3) h ?_ hL ⟨(n4 362 (by omega)).2.2.2, (n4 622 (by omega)).2.2.2⟩ ⟨by omega, by omega⟩ (Rep_fr h.2.1 hL (n4 102 (by omega)).2.2.2 (fun q k _ _ a b _ _ => fi q k (by omega) (by omega) (by omega) (by omega)) (fun q h1 h2 => funext fun k => fi q k (by omega) (by omega) (by omega) (by omega)) fun _ _ => rfl) (TpC_0 ((f3 _ _ (by omega) (by omega)).trans j1) ((f3 _ _ (by omega) (by omega)).trans j2)) (fun q k hq h2 => fi q k (by omega) (by omega) (by omega) (by omega))
  rw [bk_305_0]
  simp (disch := omega) only [r8, bes_in hS.1.1.2.2.2.1 hs, E, z_39, z_390, hF, hY, y_ckd, y_ck2d, y_ond, y_onn, y_oI, y_oIx, y_oJ, y_oV, y_oVx, y_oR, y_oRn, y_oRx, y_b0, y_b1, y_bi, y_bid, y_wIK, y_wIL, y_wII, y_wIJ, y_wIR, y_wIN, y_wIw, y_sI, ↓reduceIte, Nat.reduceEqDiff, eq_self, true_or, or_true, false_or, or_false, and_true, true_and, false_and, and_false, not_true, not_false_eq_true, tf_T, tf_F, y_up1, y_up2, y_xx, y_nx, y_sJ, y_sR, Int32.reduceLT, y_nxK, y_nxL, y_nxR, y_sJK, y_sJL, y_sJR, y_sJN, y_sRK, y_sRL, y_sRN, Nat.add_zero, z_nat, z_lit, z_lit0, z_lit1, z_in0, z_in1, z_addl0, z_lt, z_ltl, z_llt, z_inj, z_injl, z_add, z_addl, z_ladd, z_mul, z_mull, z_lmul, z_neg, z_negl, z_in, z_inl, z_ltT, z_ltF, z_eqF, z_10, z_01, z_litne, z_ne0, z_0ne, z_ne1, z_1ne, z_lt64, z_02, z_03, z_04, z_05, z_12, z_13, z_14, z_15, z_20, z_21, z_23, z_24, z_25, z_30, z_31, z_32, z_34, z_35, z_40, z_41, z_42, z_43, z_45, z_50, z_51, z_52, z_53, z_54]
  simp (disch := omega) only [k0, F1, hF1, hY1, y_ckd, y_ck2d, y_ond, y_onn, y_oI, y_oIx, y_oJ, y_oV, y_oVx, y_oR, y_oRn, y_oRx, y_b0, y_b1, y_bi, y_bid, y_wIK, y_wIL, y_wII, y_wIJ, y_wIR, y_wIN, y_wIw, y_sI, ↓reduceIte, Nat.reduceEqDiff, eq_self, true_or, or_true, false_or, or_false, and_true, true_and, false_and, and_false, not_true, not_false_eq_true, tf_T, tf_F, y_up1, y_up2, y_xx, y_nx, y_sJ, y_sR, Int32.reduceLT, y_nxK, y_nxL, y_nxR, y_sJK, y_sJL, y_sJR, y_sJN, y_sRK, y_sRL, y_sRN, Nat.add_zero, z_nat, z_lit, z_lit0, z_lit1, z_in0, z_in1, z_addl0, z_lt, z_ltl, z_llt, z_inj, z_injl, z_add, z_addl, z_ladd, z_mul, z_mull, z_lmul, z_neg, z_negl, z_in, z_inl, z_ltT, z_ltF, z_eqF, z_10, z_01, z_litne, z_ne0, z_0ne, z_ne1, z_1ne, z_lt64, z_02, z_03, z_04, z_05, z_12, z_13, z_14, z_15, z_20, z_21, z_23, z_24, z_25, z_30, z_31, z_32, z_34, z_35, z_40, z_41, z_42, z_43, z_45, z_50, z_51, z_52, z_53, z_54]
  rw [show d + 145 + 4 = d + 149 by omega] at E3
  cases ht1 : txi (wpl σ.1 v) (wpl σ.1 v 0) (cn (wpl σ.1 v) 3541) with
  | none =>
    rw [ht1] at E3
    dsimp only at E3
    by_cases g : y = 0
    · rw [if_pos g] at E3
      simp (disch := omega) only [txq, g, E3, hF1, hY1, y_ckd, y_ck2d, y_ond, y_onn, y_oI, y_oIx, y_oJ, y_oV, y_oVx, y_oR, y_oRn, y_oRx, y_b0, y_b1, y_bi, y_bid, y_wIK, y_wIL, y_wII, y_wIJ, y_wIR, y_wIN, y_wIw, y_sI, ↓reduceIte, Nat.reduceEqDiff, eq_self, true_or, or_true, false_or, or_false, and_true, true_and, false_and, and_false, not_true, not_false_eq_true, tf_T, tf_F, y_up1, y_up2, y_xx, y_nx, y_sJ, y_sR, Int32.reduceLT, y_nxK, y_nxL, y_nxR, y_sJK, y_sJL, y_sJR, y_sJN, y_sRK, y_sRL, y_sRN, Nat.add_zero, z_nat, z_lit, z_lit0, z_lit1, z_in0, z_in1, z_addl0, z_lt, z_ltl, z_llt, z_inj, z_injl, z_add, z_addl, z_ladd, z_mul, z_mull, z_lmul, z_neg, z_negl, z_in, z_inl, z_ltT, z_ltF, z_eqF, z_10, z_01, z_litne, z_ne0, z_0ne, z_ne1, z_1ne, z_lt64, z_02, z_03, z_04, z_05, z_12, z_13, z_14, z_15, z_20, z_21, z_23, z_24, z_25, z_30, z_31, z_32, z_34, z_35, z_40, z_41, z_42, z_43, z_45, z_50, z_51, z_52, z_53, z_54]
    · rw [if_neg g] at E3
      simp (disch := omega) only [txq, g, E3, hF1, hY1, y_ckd, y_ck2d, y_ond, y_onn, y_oI, y_oIx, y_oJ, y_oV, y_oVx, y_oR, y_oRn, y_oRx, y_b0, y_b1, y_bi, y_bid, y_wIK, y_wIL, y_wII, y_wIJ, y_wIR, y_wIN, y_wIw, y_sI, ↓reduceIte, Nat.reduceEqDiff, eq_self, true_or, or_true, false_or, or_false, and_true, true_and, false_and, and_false, not_true, not_false_eq_true, tf_T, tf_F, y_up1, y_up2, y_xx, y_nx, y_sJ, y_sR, Int32.reduceLT, y_nxK, y_nxL, y_nxR, y_sJK, y_sJL, y_sJR, y_sJN, y_sRK, y_sRL, y_sRN, Nat.add_zero, z_nat, z_lit, z_lit0, z_lit1, z_in0, z_in1, z_addl0, z_lt, z_ltl, z_llt, z_inj, z_injl, z_add, z_addl, z_ladd, z_mul, z_mull, z_lmul, z_neg, z_negl, z_in, z_inl, z_ltT, z_ltF, z_eqF, z_10, z_01, z_litne, z_ne0, z_0ne, z_ne1, z_1ne, z_lt64, z_02, z_03, z_04, z_05, z_12, z_13, z_14, z_15, z_20, z_21, z_23, z_24, z_25, z_30, z_31, z_32, z_34, z_35, z_40, z_41, z_42, z_43, z_45, z_50, z_51, z_52, z_53, z_54]
  | some k =>
    rw [ht1] at E3
    dsimp only at E3
    have hk := txi_lt _ ht1
    have hx := hW.1.2.2.2.2.2.2.2.2.2.2
    obtain ⟨-, q, eq, -⟩ := hR1.2.2.2.2.2.2.2.2.2 k hk (by omega)
    rw [eq] at E3
    dsimp only at E3
    by_cases g : y = 0
    · rw [if_pos g] at E3
      simp (disch := omega) only [txq, eq, g, E3, hF1, hY1, y_ckd, y_ck2d, y_ond, y_onn, y_oI, y_oIx, y_oJ, y_oV, y_oVx, y_oR, y_oRn, y_oRx, y_b0, y_b1, y_bi, y_bid, y_wIK, y_wIL, y_wII, y_wIJ, y_wIR, y_wIN, y_wIw, y_sI, ↓reduceIte, Nat.reduceEqDiff, eq_self, true_or, or_true, false_or, or_false, and_true, true_and, false_and, and_false, not_true, not_false_eq_true, tf_T, tf_F, y_up1, y_up2, y_xx, y_nx, y_sJ, y_sR, Int32.reduceLT, y_nxK, y_nxL, y_nxR, y_sJK, y_sJL, y_sJR, y_sJN, y_sRK, y_sRL, y_sRN, Nat.add_zero, z_nat, z_lit, z_lit0, z_lit1, z_in0, z_in1, z_addl0, z_lt, z_ltl, z_llt, z_inj, z_injl, z_add, z_addl, z_ladd, z_mul, z_mull, z_lmul, z_neg, z_negl, z_in, z_inl, z_ltT, z_ltF, z_eqF, z_10, z_01, z_litne, z_ne0, z_0ne, z_ne1, z_1ne, z_lt64, z_02, z_03, z_04, z_05, z_12, z_13, z_14, z_15, z_20, z_21, z_23, z_24, z_25, z_30, z_31, z_32, z_34, z_35, z_40, z_41, z_42, z_43, z_45, z_50, z_51, z_52, z_53, z_54]
    · rw [if_neg g] at E3
      simp (disch := omega) only [txq, eq, g, E3, hF1, hY1, y_ckd, y_ck2d, y_ond, y_onn, y_oI, y_oIx, y_oJ, y_oV, y_oVx, y_oR, y_oRn, y_oRx, y_b0, y_b1, y_bi, y_bid, y_wIK, y_wIL, y_wII, y_wIJ, y_wIR, y_wIN, y_wIw, y_sI, ↓reduceIte, Nat.reduceEqDiff, eq_self, true_or, or_true, false_or, or_false, and_true, true_and, false_and, and_false, not_true, not_false_eq_true, tf_T, tf_F, y_up1, y_up2, y_xx, y_nx, y_sJ, y_sR, Int32.reduceLT, y_nxK, y_nxL, y_nxR, y_sJK, y_sJL, y_sJR, y_sJN, y_sRK, y_sRL, y_sRN, Nat.add_zero, z_nat, z_lit, z_lit0, z_lit1, z_in0, z_in1, z_addl0, z_lt, z_ltl, z_llt, z_inj, z_injl, z_add, z_addl, z_ladd, z_mul, z_mull, z_lmul, z_neg, z_negl, z_in, z_inl, z_ltT, z_ltF, z_eqF, z_10, z_01, z_litne, z_ne0, z_0ne, z_ne1, z_1ne, z_lt64, z_02, z_03, z_04, z_05, z_12, z_13, z_14, z_15, z_20, z_21, z_23, z_24, z_25, z_30, z_31, z_32, z_34, z_35, z_40, z_41, z_42, z_43, z_45, z_50, z_51, z_52, z_53, z_54]
end Besf
