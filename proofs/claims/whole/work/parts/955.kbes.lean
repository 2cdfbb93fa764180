/-! BESIDE. Made by wip/whole/math/955.py. -/
section Besk
variable {B : am_A} {i j : Nat → Nat → Int32} {σ : Sg} {w u : Nat → Int32} {d f s p o n L : Nat} {x y : Int32} {r : Nat × PS} {fc : Fct}
def bsN (w : Nat → Int32) (s : Nat) (y : Int32) (n : Nat) : Nat := if y = 0 then bes w (fun p => whO w 12042 (fctP w p s) (w (461 + 18 * p))) (fun p => whT w p s (txi w (w 0) (cn w 3541))) n else bes w (fun p => whT w p s (txi w (w 0) (cn w 3541))) (fun p => whO w 12042 (fctP w p s) (w (461 + 18 * p))) n
theorem bsN_s (hy : y = 0 ∨ y = 1) : bsN w s y (n + 1) = if w (461 + 18 * n + 1) = 2 then (if (y = 0 ∧ ¬ whO w 12042 (fctP w n s) (w (461 + 18 * n)) = -1 ∧ whT w n s (txi w (w 0) (cn w 3541)) = -1) ∨ (y = 1 ∧ ¬ whT w n s (txi w (w 0) (cn w 3541)) = -1 ∧ whO w 12042 (fctP w n s) (w (461 + 18 * n)) = -1) then bsN w s y n + 1 else bsN w s y n) else bsN w s y n := by
  have m1 : ¬ (1 : Int32) = 0 := by decide
  have m0 : ¬ (0 : Int32) = 1 := by decide
  unfold bsN
  by_cases g : w (461 + 18 * n + 1) = 2
  · rw [if_pos g]
    rcases hy with rfl | rfl
    · rw [if_pos rfl, if_pos rfl, bes_s]
      by_cases h : ¬ whO w 12042 (fctP w n s) (w (461 + 18 * n)) = -1 ∧ whT w n s (txi w (w 0) (cn w 3541)) = -1
      · rw [if_pos ⟨g, h.1, h.2⟩, if_pos (Or.inl ⟨rfl, h⟩)]
      · rw [if_neg fun q => h q.2, if_neg fun q => q.elim (fun q => h q.2) fun q => m0 q.1]
    · rw [if_neg m1, if_neg m1, bes_s]
      by_cases h : ¬ whT w n s (txi w (w 0) (cn w 3541)) = -1 ∧ whO w 12042 (fctP w n s) (w (461 + 18 * n)) = -1
      · rw [if_pos ⟨g, h.1, h.2⟩, if_pos (Or.inr ⟨rfl, h⟩)]
      · rw [if_neg fun q => h q.2, if_neg fun q => q.elim (fun q => m1 q.1) fun q => h q.2]
  · rw [if_neg g]
    by_cases h : y = 0
    · rw [if_pos h, if_pos h, bes_s, if_neg fun q => g q.1]
    · rw [if_neg h, if_neg h, bes_s, if_neg fun q => g q.1]
theorem m_bes (h : MR B i σ) (hS : SW σ) (hX : Stx B i) (hu : ∀ z, i 875 z = u z) (hs : s < cn σ.1 2621) (ht : txtS (nyb σ) σ.2.2.2.2.2.1 u = .inr r) (hy : y = 0 ∨ y = 1) : MRs B i (sgt σ σ.1 (-1)) (am_fx am_P (d + 150) 65 0 [some (.ref 874), some (.int (Int32.ofNat s)), some (.int y), none, none, none, none] [] (am_wI B i)) (some (.int (Int32.ofNat (bsV (wpl σ.1 (wu r.2.2.2 12043 (Int32.ofNat r.1))) s y)))) 0 := by
  have hM : Md B := h.1.1
  have e0 := m_uses (d := d + 149) (i := i) hM
  have k0 : tkup i 875 2621 = σ.1 2621 := (tku_o (by omega)).trans (h.2.1 2621 (by omega))
  have R := m_reads (d := d + 122) (u := u) hM (Stx_tku hX) (MT_of h hS) tku_8 (fun z => (tku_o (by omega)).trans (hu z))
  rw [ht, show d + 122 + 26 + 1 = d + 149 by omega] at R
  obtain ⟨j0, E, ⟨j12, ju⟩, fj, zj⟩ := R
  have r12 := txt_12 ht
  have nr : ¬ Int32.ofNat r.1 < 0 := by rw [z_neg (by omega)]; exact id
  generalize ev : wu r.2.2.2 12043 (Int32.ofNat r.1) = v at ju
  have w1 : ∀ z, z < 12042 → wpl σ.1 v z = σ.1 z := fun z hz => wpl_lo hz
  have hW : Wd (wpl σ.1 v) := Wd_pl hS.1
  have hw0 : ∀ z, z < 12042 → j0 875 z = wpl σ.1 v z := fun z hz => by rw [w1 z hz, zj z hz, tku_o (by omega)]; exact h.2.1 z hz
  have hwt0 : ∀ z, 3542 + 850 * 10 < z → z < 3542 + 850 * 10 + 850 → j0 875 z = wpl σ.1 v z := fun z h1 h2 => by rw [wpl_hi (by omega)]; exact ju z
  have X1 : TxW (wpl σ.1 v) 12042 := TxW_new (day := 0) ⟨by decide, by decide⟩ ht hS.2.2.2.1 wpl_0 fun z h1 h2 => by rw [ev]; exact wpl_hi (by omega)
  have hs1 : s < cn (wpl σ.1 v) 2621 := by
    unfold cn
    rw [w1 _ (by omega)]
    exact hs
  generalize hWW : wpl σ.1 v = W at hW hw0 hwt0 X1 hs1
  have n120 := hW.1.2.2.1.2
  have n8 := hW.1.2.2.2.1.2
  have nx := hW.1.2.2.2.2.2.2.2.2.2
  have htt : ∀ k, txi W (W 0) (cn W 3541) = some k → k < cn W 3541 ∧ k < 10 := fun k hk => by
    have := txi_lt _ hk
    have := nx.2
    exact ⟨by omega, by omega⟩
  obtain ⟨⟨a, j⟩, E2, ea, f2⟩ := lp_inv (fun k (t : Nat × (Nat → Nat → Int32)) => am_fx am_P (d + 150) 65 46 [some (.ref 874), some (.int (Int32.ofNat s)), some (.int y), some (.int (Int32.ofNat (t.1))), some (.int (Int32.ofNat (k))), none, none] [] (am_wI B t.2)) (fun k t => t.1 = bsN W s y k ∧ ∀ q l, q ≠ 880 → q ≠ 881 → q ≠ 882 → t.2 q l = j0 q l) (cn W 460) (fun k t hk hI => by
    obtain ⟨a, j⟩ := t
    obtain ⟨ea, fj⟩ := hI
    dsimp only at ea fj
    have hw : ∀ z, z < 12042 → j 875 z = W z := fun z hz => (fj _ _ (by omega) (by omega) (by omega)).trans (hw0 z hz)
    have e460 : j 875 460 = Int32.ofNat (cn W 460) := (hw 460 (by omega)).trans hW.1.2.2.1.1
    have T := m_textOf (B := B) (i := j) (w := W) (x := j 875 0) (d := d + 147) hM hw nx
    rw [show txi W (j 875 0) (cn W 3541) = txi W (W 0) (cn W 3541) by rw [hw 0 (by omega)]] at T
    obtain ⟨j1, E1, f1⟩ := m_why (B := B) (i := j) (w := W) (d := d + 145) (p := k) (s := s) (t := txi W (W 0) (cn W 3541)) hM hw hW.2.2.2.2.2.2.2.2.1 htt (by omega) (by omega) hW.1.2.2.2.2.2.1
    have hw2 : ∀ z, z < 12042 → j1 875 z = W z := fun z hz => (f1 _ _ (by omega) (by omega) (by omega)).trans (hw z hz)
    obtain ⟨j2, E2', f2⟩ := m_whyN (B := B) (i := j1) (w := W) (wt := W) (d := d + 145) (p := k) (s := s) (tt := 10) hM (by omega) hw2 (fun z h1 h2 => (f1 _ _ (by omega) (by omega) (by omega)).trans ((fj _ _ (by omega) (by omega) (by omega)).trans (hwt0 z h1 h2))) X1 (by omega) (by omega) hW.1.2.2.2.2.2.1
    have E2 : am_fx am_P (d + 149) 62 0 [some (.ref 874), some (.int (Int32.ofNat k)), some (.int (Int32.ofNat s)), some (.int 10), none] [] (am_wI B j1) = some (.inl (some (.int (whO W 12042 (fctP W k s) (W (461 + 18 * k))))), am_wI B j2) := E2'
    have F := m_bes1 (B := B) (d := d) (i := j) (a := a) (s := s) (w := W) (y := y) hM e460 hk n120 (hw _ (by omega)) T E1 E2 (whT_v hW.2.2.2.2.2.2.2.2.1 htt) (whO_v X1) hy
    have fa : ∀ q l, q ≠ 880 → q ≠ 881 → q ≠ 882 → j2 q l = j0 q l := fun q l a1 a2 a3 => (f2 q l a1 a2 a3).trans ((f1 q l a1 a2 a3).trans (fj q l a1 a2 a3))
    by_cases g : W (461 + 18 * k + 1) = 2
    · rw [if_pos g] at F
      by_cases g2 : (y = 0 ∧ ¬ whO W 12042 (fctP W k s) (W (461 + 18 * k)) = -1 ∧ whT W k s (txi W (W 0) (cn W 3541)) = -1) ∨ (y = 1 ∧ ¬ whT W k s (txi W (W 0) (cn W 3541)) = -1 ∧ whO W 12042 (fctP W k s) (W (461 + 18 * k)) = -1)
      · rw [if_pos g2] at F
        exact ⟨(a + 1, j2), F, by rw [bsN_s hy, if_pos g, if_pos g2, ← ea], fa⟩
      · rw [if_neg g2] at F
        exact ⟨(a, j2), F, by rw [bsN_s hy, if_pos g, if_neg g2]; exact ea, fa⟩
    · rw [if_neg g] at F
      exact ⟨(a, j), F, by rw [bsN_s hy, if_neg g]; exact ea, fj⟩) (0, j0) ⟨by
    unfold bsN
    split <;> rfl, fun _ _ _ _ _ => rfl⟩
  dsimp only at E2 ea f2
  have e460 : j 875 460 = Int32.ofNat (cn W 460) := (f2 _ _ (by omega) (by omega) (by omega)).trans ((hw0 460 (by omega)).trans hW.1.2.2.1.1)
  refine MRs_g (i1 := j) h ?_ ((f2 _ _ (by omega) (by omega) (by omega)).trans ((fj _ _ (by omega) (by omega)).trans tku_0)) (fun z hz => ?_) (TpM_0 ((f2 _ _ (by omega) (by omega) (by omega)).trans ((fj _ _ (by omega) (by omega)).trans tku_7)) ((f2 _ _ (by omega) (by omega) (by omega)).trans j12)) (fun q l hq => (f2 q l (by omega) (by omega) (by omega)).trans ((fj q l (by omega) (by omega)).trans (tku_o (by omega))))
  · rw [bk_65_0]
    simp (disch := omega) only [e0, bk_69_0, k0, m_bes11 hS.1.1.2.2.2.1 hs, bk_10_0, E, nr, bk_65_32, z_39, z_390, hM, y_ckd, y_ck2d, y_ond, y_onn, y_oI, y_oIx, y_oJ, y_oV, y_oVx, y_oR, y_oRn, y_oRx, y_b0, y_b1, y_bi, y_bid, y_wIK, y_wIL, y_wII, y_wIJ, y_wIR, y_wIN, y_wIw, y_sI, ↓reduceIte, Nat.reduceEqDiff, eq_self, true_or, or_true, false_or, or_false, and_true, true_and, false_and, and_false, not_true, not_false_eq_true, tf_T, tf_F, y_up1, y_up2, y_xx, y_nx, y_sJ, y_sR, Int32.reduceLT, y_nxK, y_nxL, y_nxR, y_sJK, y_sJL, y_sJR, y_sJN, y_sRK, y_sRL, y_sRN, Nat.add_zero, z_nat, z_lit, z_lit0, z_lit1, z_in0, z_in1, z_addl0, z_lt, z_ltl, z_llt, z_inj, z_injl, z_add, z_addl, z_ladd, z_mul, z_mull, z_lmul, z_neg, z_negl, z_in, z_inl, z_ltT, z_ltF, z_eqF, z_10, z_01, z_litne, z_ne0, z_0ne, z_ne1, z_1ne, z_lt64, z_02, z_03, z_04, z_05, z_12, z_13, z_14, z_15, z_20, z_21, z_23, z_24, z_25, z_30, z_31, z_32, z_34, z_35, z_40, z_41, z_42, z_43, z_45, z_50, z_51, z_52, z_53, z_54]
    refine E2.trans ?_
    rw [bk_65_46]
    simp (disch := omega) only [e460, Nat.lt_irrefl, hM, y_ckd, y_ck2d, y_ond, y_onn, y_oI, y_oIx, y_oJ, y_oV, y_oVx, y_oR, y_oRn, y_oRx, y_b0, y_b1, y_bi, y_bid, y_wIK, y_wIL, y_wII, y_wIJ, y_wIR, y_wIN, y_wIw, y_sI, ↓reduceIte, Nat.reduceEqDiff, eq_self, true_or, or_true, false_or, or_false, and_true, true_and, false_and, and_false, not_true, not_false_eq_true, tf_T, tf_F, y_up1, y_up2, y_xx, y_nx, y_sJ, y_sR, Int32.reduceLT, y_nxK, y_nxL, y_nxR, y_sJK, y_sJL, y_sJR, y_sJN, y_sRK, y_sRL, y_sRN, Nat.add_zero, z_nat, z_lit, z_lit0, z_lit1, z_in0, z_in1, z_addl0, z_lt, z_ltl, z_llt, z_inj, z_injl, z_add, z_addl, z_ladd, z_mul, z_mull, z_lmul, z_neg, z_negl, z_in, z_inl, z_ltT, z_ltF, z_eqF, z_10, z_01, z_litne, z_ne0, z_0ne, z_ne1, z_1ne, z_lt64, z_02, z_03, z_04, z_05, z_12, z_13, z_14, z_15, z_20, z_21, z_23, z_24, z_25, z_30, z_31, z_32, z_34, z_35, z_40, z_41, z_42, z_43, z_45, z_50, z_51, z_52, z_53, z_54]
    rw [ea]
    rfl
  · rw [f2 _ _ (by omega) (by omega) (by omega), hw0 z hz, ← hWW]
    exact w1 z hz
theorem k_beside (h : Sim B i σ) (hs : Sc B i L n) (hO : am_K B 892 = 22 ∧ am_L B 892 = 1) (hX : Stx B i) : Stq B i d 3500 n := by
  have hS := h.2.2
  have hc := hS.1.1.2.2.2.1
  by_cases g : ¬ i 0 (n + 1) < 0 ∧ i 0 (n + 1) < σ.1 2621
  rotate_left
  · exact zkx_49_1 h hs hO hX (SW_sgt hS hS.1) (f_bes_x (d := d + 48) h.1 g hc) fun B0 i0 h0 _ _ => m_bes_x (d := d + 49) h0 g hc
  obtain ⟨s, e, hs'⟩ := nat_ck hc (by omega) g
  cases ht : txtS (nyb σ) σ.2.2.2.2.2.1 (fun z => i 875 z) with
  | inl f => exact zkx_49_2 h hs hO hX (SW_sgt hS hS.1) (by rw [e]; exact f_bes_f (d := d + 48) h.1 hS hX hs' ht) fun B0 i0 h0 hu hX0 => by rw [e]; exact m_bes_f (d := d + 49) h0 hS hX0 hu hs' ht
  | inr r =>
    have hb : bt (i 0 (n + 2)) = 0 ∨ bt (i 0 (n + 2)) = 1 := by
      unfold bt
      split
      · exact Or.inl rfl
      · exact Or.inr rfl
    exact zkk_49 h hs hO hX (SW_sgt hS hS.1) (by rw [e]; exact f_bes (d := d + 48) h.1 hS hX hs' ht) fun B0 i0 h0 hu hX0 => by rw [e]; exact m_bes (d := d + 49) h0 hS hX0 hu hs' ht hb
end Besk
