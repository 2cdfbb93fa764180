/-! THE LAW: call after call. Made by wip/whole/math/960.py. -/
def LI (B : am_A) (i : Nat → Nat → Int32) (σ : Sg) (L : Nat) : Prop := Sim B i σ ∧ (am_K B 0 = 41 ∧ am_L B 0 = L ∧ L ≤ 3584) ∧ (am_K B 892 = 22 ∧ am_L B 892 = 1) ∧ (∀ k, k < 8 → am_J B 1 k = p120 k) ∧ Stx B i
def GL (B : am_A) (m : Nat) (x : am_X) : Prop := ∃ (B' : am_A) (i' : Nat → Nat → Int32), x = some (.inl (some (.int 1)), am_wI B' i') ∧ am_C B' ≤ am_C B + 10 * m ∧ am_S B' ≤ am_S B + 600 * m
section Law
variable {B B' : am_A} {i i' : Nat → Nat → Int32} {σ σ' : Sg} {L d j m : Nat}
theorem ite_case {c : Prop} [Decidable c] {P : am_X → Prop} {a b : am_X} (ha : c → P a) (hb : ¬ c → P b) : P (if c then a else b) := by
  by_cases h : c
  · rw [if_pos h]
    exact ha h
  · rw [if_neg h]
    exact hb h
theorem LI_kp (h : LI B i σ L) (hs : Sim B' i' σ') (hk : Kp B i B' i') : LI B' i' σ' L := by
  obtain ⟨h1, ⟨h2, h3, h4⟩, ⟨h5, h6⟩, h7, h8⟩ := h
  obtain ⟨k1, k2, k3, k4⟩ := hk
  have hN := h1.1.1.2.2.2.2
  refine ⟨hs, ⟨(k1.K (by omega)).trans h2, (k1.L (by omega)).trans h3, h4⟩, ⟨(k1.K (by omega)).trans h5, (k1.L (by omega)).trans h6⟩, fun k hk => ?_, Stx_le h8 k1 hN fun q k hq => by rw [k4 q hq]⟩
  rw [k1.2.2]
  exact h7 k hk
theorem law_lt (hL : L ≤ 3584) (hj : j ≤ 3584) : (Int32.ofNat L - 7 < Int32.ofNat j) = (L < j + 7) := by
  rw [Int32.lt_iff_toInt_lt, show (7 : Int32) = Int32.ofNat 7 from rfl, z_tsub (by omega) (by omega), Int32.toInt_ofNat_of_lt (by omega)]
  exact propext ⟨fun h => by omega, fun h => by omega⟩
theorem law_go (m : Nat) : ∀ (B : am_A) (i : Nat → Nat → Int32) (σ : Sg) (j : Nat), L < j + 7 * (m + 1) → j ≤ 3584 → LI B i σ L → GL B m (am_fx am_P (d + 200) 397 23 [some (.ref 0), some (.ref 64), some (.ref 874), some (.ref 892), some (.int (Int32.ofNat j)), none, none] [] (am_wI B i)) := by
  have stop : ∀ (m : Nat) (B : am_A) (i : Nat → Nat → Int32) (σ : Sg) (j : Nat), L < j + 7 → j ≤ 3584 → LI B i σ L → GL B m (am_fx am_P (d + 200) 397 23 [some (.ref 0), some (.ref 64), some (.ref 874), some (.ref 892), some (.int (Int32.ofNat j)), none, none] [] (am_wI B i)) := by
    intro m B i σ j hj hj2 h
    obtain ⟨h1, ⟨h2, h3, h4⟩, h5, h7, h8⟩ := h
    refine ⟨B, i, ?_, Nat.le_add_right _ _, Nat.le_add_right _ _⟩
    have e := law_lt h4 hj2
    rw [bk_397_23]
    simp (disch := omega) only [h2, h3, e, hj, Nat.reduceLeDiff, y_ckd, y_ck2d, y_ond, y_onn, y_oI, y_oIx, y_oJ, y_oV, y_oVx, y_oR, y_oRn, y_oRx, y_b0, y_b1, y_bi, y_bid, y_wIK, y_wIL, y_wII, y_wIJ, y_wIR, y_wIN, y_wIw, y_sI, ↓reduceIte, Nat.reduceEqDiff, eq_self, true_or, or_true, false_or, or_false, and_true, true_and, false_and, and_false, not_true, not_false_eq_true, tf_T, tf_F, y_up1, y_up2, y_xx, y_nx, y_sJ, y_sR, Int32.reduceLT, y_nxK, y_nxL, y_nxR, y_sJK, y_sJL, y_sJR, y_sJN, y_sRK, y_sRL, y_sRN, Nat.add_zero, z_nat, z_lit, z_lit0, z_lit1, z_in0, z_in1, z_addl0, z_lt, z_ltl, z_llt, z_inj, z_injl, z_add, z_addl, z_ladd, z_mul, z_mull, z_lmul, z_neg, z_negl, z_in, z_inl, z_ltT, z_ltF, z_eqF, z_10, z_01, z_litne, z_ne0, z_0ne, z_ne1, z_1ne, z_lt64, z_02, z_03, z_04, z_05, z_12, z_13, z_14, z_15, z_20, z_21, z_23, z_24, z_25, z_30, z_31, z_32, z_34, z_35, z_40, z_41, z_42, z_43, z_45, z_50, z_51, z_52, z_53, z_54]
  induction m with
  | zero => exact fun B i σ j hj hj2 h => stop 0 B i σ j (by omega) hj2 h
  | succ m ih =>
    intro B i σ j hj hj2 h
    by_cases g : L < j + 7
    · exact stop (m + 1) B i σ j g hj2 h
    have hI := h
    obtain ⟨h1, ⟨h2, h3, h4⟩, hO, hJ, hX⟩ := h
    have hs : Sc B i L j := ⟨h2, h3, by omega, h4⟩
    have nxt : ∀ (B' : am_A) (i' : Nat → Nat → Int32) (σ' : Sg), LI B' i' σ' L → am_C B' ≤ am_C B + 10 → am_S B' ≤ am_S B + 600 → GL B (m + 1) (am_fx am_P (d + 200) 397 3646 [some (.ref 0), some (.ref 64), some (.ref 874), some (.ref 892), some (.int (Int32.ofNat j)), none, none] [] (am_wI B' i')) := by
      intro B' i' σ' hl hc hs'
      obtain ⟨B2, i2, e2, c2, s2⟩ := ih B' i' σ' (j + 7) (by omega) (by omega) hl
      refine ⟨B2, i2, ?_, by omega, by omega⟩
      rw [bk_397_3646]
      simp (disch := omega) only [Nat.add_zero, z_nat, z_lit, z_lit0, z_lit1, z_in0, z_in1, z_addl0, z_lt, z_ltl, z_llt, z_inj, z_injl, z_add, z_addl, z_ladd, z_mul, z_mull, z_lmul, z_neg, z_negl, z_in, z_inl, z_ltT, z_ltF, z_eqF, z_10, z_01, z_litne, z_ne0, z_0ne, z_ne1, z_1ne, z_lt64, z_02, z_03, z_04, z_05, z_12, z_13, z_14, z_15, z_20, z_21, z_23, z_24, z_25, z_30, z_31, z_32, z_34, z_35, z_40, z_41, z_42, z_43, z_45, z_50, z_51, z_52, z_53, z_54]
      exact e2
    have key : ∀ pc, Stq B i d pc j → GL B (m + 1) (am_fx am_P (d + 200) 397 pc [some (.ref 0), some (.ref 64), some (.ref 874), some (.ref 892), some (.int (Int32.ofNat j)), none, none] [] (am_wI B i)) := by
      rintro pc ⟨B', i', σ', e, s, k⟩
      rw [e]
      exact nxt B' i' σ' (LI_kp hI s k) k.2.1 k.2.2.1
    have e := law_lt h4 hj2
    have jL : j < L := by omega
    have hK : 21 ≤ am_K (am_wI B i) 0 ∧ am_K (am_wI B i) 0 ≤ 29 ∨ am_K (am_wI B i) 0 = 41 := Or.inr h2
    have hl : am_L (am_wI B i) 0 = L := h3
    have g' : ¬ Int32.ofNat L - 7 < Int32.ofNat j := fun q => g (by rw [e] at q; exact q)
    have c2 : ∀ r, am_ck2 (am_wI B i) 0 21 41 r = r := fun r => if_pos (Or.inr h2)
    rw [bk_397_23, if_pos hK, hl, if_neg g', c2, z_in jL (by omega)]
    refine ite_case (fun _ => key _ (k_feed h1 hs hO)) fun _ => ?_
    refine ite_case (fun _ => key _ (k_end h1 hs hO)) fun _ => ?_
    refine ite_case (fun _ => key _ (k_road h1 hs hO)) fun _ => ?_
    refine ite_case (fun _ => key _ (k_tree h1 hs hO)) fun _ => ?_
    refine ite_case (fun _ => key _ (k_fell h1 hs hO)) fun _ => ?_
    refine ite_case (fun _ => key _ (k_buy h1 hs hO)) fun _ => ?_
    refine ite_case (fun _ => key _ (k_sheds h1 hs hO)) fun _ => ?_
    refine ite_case (fun _ => key _ (k_shed h1 hs hO)) fun _ => ?_
    refine ite_case (fun _ => key _ (k_piece h1 hs hO)) fun _ => ?_
    refine ite_case (fun _ => key _ (k_look h1 hs hO)) fun _ => ?_
    refine ite_case (fun _ => key _ (k_warrant h1 hs hO hX)) fun _ => ?_
    refine ite_case (fun _ => key _ (k_fault h1 hs hO)) fun _ => ?_
    refine ite_case (fun _ => key _ (k_may h1 hs hO)) fun _ => ?_
    refine ite_case (fun _ => key _ (k_why h1 hs hO)) fun _ => ?_
    refine ite_case (fun _ => key _ (k_ship h1 hs hO)) fun _ => ?_
    refine ite_case (fun _ => key _ (k_need h1 hs hO)) fun _ => ?_
    refine ite_case (fun _ => key _ (k_slips h1 hs hO)) fun _ => ?_
    refine ite_case (fun _ => key _ (k_lay h1 hs hO)) fun _ => ?_
    refine ite_case (fun _ => key _ (k_fit h1 hs hO)) fun _ => ?_
    refine ite_case (fun _ => key _ (k_out h1 hs hO)) fun _ => ?_
    refine ite_case (fun _ => key _ (k_waste h1 hs hO hJ)) fun _ => ?_
    refine ite_case (fun _ => key _ (k_which h1 hs hO hJ)) fun _ => ?_
    refine ite_case (fun _ => key _ (k_masts h1 hs hO)) fun _ => ?_
    refine ite_case (fun _ => key _ (k_make h1 hs hO)) fun _ => ?_
    refine ite_case (fun _ => key _ (k_launch h1 hs hO)) fun _ => ?_
    refine ite_case (fun _ => key _ (k_dock h1 hs hO)) fun _ => ?_
    refine ite_case (fun _ => key _ (k_tide h1 hs hO)) fun _ => ?_
    refine ite_case (fun _ => key _ (k_moor h1 hs hO)) fun _ => ?_
    refine ite_case (fun _ => key _ (k_sail h1 hs hO)) fun _ => ?_
    refine ite_case (fun _ => key _ (k_shut h1 hs hO)) fun _ => ?_
    refine ite_case (fun _ => key _ (k_breaks h1 hs hO)) fun _ => ?_
    refine ite_case (fun _ => key _ (k_led h1 hs hO)) fun _ => ?_
    refine ite_case (fun _ => key _ (k_lastTide h1 hs hO)) fun _ => ?_
    refine ite_case (fun _ => key _ (k_docks h1 hs hO)) fun _ => ?_
    refine ite_case (fun _ => key _ (k_gang h1 hs hO)) fun _ => ?_
    refine ite_case (fun _ => key _ (k_works h1 hs hO)) fun _ => ?_
    refine ite_case (fun _ => key _ (k_gangs h1 hs hO)) fun _ => ?_
    refine ite_case (fun _ => key _ (k_days h1 hs hO)) fun _ => ?_
    refine ite_case (fun _ => key _ (k_ofTree h1 hs hO)) fun _ => ?_
    refine ite_case (fun _ => key _ (k_fellows h1 hs hO)) fun _ => ?_
    refine ite_case (fun _ => key _ (k_war h1 hs hO)) fun _ => ?_
    refine ite_case (fun _ => key _ (k_enter h1 hs hO)) fun _ => ?_
    refine ite_case (fun _ => key _ (k_muster h1 hs hO)) fun _ => ?_
    refine ite_case (fun _ => key _ (k_wrong h1 hs hO)) fun _ => ?_
    refine ite_case (fun _ => key _ (k_hand h1 hs hO)) fun _ => ?_
    refine ite_case (fun _ => key _ (k_choice h1 hs hO)) fun _ => ?_
    refine ite_case (fun _ => key _ (k_coin h1 hs hO)) fun _ => ?_
    refine ite_case (fun _ => key _ (k_paid h1 hs hO)) fun _ => ?_
    refine ite_case (fun _ => key _ (k_best h1 hs hO)) fun _ => ?_
    refine ite_case (fun _ => key _ (k_beside h1 hs hO hX)) fun _ => ?_
    refine ite_case (fun _ => key _ (k_undo h1 hs hO)) fun _ => ?_
    refine ite_case (fun _ => key _ (k_keep h1 hs hO)) fun _ => ?_
    refine ite_case (fun _ => key _ (k_back h1 hs hO)) fun _ => ?_
    refine ite_case (fun _ => key _ (k_count h1 hs hO)) fun _ => ?_
    exact nxt B i σ hI (by omega) (by omega)
end Law
