/-! WAR: the pieces that can be used, the class. Made by wip/whole/math/915.py. -/
def fpl (w : Nat → Int32) (p : Nat) (s : Nat × (Nat → Nat)) : Nat × (Nat → Nat) := if pld w p then (s.1 + 1, fun l => if l = s.1 then p else s.2 l) else s
/-- the pieces that can be used, in their order -/
def pls (w : Nat → Int32) : Nat × (Nat → Nat) := itr (fpl w) (cn w 460) (0, fun _ => 0)
abbrev eP (w : Nat → Int32) (u k : Nat) : Prop := eno w (u / 8) (u % 8) ((pls w).2 k)
section Pool
variable {B : am_A} {i j : Nat → Nat → Int32} {w : Nat → Int32} {d b n N p k l u x m X a : Nat} {S : Nat → Prop}
theorem fpl_ok : ∀ n, (itr (fpl w) n (0, fun _ => 0)).1 ≤ n ∧ (∀ k, k < (itr (fpl w) n (0, fun _ => 0)).1 → pld w ((itr (fpl w) n (0, fun _ => 0)).2 k) ∧ (itr (fpl w) n (0, fun _ => 0)).2 k < n) ∧ (∀ k l, k < l → l < (itr (fpl w) n (0, fun _ => 0)).1 → (itr (fpl w) n (0, fun _ => 0)).2 k < (itr (fpl w) n (0, fun _ => 0)).2 l) ∧ ∀ p, p < n → pld w p → ∃ k, k < (itr (fpl w) n (0, fun _ => 0)).1 ∧ (itr (fpl w) n (0, fun _ => 0)).2 k = p := by
  intro n
  refine itr_inv (P := fun n (s : Nat × (Nat → Nat)) => s.1 ≤ n ∧ (∀ k, k < s.1 → pld w (s.2 k) ∧ s.2 k < n) ∧ (∀ k l, k < l → l < s.1 → s.2 k < s.2 l) ∧ ∀ p, p < n → pld w p → ∃ k, k < s.1 ∧ s.2 k = p) ⟨Nat.le_refl _, fun k q => absurd q (Nat.not_lt_zero k), fun k l _ q => absurd q (Nat.not_lt_zero l), fun p q => absurd q (Nat.not_lt_zero p)⟩ fun m _ s hs => ?_
  obtain ⟨h1, h2, h3, h4⟩ := hs
  unfold fpl
  by_cases g : pld w m
  · rw [if_pos g]
    refine ⟨by dsimp only; omega, fun k hk => ?_, fun k l hk hl => ?_, fun p hp gp => ?_⟩
    · dsimp only at hk ⊢
      by_cases e : k = s.1
      · rw [if_pos e]
        exact ⟨g, by omega⟩
      · rw [if_neg e]
        have := h2 k (by omega)
        exact ⟨this.1, by omega⟩
    · dsimp only at hl ⊢
      have ek : ¬ k = s.1 := by omega
      rw [if_neg ek]
      by_cases e : l = s.1
      · rw [if_pos e]
        exact (h2 k (by omega)).2
      · rw [if_neg e]
        exact h3 k l hk (by omega)
    · dsimp only
      by_cases e : p = m
      · exact ⟨s.1, by omega, by rw [if_pos rfl, e]⟩
      · obtain ⟨k, hk, ek⟩ := h4 p (by omega) gp
        exact ⟨k, by omega, by rw [if_neg (by omega)]; exact ek⟩
  · rw [if_neg g]
    refine ⟨by omega, fun k hk => ⟨(h2 k hk).1, by have := (h2 k hk).2; omega⟩, h3, fun p hp gp => ?_⟩
    by_cases e : p = m
    · exact absurd (e ▸ gp) g
    · exact h4 p (by omega) gp
theorem pls_n : (pls w).1 ≤ cn w 460 := (fpl_ok _).1
theorem pls_in {k : Nat} (hk : k < (pls w).1) : pld w ((pls w).2 k) ∧ (pls w).2 k < cn w 460 := (fpl_ok _).2.1 k hk
theorem pls_inj {k l : Nat} (hk : k < (pls w).1) (hl : l < (pls w).1) (e : (pls w).2 k = (pls w).2 l) : k = l := by
  have h := (fpl_ok (w := w) (cn w 460)).2.2.1
  rcases Nat.lt_trichotomy k l with q | q | q
  · have := h k l q hl
    unfold pls at e
    omega
  · exact q
  · have := h l k q hk
    unfold pls at e
    omega
theorem pls_all {p : Nat} (hp : p < cn w 460) (g : pld w p) : ∃ k, k < (pls w).1 ∧ (pls w).2 k = p := (fpl_ok _).2.2.2 p hp g
/-- by slots or by pieces -/
theorem ok_eP : okS (eP w) (pls w).1 S ↔ okS (edW w) (cn w 460) S := by
  constructor
  · rintro ⟨f, f1, f2⟩
    refine ⟨fun u => (pls w).2 (f u), fun u hu => ?_, fun u v hu hv e => f2 u v hu hv (pls_inj (f1 u hu).1 (f1 v hv).1 e)⟩
    obtain ⟨a, b⟩ := f1 u hu
    obtain ⟨c, d⟩ := pls_in a
    exact ⟨d, c, b⟩
  · rintro ⟨f, f1, f2⟩
    have hx : ∀ u, ∃ k, S u → k < (pls w).1 ∧ (pls w).2 k = f u := by
      intro u
      by_cases hu : S u
      · obtain ⟨a, b⟩ := f1 u hu
        obtain ⟨k, hk, ek⟩ := pls_all a b.1
        exact ⟨k, fun _ => ⟨hk, ek⟩⟩
      · exact ⟨0, fun q => absurd q hu⟩
    refine ⟨fun u => Classical.choose (hx u), fun u hu => ?_, fun u v hu hv e => ?_⟩
    · obtain ⟨a, b⟩ := Classical.choose_spec (hx u) hu
      refine ⟨a, ?_⟩
      have := (f1 u hu).2.2
      unfold eP
      rw [b]
      exact this
    · obtain ⟨a, b⟩ := Classical.choose_spec (hx u) hu
      obtain ⟨c, d⟩ := Classical.choose_spec (hx v) hv
      dsimp only at e
      rw [e] at b
      exact f2 u v hu hv (b.symm.trans d)
theorem c_usable (hY : Yd B b) (hR : Rep B i b w) (hW : Wd w) (hp : p < cn w 460) (h120 : p < 120) : am_fx am_P (d + 1) 285 0 [some (.ref b), some (.ref (b + 92 + p))] [] (am_wI B i) = some (.inl (some (.int (if pld w p then 1 else 0))), am_wI B i) := by
  obtain ⟨a1, a2, a3, a4, a5, a6, a7, a8, a9, a10, a11, a12, a13⟩ := hW.2.2.2.1.1 p hp h120
  have h21 := hW.1.2.2.2.1
  have n21 := h21.2
  obtain ⟨b0, b9, b2, b3, b4, b1, b10, b11, b14, b5, b7, b16, -⟩ := hR.2.2.1.2 p hp h120
  have k8 : i b 8 = Int32.ofNat (cn w 2621) := hR.2.2.2.1.1.trans h21.1
  rw [bk_285_0]
  by_cases g3 : w (461 + 18 * p + 1) = 3
  · obtain ⟨es, hs⟩ := nn_of a9 h21.1 (by omega) (a10 g3)
    have b16' := b16.trans es
    have e3 := (hR.2.2.2.1.2 (cn w (461 + 18 * p + 11)) hs (by omega)).1
    have gs : ¬ Int32.ofNat (cn w (461 + 18 * p + 11)) < 0 := by rw [z_neg (by omega)]; exact id
    have gl : ¬ Int32.ofNat (cn w 2621) - 1 < Int32.ofNat (cn w (461 + 18 * p + 11)) := by
      rw [show Int32.ofNat (cn w 2621) - 1 = Int32.ofNat (cn w 2621 - 1) from z_sub (b := 1) (by omega), z_lt (by omega) (by omega)]
      omega
    by_cases g : w (2622 + 49 * cn w (461 + 18 * p + 11)) = 1
    · rw [if_pos (c := pld w p) (Or.inr ⟨g3, g⟩)]
      simp (disch := omega) only [bk_352_0, b9, b16', k8, e3, gs, gl, g3, g, hY, y_ckd, y_ck2d, y_ond, y_onn, y_oI, y_oIx, y_oJ, y_oV, y_oVx, y_oR, y_oRn, y_oRx, y_b0, y_b1, y_bi, y_bid, y_wIK, y_wIL, y_wII, y_wIJ, y_wIR, y_wIN, y_wIw, y_sI, ↓reduceIte, Nat.reduceEqDiff, eq_self, true_or, or_true, false_or, or_false, and_true, true_and, false_and, and_false, not_true, not_false_eq_true, tf_T, tf_F, y_up1, y_up2, y_xx, y_nx, y_sJ, y_sR, Int32.reduceLT, y_nxK, y_nxL, y_nxR, y_sJK, y_sJL, y_sJR, y_sJN, y_sRK, y_sRL, y_sRN, Nat.add_zero, z_nat, z_lit, z_lit0, z_lit1, z_in0, z_in1, z_addl0, z_lt, z_ltl, z_llt, z_inj, z_injl, z_add, z_addl, z_ladd, z_mul, z_mull, z_lmul, z_neg, z_negl, z_in, z_inl, z_ltT, z_ltF, z_eqF, z_10, z_01, z_litne, z_ne0, z_0ne, z_ne1, z_1ne, z_lt64, z_02, z_03, z_04, z_05, z_12, z_13, z_14, z_15, z_20, z_21, z_23, z_24, z_25, z_30, z_31, z_32, z_34, z_35, z_40, z_41, z_42, z_43, z_45, z_50, z_51, z_52, z_53, z_54]
    · rw [if_neg (c := pld w p) (fun q => q.elim (fun q => absurd (g3.symm.trans q) (by decide)) fun q => g q.2)]
      simp (disch := omega) only [bk_352_0, b9, b16', k8, e3, gs, gl, g3, g, hY, y_ckd, y_ck2d, y_ond, y_onn, y_oI, y_oIx, y_oJ, y_oV, y_oVx, y_oR, y_oRn, y_oRx, y_b0, y_b1, y_bi, y_bid, y_wIK, y_wIL, y_wII, y_wIJ, y_wIR, y_wIN, y_wIw, y_sI, ↓reduceIte, Nat.reduceEqDiff, eq_self, true_or, or_true, false_or, or_false, and_true, true_and, false_and, and_false, not_true, not_false_eq_true, tf_T, tf_F, y_up1, y_up2, y_xx, y_nx, y_sJ, y_sR, Int32.reduceLT, y_nxK, y_nxL, y_nxR, y_sJK, y_sJL, y_sJR, y_sJN, y_sRK, y_sRL, y_sRN, Nat.add_zero, z_nat, z_lit, z_lit0, z_lit1, z_in0, z_in1, z_addl0, z_lt, z_ltl, z_llt, z_inj, z_injl, z_add, z_addl, z_ladd, z_mul, z_mull, z_lmul, z_neg, z_negl, z_in, z_inl, z_ltT, z_ltF, z_eqF, z_10, z_01, z_litne, z_ne0, z_0ne, z_ne1, z_1ne, z_lt64, z_02, z_03, z_04, z_05, z_12, z_13, z_14, z_15, z_20, z_21, z_23, z_24, z_25, z_30, z_31, z_32, z_34, z_35, z_40, z_41, z_42, z_43, z_45, z_50, z_51, z_52, z_53, z_54]
  · by_cases g2 : w (461 + 18 * p + 1) = 2
    · rw [if_pos (c := pld w p) (Or.inl g2)]
      simp (disch := omega) only [bk_285_47, b9, g2, hY, y_ckd, y_ck2d, y_ond, y_onn, y_oI, y_oIx, y_oJ, y_oV, y_oVx, y_oR, y_oRn, y_oRx, y_b0, y_b1, y_bi, y_bid, y_wIK, y_wIL, y_wII, y_wIJ, y_wIR, y_wIN, y_wIw, y_sI, ↓reduceIte, Nat.reduceEqDiff, eq_self, true_or, or_true, false_or, or_false, and_true, true_and, false_and, and_false, not_true, not_false_eq_true, tf_T, tf_F, y_up1, y_up2, y_xx, y_nx, y_sJ, y_sR, Int32.reduceLT, y_nxK, y_nxL, y_nxR, y_sJK, y_sJL, y_sJR, y_sJN, y_sRK, y_sRL, y_sRN, Nat.add_zero, z_nat, z_lit, z_lit0, z_lit1, z_in0, z_in1, z_addl0, z_lt, z_ltl, z_llt, z_inj, z_injl, z_add, z_addl, z_ladd, z_mul, z_mull, z_lmul, z_neg, z_negl, z_in, z_inl, z_ltT, z_ltF, z_eqF, z_10, z_01, z_litne, z_ne0, z_0ne, z_ne1, z_1ne, z_lt64, z_02, z_03, z_04, z_05, z_12, z_13, z_14, z_15, z_20, z_21, z_23, z_24, z_25, z_30, z_31, z_32, z_34, z_35, z_40, z_41, z_42, z_43, z_45, z_50, z_51, z_52, z_53, z_54]
    · rw [if_neg (c := pld w p) (fun q => q.elim g2 fun q => g3 q.1)]
      simp (disch := omega) only [bk_285_47, b9, g2, g3, hY, y_ckd, y_ck2d, y_ond, y_onn, y_oI, y_oIx, y_oJ, y_oV, y_oVx, y_oR, y_oRn, y_oRx, y_b0, y_b1, y_bi, y_bid, y_wIK, y_wIL, y_wII, y_wIJ, y_wIR, y_wIN, y_wIw, y_sI, ↓reduceIte, Nat.reduceEqDiff, eq_self, true_or, or_true, false_or, or_false, and_true, true_and, false_and, and_false, not_true, not_false_eq_true, tf_T, tf_F, y_up1, y_up2, y_xx, y_nx, y_sJ, y_sR, Int32.reduceLT, y_nxK, y_nxL, y_nxR, y_sJK, y_sJL, y_sJR, y_sJN, y_sRK, y_sRL, y_sRN, Nat.add_zero, z_nat, z_lit, z_lit0, z_lit1, z_in0, z_in1, z_addl0, z_lt, z_ltl, z_llt, z_inj, z_injl, z_add, z_addl, z_ladd, z_mul, z_mull, z_lmul, z_neg, z_negl, z_in, z_inl, z_ltT, z_ltF, z_eqF, z_10, z_01, z_litne, z_ne0, z_0ne, z_ne1, z_1ne, z_lt64, z_02, z_03, z_04, z_05, z_12, z_13, z_14, z_15, z_20, z_21, z_23, z_24, z_25, z_30, z_31, z_32, z_34, z_35, z_40, z_41, z_42, z_43, z_45, z_50, z_51, z_52, z_53, z_54]
theorem c_pool (hF : Fc B) (hY : Yd B 94) (hR : Rep B i 94 w) (hW : Wd w) : ∃ j, am_fx am_P (d + 2) 284 0 [some (.ref 71), some (.ref 94), none] [] (am_wI B i) = am_fx am_P (d + 2) 284 63 [some (.ref 71), some (.ref 94), none] [] (am_wI B j) ∧ (∀ k, k < (pls w).1 → j 89 k = Int32.ofNat ((pls w).2 k)) ∧ j 71 11 = Int32.ofNat (pls w).1 ∧ (∀ k, k ≠ 11 → j 71 k = i 71 k) ∧ ∀ q k, q ≠ 71 → q ≠ 89 → j q k = i q k := by
  have h4 := hW.1.2.2.1
  have n4 := h4.2
  obtain ⟨j, E, e11, e89, f71, fo⟩ := lp_inv (fun k j => am_fx am_P (d + 2) 284 7 [some (.ref 71), some (.ref 94), some (.int (Int32.ofNat k))] [] (am_wI B j)) (fun k j => j 71 11 = Int32.ofNat (itr (fpl w) k (0, fun _ => 0)).1 ∧ (∀ l, l < (itr (fpl w) k (0, fun _ => 0)).1 → j 89 l = Int32.ofNat ((itr (fpl w) k (0, fun _ => 0)).2 l)) ∧ (∀ k, k ≠ 11 → j 71 k = i 71 k) ∧ ∀ q k, q ≠ 71 → q ≠ 89 → j q k = i q k) (cn w 460) (fun k j hk hI => by
    obtain ⟨e11, e89, f71, fo⟩ := hI
    have hRj : Rep B j 94 w := Rep_fr hR (Le.rf B) rfl (fun q k _ _ _ _ _ _ => fo q k (by omega) (by omega)) (fun q h1 _ => funext fun k => fo q k (by omega) (by omega)) fun _ _ => rfl
    have k5 : j 94 5 = Int32.ofNat (cn w 460) := hRj.2.2.1.1.trans h4.1
    have E := c_usable (B := B) (d := d) (i := j) (p := k) hY hRj hW hk (by omega)
    have hle := (fpl_ok (w := w) k).1
    have hst : itr (fpl w) (k + 1) (0, fun _ => 0) = fpl w k (itr (fpl w) k (0, fun _ => 0)) := rfl
    generalize itr (fpl w) k (0, fun _ => 0) = s at *
    rw [hst]
    unfold fpl
    by_cases g : pld w k
    · rw [if_pos g] at E ⊢
      refine ⟨am_up2 (am_up2 j 89 s.1 (Int32.ofNat k)) 71 11 (Int32.ofNat (s.1 + 1)), ?_, y_up1 rfl rfl, fun l hl => ?_, fun k hk => ?_, fun q k h1 h2 => ?_⟩
      · rw [bk_284_7]
        simp (disch := omega) only [k5, e11, E, bk_284_57, hF, hY, y_ckd, y_ck2d, y_ond, y_onn, y_oI, y_oIx, y_oJ, y_oV, y_oVx, y_oR, y_oRn, y_oRx, y_b0, y_b1, y_bi, y_bid, y_wIK, y_wIL, y_wII, y_wIJ, y_wIR, y_wIN, y_wIw, y_sI, ↓reduceIte, Nat.reduceEqDiff, eq_self, true_or, or_true, false_or, or_false, and_true, true_and, false_and, and_false, not_true, not_false_eq_true, tf_T, tf_F, y_up1, y_up2, y_xx, y_nx, y_sJ, y_sR, Int32.reduceLT, y_nxK, y_nxL, y_nxR, y_sJK, y_sJL, y_sJR, y_sJN, y_sRK, y_sRL, y_sRN, Nat.add_zero, z_nat, z_lit, z_lit0, z_lit1, z_in0, z_in1, z_addl0, z_lt, z_ltl, z_llt, z_inj, z_injl, z_add, z_addl, z_ladd, z_mul, z_mull, z_lmul, z_neg, z_negl, z_in, z_inl, z_ltT, z_ltF, z_eqF, z_10, z_01, z_litne, z_ne0, z_0ne, z_ne1, z_1ne, z_lt64, z_02, z_03, z_04, z_05, z_12, z_13, z_14, z_15, z_20, z_21, z_23, z_24, z_25, z_30, z_31, z_32, z_34, z_35, z_40, z_41, z_42, z_43, z_45, z_50, z_51, z_52, z_53, z_54]
      · dsimp only at hl ⊢
        rw [y_up2 (by omega)]
        by_cases e : l = s.1
        · rw [y_up1 rfl e, if_pos e]
        · rw [y_up2 (by omega), if_neg e]
          exact e89 l (by omega)
      · rw [y_up2 (by omega), y_up2 (by omega)]
        exact f71 k hk
      · rw [y_up2 (by omega), y_up2 (by omega)]
        exact fo q k h1 h2
    · rw [if_neg g] at E ⊢
      refine ⟨j, ?_, e11, e89, f71, fo⟩
      rw [bk_284_7]
      simp (disch := omega) only [k5, e11, E, bk_284_57, hF, hY, y_ckd, y_ck2d, y_ond, y_onn, y_oI, y_oIx, y_oJ, y_oV, y_oVx, y_oR, y_oRn, y_oRx, y_b0, y_b1, y_bi, y_bid, y_wIK, y_wIL, y_wII, y_wIJ, y_wIR, y_wIN, y_wIw, y_sI, ↓reduceIte, Nat.reduceEqDiff, eq_self, true_or, or_true, false_or, or_false, and_true, true_and, false_and, and_false, not_true, not_false_eq_true, tf_T, tf_F, y_up1, y_up2, y_xx, y_nx, y_sJ, y_sR, Int32.reduceLT, y_nxK, y_nxL, y_nxR, y_sJK, y_sJL, y_sJR, y_sJN, y_sRK, y_sRL, y_sRN, Nat.add_zero, z_nat, z_lit, z_lit0, z_lit1, z_in0, z_in1, z_addl0, z_lt, z_ltl, z_llt, z_inj, z_injl, z_add, z_addl, z_ladd, z_mul, z_mull, z_lmul, z_neg, z_negl, z_in, z_inl, z_ltT, z_ltF, z_eqF, z_10, z_01, z_litne, z_ne0, z_0ne, z_ne1, z_1ne, z_lt64, z_02, z_03, z_04, z_05, z_12, z_13, z_14, z_15, z_20, z_21, z_23, z_24, z_25, z_30, z_31, z_32, z_34, z_35, z_40, z_41, z_42, z_43, z_45, z_50, z_51, z_52, z_53, z_54]) (am_up2 i 71 11 0) ⟨y_up1 rfl rfl, fun l hl => absurd hl (Nat.not_lt_zero l), fun k hk => y_up2 (by omega), fun q k h1 h2 => y_up2 (by omega)⟩
  have hRj : Rep B j 94 w := Rep_fr hR (Le.rf B) rfl (fun q k _ _ _ _ _ _ => fo q k (by omega) (by omega)) (fun q h1 _ => funext fun k => fo q k (by omega) (by omega)) fun _ _ => rfl
  have k5 : j 94 5 = Int32.ofNat (cn w 460) := hRj.2.2.1.1.trans h4.1
  refine ⟨j, ?_, e89, e11, f71, fo⟩
  rw [bk_284_0]
  simp (disch := omega) only [hF, hY, y_ckd, y_ck2d, y_ond, y_onn, y_oI, y_oIx, y_oJ, y_oV, y_oVx, y_oR, y_oRn, y_oRx, y_b0, y_b1, y_bi, y_bid, y_wIK, y_wIL, y_wII, y_wIJ, y_wIR, y_wIN, y_wIw, y_sI, ↓reduceIte, Nat.reduceEqDiff, eq_self, true_or, or_true, false_or, or_false, and_true, true_and, false_and, and_false, not_true, not_false_eq_true, tf_T, tf_F, y_up1, y_up2, y_xx, y_nx, y_sJ, y_sR, Int32.reduceLT, y_nxK, y_nxL, y_nxR, y_sJK, y_sJL, y_sJR, y_sJN, y_sRK, y_sRL, y_sRN, Nat.add_zero, z_nat, z_lit, z_lit0, z_lit1, z_in0, z_in1, z_addl0, z_lt, z_ltl, z_llt, z_inj, z_injl, z_add, z_addl, z_ladd, z_mul, z_mull, z_lmul, z_neg, z_negl, z_in, z_inl, z_ltT, z_ltF, z_eqF, z_10, z_01, z_litne, z_ne0, z_0ne, z_ne1, z_1ne, z_lt64, z_02, z_03, z_04, z_05, z_12, z_13, z_14, z_15, z_20, z_21, z_23, z_24, z_25, z_30, z_31, z_32, z_34, z_35, z_40, z_41, z_42, z_43, z_45, z_50, z_51, z_52, z_53, z_54]
  refine E.trans ?_
  rw [bk_284_7]
  simp (disch := omega) only [k5, hF, hY, y_ckd, y_ck2d, y_ond, y_onn, y_oI, y_oIx, y_oJ, y_oV, y_oVx, y_oR, y_oRn, y_oRx, y_b0, y_b1, y_bi, y_bid, y_wIK, y_wIL, y_wII, y_wIJ, y_wIR, y_wIN, y_wIw, y_sI, ↓reduceIte, Nat.reduceEqDiff, eq_self, true_or, or_true, false_or, or_false, and_true, true_and, false_and, and_false, not_true, not_false_eq_true, tf_T, tf_F, y_up1, y_up2, y_xx, y_nx, y_sJ, y_sR, Int32.reduceLT, y_nxK, y_nxL, y_nxR, y_sJK, y_sJL, y_sJR, y_sJN, y_sRK, y_sRL, y_sRN, Nat.add_zero, z_nat, z_lit, z_lit0, z_lit1, z_in0, z_in1, z_addl0, z_lt, z_ltl, z_llt, z_inj, z_injl, z_add, z_addl, z_ladd, z_mul, z_mull, z_lmul, z_neg, z_negl, z_in, z_inl, z_ltT, z_ltF, z_eqF, z_10, z_01, z_litne, z_ne0, z_0ne, z_ne1, z_1ne, z_lt64, z_02, z_03, z_04, z_05, z_12, z_13, z_14, z_15, z_20, z_21, z_23, z_24, z_25, z_30, z_31, z_32, z_34, z_35, z_40, z_41, z_42, z_43, z_45, z_50, z_51, z_52, z_53, z_54]
end Pool
