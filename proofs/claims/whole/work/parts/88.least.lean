/-! GANGS: the least of all ways. Made by wip/whole/math/88.py. -/
section Gangs4
variable {B B1 : am_A} {i i1 : Nat → Nat → Int32} {σ σ' : Sg} {w : Nat → Int32} {L j d b : Nat} {x y z : Int32} {u r : Nat → Int32}
theorem c_fill {q n : Nat} {v : Int32} (hk : am_K B q = 21) (hl : am_L B q = n) (hn : n < 2147483648) : ∃ i', am_fx am_P d 7 0 [some (.ref q), some (.int v), none, none] [] (am_wI B i) = some (.inl none, am_wI B i') ∧ (∀ k, k < n → i' q k = v) ∧ ∀ p k, p ≠ q → i' p k = i p k := by
  obtain ⟨j, E, hj, hf⟩ := lp_inv (fun k j => am_fx am_P d 7 5 [some (.ref q), some (.int v), some (.int (Int32.ofNat k)), some (.int (Int32.ofNat n))] [] (am_wI B j)) (fun k j => (∀ m, m < k → j q m = v) ∧ ∀ p k, p ≠ q → j p k = i p k) n (fun k j hk2 hI => by
    refine ⟨am_up2 j q k v, ?_, fun m hm => ?_, fun p m hq => by rw [y_up2 (by omega)]; exact hI.2 p m hq⟩
    · rw [bk_7_5]
      simp (maxSteps := 1000000) (disch := omega) only [hk, hl, y_ckd, y_ck2d, y_ond, y_onn, y_oI, y_oIx, y_oJ, y_oV, y_oVx, y_oR, y_oRn, y_oRx, y_b0, y_b1, y_bi, y_bid, y_wIK, y_wIL, y_wII, y_wIJ, y_wIR, y_wIN, y_wIw, y_sI, ↓reduceIte, Nat.reduceEqDiff, eq_self, true_or, or_true, false_or, or_false, and_true, true_and, false_and, and_false, not_true, not_false_eq_true, tf_T, tf_F, y_up1, y_up2, y_xx, y_nx, y_sJ, y_sR, Int32.reduceLT, y_nxK, y_nxL, y_nxR, y_sJK, y_sJL, y_sJR, y_sJN, y_sRK, y_sRL, y_sRN, Nat.add_zero, z_nat, z_lit, z_lit0, z_lit1, z_in0, z_in1, z_addl0, z_lt, z_ltl, z_llt, z_inj, z_injl, z_add, z_addl, z_ladd, z_mul, z_mull, z_lmul, z_neg, z_negl, z_in, z_inl, z_ltT, z_ltF, z_eqF, z_10, z_01, z_litne, z_ne0, z_0ne, z_ne1, z_1ne, z_lt64, z_02, z_03, z_04, z_05, z_12, z_13, z_14, z_15, z_20, z_21, z_23, z_24, z_25, z_30, z_31, z_32, z_34, z_35, z_40, z_41, z_42, z_43, z_45, z_50, z_51, z_52, z_53, z_54]
    · by_cases e : m = k
      · rw [y_up1 rfl e]
      · rw [y_up2 (by omega)]
        exact hI.1 m (by omega)) i ⟨fun m hm => absurd hm (by omega), fun _ _ _ => rfl⟩
  refine ⟨j, ?_, hj, hf⟩
  rw [bk_7_0, if_pos (by rw [y_wIK, hk]; decide), y_wIL, hl]
  refine E.trans ?_
  rw [bk_7_5]
  simp (maxSteps := 1000000) (disch := omega) only [hk, hl, y_ckd, y_ck2d, y_ond, y_onn, y_oI, y_oIx, y_oJ, y_oV, y_oVx, y_oR, y_oRn, y_oRx, y_b0, y_b1, y_bi, y_bid, y_wIK, y_wIL, y_wII, y_wIJ, y_wIR, y_wIN, y_wIw, y_sI, ↓reduceIte, Nat.reduceEqDiff, eq_self, true_or, or_true, false_or, or_false, and_true, true_and, false_and, and_false, not_true, not_false_eq_true, tf_T, tf_F, y_up1, y_up2, y_xx, y_nx, y_sJ, y_sR, Int32.reduceLT, y_nxK, y_nxL, y_nxR, y_sJK, y_sJL, y_sJR, y_sJN, y_sRK, y_sRL, y_sRN, Nat.add_zero, z_nat, z_lit, z_lit0, z_lit1, z_in0, z_in1, z_addl0, z_lt, z_ltl, z_llt, z_inj, z_injl, z_add, z_addl, z_ladd, z_mul, z_mull, z_lmul, z_neg, z_negl, z_in, z_inl, z_ltT, z_ltF, z_eqF, z_10, z_01, z_litne, z_ne0, z_0ne, z_ne1, z_1ne, z_lt64, z_02, z_03, z_04, z_05, z_12, z_13, z_14, z_15, z_20, z_21, z_23, z_24, z_25, z_30, z_31, z_32, z_34, z_35, z_40, z_41, z_42, z_43, z_45, z_50, z_51, z_52, z_53, z_54]
theorem lt_of_not1 {a : Int32} (h : ¬ a < 1) : ¬ a < 0 := fun q => h (Int32.lt_trans q (by decide))
theorem stw_nn {c t m : Nat} (hG : WdG w) : ∀ n, n ≤ cn w 3019 → n ≤ 8 → ∃ v, stw w c t n m = Int32.ofNat v ∧ v ≤ 40 * n
  | 0, _, _ => ⟨0, rfl, Nat.le_refl _⟩
  | n + 1, hn, n8 => by
    obtain ⟨v, e, hv⟩ := stw_nn (c := c) (t := t) (m := m) hG n (by omega) (by omega)
    obtain ⟨⟨g1, g2⟩, -⟩ := hG n (by omega) (by omega)
    obtain ⟨s, es, hs⟩ := z_lk 41 (by omega) (lt_of_not1 g1) g2
    rw [stw_s]
    by_cases q : m = t / c ^ n % c
    · exact ⟨v + s, by rw [show fst1 w c t n (stw w c t n) m = _ from if_pos q, e, es, z_add], by omega⟩
    · exact ⟨v, by rw [show fst1 w c t n (stw w c t n) m = _ from if_neg q]; exact e, by omega⟩
theorem stw_p {c t n m : Nat} (hG : WdG w) (hn : n ≤ cn w 3019) (n8 : n ≤ 8) (h0 : ¬ stw w c t n m = 0) : 0 < stw w c t n m := by
  obtain ⟨v, e, hv⟩ := stw_nn (c := c) (t := t) (m := m) hG n hn n8
  rw [e] at h0 ⊢
  have : v ≠ 0 := fun q => h0 (by rw [q]; rfl)
  rw [show (0 : Int32) = Int32.ofNat 0 from rfl, z_lt (by omega) (by omega)]
  omega
theorem c_way {c t n : Nat} (hF : Fc B) (hY : Yd B 94) (hG : RG i 94 w) (hW : WdG w) (c4 : c ≤ 4) (ht : t < 2147483648) (hn : n ≤ cn w 3019) (n8 : n ≤ 8) (hr : ∀ m, m < c → i 77 m = r m) : ∃ i', am_fx am_P (d + 1) 283 0 [some (.ref 71), some (.ref 94), some (.int (Int32.ofNat t)), some (.int (Int32.ofNat n)), some (.int (Int32.ofNat c)), none, none, none] [] (am_wI B i) = some (.inl (some (.int (dys (stw w c t n) r c))), am_wI B i') ∧ ∀ q m, q ≠ 78 → i' q m = i q m := by
  obtain ⟨i0, E0, hz, hf0⟩ := c_fill (q := 78) (n := 4) (v := 0) (i := i) (d := d) (B := B) (by simp only [hF]) (by simp only [hF]) (by omega)
  by_cases c0 : c = 0
  · subst c0
    refine ⟨i0, ?_, hf0⟩
    have e : am_fx am_P (d + 1) 283 14 [some (.ref 71), some (.ref 94), none, some (.int (Int32.ofNat n)), some (.int (Int32.ofNat 0)), some (.int (Int32.ofNat t)), some (.int 0), none] [] (am_wI B i0) = am_fx am_P (d + 1) 283 58 [some (.ref 71), none, none, none, some (.int (Int32.ofNat 0)), none, none, none] [] (am_wI B i0) := by
      rw [bk_283_14, if_neg (show ¬ (0 : Int32) < Int32.ofNat 0 by decide)]
      exact ite_self _
    rw [bk_283_0]
    simp (maxSteps := 1000000) (disch := omega) only [E0, hF, y_ckd, y_ck2d, y_ond, y_onn, y_oI, y_oIx, y_oJ, y_oV, y_oVx, y_oR, y_oRn, y_oRx, y_b0, y_b1, y_bi, y_bid, y_wIK, y_wIL, y_wII, y_wIJ, y_wIR, y_wIN, y_wIw, y_sI, ↓reduceIte, Nat.reduceEqDiff, eq_self, true_or, or_true, false_or, or_false, and_true, true_and, false_and, and_false, not_true, not_false_eq_true, tf_T, tf_F, y_up1, y_up2, y_xx, y_nx, y_sJ, y_sR, Int32.reduceLT, y_nxK, y_nxL, y_nxR, y_sJK, y_sJL, y_sJR, y_sJN, y_sRK, y_sRL, y_sRN]
    rw [e, bk_283_58]
    exact c_days hF (by omega) (fun m hm => absurd hm (Nat.not_lt_zero _)) (fun m hm => absurd hm (Nat.not_lt_zero _)) fun m hm => absurd hm (Nat.not_lt_zero _)
  · have hG0 : RG i0 94 w := RG_fr hG (fun q k hq => hf0 q k (by omega)) fun _ _ => rfl
    obtain ⟨i1, E1, hu, hf1⟩ := c_str (c := c) (t := t) (n := n) (d := d) hF hY hG0 (by omega) c4 ht hn n8 hz
    rw [Nat.pow_zero, Nat.div_one] at E1
    refine ⟨i1, ?_, fun q m hq => (hf1 q m hq).trans (hf0 q m hq)⟩
    have E2 := c_days (B := B) (i := i1) (d := d) (c := c) (u := stw w c t n) (r := r) hF c4 (fun m hm => hu m (by omega)) (fun m hm => ((hf1 _ _ (by omega)).trans (hf0 _ _ (by omega))).trans (hr m hm)) fun m hm => stw_p hW hn n8
    rw [bk_283_0]
    simp (maxSteps := 1000000) (disch := omega) only [E0, hF, y_ckd, y_ck2d, y_ond, y_onn, y_oI, y_oIx, y_oJ, y_oV, y_oVx, y_oR, y_oRn, y_oRx, y_b0, y_b1, y_bi, y_bid, y_wIK, y_wIL, y_wII, y_wIJ, y_wIR, y_wIN, y_wIw, y_sI, ↓reduceIte, Nat.reduceEqDiff, eq_self, true_or, or_true, false_or, or_false, and_true, true_and, false_and, and_false, not_true, not_false_eq_true, tf_T, tf_F, y_up1, y_up2, y_xx, y_nx, y_sJ, y_sR, Int32.reduceLT, y_nxK, y_nxL, y_nxR, y_sJK, y_sJL, y_sJR, y_sJN, y_sRK, y_sRL, y_sRN]
    refine E1.trans ?_
    rw [bk_283_58]
    exact E2
/-- the least of some ways -/
abbrev fgb (w : Nat → Int32) (r : Nat → Int32) (c n t : Nat) (a : Int32) : Int32 := if dys (stw w c t n) r c = -1 then a else if a = -1 then dys (stw w c t n) r c else if dys (stw w c t n) r c < a then dys (stw w c t n) r c else a
def gbs (w : Nat → Int32) (r : Nat → Int32) (c n T : Nat) (a : Int32) : Int32 := itr (fgb w r c n) T a
theorem gbs_s {c n T : Nat} {a : Int32} : gbs w r c n (T + 1) a = fgb w r c n T (gbs w r c n T a) := rfl
theorem gbs_nn {w r : Nat → Int32} {c n : Nat} {a : Int32} (ha : a = -1 ∨ ¬ a < 0) : ∀ T, gbs w r c n T a = -1 ∨ ¬ gbs w r c n T a < 0
  | 0 => ha
  | T + 1 => by
    have ih := gbs_nn (w := w) (r := r) (c := c) (n := n) ha T
    have hd := dys_nn (u := stw w c T n) (r := r) c
    rw [gbs_s]
    unfold fgb
    split
    · exact ih
    · split
      · exact hd
      · split
        · exact hd
        · exact ih
theorem gbs_0 {n : Nat} : ∀ T, gbs w r 0 n T 0 = 0
  | 0 => rfl
  | T + 1 => by
    rw [gbs_s, gbs_0 T]
    have e : dys (stw w 0 T n) r 0 = 0 := rfl
    unfold fgb
    rw [e]
    decide
theorem pw_le {c n : Nat} (hc : c ≤ 4) (hn : n ≤ 6) : c ^ n ≤ 4096 := Nat.le_trans (Nat.pow_le_pow_left hc n) (Nat.pow_le_pow_right (n := 4) (by omega) hn)
theorem c_pow {c n : Nat} (c4 : c ≤ 4) (n6 : n ≤ 6) : am_fx am_P (d + 1) 281 22 [some (.ref 71), some (.ref 94), some (.int (Int32.ofNat c)), some (.int (Int32.ofNat n)), some (.int (Int32.ofNat (c ^ 0))), some (.int (Int32.ofNat 0)), none, none] [] (am_wI B i) = am_fx am_P (d + 1) 281 54 [some (.ref 71), some (.ref 94), some (.int (Int32.ofNat c)), some (.int (Int32.ofNat n)), some (.int (Int32.ofNat (c ^ n))), some (.int (if c = 0 then 0 else -1)), some (.int (Int32.ofNat 0)), none] [] (am_wI B i) := by
  refine (lp_itr (fun k (_ : Unit) => am_fx am_P (d + 1) 281 22 [some (.ref 71), some (.ref 94), some (.int (Int32.ofNat c)), some (.int (Int32.ofNat n)), some (.int (Int32.ofNat (c ^ k))), some (.int (Int32.ofNat k)), none, none] [] (am_wI B i)) (fun _ v => v) n (fun k v hk => ?_) ()).trans ?_
  · rw [bk_281_22, Nat.pow_succ]
    generalize c ^ k = a
    simp (maxSteps := 1000000) (disch := omega) only [y_ckd, y_ck2d, y_ond, y_onn, y_oI, y_oIx, y_oJ, y_oV, y_oVx, y_oR, y_oRn, y_oRx, y_b0, y_b1, y_bi, y_bid, y_wIK, y_wIL, y_wII, y_wIJ, y_wIR, y_wIN, y_wIw, y_sI, ↓reduceIte, Nat.reduceEqDiff, eq_self, true_or, or_true, false_or, or_false, and_true, true_and, false_and, and_false, not_true, not_false_eq_true, tf_T, tf_F, y_up1, y_up2, y_xx, y_nx, y_sJ, y_sR, Int32.reduceLT, y_nxK, y_nxL, y_nxR, y_sJK, y_sJL, y_sJR, y_sJN, y_sRK, y_sRL, y_sRN, Nat.add_zero, z_nat, z_lit, z_lit0, z_lit1, z_in0, z_in1, z_addl0, z_lt, z_ltl, z_llt, z_inj, z_injl, z_add, z_addl, z_ladd, z_mul, z_mull, z_lmul, z_neg, z_negl, z_in, z_inl, z_ltT, z_ltF, z_eqF, z_10, z_01, z_litne, z_ne0, z_0ne, z_ne1, z_1ne, z_lt64, z_02, z_03, z_04, z_05, z_12, z_13, z_14, z_15, z_20, z_21, z_23, z_24, z_25, z_30, z_31, z_32, z_34, z_35, z_40, z_41, z_42, z_43, z_45, z_50, z_51, z_52, z_53, z_54]
  · rw [bk_281_22]
    generalize c ^ n = a
    by_cases c0 : c = 0
    · simp (maxSteps := 1000000) (disch := omega) only [c0, y_ckd, y_ck2d, y_ond, y_onn, y_oI, y_oIx, y_oJ, y_oV, y_oVx, y_oR, y_oRn, y_oRx, y_b0, y_b1, y_bi, y_bid, y_wIK, y_wIL, y_wII, y_wIJ, y_wIR, y_wIN, y_wIw, y_sI, ↓reduceIte, Nat.reduceEqDiff, eq_self, true_or, or_true, false_or, or_false, and_true, true_and, false_and, and_false, not_true, not_false_eq_true, tf_T, tf_F, y_up1, y_up2, y_xx, y_nx, y_sJ, y_sR, Int32.reduceLT, y_nxK, y_nxL, y_nxR, y_sJK, y_sJL, y_sJR, y_sJN, y_sRK, y_sRL, y_sRN, Nat.add_zero, z_nat, z_lit, z_lit0, z_lit1, z_in0, z_in1, z_addl0, z_lt, z_ltl, z_llt, z_inj, z_injl, z_add, z_addl, z_ladd, z_mul, z_mull, z_lmul, z_neg, z_negl, z_in, z_inl, z_ltT, z_ltF, z_eqF, z_10, z_01, z_litne, z_ne0, z_0ne, z_ne1, z_1ne, z_lt64, z_02, z_03, z_04, z_05, z_12, z_13, z_14, z_15, z_20, z_21, z_23, z_24, z_25, z_30, z_31, z_32, z_34, z_35, z_40, z_41, z_42, z_43, z_45, z_50, z_51, z_52, z_53, z_54]
      rfl
    · simp (maxSteps := 1000000) (disch := omega) only [c0, y_ckd, y_ck2d, y_ond, y_onn, y_oI, y_oIx, y_oJ, y_oV, y_oVx, y_oR, y_oRn, y_oRx, y_b0, y_b1, y_bi, y_bid, y_wIK, y_wIL, y_wII, y_wIJ, y_wIR, y_wIN, y_wIw, y_sI, ↓reduceIte, Nat.reduceEqDiff, eq_self, true_or, or_true, false_or, or_false, and_true, true_and, false_and, and_false, not_true, not_false_eq_true, tf_T, tf_F, y_up1, y_up2, y_xx, y_nx, y_sJ, y_sR, Int32.reduceLT, y_nxK, y_nxL, y_nxR, y_sJK, y_sJL, y_sJR, y_sJN, y_sRK, y_sRL, y_sRN, Nat.add_zero, z_nat, z_lit, z_lit0, z_lit1, z_in0, z_in1, z_addl0, z_lt, z_ltl, z_llt, z_inj, z_injl, z_add, z_addl, z_ladd, z_mul, z_mull, z_lmul, z_neg, z_negl, z_in, z_inl, z_ltT, z_ltF, z_eqF, z_10, z_01, z_litne, z_ne0, z_0ne, z_ne1, z_1ne, z_lt64, z_02, z_03, z_04, z_05, z_12, z_13, z_14, z_15, z_20, z_21, z_23, z_24, z_25, z_30, z_31, z_32, z_34, z_35, z_40, z_41, z_42, z_43, z_45, z_50, z_51, z_52, z_53, z_54]
      rfl
theorem c_gangs (hF : Fc B) (hY : Yd B 94) (hG : RG i 94 w) (hS : RS i 94 w) (hW : Wd w) : ∃ i', am_fx am_P (d + 2) 281 0 [some (.ref 71), some (.ref 94), none, none, none, none, none, none] [] (am_wI B i) = some (.inl (some (.int (gbs w (wls w (cn w 2621)).2 (wls w (cn w 2621)).1 (min 6 (cn w 3019)) ((wls w (cn w 2621)).1 ^ min 6 (cn w 3019)) (if (wls w (cn w 2621)).1 = 0 then 0 else -1)))), am_wI B i') ∧ ∀ q m, q ≠ 77 → q ≠ 78 → i' q m = i q m := by
  have hc := hW.1.2.2.2.1
  have hg := hW.1.2.2.2.2.2.1
  have g8 := hg.2
  obtain ⟨i0, E0, c4, hr, hf0⟩ := c_list (d := d + 1) hF hY hS hc
  have e12 : i0 94 12 = Int32.ofNat (cn w 3019) := (hf0 _ _ (by omega)).trans (hG.1.trans hg.1)
  have emn : mn (Int32.ofNat (cn w 3019)) 6 = Int32.ofNat (min 6 (cn w 3019)) := by
    by_cases g : 6 < cn w 3019
    · rw [show mn (Int32.ofNat (cn w 3019)) 6 = 6 from if_pos (by rw [show (6 : Int32) = Int32.ofNat 6 from rfl, z_lt (by omega) (by omega)]; exact g), show min 6 (cn w 3019) = 6 by omega]; rfl
    · rw [show mn (Int32.ofNat (cn w 3019)) 6 = Int32.ofNat (cn w 3019) from if_neg (by rw [show (6 : Int32) = Int32.ofNat 6 from rfl, z_lt (by omega) (by omega)]; exact g), show min 6 (cn w 3019) = cn w 3019 by omega]
  have hn : min 6 (cn w 3019) ≤ cn w 3019 := Nat.min_le_right _ _
  have n6 : min 6 (cn w 3019) ≤ 6 := Nat.min_le_left _ _
  generalize hcc : (wls w (cn w 2621)).1 = c at *
  generalize (wls w (cn w 2621)).2 = r at *
  generalize min 6 (cn w 3019) = n at *
  have hp := pw_le c4 n6
  obtain ⟨j, E, hf⟩ := lp_inv (fun k j => am_fx am_P (d + 2) 281 54 [some (.ref 71), some (.ref 94), some (.int (Int32.ofNat c)), some (.int (Int32.ofNat n)), some (.int (Int32.ofNat (c ^ n))), some (.int (gbs w r c n k (if c = 0 then 0 else -1))), some (.int (Int32.ofNat k)), none] [] (am_wI B j)) (fun k j => ∀ q m, q ≠ 78 → j q m = i0 q m) (c ^ n) (fun k j hk hI => by
    have hGj : RG j 94 w := RG_fr hG (fun q m hq => (hI q m (by omega)).trans (hf0 q m (by omega))) fun _ _ => rfl
    obtain ⟨j1, E1, hf1⟩ := c_way (r := r) (c := c) (t := k) (n := n) (d := d) hF hY hGj hW.2.2.2.2.2.1 c4 (by omega) hn (by omega) fun m hm => (hI _ _ (by omega)).trans (hr m hm)
    refine ⟨j1, ?_, fun q m hq => (hf1 q m hq).trans (hI q m hq)⟩
    have hd := dys_nn (u := stw w c k n) (r := r) c
    rw [bk_281_54, gbs_s]
    unfold fgb
    generalize dys (stw w c k n) r c = v at *
    generalize gbs w r c n k (if c = 0 then 0 else -1) = a at *
    generalize c ^ n = T at *
    by_cases g1 : v = -1
    · rw [if_pos g1]
      rw [g1] at E1
      simp (maxSteps := 1000000) (disch := omega) only [(fun d x0 x1 x2 x3 x4 x5 x6 B i => bk_281_96 d x0 x1 x2 x3 x4 x5 x6 (am_wI B i)), E1, hF, hY, y_ckd, y_ck2d, y_ond, y_onn, y_oI, y_oIx, y_oJ, y_oV, y_oVx, y_oR, y_oRn, y_oRx, y_b0, y_b1, y_bi, y_bid, y_wIK, y_wIL, y_wII, y_wIJ, y_wIR, y_wIN, y_wIw, y_sI, ↓reduceIte, Nat.reduceEqDiff, eq_self, true_or, or_true, false_or, or_false, and_true, true_and, false_and, and_false, not_true, not_false_eq_true, tf_T, tf_F, y_up1, y_up2, y_xx, y_nx, y_sJ, y_sR, Int32.reduceLT, y_nxK, y_nxL, y_nxR, y_sJK, y_sJL, y_sJR, y_sJN, y_sRK, y_sRL, y_sRN, Nat.add_zero, z_nat, z_lit, z_lit0, z_lit1, z_in0, z_in1, z_addl0, z_lt, z_ltl, z_llt, z_inj, z_injl, z_add, z_addl, z_ladd, z_mul, z_mull, z_lmul, z_neg, z_negl, z_in, z_inl, z_ltT, z_ltF, z_eqF, z_10, z_01, z_litne, z_ne0, z_0ne, z_ne1, z_1ne, z_lt64, z_02, z_03, z_04, z_05, z_12, z_13, z_14, z_15, z_20, z_21, z_23, z_24, z_25, z_30, z_31, z_32, z_34, z_35, z_40, z_41, z_42, z_43, z_45, z_50, z_51, z_52, z_53, z_54]
    · rw [if_neg g1]
      by_cases g2 : a = -1
      · rw [if_pos g2]
        simp (maxSteps := 1000000) (disch := omega) only [(fun d x0 x1 x2 x3 x4 x6 x7 B i => bk_281_91 d x0 x1 x2 x3 x4 x6 x7 (am_wI B i)), E1, g1, eq_true g2, hF, hY, y_ckd, y_ck2d, y_ond, y_onn, y_oI, y_oIx, y_oJ, y_oV, y_oVx, y_oR, y_oRn, y_oRx, y_b0, y_b1, y_bi, y_bid, y_wIK, y_wIL, y_wII, y_wIJ, y_wIR, y_wIN, y_wIw, y_sI, ↓reduceIte, Nat.reduceEqDiff, eq_self, true_or, or_true, false_or, or_false, and_true, true_and, false_and, and_false, not_true, not_false_eq_true, tf_T, tf_F, y_up1, y_up2, y_xx, y_nx, y_sJ, y_sR, Int32.reduceLT, y_nxK, y_nxL, y_nxR, y_sJK, y_sJL, y_sJR, y_sJN, y_sRK, y_sRL, y_sRN, Nat.add_zero, z_nat, z_lit, z_lit0, z_lit1, z_in0, z_in1, z_addl0, z_lt, z_ltl, z_llt, z_inj, z_injl, z_add, z_addl, z_ladd, z_mul, z_mull, z_lmul, z_neg, z_negl, z_in, z_inl, z_ltT, z_ltF, z_eqF, z_10, z_01, z_litne, z_ne0, z_0ne, z_ne1, z_1ne, z_lt64, z_02, z_03, z_04, z_05, z_12, z_13, z_14, z_15, z_20, z_21, z_23, z_24, z_25, z_30, z_31, z_32, z_34, z_35, z_40, z_41, z_42, z_43, z_45, z_50, z_51, z_52, z_53, z_54]
      · rw [if_neg g2]
        by_cases g3 : v < a
        · rw [if_pos g3]
          simp (maxSteps := 1000000) (disch := omega) only [(fun d x0 x1 x2 x3 x4 x6 x7 B i => bk_281_91 d x0 x1 x2 x3 x4 x6 x7 (am_wI B i)), E1, g1, g2, g3, hF, hY, y_ckd, y_ck2d, y_ond, y_onn, y_oI, y_oIx, y_oJ, y_oV, y_oVx, y_oR, y_oRn, y_oRx, y_b0, y_b1, y_bi, y_bid, y_wIK, y_wIL, y_wII, y_wIJ, y_wIR, y_wIN, y_wIw, y_sI, ↓reduceIte, Nat.reduceEqDiff, eq_self, true_or, or_true, false_or, or_false, and_true, true_and, false_and, and_false, not_true, not_false_eq_true, tf_T, tf_F, y_up1, y_up2, y_xx, y_nx, y_sJ, y_sR, Int32.reduceLT, y_nxK, y_nxL, y_nxR, y_sJK, y_sJL, y_sJR, y_sJN, y_sRK, y_sRL, y_sRN, Nat.add_zero, z_nat, z_lit, z_lit0, z_lit1, z_in0, z_in1, z_addl0, z_lt, z_ltl, z_llt, z_inj, z_injl, z_add, z_addl, z_ladd, z_mul, z_mull, z_lmul, z_neg, z_negl, z_in, z_inl, z_ltT, z_ltF, z_eqF, z_10, z_01, z_litne, z_ne0, z_0ne, z_ne1, z_1ne, z_lt64, z_02, z_03, z_04, z_05, z_12, z_13, z_14, z_15, z_20, z_21, z_23, z_24, z_25, z_30, z_31, z_32, z_34, z_35, z_40, z_41, z_42, z_43, z_45, z_50, z_51, z_52, z_53, z_54]
        · rw [if_neg g3]
          simp (maxSteps := 1000000) (disch := omega) only [(fun d x0 x1 x2 x3 x4 x5 x6 B i => bk_281_96 d x0 x1 x2 x3 x4 x5 x6 (am_wI B i)), E1, g1, g2, g3, hF, hY, y_ckd, y_ck2d, y_ond, y_onn, y_oI, y_oIx, y_oJ, y_oV, y_oVx, y_oR, y_oRn, y_oRx, y_b0, y_b1, y_bi, y_bid, y_wIK, y_wIL, y_wII, y_wIJ, y_wIR, y_wIN, y_wIw, y_sI, ↓reduceIte, Nat.reduceEqDiff, eq_self, true_or, or_true, false_or, or_false, and_true, true_and, false_and, and_false, not_true, not_false_eq_true, tf_T, tf_F, y_up1, y_up2, y_xx, y_nx, y_sJ, y_sR, Int32.reduceLT, y_nxK, y_nxL, y_nxR, y_sJK, y_sJL, y_sJR, y_sJN, y_sRK, y_sRL, y_sRN, Nat.add_zero, z_nat, z_lit, z_lit0, z_lit1, z_in0, z_in1, z_addl0, z_lt, z_ltl, z_llt, z_inj, z_injl, z_add, z_addl, z_ladd, z_mul, z_mull, z_lmul, z_neg, z_negl, z_in, z_inl, z_ltT, z_ltF, z_eqF, z_10, z_01, z_litne, z_ne0, z_0ne, z_ne1, z_1ne, z_lt64, z_02, z_03, z_04, z_05, z_12, z_13, z_14, z_15, z_20, z_21, z_23, z_24, z_25, z_30, z_31, z_32, z_34, z_35, z_40, z_41, z_42, z_43, z_45, z_50, z_51, z_52, z_53, z_54]) i0 fun _ _ _ => rfl
  refine ⟨j, ?_, fun q m h1 h2 => (hf q m h2).trans (hf0 q m h1)⟩
  rw [bk_281_0]
  have E2 := c_pow (B := B) (i := i0) (d := d + 1) c4 n6
  rw [Nat.pow_zero] at E2
  simp (maxSteps := 1000000) (disch := omega) only [E0, e12, c_min, emn, hF, hY, y_ckd, y_ck2d, y_ond, y_onn, y_oI, y_oIx, y_oJ, y_oV, y_oVx, y_oR, y_oRn, y_oRx, y_b0, y_b1, y_bi, y_bid, y_wIK, y_wIL, y_wII, y_wIJ, y_wIR, y_wIN, y_wIw, y_sI, ↓reduceIte, Nat.reduceEqDiff, eq_self, true_or, or_true, false_or, or_false, and_true, true_and, false_and, and_false, not_true, not_false_eq_true, tf_T, tf_F, y_up1, y_up2, y_xx, y_nx, y_sJ, y_sR, Int32.reduceLT, y_nxK, y_nxL, y_nxR, y_sJK, y_sJL, y_sJR, y_sJN, y_sRK, y_sRL, y_sRN]
  refine E2.trans (E.trans ?_)
  generalize gbs w r c n (c ^ n) (if c = 0 then 0 else -1) = v
  rw [bk_281_54]
  generalize c ^ n = T
  rw [if_neg Int32.lt_irrefl]
theorem f_gangs (h : CR B i σ) (hW : Wd σ.1) : FRs B i σ (am_fx am_P (d + 151) 328 0 [some (.ref 64)] [] (am_wI B i)) (.inl (some (.int (gbs σ.1 (wls σ.1 (cn σ.1 2621)).2 (wls σ.1 (cn σ.1 2621)).1 (min 6 (cn σ.1 3019)) ((wls σ.1 (cn σ.1 2621)).1 ^ min 6 (cn σ.1 3019)) (if (wls σ.1 (cn σ.1 2621)).1 = 0 then 0 else -1))))) := by
  have hF : Fc B := h.1.1
  have hY : Yd B 94 := h.1.2.1
  obtain ⟨i', E, hf⟩ := c_gangs (d := d + 148) hF hY h.2.1.2.2.2.2.1 h.2.1.2.2.2.1 hW
  refine FRs_s h (i' := i') ?_ fun q m hq _ _ _ _ _ => hf q m (by omega) (by omega)
  rw [bk_328_0]
  simp (maxSteps := 1000000) (disch := omega) only [E, hF, hY, y_ckd, y_ck2d, y_ond, y_onn, y_oI, y_oIx, y_oJ, y_oV, y_oVx, y_oR, y_oRn, y_oRx, y_b0, y_b1, y_bi, y_bid, y_wIK, y_wIL, y_wII, y_wIJ, y_wIR, y_wIN, y_wIw, y_sI, ↓reduceIte, Nat.reduceEqDiff, eq_self, true_or, or_true, false_or, or_false, and_true, true_and, false_and, and_false, not_true, not_false_eq_true, tf_T, tf_F, y_up1, y_up2, y_xx, y_nx, y_sJ, y_sR, Int32.reduceLT, y_nxK, y_nxL, y_nxR, y_sJK, y_sJL, y_sJR, y_sJN, y_sRK, y_sRL, y_sRN]
theorem m_way {c t n : Nat} (hM : Md B) (hw : ∀ s, s < 12042 → i 875 s = w s) (hc : 0 < c) (c4 : c ≤ 4) (ht : t < 2147483648) (n8 : n ≤ 8) (hr : ∀ m, m < c → i 887 m = r m) : ∃ i', am_fx am_P (d + 1) 114 128 [some (.ref 874), some (.int (Int32.ofNat c)), some (.int (Int32.ofNat n)), some (.int x), some (.int y), some (.int (Int32.ofNat t)), some (.int (Int32.ofNat 0)), none, none] [] (am_wI B i) = am_fx am_P (d + 1) 114 267 [some (.ref 874), some (.int (Int32.ofNat c)), some (.int (Int32.ofNat n)), some (.int x), some (.int y), some (.int (Int32.ofNat t)), none, some (.int (dys (stw w c t n) r c)), none] [] (am_wI B i') ∧ ∀ q m, q ≠ 888 → i' q m = i q m := by
  obtain ⟨i0, E0, hz, hf0⟩ := m_zero4 (B := B) (i := i) (d := d) (c := c) (t := t) (n := n) (x := x) (y := y) hM c4
  obtain ⟨i1, E1, hu, hf1⟩ := m_str (B := B) (i := i0) (d := d) (c := c) (t := t) (n := n) (x := x) (y := y) hM (fun s hs => (hf0 _ _ (by omega)).trans (hw s hs)) hc c4 ht n8 hz
  rw [Nat.pow_zero, Nat.div_one] at E1
  have E2 := m_days (B := B) (i := i1) (d := d) (c := c) (t := t) (x := Int32.ofNat n) (y := x) (z := y) (u := stw w c t n) (r := r) hM c4 hu (fun m hm => ((hf1 _ _ (by omega)).trans (hf0 _ _ (by omega))).trans (hr m hm))
  exact ⟨i1, E0.trans (E1.trans E2), fun q m hq => (hf1 q m hq).trans (hf0 q m hq)⟩
theorem m_pow {c n : Nat} (c4 : c ≤ 4) (n6 : n ≤ 6) : am_fx am_P (d + 1) 114 97 [some (.ref 874), some (.int (Int32.ofNat c)), some (.int (Int32.ofNat n)), some (.int x), some (.int (Int32.ofNat (c ^ 0))), some (.int (Int32.ofNat 0)), none, none, none] [] (am_wI B i) = am_fx am_P (d + 1) 114 118 [some (.ref 874), some (.int (Int32.ofNat c)), some (.int (Int32.ofNat n)), some (.int x), some (.int (Int32.ofNat (c ^ n))), some (.int (Int32.ofNat 0)), none, none, none] [] (am_wI B i) := by
  refine (lp_itr (fun k (_ : Unit) => am_fx am_P (d + 1) 114 97 [some (.ref 874), some (.int (Int32.ofNat c)), some (.int (Int32.ofNat n)), some (.int x), some (.int (Int32.ofNat (c ^ k))), some (.int (Int32.ofNat k)), none, none, none] [] (am_wI B i)) (fun _ v => v) n (fun k v hk => ?_) ()).trans ?_
  · rw [bk_114_97, Nat.pow_succ]
    generalize c ^ k = a
    simp (maxSteps := 1000000) (disch := omega) only [y_ckd, y_ck2d, y_ond, y_onn, y_oI, y_oIx, y_oJ, y_oV, y_oVx, y_oR, y_oRn, y_oRx, y_b0, y_b1, y_bi, y_bid, y_wIK, y_wIL, y_wII, y_wIJ, y_wIR, y_wIN, y_wIw, y_sI, ↓reduceIte, Nat.reduceEqDiff, eq_self, true_or, or_true, false_or, or_false, and_true, true_and, false_and, and_false, not_true, not_false_eq_true, tf_T, tf_F, y_up1, y_up2, y_xx, y_nx, y_sJ, y_sR, Int32.reduceLT, y_nxK, y_nxL, y_nxR, y_sJK, y_sJL, y_sJR, y_sJN, y_sRK, y_sRL, y_sRN, Nat.add_zero, z_nat, z_lit, z_lit0, z_lit1, z_in0, z_in1, z_addl0, z_lt, z_ltl, z_llt, z_inj, z_injl, z_add, z_addl, z_ladd, z_mul, z_mull, z_lmul, z_neg, z_negl, z_in, z_inl, z_ltT, z_ltF, z_eqF, z_10, z_01, z_litne, z_ne0, z_0ne, z_ne1, z_1ne, z_lt64, z_02, z_03, z_04, z_05, z_12, z_13, z_14, z_15, z_20, z_21, z_23, z_24, z_25, z_30, z_31, z_32, z_34, z_35, z_40, z_41, z_42, z_43, z_45, z_50, z_51, z_52, z_53, z_54]
  · rw [bk_114_97]
    generalize c ^ n = a
    simp (maxSteps := 1000000) (disch := omega) only [y_ckd, y_ck2d, y_ond, y_onn, y_oI, y_oIx, y_oJ, y_oV, y_oVx, y_oR, y_oRn, y_oRx, y_b0, y_b1, y_bi, y_bid, y_wIK, y_wIL, y_wII, y_wIJ, y_wIR, y_wIN, y_wIw, y_sI, ↓reduceIte, Nat.reduceEqDiff, eq_self, true_or, or_true, false_or, or_false, and_true, true_and, false_and, and_false, not_true, not_false_eq_true, tf_T, tf_F, y_up1, y_up2, y_xx, y_nx, y_sJ, y_sR, Int32.reduceLT, y_nxK, y_nxL, y_nxR, y_sJK, y_sJL, y_sJR, y_sJN, y_sRK, y_sRL, y_sRN, Nat.add_zero, z_nat, z_lit, z_lit0, z_lit1, z_in0, z_in1, z_addl0, z_lt, z_ltl, z_llt, z_inj, z_injl, z_add, z_addl, z_ladd, z_mul, z_mull, z_lmul, z_neg, z_negl, z_in, z_inl, z_ltT, z_ltF, z_eqF, z_10, z_01, z_litne, z_ne0, z_0ne, z_ne1, z_1ne, z_lt64, z_02, z_03, z_04, z_05, z_12, z_13, z_14, z_15, z_20, z_21, z_23, z_24, z_25, z_30, z_31, z_32, z_34, z_35, z_40, z_41, z_42, z_43, z_45, z_50, z_51, z_52, z_53, z_54]
    rfl
theorem m_all {c n : Nat} (hM : Md B) (hw : ∀ s, s < 12042 → i 875 s = w s) (hc : 0 < c) (c4 : c ≤ 4) (n6 : n ≤ 6) (hr : ∀ m, m < c → i 887 m = r m) : ∃ i', am_fx am_P (d + 1) 114 118 [some (.ref 874), some (.int (Int32.ofNat c)), some (.int (Int32.ofNat n)), some (.int (gbs w r c n 0 (-1))), some (.int (Int32.ofNat (c ^ n))), some (.int (Int32.ofNat 0)), none, none, none] [] (am_wI B i) = some (.inl (some (.int (gbs w r c n (c ^ n) (-1)))), am_wI B i') ∧ ∀ q m, q ≠ 888 → i' q m = i q m := by
  have hp := pw_le c4 n6
  obtain ⟨j, E, hf⟩ := lp_inv (fun k j => am_fx am_P (d + 1) 114 118 [some (.ref 874), some (.int (Int32.ofNat c)), some (.int (Int32.ofNat n)), some (.int (gbs w r c n k (-1))), some (.int (Int32.ofNat (c ^ n))), some (.int (Int32.ofNat k)), none, none, none] [] (am_wI B j)) (fun k j => ∀ q m, q ≠ 888 → j q m = i q m) (c ^ n) (fun k j hk hI => by
    obtain ⟨j1, E1, hf1⟩ := m_way (B := B) (i := j) (w := w) (r := r) (d := d) (c := c) (t := k) (n := n) (x := gbs w r c n k (-1)) (y := Int32.ofNat (c ^ n)) hM (fun s hs => (hI _ _ (by omega)).trans (hw s hs)) hc c4 (by omega) (by omega) fun m hm => (hI _ _ (by omega)).trans (hr m hm)
    refine ⟨j1, ?_, fun q m hq => (hf1 q m hq).trans (hI q m hq)⟩
    have hd := dys_nn (u := stw w c k n) (r := r) c
    have ha := gbs_nn (w := w) (r := r) (c := c) (n := n) (a := -1) (Or.inl rfl) k
    rw [bk_114_118, gbs_s]
    unfold fgb
    generalize dys (stw w c k n) r c = v at *
    generalize gbs w r c n k (-1) = a at *
    generalize c ^ n = T at *
    rw [if_pos (by rw [z_lt (by omega) (by omega)]; exact hk)]
    refine E1.trans ?_
    rw [bk_114_267]
    by_cases g1 : v = -1
    · rw [if_pos g1]
      subst g1
      simp (maxSteps := 1000000) (disch := omega) only [show ((-1 : Int32) < 0) = True from by decide, y_ckd, y_ck2d, y_ond, y_onn, y_oI, y_oIx, y_oJ, y_oV, y_oVx, y_oR, y_oRn, y_oRx, y_b0, y_b1, y_bi, y_bid, y_wIK, y_wIL, y_wII, y_wIJ, y_wIR, y_wIN, y_wIw, y_sI, ↓reduceIte, Nat.reduceEqDiff, eq_self, true_or, or_true, false_or, or_false, and_true, true_and, false_and, and_false, not_true, not_false_eq_true, tf_T, tf_F, y_up1, y_up2, y_xx, y_nx, y_sJ, y_sR, Int32.reduceLT, y_nxK, y_nxL, y_nxR, y_sJK, y_sJL, y_sJR, y_sJN, y_sRK, y_sRL, y_sRN, Nat.add_zero, z_nat, z_lit, z_lit0, z_lit1, z_in0, z_in1, z_addl0, z_lt, z_ltl, z_llt, z_inj, z_injl, z_add, z_addl, z_ladd, z_mul, z_mull, z_lmul, z_neg, z_negl, z_in, z_inl, z_ltT, z_ltF, z_eqF, z_10, z_01, z_litne, z_ne0, z_0ne, z_ne1, z_1ne, z_lt64, z_02, z_03, z_04, z_05, z_12, z_13, z_14, z_15, z_20, z_21, z_23, z_24, z_25, z_30, z_31, z_32, z_34, z_35, z_40, z_41, z_42, z_43, z_45, z_50, z_51, z_52, z_53, z_54]
    · rw [if_neg g1]
      have g1 := hd.resolve_left g1
      by_cases g2 : a = -1
      · rw [if_pos g2]
        subst g2
        simp (maxSteps := 1000000) (disch := omega) only [(fun d x0 x1 x2 x4 x5 x7 B i => bk_114_282 d x0 x1 x2 x4 x5 x7 (am_wI B i)), g1, show ((-1 : Int32) < 0) = True from by decide, y_ckd, y_ck2d, y_ond, y_onn, y_oI, y_oIx, y_oJ, y_oV, y_oVx, y_oR, y_oRn, y_oRx, y_b0, y_b1, y_bi, y_bid, y_wIK, y_wIL, y_wII, y_wIJ, y_wIR, y_wIN, y_wIw, y_sI, ↓reduceIte, Nat.reduceEqDiff, eq_self, true_or, or_true, false_or, or_false, and_true, true_and, false_and, and_false, not_true, not_false_eq_true, tf_T, tf_F, y_up1, y_up2, y_xx, y_nx, y_sJ, y_sR, Int32.reduceLT, y_nxK, y_nxL, y_nxR, y_sJK, y_sJL, y_sJR, y_sJN, y_sRK, y_sRL, y_sRN, Nat.add_zero, z_nat, z_lit, z_lit0, z_lit1, z_in0, z_in1, z_addl0, z_lt, z_ltl, z_llt, z_inj, z_injl, z_add, z_addl, z_ladd, z_mul, z_mull, z_lmul, z_neg, z_negl, z_in, z_inl, z_ltT, z_ltF, z_eqF, z_10, z_01, z_litne, z_ne0, z_0ne, z_ne1, z_1ne, z_lt64, z_02, z_03, z_04, z_05, z_12, z_13, z_14, z_15, z_20, z_21, z_23, z_24, z_25, z_30, z_31, z_32, z_34, z_35, z_40, z_41, z_42, z_43, z_45, z_50, z_51, z_52, z_53, z_54]
      · rw [if_neg g2]
        have g2 := ha.resolve_left g2
        by_cases g3 : v < a
        · rw [if_pos g3]
          simp (maxSteps := 1000000) (disch := omega) only [(fun d x0 x1 x2 x4 x5 x7 B i => bk_114_282 d x0 x1 x2 x4 x5 x7 (am_wI B i)), g1, g2, g3, y_ckd, y_ck2d, y_ond, y_onn, y_oI, y_oIx, y_oJ, y_oV, y_oVx, y_oR, y_oRn, y_oRx, y_b0, y_b1, y_bi, y_bid, y_wIK, y_wIL, y_wII, y_wIJ, y_wIR, y_wIN, y_wIw, y_sI, ↓reduceIte, Nat.reduceEqDiff, eq_self, true_or, or_true, false_or, or_false, and_true, true_and, false_and, and_false, not_true, not_false_eq_true, tf_T, tf_F, y_up1, y_up2, y_xx, y_nx, y_sJ, y_sR, Int32.reduceLT, y_nxK, y_nxL, y_nxR, y_sJK, y_sJL, y_sJR, y_sJN, y_sRK, y_sRL, y_sRN, Nat.add_zero, z_nat, z_lit, z_lit0, z_lit1, z_in0, z_in1, z_addl0, z_lt, z_ltl, z_llt, z_inj, z_injl, z_add, z_addl, z_ladd, z_mul, z_mull, z_lmul, z_neg, z_negl, z_in, z_inl, z_ltT, z_ltF, z_eqF, z_10, z_01, z_litne, z_ne0, z_0ne, z_ne1, z_1ne, z_lt64, z_02, z_03, z_04, z_05, z_12, z_13, z_14, z_15, z_20, z_21, z_23, z_24, z_25, z_30, z_31, z_32, z_34, z_35, z_40, z_41, z_42, z_43, z_45, z_50, z_51, z_52, z_53, z_54]
        · rw [if_neg g3]
          simp (maxSteps := 1000000) (disch := omega) only [g1, g2, g3, y_ckd, y_ck2d, y_ond, y_onn, y_oI, y_oIx, y_oJ, y_oV, y_oVx, y_oR, y_oRn, y_oRx, y_b0, y_b1, y_bi, y_bid, y_wIK, y_wIL, y_wII, y_wIJ, y_wIR, y_wIN, y_wIw, y_sI, ↓reduceIte, Nat.reduceEqDiff, eq_self, true_or, or_true, false_or, or_false, and_true, true_and, false_and, and_false, not_true, not_false_eq_true, tf_T, tf_F, y_up1, y_up2, y_xx, y_nx, y_sJ, y_sR, Int32.reduceLT, y_nxK, y_nxL, y_nxR, y_sJK, y_sJL, y_sJR, y_sJN, y_sRK, y_sRL, y_sRN, Nat.add_zero, z_nat, z_lit, z_lit0, z_lit1, z_in0, z_in1, z_addl0, z_lt, z_ltl, z_llt, z_inj, z_injl, z_add, z_addl, z_ladd, z_mul, z_mull, z_lmul, z_neg, z_negl, z_in, z_inl, z_ltT, z_ltF, z_eqF, z_10, z_01, z_litne, z_ne0, z_0ne, z_ne1, z_1ne, z_lt64, z_02, z_03, z_04, z_05, z_12, z_13, z_14, z_15, z_20, z_21, z_23, z_24, z_25, z_30, z_31, z_32, z_34, z_35, z_40, z_41, z_42, z_43, z_45, z_50, z_51, z_52, z_53, z_54]) i fun _ _ _ => rfl
  refine ⟨j, E.trans ?_, hf⟩
  generalize gbs w r c n (c ^ n) (-1) = v
  rw [bk_114_118]
  generalize c ^ n = T
  rw [if_neg Int32.lt_irrefl]
theorem m_gangs (h : MR B i σ) (hW : Wd σ.1) : MRs B i σ (am_fx am_P (d + 151) 114 0 [some (.ref 874), none, none, none, none, none, none, none, none] [] (am_wI B i)) (some (.int (gbs σ.1 (wls σ.1 (cn σ.1 2621)).2 (wls σ.1 (cn σ.1 2621)).1 (min 6 (cn σ.1 3019)) ((wls σ.1 (cn σ.1 2621)).1 ^ min 6 (cn σ.1 3019)) (if (wls σ.1 (cn σ.1 2621)).1 = 0 then 0 else -1)))) 0 := by
  have hM : Md B := h.1.1
  have hw := up_o (q := 874) (k := 0) (v := 0) (by omega) h.2.1
  have hg := hW.1.2.2.2.2.2.1
  have g8 := hg.2
  obtain ⟨i0, E0, c4, hr, hf0⟩ := m_list (d := d + 149) hM hw hW
  have e12 : i0 875 3019 = Int32.ofNat (cn σ.1 3019) := ((hf0 _ _ (by omega)).trans (hw _ (by omega))).trans hg.1
  have emn : mn 6 (Int32.ofNat (cn σ.1 3019)) = Int32.ofNat (min 6 (cn σ.1 3019)) := by
    by_cases g : cn σ.1 3019 < 6
    · rw [show mn 6 (Int32.ofNat (cn σ.1 3019)) = Int32.ofNat (cn σ.1 3019) from if_pos (by rw [show (6 : Int32) = Int32.ofNat 6 from rfl, z_lt (by omega) (by omega)]; exact g), show min 6 (cn σ.1 3019) = cn σ.1 3019 by omega]
    · rw [show mn 6 (Int32.ofNat (cn σ.1 3019)) = 6 from if_neg (by rw [show (6 : Int32) = Int32.ofNat 6 from rfl, z_lt (by omega) (by omega)]; exact g), show min 6 (cn σ.1 3019) = 6 by omega]; rfl
  have n6 : min 6 (cn σ.1 3019) ≤ 6 := Nat.min_le_left _ _
  have E00 : (am_fx am_P (d + 151) 114 0 [some (.ref 874), none, none, none, none, none, none, none, none] [] (am_wI B i)) = am_fx am_P (d + 151) 114 9 [some (.ref 874), some (.int (Int32.ofNat (wls σ.1 0).1)), some (.int (Int32.ofNat 0)), none, none, none, none, none, none] [] (am_wI B (am_up2 i 874 0 0)) := by
    rw [bk_114_0]
    simp (maxSteps := 1000000) (disch := omega) only [hM, y_ckd, y_ck2d, y_ond, y_onn, y_oI, y_oIx, y_oJ, y_oV, y_oVx, y_oR, y_oRn, y_oRx, y_b0, y_b1, y_bi, y_bid, y_wIK, y_wIL, y_wII, y_wIJ, y_wIR, y_wIN, y_wIw, y_sI, ↓reduceIte, Nat.reduceEqDiff, eq_self, true_or, or_true, false_or, or_false, and_true, true_and, false_and, and_false, not_true, not_false_eq_true, tf_T, tf_F, y_up1, y_up2, y_xx, y_nx, y_sJ, y_sR, Int32.reduceLT, y_nxK, y_nxL, y_nxR, y_sJK, y_sJL, y_sJR, y_sJN, y_sRK, y_sRL, y_sRN, Nat.add_zero, z_nat, z_lit, z_lit0, z_lit1, z_in0, z_in1, z_addl0, z_lt, z_ltl, z_llt, z_inj, z_injl, z_add, z_addl, z_ladd, z_mul, z_mull, z_lmul, z_neg, z_negl, z_in, z_inl, z_ltT, z_ltF, z_eqF, z_10, z_01, z_litne, z_ne0, z_0ne, z_ne1, z_1ne, z_lt64, z_02, z_03, z_04, z_05, z_12, z_13, z_14, z_15, z_20, z_21, z_23, z_24, z_25, z_30, z_31, z_32, z_34, z_35, z_40, z_41, z_42, z_43, z_45, z_50, z_51, z_52, z_53, z_54]
    rfl
  rw [E00]
  generalize (wls σ.1 (cn σ.1 2621)).1 = c at *
  generalize (wls σ.1 (cn σ.1 2621)).2 = r at *
  generalize min 6 (cn σ.1 3019) = n at *
  rw [E0, bk_114_69]
  by_cases c0 : c = 0
  · subst c0
    rw [if_pos (show Int32.ofNat 0 = 0 from rfl), if_pos rfl, gbs_0]
    exact MRs_s h rfl (by rw [hf0 _ _ (by omega), y_up1 rfl rfl]) fun q k hq hk => by rw [hf0 _ _ (by omega), y_up2 (by omega)]
  · have cz : ¬ Int32.ofNat c = 0 := by rw [show (0 : Int32) = Int32.ofNat 0 from rfl, z_inj (by omega) (by omega)]; exact c0
    rw [if_neg cz, if_neg c0]
    obtain ⟨i1, E1, hf1⟩ := m_all (B := B) (i := i0) (w := σ.1) (r := r) (d := d + 150) (c := c) (n := n) hM (fun s hs => (hf0 _ _ (by omega)).trans (hw s hs)) (by omega) c4 n6 hr
    have E2 := m_pow (B := B) (i := i0) (x := -1) (d := d + 150) c4 n6
    rw [Nat.pow_zero] at E2
    refine MRs_s h (i' := i1) ?_ (by rw [hf1 _ _ (by omega), hf0 _ _ (by omega), y_up1 rfl rfl]) fun q k hq hk => by rw [hf1 _ _ (by omega), hf0 _ _ (by omega), y_up2 (by omega)]
    simp (maxSteps := 1000000) (disch := omega) only [e12, c_min, emn, hM, y_ckd, y_ck2d, y_ond, y_onn, y_oI, y_oIx, y_oJ, y_oV, y_oVx, y_oR, y_oRn, y_oRx, y_b0, y_b1, y_bi, y_bid, y_wIK, y_wIL, y_wII, y_wIJ, y_wIR, y_wIN, y_wIw, y_sI, ↓reduceIte, Nat.reduceEqDiff, eq_self, true_or, or_true, false_or, or_false, and_true, true_and, false_and, and_false, not_true, not_false_eq_true, tf_T, tf_F, y_up1, y_up2, y_xx, y_nx, y_sJ, y_sR, Int32.reduceLT, y_nxK, y_nxL, y_nxR, y_sJK, y_sJL, y_sJR, y_sJN, y_sRK, y_sRL, y_sRN, z_inl, z_lit]
    exact E2.trans E1
theorem k_gangs (h : Sim B i σ) (hs : Sc B i L j) (hO : am_K B 892 = 22 ∧ am_L B 892 = 1) : Stq B i d 2804 j := by
  exact kk_36 h hs hO h.2.2 (f_gangs (d := d + 48) h.1 h.2.2.1) fun B0 i0 h0 => m_gangs (d := d + 48) h0 h.2.2.1
end Gangs4
