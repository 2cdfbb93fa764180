/-! TEXTS ON THE TAPE: a line, the class. Made by wip/whole/math/931.py. -/
section ClsF
variable {B : am_A} {i j k : Nat → Nat → Int32} {N : Nat → Nat} {d D L H p b e q n s f c v y : Nat} {u u' : Nat → Int32} {st s1 : PS} {x : am_X} {a : Nat × Nat}
theorem lin_0 : lin u n v y s (12044 + 4 * n) = Int32.ofNat v := by
  unfold lin
  rw [wu_ne (by omega), wu_ne (by omega), wu_ne (by omega), wu_at rfl]
theorem lin_1 : lin u n v y s (12044 + 4 * n + 1) = Int32.ofNat y := wu_at rfl
theorem lin_2 : lin u n v y s (12044 + 4 * n + 2) = Int32.ofNat s := by
  unfold lin
  rw [wu_ne (by omega), wu_ne (by omega), wu_at rfl]
theorem lin_3 : lin u n v y s (12044 + 4 * n + 3) = Int32.ofNat s := by
  unfold lin
  rw [wu_ne (by omega), wu_at rfl]
theorem lin_ne {z : Nat} (h : z < 12044 + 4 * n ∨ 12044 + 4 * n + 4 ≤ z) : lin u n v y s z = u z := by
  unfold lin
  rw [wu_ne (by omega), wu_ne (by omega), wu_ne (by omega), wu_ne (by omega)]
/-- from the number on -/
theorem c_line51 (hF : Fc B) (hX : Stx B i) (hc : CT N L i) (hl : LD N L (tb N L p) i) (hp : p ≤ L) (hv : v < 4) (hS : SC i st.2.1 st.2.2) (hL : LC i n st.2.2) (h12 : n < 12) (hsp : st.2.1 ≤ p) (hval : valS N L v p = .inr a) : LO B N L n i (am_fx am_P (d + 28 + 1) 201 51 [some (.ref 65), some (.int (Int32.ofNat v)), none] [.int (Int32.ofNat a.1)] (am_wI B i)) (lnE N L (ifS N L n v a.2 st.2.1 (lin st.2.2 n v a.1 st.2.1))) := by
  have l400 := hc.2.1
  obtain ⟨v1, v2, v3⟩ := valS_ok hval hp hv
  obtain ⟨t1, t2⟩ := tb_bnd (N := N) hp
  have e3 : i 65 3 = Int32.ofNat a.2 := by
    rw [hl.1]
    unfold valS at hval
    split at hval
    · cases hw : wix N (tb N L p) (lw N L (tb N L p)) [14, 15, 16, 17] 0 with
      | none => rw [hw] at hval; exact nomatch hval
      | some y =>
        rw [hw] at hval
        have := Sum.inr.inj hval
        subst this
        rw [tke_w (wix_lt (by decide) hw t2).1]
    · cases hw : num N L (tb N L p) (mos v) with
      | none => rw [hw] at hval; exact nomatch hval
      | some y =>
        rw [hw] at hval
        have := Sum.inr.inj hval
        subst this
        rw [tke_n (num_ok hw t2).1]
  obtain ⟨j1, E1, l1, s1, g1, f1⟩ := c_nextP (d := d + 28) hF hc e3 v2 hS
  have c1 := CT_FRc hc f1
  have x1 := Stx_FRc hX f1
  have m1 := nom1 (f := a.1) (by omega)
  have L1 : LC j1 n (lin st.2.2 n v a.1 st.2.1) := LC_u (LC_FRc hL f1) fun z hz => lin_ne (Or.inl hz)
  have S1 : SC j1 st.2.1 (lin st.2.2 n v a.1 st.2.1) := SC_u s1 fun z hz => lin_ne (by omega)
  obtain ⟨t3, t4⟩ := tb_bnd (N := N) v2
  unfold ifS
  by_cases g3 : v = 3
  · rw [if_pos g3]
    have R := c_line94 (d := d + 28) (s1 := (a.2, st.2.1, lin st.2.2 n v a.1 st.2.1)) hF c1 ⟨l1, S1⟩ L1 h12 lin_0 lin_1 lin_3 rfl v2
    refine LO_fr f1.l g1 ?_
    have e51 : am_fx am_P (d + 28 + 1) 201 51 [some (.ref 65), some (.int (Int32.ofNat v)), none] [.int (Int32.ofNat a.1)] (am_wI B i) = am_fx am_P (d + 28 + 1) 201 94 [some (.ref 65), some (.int (Int32.ofNat v)), some (.int (Int32.ofNat a.1))] [] (am_wI B j1) := by
      rw [bk_201_51]
      simp (disch := omega) only [m1, E1, g3, hF, y_ckd, y_ck2d, y_ond, y_onn, y_oI, y_oIx, y_oJ, y_oV, y_oVx, y_oR, y_oRn, y_oRx, y_b0, y_b1, y_bi, y_bid, y_wIK, y_wIL, y_wII, y_wIJ, y_wIR, y_wIN, y_wIw, y_sI, ↓reduceIte, Nat.reduceEqDiff, eq_self, true_or, or_true, false_or, or_false, and_true, true_and, false_and, and_false, not_true, not_false_eq_true, tf_T, tf_F, y_up1, y_up2, y_xx, y_nx, y_sJ, y_sR, Int32.reduceLT, y_nxK, y_nxL, y_nxR, y_sJK, y_sJL, y_sJR, y_sJN, y_sRK, y_sRL, y_sRN, Nat.add_zero, z_nat, z_lit, z_lit0, z_lit1, z_in0, z_in1, z_addl0, z_lt, z_ltl, z_llt, z_inj, z_injl, z_add, z_addl, z_ladd, z_mul, z_mull, z_lmul, z_neg, z_negl, z_in, z_inl, z_ltT, z_ltF, z_eqF, z_10, z_01, z_litne, z_ne0, z_0ne, z_ne1, z_1ne, z_lt64, z_02, z_03, z_04, z_05, z_12, z_13, z_14, z_15, z_20, z_21, z_23, z_24, z_25, z_30, z_31, z_32, z_34, z_35, z_40, z_41, z_42, z_43, z_45, z_50, z_51, z_52, z_53, z_54]
    rw [e51]
    exact R
  rw [if_neg g3]
  have n3 : ¬ Int32.ofNat v = 3 := fun q => g3 (by rw [z_injl (by omega) (by decide)] at q; exact q)
  have W := c_isW (d := d + 27) hF x1 c1 l1 t4 seg_4 (by decide) (by decide)
  have k4 := (x1 4 (by omega) (by omega)).1
  by_cases gi : isw N (tb N L a.2) (lw N L (tb N L a.2)) (sx 4)
  rotate_left
  · rw [if_neg gi] at W ⊢
    have R := c_line94 (d := d + 28) (s1 := (tb N L a.2, st.2.1, lin st.2.2 n v a.1 st.2.1)) hF c1 (CPt_tb (st := (a.2, st.2.1, lin st.2.2 n v a.1 st.2.1)) ⟨l1, S1⟩) L1 h12 lin_0 lin_1 lin_3 rfl t4
    refine LO_fr f1.l g1 ?_
    have e51 : am_fx am_P (d + 28 + 1) 201 51 [some (.ref 65), some (.int (Int32.ofNat v)), none] [.int (Int32.ofNat a.1)] (am_wI B i) = am_fx am_P (d + 28 + 1) 201 94 [some (.ref 65), some (.int (Int32.ofNat v)), some (.int (Int32.ofNat a.1))] [] (am_wI B j1) := by
      rw [bk_201_51]
      simp (disch := omega) only [m1, E1, n3, k4, W, hF, y_ckd, y_ck2d, y_ond, y_onn, y_oI, y_oIx, y_oJ, y_oV, y_oVx, y_oR, y_oRn, y_oRx, y_b0, y_b1, y_bi, y_bid, y_wIK, y_wIL, y_wII, y_wIJ, y_wIR, y_wIN, y_wIw, y_sI, ↓reduceIte, Nat.reduceEqDiff, eq_self, true_or, or_true, false_or, or_false, and_true, true_and, false_and, and_false, not_true, not_false_eq_true, tf_T, tf_F, y_up1, y_up2, y_xx, y_nx, y_sJ, y_sR, Int32.reduceLT, y_nxK, y_nxL, y_nxR, y_sJK, y_sJL, y_sJR, y_sJN, y_sRK, y_sRL, y_sRN, Nat.add_zero, z_nat, z_lit, z_lit0, z_lit1, z_in0, z_in1, z_addl0, z_lt, z_ltl, z_llt, z_inj, z_injl, z_add, z_addl, z_ladd, z_mul, z_mull, z_lmul, z_neg, z_negl, z_in, z_inl, z_ltT, z_ltF, z_eqF, z_10, z_01, z_litne, z_ne0, z_0ne, z_ne1, z_1ne, z_lt64, z_02, z_03, z_04, z_05, z_12, z_13, z_14, z_15, z_20, z_21, z_23, z_24, z_25, z_30, z_31, z_32, z_34, z_35, z_40, z_41, z_42, z_43, z_45, z_50, z_51, z_52, z_53, z_54]
    rw [e51]
    exact R
  rw [if_pos gi] at W ⊢
  obtain ⟨i1, i2, -⟩ := isw_lt gi (by decide) t4
  have e33 : j1 65 3 = Int32.ofNat (lw N L (tb N L a.2)) := by rw [l1.1, tke_w i1]
  obtain ⟨j2, E2, l2, s2, g2, f2⟩ := c_nextP (d := d + 28) hF c1 e33 i2 S1
  have c2 := CT_FRc c1 f2
  have x2 := Stx_FRc x1 f2
  have R := c_cond (d := d) hF j2 (lw N L (tb N L a.2), st.2.1, lin st.2.2 n v a.1 st.2.1) x2 c2 ⟨l2, s2⟩ i2 (by show st.2.1 ≤ lw N L (tb N L a.2); omega)
  dsimp only at R
  cases hr : cndS N L (atm N L 6) (lw N L (tb N L a.2), st.2.1, lin st.2.2 n v a.1 st.2.1) with
  | inl f =>
    rw [hr] at R
    obtain ⟨j3, E3, w3, f3⟩ := R
    refine ⟨j3, ?_, w3, ((f1.tr f2).tr f3).l⟩
    rw [bk_201_51]
    simp (disch := omega) only [m1, E1, n3, k4, W, E2, E3, bk_201_92, z_39, z_390, hF, y_ckd, y_ck2d, y_ond, y_onn, y_oI, y_oIx, y_oJ, y_oV, y_oVx, y_oR, y_oRn, y_oRx, y_b0, y_b1, y_bi, y_bid, y_wIK, y_wIL, y_wII, y_wIJ, y_wIR, y_wIN, y_wIw, y_sI, ↓reduceIte, Nat.reduceEqDiff, eq_self, true_or, or_true, false_or, or_false, and_true, true_and, false_and, and_false, not_true, not_false_eq_true, tf_T, tf_F, y_up1, y_up2, y_xx, y_nx, y_sJ, y_sR, Int32.reduceLT, y_nxK, y_nxL, y_nxR, y_sJK, y_sJL, y_sJR, y_sJN, y_sRK, y_sRL, y_sRN, Nat.add_zero, z_nat, z_lit, z_lit0, z_lit1, z_in0, z_in1, z_addl0, z_lt, z_ltl, z_llt, z_inj, z_injl, z_add, z_addl, z_ladd, z_mul, z_mull, z_lmul, z_neg, z_negl, z_in, z_inl, z_ltT, z_ltF, z_eqF, z_10, z_01, z_litne, z_ne0, z_0ne, z_ne1, z_1ne, z_lt64, z_02, z_03, z_04, z_05, z_12, z_13, z_14, z_15, z_20, z_21, z_23, z_24, z_25, z_30, z_31, z_32, z_34, z_35, z_40, z_41, z_42, z_43, z_45, z_50, z_51, z_52, z_53, z_54]
  | inr sa =>
    rw [hr] at R
    obtain ⟨j3, E3, w3, p3, f3⟩ := R
    obtain ⟨b1, b2, b3, b4, b5, b6⟩ := cndS_pr (atm_pr 6) (by omega) _ sa i2 hr
    dsimp only at b2 b3 b4 b5
    have fa := (f1.tr f2).tr f3
    have u5 : ∀ z, z < 12092 → sa.2.2 z = lin st.2.2 n v a.1 st.2.1 z := fun z hz => b5 z (by omega)
    refine LO_fr fa.l (w3.trans (g2.trans g1)) ?_
    have u6 : ∀ z, z ≠ 12044 + 4 * n + 3 → (lnd n sa).2.2 z = sa.2.2 z := fun z hz => wu_ne hz
    have R2 := c_line94 (d := d + 28) (v := v) (y := a.1) (s1 := lnd n sa) hF (CT_FRc hc fa) ⟨p3.1, SC_u p3.2 fun z hz => u6 z (by omega)⟩ (LC_u (LC_FRc L1 (f2.tr f3)) fun z hz => (u6 z (by omega)).trans (u5 z (by omega))) h12 ((u6 _ (by omega)).trans ((u5 _ (by omega)).trans lin_0)) ((u6 _ (by omega)).trans ((u5 _ (by omega)).trans lin_1)) (wu_at rfl) rfl b1
    have e51 : am_fx am_P (d + 28 + 1) 201 51 [some (.ref 65), some (.int (Int32.ofNat v)), none] [.int (Int32.ofNat a.1)] (am_wI B i) = am_fx am_P (d + 28 + 1) 201 94 [some (.ref 65), some (.int (Int32.ofNat v)), some (.int (Int32.ofNat a.1))] [] (am_wI B j3) := by
      rw [bk_201_51]
      simp (disch := omega) only [m1, E1, n3, k4, W, E2, E3, z_39, z_390, hF, y_ckd, y_ck2d, y_ond, y_onn, y_oI, y_oIx, y_oJ, y_oV, y_oVx, y_oR, y_oRn, y_oRx, y_b0, y_b1, y_bi, y_bid, y_wIK, y_wIL, y_wII, y_wIJ, y_wIR, y_wIN, y_wIw, y_sI, ↓reduceIte, Nat.reduceEqDiff, eq_self, true_or, or_true, false_or, or_false, and_true, true_and, false_and, and_false, not_true, not_false_eq_true, tf_T, tf_F, y_up1, y_up2, y_xx, y_nx, y_sJ, y_sR, Int32.reduceLT, y_nxK, y_nxL, y_nxR, y_sJK, y_sJL, y_sJR, y_sJN, y_sRK, y_sRL, y_sRN, Nat.add_zero, z_nat, z_lit, z_lit0, z_lit1, z_in0, z_in1, z_addl0, z_lt, z_ltl, z_llt, z_inj, z_injl, z_add, z_addl, z_ladd, z_mul, z_mull, z_lmul, z_neg, z_negl, z_in, z_inl, z_ltT, z_ltF, z_eqF, z_10, z_01, z_litne, z_ne0, z_0ne, z_ne1, z_1ne, z_lt64, z_02, z_03, z_04, z_05, z_12, z_13, z_14, z_15, z_20, z_21, z_23, z_24, z_25, z_30, z_31, z_32, z_34, z_35, z_40, z_41, z_42, z_43, z_45, z_50, z_51, z_52, z_53, z_54]
    rw [e51]
    exact R2
theorem c_line (hF : Fc B) (hX : Stx B i) (hc : CT N L i) (hp : CPt N L i st) (hL : LC i n st.2.2) (h12 : n < 12) (h1 : st.1 ≤ L) (h2 : st.2.1 ≤ st.1) : LO B N L n i (am_fx am_P (d + 29) 201 0 [some (.ref 65), none, none] [] (am_wI B i)) (lnE N L (lnS N L n st)) := by
  have l400 := hc.2.1
  obtain ⟨hl, hs⟩ := hp
  obtain ⟨t1, t2⟩ := tb_bnd (N := N) (L := L) h1
  have W := c_among (d := d + 28) hF hX hc hl t2 seg_2 (by decide) (by decide)
  have k2 := (hX 2 (by omega) (by omega)).1
  have L7 := hL.1
  unfold lnS
  rw [show d + 29 = d + 28 + 1 by omega]
  cases hw : wix N (tb N L st.1) (lw N L (tb N L st.1)) [10, 11, 12, 13] 0 with
  | none =>
    rw [hw] at W
    have Wr := c_wrong (d := d + 28) hF hl.2.1
    refine LO_bad ?_
    rw [bk_201_0]
    simp (disch := omega) only [k2, W, txn, bk_201_21, Wr, hF, y_ckd, y_ck2d, y_ond, y_onn, y_oI, y_oIx, y_oJ, y_oV, y_oVx, y_oR, y_oRn, y_oRx, y_b0, y_b1, y_bi, y_bid, y_wIK, y_wIL, y_wII, y_wIJ, y_wIR, y_wIN, y_wIw, y_sI, ↓reduceIte, Nat.reduceEqDiff, eq_self, true_or, or_true, false_or, or_false, and_true, true_and, false_and, and_false, not_true, not_false_eq_true, tf_T, tf_F, y_up1, y_up2, y_xx, y_nx, y_sJ, y_sR, Int32.reduceLT, y_nxK, y_nxL, y_nxR, y_sJK, y_sJL, y_sJR, y_sJN, y_sRK, y_sRL, y_sRN, Nat.add_zero, z_nat, z_lit, z_lit0, z_lit1, z_in0, z_in1, z_addl0, z_lt, z_ltl, z_llt, z_inj, z_injl, z_add, z_addl, z_ladd, z_mul, z_mull, z_lmul, z_neg, z_negl, z_in, z_inl, z_ltT, z_ltF, z_eqF, z_10, z_01, z_litne, z_ne0, z_0ne, z_ne1, z_1ne, z_lt64, z_02, z_03, z_04, z_05, z_12, z_13, z_14, z_15, z_20, z_21, z_23, z_24, z_25, z_30, z_31, z_32, z_34, z_35, z_40, z_41, z_42, z_43, z_45, z_50, z_51, z_52, z_53, z_54]
  | some v =>
    rw [hw] at W
    obtain ⟨a1, a2, a3⟩ := wix_lt (by decide) hw t2
    have a3 : v < 4 := a3
    have m1 := nom1 (f := v) (by omega)
    have e3 : i 65 3 = Int32.ofNat (lw N L (tb N L st.1)) := by rw [hl.1, tke_w a1]
    obtain ⟨j1, E1, l1, s1, g1, f1⟩ := c_nextP (d := d + 28) hF hc e3 a2 hs
    have c1 := CT_FRc hc f1
    have x1 := Stx_FRc hX f1
    have k3 := (x1 3 (by omega) (by omega)).1
    obtain ⟨t3, t4⟩ := tb_bnd (N := N) a2
    dsimp only
    -- the number
    have E51 : ∀ z : Int32, (v = 0 → txn (wix N (tb N L (lw N L (tb N L st.1))) (lw N L (tb N L (lw N L (tb N L st.1)))) [14, 15, 16, 17] 0) = z) → (v ≠ 0 → txn (num N L (tb N L (lw N L (tb N L st.1))) (mos v)) = z) → am_fx am_P (d + 28 + 1) 201 0 [some (.ref 65), none, none] [] (am_wI B i) = am_fx am_P (d + 28 + 1) 201 51 [some (.ref 65), some (.int (Int32.ofNat v)), none] [.int z] (am_wI B j1) := by
      intro z z0 z1
      by_cases v0 : v = 0
      · have W3 := c_among (d := d + 28) hF x1 c1 l1 t4 seg_3 (by decide) (by decide)
        rw [z0 v0] at W3
        subst v0
        rw [bk_201_0]
        simp (disch := omega) only [k2, k3, L7, W, W3, txn, m1, E1, h12, hF, y_ckd, y_ck2d, y_ond, y_onn, y_oI, y_oIx, y_oJ, y_oV, y_oVx, y_oR, y_oRn, y_oRx, y_b0, y_b1, y_bi, y_bid, y_wIK, y_wIL, y_wII, y_wIJ, y_wIR, y_wIN, y_wIw, y_sI, ↓reduceIte, Nat.reduceEqDiff, eq_self, true_or, or_true, false_or, or_false, and_true, true_and, false_and, and_false, not_true, not_false_eq_true, tf_T, tf_F, y_up1, y_up2, y_xx, y_nx, y_sJ, y_sR, Int32.reduceLT, y_nxK, y_nxL, y_nxR, y_sJK, y_sJL, y_sJR, y_sJN, y_sRK, y_sRL, y_sRN, Nat.add_zero, z_nat, z_lit, z_lit0, z_lit1, z_in0, z_in1, z_addl0, z_lt, z_ltl, z_llt, z_inj, z_injl, z_add, z_addl, z_ladd, z_mul, z_mull, z_lmul, z_neg, z_negl, z_in, z_inl, z_ltT, z_ltF, z_eqF, z_10, z_01, z_litne, z_ne0, z_0ne, z_ne1, z_1ne, z_lt64, z_02, z_03, z_04, z_05, z_12, z_13, z_14, z_15, z_20, z_21, z_23, z_24, z_25, z_30, z_31, z_32, z_34, z_35, z_40, z_41, z_42, z_43, z_45, z_50, z_51, z_52, z_53, z_54]
      · have n0 : ¬ Int32.ofNat v = 0 := fun q => v0 (by rw [show (0 : Int32) = Int32.ofNat 0 from rfl, z_inj (by omega) (by omega)] at q; exact q)
        have em : am_fx am_P (d + 28) 202 0 [some (.int (Int32.ofNat v))] [] (am_wI B j1) = some (.inl (some (.int (Int32.ofNat (mos v)))), am_wI B j1) := by
          have h : v = 1 ∨ v = 2 ∨ v = 3 := by omega
          rw [bk_202_0]
          rcases h with rfl | rfl | rfl <;> rfl
        have ml : mos v ≤ 99999 := by
          unfold mos
          split
          · omega
          · split <;> omega
        have W3 := c_upTo (d := d + 28) (c := Int32.ofNat (mos v)) (hi := mos v) hF rfl (by omega) l1 t4 l400
        rw [z1 v0] at W3
        rw [bk_201_0]
        simp (disch := omega) only [k2, k3, L7, W, W3, txn, m1, n0, em, E1, h12, hF, y_ckd, y_ck2d, y_ond, y_onn, y_oI, y_oIx, y_oJ, y_oV, y_oVx, y_oR, y_oRn, y_oRx, y_b0, y_b1, y_bi, y_bid, y_wIK, y_wIL, y_wII, y_wIJ, y_wIR, y_wIN, y_wIw, y_sI, ↓reduceIte, Nat.reduceEqDiff, eq_self, true_or, or_true, false_or, or_false, and_true, true_and, false_and, and_false, not_true, not_false_eq_true, tf_T, tf_F, y_up1, y_up2, y_xx, y_nx, y_sJ, y_sR, Int32.reduceLT, y_nxK, y_nxL, y_nxR, y_sJK, y_sJL, y_sJR, y_sJN, y_sRK, y_sRL, y_sRN, Nat.add_zero, z_nat, z_lit, z_lit0, z_lit1, z_in0, z_in1, z_addl0, z_lt, z_ltl, z_llt, z_inj, z_injl, z_add, z_addl, z_ladd, z_mul, z_mull, z_lmul, z_neg, z_negl, z_in, z_inl, z_ltT, z_ltF, z_eqF, z_10, z_01, z_litne, z_ne0, z_0ne, z_ne1, z_1ne, z_lt64, z_02, z_03, z_04, z_05, z_12, z_13, z_14, z_15, z_20, z_21, z_23, z_24, z_25, z_30, z_31, z_32, z_34, z_35, z_40, z_41, z_42, z_43, z_45, z_50, z_51, z_52, z_53, z_54]
    cases hv : valS N L v (lw N L (tb N L st.1)) with
    | inl f =>
      have ev : f = tb N L (lw N L (tb N L st.1)) ∧ (v = 0 → txn (wix N (tb N L (lw N L (tb N L st.1))) (lw N L (tb N L (lw N L (tb N L st.1)))) [14, 15, 16, 17] 0) = -1) ∧ (v ≠ 0 → txn (num N L (tb N L (lw N L (tb N L st.1))) (mos v)) = -1) := by
        unfold valS at hv
        split at hv
        · next v0 =>
          cases hq : wix N (tb N L (lw N L (tb N L st.1))) (lw N L (tb N L (lw N L (tb N L st.1)))) [14, 15, 16, 17] 0 with
          | none => rw [hq] at hv; exact ⟨(Sum.inl.inj hv).symm, fun _ => rfl, fun q => absurd v0 q⟩
          | some y => rw [hq] at hv; exact nomatch hv
        · next v0 =>
          cases hq : num N L (tb N L (lw N L (tb N L st.1))) (mos v) with
          | none => rw [hq] at hv; exact ⟨(Sum.inl.inj hv).symm, fun q => absurd q v0, fun _ => rfl⟩
          | some y => rw [hq] at hv; exact nomatch hv
      have Wr := c_wrong (d := d + 28) hF l1.2.1
      rw [E51 (-1) ev.2.1 ev.2.2, ev.1]
      refine LO_fr f1.l g1 (LO_bad ?_)
      rw [bk_201_51]
      simp (disch := omega) only [Wr, hF, y_ckd, y_ck2d, y_ond, y_onn, y_oI, y_oIx, y_oJ, y_oV, y_oVx, y_oR, y_oRn, y_oRx, y_b0, y_b1, y_bi, y_bid, y_wIK, y_wIL, y_wII, y_wIJ, y_wIR, y_wIN, y_wIw, y_sI, ↓reduceIte, Nat.reduceEqDiff, eq_self, true_or, or_true, false_or, or_false, and_true, true_and, false_and, and_false, not_true, not_false_eq_true, tf_T, tf_F, y_up1, y_up2, y_xx, y_nx, y_sJ, y_sR, Int32.reduceLT, y_nxK, y_nxL, y_nxR, y_sJK, y_sJL, y_sJR, y_sJN, y_sRK, y_sRL, y_sRN, Nat.add_zero, z_nat, z_lit, z_lit0, z_lit1, z_in0, z_in1, z_addl0, z_lt, z_ltl, z_llt, z_inj, z_injl, z_add, z_addl, z_ladd, z_mul, z_mull, z_lmul, z_neg, z_negl, z_in, z_inl, z_ltT, z_ltF, z_eqF, z_10, z_01, z_litne, z_ne0, z_0ne, z_ne1, z_1ne, z_lt64, z_02, z_03, z_04, z_05, z_12, z_13, z_14, z_15, z_20, z_21, z_23, z_24, z_25, z_30, z_31, z_32, z_34, z_35, z_40, z_41, z_42, z_43, z_45, z_50, z_51, z_52, z_53, z_54]
    | inr a =>
      have ev : (v = 0 → txn (wix N (tb N L (lw N L (tb N L st.1))) (lw N L (tb N L (lw N L (tb N L st.1)))) [14, 15, 16, 17] 0) = Int32.ofNat a.1) ∧ (v ≠ 0 → txn (num N L (tb N L (lw N L (tb N L st.1))) (mos v)) = Int32.ofNat a.1) := by
        have hv' := hv
        unfold valS at hv'
        split at hv'
        · next v0 =>
          cases hq : wix N (tb N L (lw N L (tb N L st.1))) (lw N L (tb N L (lw N L (tb N L st.1)))) [14, 15, 16, 17] 0 with
          | none => rw [hq] at hv'; exact nomatch hv'
          | some y =>
            rw [hq] at hv'
            have := Sum.inr.inj hv'
            subst this
            exact ⟨fun _ => rfl, fun q => absurd v0 q⟩
        · next v0 =>
          cases hq : num N L (tb N L (lw N L (tb N L st.1))) (mos v) with
          | none => rw [hq] at hv'; exact nomatch hv'
          | some y =>
            rw [hq] at hv'
            have := Sum.inr.inj hv'
            subst this
            exact ⟨fun q => absurd q v0, fun _ => rfl⟩
      rw [E51 _ ev.1 ev.2]
      exact LO_fr f1.l g1 (c_line51 (d := d) (st := st) hF x1 c1 l1 a2 a3 s1 (LC_FRc hL f1) h12 (by omega) hv)
end ClsF
