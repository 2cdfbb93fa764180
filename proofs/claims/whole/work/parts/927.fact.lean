/-! TEXTS ON THE TAPE, the class: a fact, a tag. Made by wip/whole/math/927.py. -/
section ClsB
variable {B : am_A} {i j k : Nat → Nat → Int32} {N : Nat → Nat} {d L p b e q n s f c : Nat} {u : Nat → Int32} {st : PS} {x : am_X} {r : PR} {qs : List Nat}
theorem tke_w (h : b < lw N L b) : tke N L b = lw N L b := by
  have g : b < L ∧ 97 ≤ N b ∧ N b ≤ 122 := Classical.byContradiction fun q => by
    rw [show lw N L b = b from rn_0 q] at h
    exact Nat.lt_irrefl _ h
  unfold tke
  rw [if_pos g.1, if_pos g.2]
theorem tke_n (h : b < rn N L 48 57 b) : tke N L b = rn N L 48 57 b := by
  have g : b < L ∧ 48 ≤ N b ∧ N b ≤ 57 := Classical.byContradiction fun q => by
    rw [show rn N L 48 57 b = b from rn_0 q] at h
    exact Nat.lt_irrefl _ h
  unfold tke
  rw [if_pos g.1, if_neg (by omega), if_pos g.2]
theorem tke_s (h : b < L) (h1 : ¬ (97 ≤ N b ∧ N b ≤ 122)) (h2 : ¬ (48 ≤ N b ∧ N b ≤ 57)) : tke N L b = b + 1 := by
  unfold tke
  rw [if_pos h, if_neg h1, if_neg h2]
theorem nom1 (h : f < 2147483648) : ¬ Int32.ofNat f = -1 := fun qq => by
  have := congrArg Int32.toInt qq
  rw [Int32.toInt_ofNat_of_lt h] at this
  have c : (-1 : Int32).toInt = -1 := by decide
  omega
/-- one thing further -/
theorem c_nextP (hF : Fc B) (hc : CT N L i) (e3 : i 65 3 = Int32.ofNat p) (hp : p ≤ L) (hs : SC i s u) : ∃ j, am_fx am_P d 211 0 [some (.ref 65)] [] (am_wI B i) = some (.inl none, am_wI B j) ∧ LD N L (tb N L p) j ∧ SC j s u ∧ j 65 2 = i 65 2 ∧ FRc i j := by
  obtain ⟨j, E, h, f⟩ := c_next (d := d) hF hc e3 hp
  exact ⟨j, E, h, SC_fr hs (f _ _ (by omega)) (fun k => f _ _ (by omega)), f _ _ (by omega), fun q k a b => f q k (by omega)⟩
theorem c_addP {a c v : Int32} (hF : Fc B) (hs : SC i s u) (h4 : s < 400) (hv : enc a c = v) : ∃ j, am_fx am_P d 209 0 [some (.ref 65), some (.int v)] [] (am_wI B i) = some (.inl none, am_wI B j) ∧ SC j (s + 1) (emt u s a c) ∧ j 65 2 = i 65 2 ∧ (∀ k, k < 10 → j 65 k = i 65 k) ∧ FRc i j := by
  obtain ⟨j, E, h, f⟩ := c_add (d := d) hF hs h4 hv
  exact ⟨j, E, h, f _ _ (by omega) (by omega), fun k hk => f _ _ (by omega) (by omega), fun q k a b => f q k a (by omega)⟩
theorem LD_fr (h : LD N L b i) (h2 : ∀ k, k < 10 → j 65 k = i 65 k) : LD N L b j := ⟨(h2 3 (by omega)).trans h.1, (h2 4 (by omega)).trans h.2.1, (h2 5 (by omega)).trans h.2.2.1, (h2 6 (by omega)).trans h.2.2.2⟩
theorem c_fact46 {x2 : Int32} (hF : Fc B) (hc : CT N L i) (hl : LD N L b i) (hb : b < L) (hx : (x2 = 0 ∧ c = 200 ∧ N b = 62) ∨ (x2 = 1 ∧ c = 100 ∧ N b = 60)) (hs : SC i st.2.1 st.2.2) (h4 : st.2.1 ≤ st.1) (h5 : st.1 ≤ b) (hf : f < 6) : PO B N L i (am_fx am_P (d + 1) 208 46 [some (.ref 65), some (.int (Int32.ofNat f)), some (.int x2), none] [] (am_wI B i)) (facS N L c f b st) := by
  have l400 := hc.2.1
  have e3 : i 65 3 = Int32.ofNat (b + 1) := by
    rw [hl.1, tke_s hb (by omega) (by omega)]
  obtain ⟨j1, E1, l1, s1, g1, f1⟩ := c_nextP (d := d) hF hc e3 (by omega) hs
  have c1 := CT_FRc hc f1
  obtain ⟨t1, t2⟩ := tb_bnd (N := N) (L := L) (p := b + 1) (by omega)
  have U := c_upTo (d := d) (c := 99999) (hi := 99999) hF rfl (by omega) l1 t2 l400
  unfold facS
  generalize hb3 : tb N L (b + 1) = b3 at l1 t1 t2 U
  rw [bk_208_46]
  cases hn : num N L b3 99999 with
  | none =>
    rw [hn] at U
    have W := c_wrong (d := d) hF l1.2.1
    refine PO_fr f1 g1 (PO_bad ?_)
    simp (disch := omega) only [E1, U, W, txn, hF, y_ckd, y_ck2d, y_ond, y_onn, y_oI, y_oIx, y_oJ, y_oV, y_oVx, y_oR, y_oRn, y_oRx, y_b0, y_b1, y_bi, y_bid, y_wIK, y_wIL, y_wII, y_wIJ, y_wIR, y_wIN, y_wIw, y_sI, ↓reduceIte, Nat.reduceEqDiff, eq_self, true_or, or_true, false_or, or_false, and_true, true_and, false_and, and_false, not_true, not_false_eq_true, tf_T, tf_F, y_up1, y_up2, y_xx, y_nx, y_sJ, y_sR, Int32.reduceLT, y_nxK, y_nxL, y_nxR, y_sJK, y_sJL, y_sJR, y_sJN, y_sRK, y_sRL, y_sRN, Nat.add_zero, z_nat, z_lit, z_lit0, z_lit1, z_in0, z_in1, z_addl0, z_lt, z_ltl, z_llt, z_inj, z_injl, z_add, z_addl, z_ladd, z_mul, z_mull, z_lmul, z_neg, z_negl, z_in, z_inl, z_ltT, z_ltF, z_eqF, z_10, z_01, z_litne, z_ne0, z_0ne, z_ne1, z_1ne, z_lt64, z_02, z_03, z_04, z_05, z_12, z_13, z_14, z_15, z_20, z_21, z_23, z_24, z_25, z_30, z_31, z_32, z_34, z_35, z_40, z_41, z_42, z_43, z_45, z_50, z_51, z_52, z_53, z_54]
  | some v =>
    rw [hn] at U
    obtain ⟨n1, n2, n3⟩ := num_ok hn t2
    have m1 := nom1 (f := v) (by omega)
    have e4 : enc (Int32.ofNat (c + f)) (Int32.ofNat v) = (((if x2 = 0 then 2 else 1 : Int32) ||| (Int32.ofNat f <<< (3 &&& 31))) ||| (Int32.ofNat v <<< (6 &&& 31))) := by
      rcases hx with ⟨h0, h1, -⟩ | ⟨h0, h1, -⟩
      · rw [h0, h1]
        exact (enc_fct hf).2
      · rw [h0, h1]
        exact (enc_fct hf).1
    obtain ⟨j2, E2, s2, g2, k2, f2⟩ := c_addP (d := d) (i := j1) hF s1 (by omega) e4
    have l2 := LD_fr l1 k2
    have e23 : j2 65 3 = Int32.ofNat (rn N L 48 57 b3) := by rw [l2.1, tke_n n1]
    obtain ⟨j3, E3, l3, s3, g3, f3⟩ := c_nextP (d := d) hF (CT_FRc c1 f2) e23 n2 s2
    refine ⟨j3, ?_, g3.trans (g2.trans g1), ⟨l3, s3⟩, (f1.tr f2).tr f3⟩
    rcases hx with ⟨h0, h1, -⟩ | ⟨h0, h1, -⟩
    · rw [if_pos h0] at E2
      subst h0
      simp (disch := omega) only [E1, U, m1, txn, bk_208_77, bk_176_0, hF, y_ckd, y_ck2d, y_ond, y_onn, y_oI, y_oIx, y_oJ, y_oV, y_oVx, y_oR, y_oRn, y_oRx, y_b0, y_b1, y_bi, y_bid, y_wIK, y_wIL, y_wII, y_wIJ, y_wIR, y_wIN, y_wIw, y_sI, ↓reduceIte, Nat.reduceEqDiff, eq_self, true_or, or_true, false_or, or_false, and_true, true_and, false_and, and_false, not_true, not_false_eq_true, tf_T, tf_F, y_up1, y_up2, y_xx, y_nx, y_sJ, y_sR, Int32.reduceLT, y_nxK, y_nxL, y_nxR, y_sJK, y_sJL, y_sJR, y_sJN, y_sRK, y_sRL, y_sRN, Nat.add_zero, z_nat, z_lit, z_lit0, z_lit1, z_in0, z_in1, z_addl0, z_lt, z_ltl, z_llt, z_inj, z_injl, z_add, z_addl, z_ladd, z_mul, z_mull, z_lmul, z_neg, z_negl, z_in, z_inl, z_ltT, z_ltF, z_eqF, z_10, z_01, z_litne, z_ne0, z_0ne, z_ne1, z_1ne, z_lt64, z_02, z_03, z_04, z_05, z_12, z_13, z_14, z_15, z_20, z_21, z_23, z_24, z_25, z_30, z_31, z_32, z_34, z_35, z_40, z_41, z_42, z_43, z_45, z_50, z_51, z_52, z_53, z_54]
      simp (disch := omega) only [E2, E3, hF, y_ckd, y_ck2d, y_ond, y_onn, y_oI, y_oIx, y_oJ, y_oV, y_oVx, y_oR, y_oRn, y_oRx, y_b0, y_b1, y_bi, y_bid, y_wIK, y_wIL, y_wII, y_wIJ, y_wIR, y_wIN, y_wIw, y_sI, ↓reduceIte, Nat.reduceEqDiff, eq_self, true_or, or_true, false_or, or_false, and_true, true_and, false_and, and_false, not_true, not_false_eq_true, tf_T, tf_F, y_up1, y_up2, y_xx, y_nx, y_sJ, y_sR, Int32.reduceLT, y_nxK, y_nxL, y_nxR, y_sJK, y_sJL, y_sJR, y_sJN, y_sRK, y_sRL, y_sRN, Nat.add_zero, z_nat, z_lit, z_lit0, z_lit1, z_in0, z_in1, z_addl0, z_lt, z_ltl, z_llt, z_inj, z_injl, z_add, z_addl, z_ladd, z_mul, z_mull, z_lmul, z_neg, z_negl, z_in, z_inl, z_ltT, z_ltF, z_eqF, z_10, z_01, z_litne, z_ne0, z_0ne, z_ne1, z_1ne, z_lt64, z_02, z_03, z_04, z_05, z_12, z_13, z_14, z_15, z_20, z_21, z_23, z_24, z_25, z_30, z_31, z_32, z_34, z_35, z_40, z_41, z_42, z_43, z_45, z_50, z_51, z_52, z_53, z_54]
    · rw [if_neg (by rw [h0]; decide)] at E2
      subst h0
      simp (disch := omega) only [E1, U, m1, txn, bk_208_77, bk_176_0, z_39, z_390, hF, y_ckd, y_ck2d, y_ond, y_onn, y_oI, y_oIx, y_oJ, y_oV, y_oVx, y_oR, y_oRn, y_oRx, y_b0, y_b1, y_bi, y_bid, y_wIK, y_wIL, y_wII, y_wIJ, y_wIR, y_wIN, y_wIw, y_sI, ↓reduceIte, Nat.reduceEqDiff, eq_self, true_or, or_true, false_or, or_false, and_true, true_and, false_and, and_false, not_true, not_false_eq_true, tf_T, tf_F, y_up1, y_up2, y_xx, y_nx, y_sJ, y_sR, Int32.reduceLT, y_nxK, y_nxL, y_nxR, y_sJK, y_sJL, y_sJR, y_sJN, y_sRK, y_sRL, y_sRN, Nat.add_zero, z_nat, z_lit, z_lit0, z_lit1, z_in0, z_in1, z_addl0, z_lt, z_ltl, z_llt, z_inj, z_injl, z_add, z_addl, z_ladd, z_mul, z_mull, z_lmul, z_neg, z_negl, z_in, z_inl, z_ltT, z_ltF, z_eqF, z_10, z_01, z_litne, z_ne0, z_0ne, z_ne1, z_1ne, z_lt64, z_02, z_03, z_04, z_05, z_12, z_13, z_14, z_15, z_20, z_21, z_23, z_24, z_25, z_30, z_31, z_32, z_34, z_35, z_40, z_41, z_42, z_43, z_45, z_50, z_51, z_52, z_53, z_54]
      simp (disch := omega) only [E2, E3, hF, y_ckd, y_ck2d, y_ond, y_onn, y_oI, y_oIx, y_oJ, y_oV, y_oVx, y_oR, y_oRn, y_oRx, y_b0, y_b1, y_bi, y_bid, y_wIK, y_wIL, y_wII, y_wIJ, y_wIR, y_wIN, y_wIw, y_sI, ↓reduceIte, Nat.reduceEqDiff, eq_self, true_or, or_true, false_or, or_false, and_true, true_and, false_and, and_false, not_true, not_false_eq_true, tf_T, tf_F, y_up1, y_up2, y_xx, y_nx, y_sJ, y_sR, Int32.reduceLT, y_nxK, y_nxL, y_nxR, y_sJK, y_sJL, y_sJR, y_sJN, y_sRK, y_sRL, y_sRN, Nat.add_zero, z_nat, z_lit, z_lit0, z_lit1, z_in0, z_in1, z_addl0, z_lt, z_ltl, z_llt, z_inj, z_injl, z_add, z_addl, z_ladd, z_mul, z_mull, z_lmul, z_neg, z_negl, z_in, z_inl, z_ltT, z_ltF, z_eqF, z_10, z_01, z_litne, z_ne0, z_0ne, z_ne1, z_1ne, z_lt64, z_02, z_03, z_04, z_05, z_12, z_13, z_14, z_15, z_20, z_21, z_23, z_24, z_25, z_30, z_31, z_32, z_34, z_35, z_40, z_41, z_42, z_43, z_45, z_50, z_51, z_52, z_53, z_54]
theorem c_fact (hF : Fc B) (hX : Stx B i) (hc : CT N L i) (hp : CPt N L i st) (h1 : st.1 ≤ L) (h2 : st.2.1 ≤ st.1) : PO B N L i (am_fx am_P (d + 1) 208 0 [some (.ref 65), none, none, none] [] (am_wI B i)) (fctS N L (tb N L st.1) st) := by
  obtain ⟨hl, hs⟩ := hp
  have l400 := hc.2.1
  obtain ⟨t1, t2⟩ := tb_bnd (N := N) (L := L) h1
  generalize tb N L st.1 = b at hl t1 t2
  have W0 := c_among (d := d) hF hX hc hl t2 seg_7 (by decide) (by decide)
  have k7 := (hX 7 (by omega) (by omega)).1
  unfold fctS
  rw [bk_208_0]
  cases hw : wix N b (lw N L b) [23, 24, 25, 26, 27, 28] 0 with
  | none =>
    rw [hw] at W0
    have W := c_wrong (d := d) hF hl.2.1
    refine PO_bad ?_
    simp (disch := omega) only [k7, W0, W, txn, hF, y_ckd, y_ck2d, y_ond, y_onn, y_oI, y_oIx, y_oJ, y_oV, y_oVx, y_oR, y_oRn, y_oRx, y_b0, y_b1, y_bi, y_bid, y_wIK, y_wIL, y_wII, y_wIJ, y_wIR, y_wIN, y_wIw, y_sI, ↓reduceIte, Nat.reduceEqDiff, eq_self, true_or, or_true, false_or, or_false, and_true, true_and, false_and, and_false, not_true, not_false_eq_true, tf_T, tf_F, y_up1, y_up2, y_xx, y_nx, y_sJ, y_sR, Int32.reduceLT, y_nxK, y_nxL, y_nxR, y_sJK, y_sJL, y_sJR, y_sJN, y_sRK, y_sRL, y_sRN, Nat.add_zero, z_nat, z_lit, z_lit0, z_lit1, z_in0, z_in1, z_addl0, z_lt, z_ltl, z_llt, z_inj, z_injl, z_add, z_addl, z_ladd, z_mul, z_mull, z_lmul, z_neg, z_negl, z_in, z_inl, z_ltT, z_ltF, z_eqF, z_10, z_01, z_litne, z_ne0, z_0ne, z_ne1, z_1ne, z_lt64, z_02, z_03, z_04, z_05, z_12, z_13, z_14, z_15, z_20, z_21, z_23, z_24, z_25, z_30, z_31, z_32, z_34, z_35, z_40, z_41, z_42, z_43, z_45, z_50, z_51, z_52, z_53, z_54]
  | some f =>
    rw [hw] at W0
    obtain ⟨a1, a2, a3⟩ := wix_lt (by decide) hw t2
    have a3 : f < 6 := a3
    have m1 := nom1 (f := f) (by omega)
    have e3 : i 65 3 = Int32.ofNat (lw N L b) := by rw [hl.1, tke_w a1]
    obtain ⟨j1, E1, l1, s1, g1, f1⟩ := c_nextP (d := d) hF hc e3 a2 hs
    have c1 := CT_FRc hc f1
    obtain ⟨t3, t4⟩ := tb_bnd (N := N) (L := L) a2
    dsimp only
    generalize tb N L (lw N L b) = b2 at l1 t3 t4
    have S1 := c_sign (d := d) (c := 60) (n := 60) hF rfl (by omega) c1 l1 (by omega)
    have S2 := c_sign (d := d) (c := 62) (n := 62) hF rfl (by omega) c1 l1 (by omega)
    by_cases q1 : b2 < L ∧ N b2 = 60
    · rw [if_pos q1] at S1 ⊢
      have R := c_fact46 (d := d) (x2 := 1) (c := 100) (f := f) (st := st) hF c1 l1 q1.1 (Or.inr ⟨rfl, rfl, q1.2⟩) s1 h2 (by omega) a3
      refine PO_fr f1 g1 ?_
      simp (disch := omega) only [k7, W0, m1, E1, S1, txn, z_39, z_390, hF, y_ckd, y_ck2d, y_ond, y_onn, y_oI, y_oIx, y_oJ, y_oV, y_oVx, y_oR, y_oRn, y_oRx, y_b0, y_b1, y_bi, y_bid, y_wIK, y_wIL, y_wII, y_wIJ, y_wIR, y_wIN, y_wIw, y_sI, ↓reduceIte, Nat.reduceEqDiff, eq_self, true_or, or_true, false_or, or_false, and_true, true_and, false_and, and_false, not_true, not_false_eq_true, tf_T, tf_F, y_up1, y_up2, y_xx, y_nx, y_sJ, y_sR, Int32.reduceLT, y_nxK, y_nxL, y_nxR, y_sJK, y_sJL, y_sJR, y_sJN, y_sRK, y_sRL, y_sRN, Nat.add_zero, z_nat, z_lit, z_lit0, z_lit1, z_in0, z_in1, z_addl0, z_lt, z_ltl, z_llt, z_inj, z_injl, z_add, z_addl, z_ladd, z_mul, z_mull, z_lmul, z_neg, z_negl, z_in, z_inl, z_ltT, z_ltF, z_eqF, z_10, z_01, z_litne, z_ne0, z_0ne, z_ne1, z_1ne, z_lt64, z_02, z_03, z_04, z_05, z_12, z_13, z_14, z_15, z_20, z_21, z_23, z_24, z_25, z_30, z_31, z_32, z_34, z_35, z_40, z_41, z_42, z_43, z_45, z_50, z_51, z_52, z_53, z_54]
      exact R
    · rw [if_neg q1] at S1 ⊢
      by_cases q2 : b2 < L ∧ N b2 = 62
      · rw [if_pos q2] at S2 ⊢
        have R := c_fact46 (d := d) (x2 := 0) (c := 200) (f := f) (st := st) hF c1 l1 q2.1 (Or.inl ⟨rfl, rfl, q2.2⟩) s1 h2 (by omega) a3
        refine PO_fr f1 g1 ?_
        simp (disch := omega) only [k7, W0, m1, E1, S1, S2, txn, z_39, z_390, hF, y_ckd, y_ck2d, y_ond, y_onn, y_oI, y_oIx, y_oJ, y_oV, y_oVx, y_oR, y_oRn, y_oRx, y_b0, y_b1, y_bi, y_bid, y_wIK, y_wIL, y_wII, y_wIJ, y_wIR, y_wIN, y_wIw, y_sI, ↓reduceIte, Nat.reduceEqDiff, eq_self, true_or, or_true, false_or, or_false, and_true, true_and, false_and, and_false, not_true, not_false_eq_true, tf_T, tf_F, y_up1, y_up2, y_xx, y_nx, y_sJ, y_sR, Int32.reduceLT, y_nxK, y_nxL, y_nxR, y_sJK, y_sJL, y_sJR, y_sJN, y_sRK, y_sRL, y_sRN, Nat.add_zero, z_nat, z_lit, z_lit0, z_lit1, z_in0, z_in1, z_addl0, z_lt, z_ltl, z_llt, z_inj, z_injl, z_add, z_addl, z_ladd, z_mul, z_mull, z_lmul, z_neg, z_negl, z_in, z_inl, z_ltT, z_ltF, z_eqF, z_10, z_01, z_litne, z_ne0, z_0ne, z_ne1, z_1ne, z_lt64, z_02, z_03, z_04, z_05, z_12, z_13, z_14, z_15, z_20, z_21, z_23, z_24, z_25, z_30, z_31, z_32, z_34, z_35, z_40, z_41, z_42, z_43, z_45, z_50, z_51, z_52, z_53, z_54]
        exact R
      · rw [if_neg q2] at S2 ⊢
        have W := c_wrong (d := d) hF l1.2.1
        refine PO_fr f1 g1 (PO_bad ?_)
        simp (disch := omega) only [k7, W0, m1, E1, S1, S2, W, txn, hF, y_ckd, y_ck2d, y_ond, y_onn, y_oI, y_oIx, y_oJ, y_oV, y_oVx, y_oR, y_oRn, y_oRx, y_b0, y_b1, y_bi, y_bid, y_wIK, y_wIL, y_wII, y_wIJ, y_wIR, y_wIN, y_wIw, y_sI, ↓reduceIte, Nat.reduceEqDiff, eq_self, true_or, or_true, false_or, or_false, and_true, true_and, false_and, and_false, not_true, not_false_eq_true, tf_T, tf_F, y_up1, y_up2, y_xx, y_nx, y_sJ, y_sR, Int32.reduceLT, y_nxK, y_nxL, y_nxR, y_sJK, y_sJL, y_sJR, y_sJN, y_sRK, y_sRL, y_sRN, Nat.add_zero, z_nat, z_lit, z_lit0, z_lit1, z_in0, z_in1, z_addl0, z_lt, z_ltl, z_llt, z_inj, z_injl, z_add, z_addl, z_ladd, z_mul, z_mull, z_lmul, z_neg, z_negl, z_in, z_inl, z_ltT, z_ltF, z_eqF, z_10, z_01, z_litne, z_ne0, z_0ne, z_ne1, z_1ne, z_lt64, z_02, z_03, z_04, z_05, z_12, z_13, z_14, z_15, z_20, z_21, z_23, z_24, z_25, z_30, z_31, z_32, z_34, z_35, z_40, z_41, z_42, z_43, z_45, z_50, z_51, z_52, z_53, z_54]
end ClsB
