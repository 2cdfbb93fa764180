/-! THE LEAST WASTE: the class offers a piece to all sets. Made by wip/whole/math/890.py. -/
section Offer
variable {B B1 : am_A} {i i1 : Nat → Nat → Int32} {σ σ' : Sg} {w : Nat → Int32} {L j d b m n T : Nat} {x y z : Int32}
/-- only the longs of one row have changed -/
def Jy (a : Nat) (B B' : am_A) : Prop := am_K B' = am_K B ∧ am_L B' = am_L B ∧ am_R B' = am_R B ∧ am_N B' = am_N B ∧ am_C B' = am_C B ∧ am_S B' = am_S B ∧ ∀ q, q ≠ a → am_J B' q = am_J B q
theorem Jy.rf {a : Nat} : Jy a B B := ⟨rfl, rfl, rfl, rfl, rfl, rfl, fun _ _ => rfl⟩
theorem Jy.tr {a : Nat} {B C D : am_A} (h : Jy a B C) (k : Jy a C D) : Jy a B D := by
  obtain ⟨a1, a2, a3, a4, a5, a6, a7⟩ := h
  obtain ⟨b1, b2, b3, b4, b5, b6, b7⟩ := k
  exact ⟨b1.trans a1, b2.trans a2, b3.trans a3, b4.trans a4, b5.trans a5, b6.trans a6, fun q hq => (b7 q hq).trans (a7 q hq)⟩
theorem Jy.sJ {a k : Nat} {v : Int64} : Jy a B (am_sJ B a k v) := ⟨rfl, rfl, rfl, rfl, rfl, rfl, fun _ hq => y_upr hq⟩
theorem Jy.le {a : Nat} {B B' : am_A} (h : Jy a B B') (ha : a ≠ 1) : Le B B' := by
  obtain ⟨a1, a2, a3, a4, a5, a6, a7⟩ := h
  exact ⟨by rw [a4]; exact Nat.le_refl _, fun q _ => ⟨by rw [a1], by rw [a2], fun _ _ _ => by rw [a3]⟩, a7 1 (Ne.symm ha)⟩
theorem Jy.jq {B B' : am_A} (h : Jy 884 B B') : Jq B B' := h
theorem Jy.fc {a : Nat} {B B' : am_A} (h : Jy a B B') (hF : Fc B) : Fc B' := by
  obtain ⟨a1, a2, a3, -, -, -, -⟩ := h
  unfold Fc at *
  rw [a1, a2, a3]
  exact hF
theorem Jy.md {a : Nat} {B B' : am_A} (h : Jy a B B') (hF : Md B) : Md B' := by
  obtain ⟨a1, a2, a3, -, -, -, -⟩ := h
  unfold Md at *
  rw [a1, a2, a3]
  exact hF
theorem Jy.yd {a b : Nat} {B B' : am_A} (h : Jy a B B') (hF : Yd B b) : Yd B' b := by
  obtain ⟨a1, a2, a3, -, -, -, -⟩ := h
  unfold Yd at *
  rw [a1, a2, a3]
  exact hF
/-- the places of numbers in a rank -/
def p120 (k : Nat) : Int64 := itr (fun _ v => v * 120) k 1
abbrev rkx (x m n : Nat) : Int64 := (Int32.ofNat x).toInt64 * p120 (m - 1 - n)
/-- a set's cost and rank, where they lie -/
abbrev CsT (q1 q2 : Nat) (B : am_A) (i : Nat → Nat → Int32) (T : Nat) (a : Int32 × Int64) : Prop := i q1 T = a.1 ∧ (¬ a.1 = -1 → am_J B q2 T = a.2)
theorem btr_c {c : Int32} {r J : Int64} {a : Int32 × Int64} (h : ¬ a.1 = -1 → J = a.2) : btr c r (a.1, J) ↔ btr c r a := by
  by_cases g : a.1 = -1
  · exact ⟨fun _ => Or.inl g, fun _ => Or.inl g⟩
  · rw [h g]
theorem c_improve {c : Int32} {r : Int64} (hF : Fc B) (hT : T < 256) : am_fx am_P d 276 0 [some (.ref 71), some (.int (Int32.ofNat T)), some (.int c), some (.long r), none] [] (am_wI B i) = some (.inl none, if btr c r (i 74 T, am_J B 75 T) then am_wI (am_sJ B 75 T r) (am_up2 i 74 T c) else am_wI B i) := by
  rw [bk_276_0]
  by_cases g1 : i 74 T = -1
  · rw [if_pos (c := btr c r (i 74 T, am_J B 75 T)) (Or.inl g1)]
    simp (maxSteps := 1000000) (disch := omega) only [(fun d x0 x1 x2 x3 B i => bk_276_41 d x0 x1 x2 x3 (am_wI B i)), (fun d B i => bk_276_55 d (am_wI B i)), g1, hF, y_ckd, y_ck2d, y_ond, y_onn, y_oI, y_oIx, y_oJ, y_oV, y_oVx, y_oR, y_oRn, y_oRx, y_b0, y_b1, y_bi, y_bid, y_wIK, y_wIL, y_wII, y_wIJ, y_wIR, y_wIN, y_wIw, y_sI, ↓reduceIte, Nat.reduceEqDiff, eq_self, true_or, or_true, false_or, or_false, and_true, true_and, false_and, and_false, not_true, not_false_eq_true, tf_T, tf_F, y_up1, y_up2, y_xx, y_nx, y_sJ, y_sR, Int32.reduceLT, y_nxK, y_nxL, y_nxR, y_sJK, y_sJL, y_sJR, y_sJN, y_sRK, y_sRL, y_sRN, Nat.add_zero, z_nat, z_lit, z_lit0, z_lit1, z_in0, z_in1, z_addl0, z_lt, z_ltl, z_llt, z_inj, z_injl, z_add, z_addl, z_ladd, z_mul, z_mull, z_lmul, z_neg, z_negl, z_in, z_inl, z_ltT, z_ltF, z_eqF, z_10, z_01, z_litne, z_ne0, z_0ne, z_ne1, z_1ne, z_lt64, z_02, z_03, z_04, z_05, z_12, z_13, z_14, z_15, z_20, z_21, z_23, z_24, z_25, z_30, z_31, z_32, z_34, z_35, z_40, z_41, z_42, z_43, z_45, z_50, z_51, z_52, z_53, z_54]
  by_cases g2 : c < i 74 T
  · rw [if_pos (c := btr c r (i 74 T, am_J B 75 T)) (Or.inr (Or.inl g2))]
    simp (maxSteps := 1000000) (disch := omega) only [(fun d x0 x1 x2 x3 B i => bk_276_41 d x0 x1 x2 x3 (am_wI B i)), (fun d B i => bk_276_55 d (am_wI B i)), g1, g2, hF, y_ckd, y_ck2d, y_ond, y_onn, y_oI, y_oIx, y_oJ, y_oV, y_oVx, y_oR, y_oRn, y_oRx, y_b0, y_b1, y_bi, y_bid, y_wIK, y_wIL, y_wII, y_wIJ, y_wIR, y_wIN, y_wIw, y_sI, ↓reduceIte, Nat.reduceEqDiff, eq_self, true_or, or_true, false_or, or_false, and_true, true_and, false_and, and_false, not_true, not_false_eq_true, tf_T, tf_F, y_up1, y_up2, y_xx, y_nx, y_sJ, y_sR, Int32.reduceLT, y_nxK, y_nxL, y_nxR, y_sJK, y_sJL, y_sJR, y_sJN, y_sRK, y_sRL, y_sRN, Nat.add_zero, z_nat, z_lit, z_lit0, z_lit1, z_in0, z_in1, z_addl0, z_lt, z_ltl, z_llt, z_inj, z_injl, z_add, z_addl, z_ladd, z_mul, z_mull, z_lmul, z_neg, z_negl, z_in, z_inl, z_ltT, z_ltF, z_eqF, z_10, z_01, z_litne, z_ne0, z_0ne, z_ne1, z_1ne, z_lt64, z_02, z_03, z_04, z_05, z_12, z_13, z_14, z_15, z_20, z_21, z_23, z_24, z_25, z_30, z_31, z_32, z_34, z_35, z_40, z_41, z_42, z_43, z_45, z_50, z_51, z_52, z_53, z_54]
  by_cases g3 : c = i 74 T
  · by_cases g4 : r < am_J B 75 T
    · rw [if_pos (c := btr c r (i 74 T, am_J B 75 T)) (Or.inr (Or.inr ⟨g3, g4⟩))]
      have e : ((-1 : Int32) < 0) = True := eq_true (by decide)
      simp (maxSteps := 1000000) (disch := omega) only [(fun d x0 x1 x2 x3 B i => bk_276_41 d x0 x1 x2 x3 (am_wI B i)), (fun d B i => bk_276_55 d (am_wI B i)), g1, g2, eq_true g3, eq_true g4, e, hF, y_ckd, y_ck2d, y_ond, y_onn, y_oI, y_oIx, y_oJ, y_oV, y_oVx, y_oR, y_oRn, y_oRx, y_b0, y_b1, y_bi, y_bid, y_wIK, y_wIL, y_wII, y_wIJ, y_wIR, y_wIN, y_wIw, y_sI, ↓reduceIte, Nat.reduceEqDiff, eq_self, true_or, or_true, false_or, or_false, and_true, true_and, false_and, and_false, not_true, not_false_eq_true, tf_T, tf_F, y_up1, y_up2, y_xx, y_nx, y_sJ, y_sR, Int32.reduceLT, y_nxK, y_nxL, y_nxR, y_sJK, y_sJL, y_sJR, y_sJN, y_sRK, y_sRL, y_sRN, Nat.add_zero, z_nat, z_lit, z_lit0, z_lit1, z_in0, z_in1, z_addl0, z_lt, z_ltl, z_llt, z_inj, z_injl, z_add, z_addl, z_ladd, z_mul, z_mull, z_lmul, z_neg, z_negl, z_in, z_inl, z_ltT, z_ltF, z_eqF, z_10, z_01, z_litne, z_ne0, z_0ne, z_ne1, z_1ne, z_lt64, z_02, z_03, z_04, z_05, z_12, z_13, z_14, z_15, z_20, z_21, z_23, z_24, z_25, z_30, z_31, z_32, z_34, z_35, z_40, z_41, z_42, z_43, z_45, z_50, z_51, z_52, z_53, z_54]
    · rw [if_neg (c := btr c r (i 74 T, am_J B 75 T)) (fun q => q.elim g1 fun q => q.elim g2 fun q => g4 q.2)]
      have e : ¬ (if r = am_J B 75 T then 0 else 1 : Int32) < 0 := by split <;> decide
      simp (maxSteps := 1000000) (disch := omega) only [(fun d x0 x1 x2 x3 B i => bk_276_41 d x0 x1 x2 x3 (am_wI B i)), (fun d B i => bk_276_55 d (am_wI B i)), g1, g2, eq_true g3, eq_false g4, e, hF, y_ckd, y_ck2d, y_ond, y_onn, y_oI, y_oIx, y_oJ, y_oV, y_oVx, y_oR, y_oRn, y_oRx, y_b0, y_b1, y_bi, y_bid, y_wIK, y_wIL, y_wII, y_wIJ, y_wIR, y_wIN, y_wIw, y_sI, ↓reduceIte, Nat.reduceEqDiff, eq_self, true_or, or_true, false_or, or_false, and_true, true_and, false_and, and_false, not_true, not_false_eq_true, tf_T, tf_F, y_up1, y_up2, y_xx, y_nx, y_sJ, y_sR, Int32.reduceLT, y_nxK, y_nxL, y_nxR, y_sJK, y_sJL, y_sJR, y_sJN, y_sRK, y_sRL, y_sRN, Nat.add_zero, z_nat, z_lit, z_lit0, z_lit1, z_in0, z_in1, z_addl0, z_lt, z_ltl, z_llt, z_inj, z_injl, z_add, z_addl, z_ladd, z_mul, z_mull, z_lmul, z_neg, z_negl, z_in, z_inl, z_ltT, z_ltF, z_eqF, z_10, z_01, z_litne, z_ne0, z_0ne, z_ne1, z_1ne, z_lt64, z_02, z_03, z_04, z_05, z_12, z_13, z_14, z_15, z_20, z_21, z_23, z_24, z_25, z_30, z_31, z_32, z_34, z_35, z_40, z_41, z_42, z_43, z_45, z_50, z_51, z_52, z_53, z_54]
  · rw [if_neg (c := btr c r (i 74 T, am_J B 75 T)) (fun q => q.elim g1 fun q => q.elim g2 fun q => g3 q.1)]
    simp (maxSteps := 1000000) (disch := omega) only [(fun d B i => bk_276_55 d (am_wI B i)), g1, g2, g3, hF, y_ckd, y_ck2d, y_ond, y_onn, y_oI, y_oIx, y_oJ, y_oV, y_oVx, y_oR, y_oRn, y_oRx, y_b0, y_b1, y_bi, y_bid, y_wIK, y_wIL, y_wII, y_wIJ, y_wIR, y_wIN, y_wIw, y_sI, ↓reduceIte, Nat.reduceEqDiff, eq_self, true_or, or_true, false_or, or_false, and_true, true_and, false_and, and_false, not_true, not_false_eq_true, tf_T, tf_F, y_up1, y_up2, y_xx, y_nx, y_sJ, y_sR, Int32.reduceLT, y_nxK, y_nxL, y_nxR, y_sJK, y_sJL, y_sJR, y_sJN, y_sRK, y_sRL, y_sRN, Nat.add_zero, z_nat, z_lit, z_lit0, z_lit1, z_in0, z_in1, z_addl0, z_lt, z_ltl, z_llt, z_inj, z_injl, z_add, z_addl, z_ladd, z_mul, z_mull, z_lmul, z_neg, z_negl, z_in, z_inl, z_ltT, z_ltF, z_eqF, z_10, z_01, z_litne, z_ne0, z_0ne, z_ne1, z_1ne, z_lt64, z_02, z_03, z_04, z_05, z_12, z_13, z_14, z_15, z_20, z_21, z_23, z_24, z_25, z_30, z_31, z_32, z_34, z_35, z_40, z_41, z_42, z_43, z_45, z_50, z_51, z_52, z_53, z_54]
/-- how far the sets are through: those behind T are, T is by n needs -/
abbrev offP (wd : Nat → Int32) (rk : Nat → Int64) (U : Cs) (m T n T' : Nat) : Int32 × Int64 := if T < T' then nwp wd rk U T' m else if T' = T then nwp wd rk U T n else (U.1 T', U.2 T')
theorem c_off1 {x : Nat} {wd : Nat → Int32} {U : Cs} (hF : Fc B) (m8 : m ≤ 8) (hT : T < 2 ^ m) (hT2 : 2 ^ m ≤ 256) (hn : n < m) (e1 : i 71 1 = Int32.ofNat m) (hd : ∀ n, n < m → i 73 n = wd n) (hJ : ∀ k, k < 8 → am_J B 1 k = p120 k) (hC : ∀ T', T' < 2 ^ m → CsT 74 75 B i T' (offP wd (rkx x m) U m T n T')) : ∃ s' : am_A × (Nat → Nat → Int32), am_fx am_P (d + 1) 275 15 [some (.ref 71), some (.int (Int32.ofNat x)), some (.int (Int32.ofNat T)), some (.int (Int32.ofNat n)), none] [] (am_wI B i) = am_fx am_P (d + 1) 275 15 [some (.ref 71), some (.int (Int32.ofNat x)), some (.int (Int32.ofNat T)), some (.int (Int32.ofNat (n + 1))), none] [] (am_wI s'.1 s'.2) ∧ Jy 75 B s'.1 ∧ (∀ q k, q ≠ 74 → s'.2 q k = i q k) ∧ ∀ T', T' < 2 ^ m → CsT 74 75 s'.1 s'.2 T' (offP wd (rkx x m) U m T (n + 1) T') := by
  have e2 := hd n hn
  have ec := zb_clr T (by omega) n (by omega)
  have stay : imp wd (rkx x m) U T n (nwp wd (rkx x m) U T n) = nwp wd (rkx x m) U T n → ∀ T', T' < 2 ^ m → CsT 74 75 B i T' (offP wd (rkx x m) U m T (n + 1) T') := fun h T' h1 => by
    have := hC T' h1
    unfold offP at *
    by_cases q : T < T'
    · rw [if_pos q] at *
      exact this
    · rw [if_neg q] at *
      by_cases q2 : T' = T
      · rw [if_pos q2, nwp_s, h]
        rw [if_pos q2] at this
        exact this
      · rw [if_neg q2] at *
        exact this
  by_cases g : bt2 T n
  rotate_left
  · rw [if_neg g] at ec
    refine ⟨(B, i), ?_, Jy.rf, fun _ _ _ => rfl, stay (if_neg fun q => g q.1)⟩
    rw [bk_275_15]
    simp (maxSteps := 1000000) (disch := omega) only [ec, e1, hF, y_ckd, y_ck2d, y_ond, y_onn, y_oI, y_oIx, y_oJ, y_oV, y_oVx, y_oR, y_oRn, y_oRx, y_b0, y_b1, y_bi, y_bid, y_wIK, y_wIL, y_wII, y_wIJ, y_wIR, y_wIN, y_wIw, y_sI, ↓reduceIte, Nat.reduceEqDiff, eq_self, true_or, or_true, false_or, or_false, and_true, true_and, false_and, and_false, not_true, not_false_eq_true, tf_T, tf_F, y_up1, y_up2, y_xx, y_nx, y_sJ, y_sR, Int32.reduceLT, y_nxK, y_nxL, y_nxR, y_sJK, y_sJL, y_sJR, y_sJN, y_sRK, y_sRL, y_sRN, Nat.add_zero, z_nat, z_lit, z_lit0, z_lit1, z_in0, z_in1, z_addl0, z_lt, z_ltl, z_llt, z_inj, z_injl, z_add, z_addl, z_ladd, z_mul, z_mull, z_lmul, z_neg, z_negl, z_in, z_inl, z_ltT, z_ltF, z_eqF, z_10, z_01, z_litne, z_ne0, z_0ne, z_ne1, z_1ne, z_lt64, z_02, z_03, z_04, z_05, z_12, z_13, z_14, z_15, z_20, z_21, z_23, z_24, z_25, z_30, z_31, z_32, z_34, z_35, z_40, z_41, z_42, z_43, z_45, z_50, z_51, z_52, z_53, z_54]
  rw [if_pos g] at ec
  obtain ⟨g1, -⟩ := nb_ge T (by omega) n (by omega) g
  have gp := p2_pos (a := n)
  have hR := hC (T - 2 ^ n) (Nat.lt_of_le_of_lt (Nat.sub_le _ _) hT)
  unfold offP at hR
  rw [if_neg (by omega), if_neg (by omega)] at hR
  have hT3 := hC T hT
  unfold offP at hT3
  rw [if_neg (Nat.lt_irrefl _), if_pos rfl] at hT3
  have es : imp wd (rkx x m) U T n (nwp wd (rkx x m) U T n) = if ¬ wd n = -1 ∧ ¬ U.1 (T - 2 ^ n) = -1 then imp1 wd (rkx x m) U T n (nwp wd (rkx x m) U T n) else nwp wd (rkx x m) U T n := by
    unfold imp
    by_cases q : ¬ wd n = -1 ∧ ¬ U.1 (T - 2 ^ n) = -1
    · rw [if_pos ⟨g, q⟩, if_pos q]
    · rw [if_neg q, if_neg fun r => q r.2]
  unfold imp1 at es
  have eJ := hJ (m - 1 - n) (by omega)
  have gx : Int32.ofNat m - 1 - Int32.ofNat n = Int32.ofNat (m - 1 - n) := by
    rw [show (1 : Int32) = Int32.ofNat 1 from rfl, z_sub (by omega), z_sub (by omega)]
  generalize hRR : T - 2 ^ n = R at *
  have gne : (Int32.ofNat R = Int32.ofNat T) = False := by
    rw [z_inj (by omega) (by omega)]
    exact eq_false (by omega)
  have hR1 : i 74 R = U.1 R := hR.1
  by_cases gw : wd n = -1
  · rw [if_neg (fun q => q.1 gw)] at es
    refine ⟨(B, i), ?_, Jy.rf, fun _ _ _ => rfl, stay es⟩
    rw [bk_275_15]
    simp (maxSteps := 1000000) (disch := omega) only [ec, gne, e1, e2, gw, hF, y_ckd, y_ck2d, y_ond, y_onn, y_oI, y_oIx, y_oJ, y_oV, y_oVx, y_oR, y_oRn, y_oRx, y_b0, y_b1, y_bi, y_bid, y_wIK, y_wIL, y_wII, y_wIJ, y_wIR, y_wIN, y_wIw, y_sI, ↓reduceIte, Nat.reduceEqDiff, eq_self, true_or, or_true, false_or, or_false, and_true, true_and, false_and, and_false, not_true, not_false_eq_true, tf_T, tf_F, y_up1, y_up2, y_xx, y_nx, y_sJ, y_sR, Int32.reduceLT, y_nxK, y_nxL, y_nxR, y_sJK, y_sJL, y_sJR, y_sJN, y_sRK, y_sRL, y_sRN, Nat.add_zero, z_nat, z_lit, z_lit0, z_lit1, z_in0, z_in1, z_addl0, z_lt, z_ltl, z_llt, z_inj, z_injl, z_add, z_addl, z_ladd, z_mul, z_mull, z_lmul, z_neg, z_negl, z_in, z_inl, z_ltT, z_ltF, z_eqF, z_10, z_01, z_litne, z_ne0, z_0ne, z_ne1, z_1ne, z_lt64, z_02, z_03, z_04, z_05, z_12, z_13, z_14, z_15, z_20, z_21, z_23, z_24, z_25, z_30, z_31, z_32, z_34, z_35, z_40, z_41, z_42, z_43, z_45, z_50, z_51, z_52, z_53, z_54]
  by_cases gc : U.1 R = -1
  · rw [if_neg (fun q => q.2 gc)] at es
    refine ⟨(B, i), ?_, Jy.rf, fun _ _ _ => rfl, stay es⟩
    rw [bk_275_15]
    simp (maxSteps := 1000000) (disch := omega) only [ec, gne, e1, e2, gw, hR1, gc, hF, y_ckd, y_ck2d, y_ond, y_onn, y_oI, y_oIx, y_oJ, y_oV, y_oVx, y_oR, y_oRn, y_oRx, y_b0, y_b1, y_bi, y_bid, y_wIK, y_wIL, y_wII, y_wIJ, y_wIR, y_wIN, y_wIw, y_sI, ↓reduceIte, Nat.reduceEqDiff, eq_self, true_or, or_true, false_or, or_false, and_true, true_and, false_and, and_false, not_true, not_false_eq_true, tf_T, tf_F, y_up1, y_up2, y_xx, y_nx, y_sJ, y_sR, Int32.reduceLT, y_nxK, y_nxL, y_nxR, y_sJK, y_sJL, y_sJR, y_sJN, y_sRK, y_sRL, y_sRN, Nat.add_zero, z_nat, z_lit, z_lit0, z_lit1, z_in0, z_in1, z_addl0, z_lt, z_ltl, z_llt, z_inj, z_injl, z_add, z_addl, z_ladd, z_mul, z_mull, z_lmul, z_neg, z_negl, z_in, z_inl, z_ltT, z_ltF, z_eqF, z_10, z_01, z_litne, z_ne0, z_0ne, z_ne1, z_1ne, z_lt64, z_02, z_03, z_04, z_05, z_12, z_13, z_14, z_15, z_20, z_21, z_23, z_24, z_25, z_30, z_31, z_32, z_34, z_35, z_40, z_41, z_42, z_43, z_45, z_50, z_51, z_52, z_53, z_54]
  rw [if_pos ⟨gw, gc⟩] at es
  have hR2 : am_J B 75 R = U.2 R := hR.2 gc
  have E := c_improve (d := d) (T := T) (c := U.1 R + wd n) (r := U.2 R + rkx x m n) (i := i) hF (by omega)
  have hb := btr_c (c := U.1 R + wd n) (r := U.2 R + rkx x m n) hT3.2
  rw [← hT3.1] at hb
  by_cases q : btr (U.1 R + wd n) (U.2 R + rkx x m n) (nwp wd (rkx x m) U T n)
  · rw [if_pos q] at es
    rw [if_pos (hb.mpr q)] at E
    refine ⟨(am_sJ B 75 T (U.2 R + rkx x m n), am_up2 i 74 T (U.1 R + wd n)), ?_, Jy.sJ, fun q k hq => y_up2 (Or.inl hq), fun T' h1 => ?_⟩
    · rw [bk_275_15]
      simp (maxSteps := 1000000) (disch := omega) only [ec, gne, e1, e2, gw, hR1, gc, hR2, gx, eJ, E, hF, y_ckd, y_ck2d, y_ond, y_onn, y_oI, y_oIx, y_oJ, y_oV, y_oVx, y_oR, y_oRn, y_oRx, y_b0, y_b1, y_bi, y_bid, y_wIK, y_wIL, y_wII, y_wIJ, y_wIR, y_wIN, y_wIw, y_sI, ↓reduceIte, Nat.reduceEqDiff, eq_self, true_or, or_true, false_or, or_false, and_true, true_and, false_and, and_false, not_true, not_false_eq_true, tf_T, tf_F, y_up1, y_up2, y_xx, y_nx, y_sJ, y_sR, Int32.reduceLT, y_nxK, y_nxL, y_nxR, y_sJK, y_sJL, y_sJR, y_sJN, y_sRK, y_sRL, y_sRN, Nat.add_zero, z_nat, z_lit, z_lit0, z_lit1, z_in0, z_in1, z_addl0, z_lt, z_ltl, z_llt, z_inj, z_injl, z_add, z_addl, z_ladd, z_mul, z_mull, z_lmul, z_neg, z_negl, z_in, z_inl, z_ltT, z_ltF, z_eqF, z_10, z_01, z_litne, z_ne0, z_0ne, z_ne1, z_1ne, z_lt64, z_02, z_03, z_04, z_05, z_12, z_13, z_14, z_15, z_20, z_21, z_23, z_24, z_25, z_30, z_31, z_32, z_34, z_35, z_40, z_41, z_42, z_43, z_45, z_50, z_51, z_52, z_53, z_54]
    · unfold offP
      by_cases q2 : T' = T
      · rw [if_neg (by omega), if_pos q2, nwp_s, es]
        exact ⟨y_up1 rfl q2, fun _ => y_up1 rfl q2⟩
      · have := hC T' h1
        unfold offP at this
        rw [if_neg q2] at this ⊢
        exact ⟨(y_up2 (Or.inr q2)).trans this.1, fun r => (y_up2 (Or.inr q2)).trans (this.2 r)⟩
  · rw [if_neg q] at es
    rw [if_neg (fun r => q (hb.mp r))] at E
    refine ⟨(B, i), ?_, Jy.rf, fun _ _ _ => rfl, stay es⟩
    rw [bk_275_15]
    simp (maxSteps := 1000000) (disch := omega) only [ec, gne, e1, e2, gw, hR1, gc, hR2, gx, eJ, E, hF, y_ckd, y_ck2d, y_ond, y_onn, y_oI, y_oIx, y_oJ, y_oV, y_oVx, y_oR, y_oRn, y_oRx, y_b0, y_b1, y_bi, y_bid, y_wIK, y_wIL, y_wII, y_wIJ, y_wIR, y_wIN, y_wIw, y_sI, ↓reduceIte, Nat.reduceEqDiff, eq_self, true_or, or_true, false_or, or_false, and_true, true_and, false_and, and_false, not_true, not_false_eq_true, tf_T, tf_F, y_up1, y_up2, y_xx, y_nx, y_sJ, y_sR, Int32.reduceLT, y_nxK, y_nxL, y_nxR, y_sJK, y_sJL, y_sJR, y_sJN, y_sRK, y_sRL, y_sRN, Nat.add_zero, z_nat, z_lit, z_lit0, z_lit1, z_in0, z_in1, z_addl0, z_lt, z_ltl, z_llt, z_inj, z_injl, z_add, z_addl, z_ladd, z_mul, z_mull, z_lmul, z_neg, z_negl, z_in, z_inl, z_ltT, z_ltF, z_eqF, z_10, z_01, z_litne, z_ne0, z_0ne, z_ne1, z_1ne, z_lt64, z_02, z_03, z_04, z_05, z_12, z_13, z_14, z_15, z_20, z_21, z_23, z_24, z_25, z_30, z_31, z_32, z_34, z_35, z_40, z_41, z_42, z_43, z_45, z_50, z_51, z_52, z_53, z_54]
theorem c_offer {x : Nat} {wd : Nat → Int32} {U : Cs} (hF : Fc B) (m8 : m ≤ 8) (e1 : i 71 1 = Int32.ofNat m) (hd : ∀ n, n < m → i 73 n = wd n) (hJ : ∀ k, k < 8 → am_J B 1 k = p120 k) (hC : ∀ T, T < 2 ^ m → CsT 74 75 B i T (U.1 T, U.2 T)) : ∃ s' : am_A × (Nat → Nat → Int32), am_fx am_P (d + 1) 275 0 [some (.ref 71), some (.int (Int32.ofNat x)), none, none, none] [] (am_wI B i) = some (.inl none, am_wI s'.1 s'.2) ∧ Jy 75 B s'.1 ∧ (∀ q k, q ≠ 74 → s'.2 q k = i q k) ∧ ∀ T, T < 2 ^ m → CsT 74 75 s'.1 s'.2 T (nwp wd (rkx x m) U T m) := by
  obtain ⟨p1, p2⟩ := p2_le m8
  have eP := z_pow m8
  obtain ⟨s1, E, hB1, hf1, hC1⟩ := lp_inv (fun k (s : am_A × (Nat → Nat → Int32)) => am_fx am_P (d + 1) 275 9 [some (.ref 71), some (.int (Int32.ofNat x)), some (.int (Int32.ofNat (2 ^ m - 1 - k))), none, none] [] (am_wI s.1 s.2)) (fun k s => Jy 75 B s.1 ∧ (∀ q k, q ≠ 74 → s.2 q k = i q k) ∧ ∀ T', T' < 2 ^ m → CsT 74 75 s.1 s.2 T' (offP wd (rkx x m) U m (2 ^ m - 1 - k) 0 T')) (2 ^ m - 1) (fun k s hk hI => by
    obtain ⟨hB, hf, hC⟩ := hI
    generalize hTT : 2 ^ m - 1 - k = T at *
    have gT : (0 : Int32) < Int32.ofNat T := by rw [show (0 : Int32) = Int32.ofNat 0 from rfl, z_lt (by omega) (by omega)]; omega
    obtain ⟨s2, E2, hB2, hf2, hC2⟩ := lp_inv (fun n (s : am_A × (Nat → Nat → Int32)) => am_fx am_P (d + 1) 275 15 [some (.ref 71), some (.int (Int32.ofNat x)), some (.int (Int32.ofNat T)), some (.int (Int32.ofNat n)), none] [] (am_wI s.1 s.2)) (fun n s => Jy 75 B s.1 ∧ (∀ q k, q ≠ 74 → s.2 q k = i q k) ∧ ∀ T', T' < 2 ^ m → CsT 74 75 s.1 s.2 T' (offP wd (rkx x m) U m T n T')) m (fun n s hn hI => by
      obtain ⟨hB, hf, hC⟩ := hI
      obtain ⟨s', E', hB', hf', hC'⟩ := c_off1 (B := s.1) (i := s.2) (d := d) (x := x) (wd := wd) (U := U) (T := T) (hB.fc hF) m8 (by omega) p2 hn ((hf _ _ (by omega)).trans e1) (fun n hn => (hf _ _ (by omega)).trans (hd n hn)) (fun k hk => by rw [hB.2.2.2.2.2.2 1 (by omega)]; exact hJ k hk) hC
      exact ⟨s', E', hB.tr hB', fun q k hq => (hf' q k hq).trans (hf q k hq), hC'⟩) s ⟨hB, hf, hC⟩
    refine ⟨s2, ?_, hB2, hf2, fun T' h1 => ?_⟩
    · have hF2 : Fc s2.1 := hB2.fc hF
      have e12 : s2.2 71 1 = Int32.ofNat m := (hf2 _ _ (by omega)).trans e1
      have zt : Int32.ofNat T + (-1) = Int32.ofNat (2 ^ m - 1 - (k + 1)) := by
        rw [show Int32.ofNat T + (-1) = Int32.ofNat T - Int32.ofNat 1 from by rw [Int32.sub_eq_add_neg]; rfl, z_sub (by omega)]
        exact congrArg _ (by omega)
      rw [bk_275_9, if_pos gT]
      refine E2.trans ?_
      rw [bk_275_15]
      generalize 2 ^ m - 1 - (k + 1) = T2 at *
      simp (maxSteps := 1000000) (disch := omega) only [e12, zt, hF2, y_ckd, y_ck2d, y_ond, y_onn, y_oI, y_oIx, y_oJ, y_oV, y_oVx, y_oR, y_oRn, y_oRx, y_b0, y_b1, y_bi, y_bid, y_wIK, y_wIL, y_wII, y_wIJ, y_wIR, y_wIN, y_wIw, y_sI, ↓reduceIte, Nat.reduceEqDiff, eq_self, true_or, or_true, false_or, or_false, and_true, true_and, false_and, and_false, not_true, not_false_eq_true, tf_T, tf_F, y_up1, y_up2, y_xx, y_nx, y_sJ, y_sR, Int32.reduceLT, y_nxK, y_nxL, y_nxR, y_sJK, y_sJL, y_sJR, y_sJN, y_sRK, y_sRL, y_sRN, Nat.add_zero, z_nat, z_lit, z_lit0, z_lit1, z_in0, z_in1, z_addl0, z_lt, z_ltl, z_llt, z_inj, z_injl, z_add, z_addl, z_ladd, z_mul, z_mull, z_lmul, z_neg, z_negl, z_in, z_inl, z_ltT, z_ltF, z_eqF, z_10, z_01, z_litne, z_ne0, z_0ne, z_ne1, z_1ne, z_lt64, z_02, z_03, z_04, z_05, z_12, z_13, z_14, z_15, z_20, z_21, z_23, z_24, z_25, z_30, z_31, z_32, z_34, z_35, z_40, z_41, z_42, z_43, z_45, z_50, z_51, z_52, z_53, z_54]
    · have := hC2 T' h1
      unfold offP at *
      by_cases q : T < T'
      · rw [if_pos q] at this
        rw [if_pos (by omega)]
        exact this
      · rw [if_neg q] at this
        by_cases q2 : T' = T
        · rw [if_pos q2] at this
          rw [if_pos (by omega), q2]
          rw [q2] at this
          exact this
        · rw [if_neg q2] at this
          rw [if_neg (by omega)]
          by_cases q3 : T' = 2 ^ m - 1 - (k + 1)
          · rw [if_pos q3, nwp_0, ← q3]
            exact this
          · rw [if_neg q3]
            exact this) (B, i) ⟨Jy.rf, fun _ _ _ => rfl, fun T' h1 => by
      unfold offP
      rw [if_neg (by omega)]
      by_cases q3 : T' = 2 ^ m - 1 - 0
      · rw [if_pos q3, nwp_0, ← q3]
        exact hC T' h1
      · rw [if_neg q3]
        exact hC T' h1⟩
  refine ⟨s1, ?_, hB1, hf1, fun T h1 => ?_⟩
  · rw [bk_275_0]
    have z0 : Int32.ofNat (2 ^ m) - 1 = Int32.ofNat (2 ^ m - 1 - 0) := by
      rw [show (1 : Int32) = Int32.ofNat 1 from rfl, z_sub (by omega)]
      rfl
    have z1 : Int32.ofNat (2 ^ m - 1 - (2 ^ m - 1)) = 0 := by rw [Nat.sub_self]; rfl
    rw [z1] at E
    simp (maxSteps := 1000000) (disch := omega) only [e1, eP, z0, hF, y_ckd, y_ck2d, y_ond, y_onn, y_oI, y_oIx, y_oJ, y_oV, y_oVx, y_oR, y_oRn, y_oRx, y_b0, y_b1, y_bi, y_bid, y_wIK, y_wIL, y_wII, y_wIJ, y_wIR, y_wIN, y_wIw, y_sI, ↓reduceIte, Nat.reduceEqDiff, eq_self, true_or, or_true, false_or, or_false, and_true, true_and, false_and, and_false, not_true, not_false_eq_true, tf_T, tf_F, y_up1, y_up2, y_xx, y_nx, y_sJ, y_sR, Int32.reduceLT, y_nxK, y_nxL, y_nxR, y_sJK, y_sJL, y_sJR, y_sJN, y_sRK, y_sRL, y_sRN]
    refine E.trans ?_
    rw [bk_275_9, if_neg (by decide)]
  · have := hC1 T h1
    rw [Nat.sub_self] at this
    unfold offP at this
    by_cases q : 0 < T
    · rw [if_pos q] at this
      exact this
    · rw [if_neg q, if_pos (by omega), nwp_0] at this
      have t0 : T = 0 := by omega
      subst t0
      have : nwp wd (rkx x m) U 0 m = (U.1 0, U.2 0) := by
        refine itr_stop (n := 0) m (by omega) fun k _ hk a => ?_
        refine if_neg fun q => ?_
        have := (nb_ge 0 (by omega) k (by omega) q.1).1
        have := p2_pos (a := k)
        omega
      rw [this]
      assumption
end Offer
