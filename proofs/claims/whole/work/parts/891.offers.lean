/-! THE LEAST WASTE: the model offers a piece to all sets. Made by wip/whole/math/891.py. -/
section Offers
variable {B B1 : am_A} {i i1 : Nat → Nat → Int32} {σ σ' : Sg} {w : Nat → Int32} {L j d b m n T : Nat} {x y z : Int32}
theorem m_weight (hM : Md B) (e21 : i 874 21 = Int32.ofNat m) (m8 : m ≤ 8) (hj : j < m) : am_fx am_P d 86 0 [some (.ref 874), some (.int (Int32.ofNat j)), none, none, none] [] (am_wI B i) = some (.inl (some (.long (p120 (m - 1 - j)))), am_wI B i) := by
  rw [bk_86_0, show Int32.ofNat j + 1 = Int32.ofNat (j + 1 + 0) from z_add j 1]
  refine (lp_itr (fun k (_ : Unit) => am_fx am_P d 86 7 [some (.ref 874), none, some (.long (p120 k)), none, some (.int (Int32.ofNat (j + 1 + k)))] [] (am_wI B i)) (fun _ v => v) (m - 1 - j) (fun k v hk => ?_) ()).trans ?_
  · rw [bk_86_7, show p120 (k + 1) = p120 k * 120 from rfl]
    simp (maxSteps := 1000000) (disch := omega) only [e21, hM, y_ckd, y_ck2d, y_ond, y_onn, y_oI, y_oIx, y_oJ, y_oV, y_oVx, y_oR, y_oRn, y_oRx, y_b0, y_b1, y_bi, y_bid, y_wIK, y_wIL, y_wII, y_wIJ, y_wIR, y_wIN, y_wIw, y_sI, ↓reduceIte, Nat.reduceEqDiff, eq_self, true_or, or_true, false_or, or_false, and_true, true_and, false_and, and_false, not_true, not_false_eq_true, tf_T, tf_F, y_up1, y_up2, y_xx, y_nx, y_sJ, y_sR, Int32.reduceLT, y_nxK, y_nxL, y_nxR, y_sJK, y_sJL, y_sJR, y_sJN, y_sRK, y_sRL, y_sRN, Nat.add_zero, z_nat, z_lit, z_lit0, z_lit1, z_in0, z_in1, z_addl0, z_lt, z_ltl, z_llt, z_inj, z_injl, z_add, z_addl, z_ladd, z_mul, z_mull, z_lmul, z_neg, z_negl, z_in, z_inl, z_ltT, z_ltF, z_eqF, z_10, z_01, z_litne, z_ne0, z_0ne, z_ne1, z_1ne, z_lt64, z_02, z_03, z_04, z_05, z_12, z_13, z_14, z_15, z_20, z_21, z_23, z_24, z_25, z_30, z_31, z_32, z_34, z_35, z_40, z_41, z_42, z_43, z_45, z_50, z_51, z_52, z_53, z_54]
    rfl
  · rw [bk_86_7]
    simp (maxSteps := 1000000) (disch := omega) only [e21, hM, y_ckd, y_ck2d, y_ond, y_onn, y_oI, y_oIx, y_oJ, y_oV, y_oVx, y_oR, y_oRn, y_oRx, y_b0, y_b1, y_bi, y_bid, y_wIK, y_wIL, y_wII, y_wIJ, y_wIR, y_wIN, y_wIw, y_sI, ↓reduceIte, Nat.reduceEqDiff, eq_self, true_or, or_true, false_or, or_false, and_true, true_and, false_and, and_false, not_true, not_false_eq_true, tf_T, tf_F, y_up1, y_up2, y_xx, y_nx, y_sJ, y_sR, Int32.reduceLT, y_nxK, y_nxL, y_nxR, y_sJK, y_sJL, y_sJR, y_sJN, y_sRK, y_sRL, y_sRN, Nat.add_zero, z_nat, z_lit, z_lit0, z_lit1, z_in0, z_in1, z_addl0, z_lt, z_ltl, z_llt, z_inj, z_injl, z_add, z_addl, z_ladd, z_mul, z_mull, z_lmul, z_neg, z_negl, z_in, z_inl, z_ltT, z_ltF, z_eqF, z_10, z_01, z_litne, z_ne0, z_0ne, z_ne1, z_1ne, z_lt64, z_02, z_03, z_04, z_05, z_12, z_13, z_14, z_15, z_20, z_21, z_23, z_24, z_25, z_30, z_31, z_32, z_34, z_35, z_40, z_41, z_42, z_43, z_45, z_50, z_51, z_52, z_53, z_54]
/-- what the model's step does to the rows -/
def ofr (B : am_A) (i : Nat → Nat → Int32) (s j : Nat) (c : Int32) (r : Int64) : am_A × (Nat → Nat → Int32) :=
  if i 883 s < 0 then (B, i) else if btr (i 883 s + c) (am_J B 884 s + r) (i 883 (s + 2 ^ j), am_J B 884 (s + 2 ^ j)) then (am_sJ B 884 (s + 2 ^ j) (am_J B 884 s + r), am_up2 i 883 (s + 2 ^ j) (i 883 s + c)) else (B, i)
def stp (B : am_A) (i : Nat → Nat → Int32) (wd : Nat → Int32) (rk : Nat → Int64) (s j : Nat) : am_A × (Nat → Nat → Int32) := if bt2 s j ∨ wd j = -1 then (B, i) else ofr B i s j (wd j) (rk j)
theorem m_offers {s : Nat} {c : Int32} {r : Int64} (hM : Md B) (hs : s < 256) (hj : j < 8) (hT : s + 2 ^ j < 256) (g : ¬ bt2 s j) (hn : (i 883 (s + 2 ^ j) < 0) = (i 883 (s + 2 ^ j) = -1)) : am_fx am_P d 85 0 [some (.ref 874), some (.int (Int32.ofNat s)), some (.int (Int32.ofNat j)), some (.int c), some (.long r), none, none, none, none, none] [] (am_wI B i) = some (.inl none, am_wI (ofr B i s j c r).1 (ofr B i s j c r).2) := by
  have es := zb_set s hs j hj g
  unfold ofr
  rw [bk_85_0]
  by_cases g0 : i 883 s < 0
  · rw [if_pos g0]
    simp (maxSteps := 1000000) (disch := omega) only [g0, hM, y_ckd, y_ck2d, y_ond, y_onn, y_oI, y_oIx, y_oJ, y_oV, y_oVx, y_oR, y_oRn, y_oRx, y_b0, y_b1, y_bi, y_bid, y_wIK, y_wIL, y_wII, y_wIJ, y_wIR, y_wIN, y_wIw, y_sI, ↓reduceIte, Nat.reduceEqDiff, eq_self, true_or, or_true, false_or, or_false, and_true, true_and, false_and, and_false, not_true, not_false_eq_true, tf_T, tf_F, y_up1, y_up2, y_xx, y_nx, y_sJ, y_sR, Int32.reduceLT, y_nxK, y_nxL, y_nxR, y_sJK, y_sJL, y_sJR, y_sJN, y_sRK, y_sRL, y_sRN, Nat.add_zero, z_nat, z_lit, z_lit0, z_lit1, z_in0, z_in1, z_addl0, z_lt, z_ltl, z_llt, z_inj, z_injl, z_add, z_addl, z_ladd, z_mul, z_mull, z_lmul, z_neg, z_negl, z_in, z_inl, z_ltT, z_ltF, z_eqF, z_10, z_01, z_litne, z_ne0, z_0ne, z_ne1, z_1ne, z_lt64, z_02, z_03, z_04, z_05, z_12, z_13, z_14, z_15, z_20, z_21, z_23, z_24, z_25, z_30, z_31, z_32, z_34, z_35, z_40, z_41, z_42, z_43, z_45, z_50, z_51, z_52, z_53, z_54]
  rw [if_neg g0]
  generalize hto : s + 2 ^ j = to at *
  by_cases g1 : i 883 to = -1
  · rw [if_pos (c := btr (i 883 s + c) (am_J B 884 s + r) (i 883 to, am_J B 884 to)) (Or.inl g1)]
    simp (maxSteps := 1000000) (disch := omega) only [(fun d x0 x6 x7 x8 B i => bk_85_86 d x0 x6 x7 x8 (am_wI B i)), (fun d B i => bk_85_104 d (am_wI B i)), es, g0, hn, g1, hM, y_ckd, y_ck2d, y_ond, y_onn, y_oI, y_oIx, y_oJ, y_oV, y_oVx, y_oR, y_oRn, y_oRx, y_b0, y_b1, y_bi, y_bid, y_wIK, y_wIL, y_wII, y_wIJ, y_wIR, y_wIN, y_wIw, y_sI, ↓reduceIte, Nat.reduceEqDiff, eq_self, true_or, or_true, false_or, or_false, and_true, true_and, false_and, and_false, not_true, not_false_eq_true, tf_T, tf_F, y_up1, y_up2, y_xx, y_nx, y_sJ, y_sR, Int32.reduceLT, y_nxK, y_nxL, y_nxR, y_sJK, y_sJL, y_sJR, y_sJN, y_sRK, y_sRL, y_sRN, Nat.add_zero, z_nat, z_lit, z_lit0, z_lit1, z_in0, z_in1, z_addl0, z_lt, z_ltl, z_llt, z_inj, z_injl, z_add, z_addl, z_ladd, z_mul, z_mull, z_lmul, z_neg, z_negl, z_in, z_inl, z_ltT, z_ltF, z_eqF, z_10, z_01, z_litne, z_ne0, z_0ne, z_ne1, z_1ne, z_lt64, z_02, z_03, z_04, z_05, z_12, z_13, z_14, z_15, z_20, z_21, z_23, z_24, z_25, z_30, z_31, z_32, z_34, z_35, z_40, z_41, z_42, z_43, z_45, z_50, z_51, z_52, z_53, z_54]
  by_cases g2 : i 883 to < i 883 s + c
  · rw [if_neg (c := btr (i 883 s + c) (am_J B 884 s + r) (i 883 to, am_J B 884 to)) (fun q => q.elim g1 fun q => q.elim (fun q => Int32.lt_irrefl (Int32.lt_trans q g2)) fun q => Int32.lt_irrefl (show i 883 s + c < i 883 s + c from Eq.subst (motive := fun z => z < i 883 s + c) q.1.symm g2))]
    simp (maxSteps := 1000000) (disch := omega) only [es, g0, hn, g1, g2, hM, y_ckd, y_ck2d, y_ond, y_onn, y_oI, y_oIx, y_oJ, y_oV, y_oVx, y_oR, y_oRn, y_oRx, y_b0, y_b1, y_bi, y_bid, y_wIK, y_wIL, y_wII, y_wIJ, y_wIR, y_wIN, y_wIw, y_sI, ↓reduceIte, Nat.reduceEqDiff, eq_self, true_or, or_true, false_or, or_false, and_true, true_and, false_and, and_false, not_true, not_false_eq_true, tf_T, tf_F, y_up1, y_up2, y_xx, y_nx, y_sJ, y_sR, Int32.reduceLT, y_nxK, y_nxL, y_nxR, y_sJK, y_sJL, y_sJR, y_sJN, y_sRK, y_sRL, y_sRN, Nat.add_zero, z_nat, z_lit, z_lit0, z_lit1, z_in0, z_in1, z_addl0, z_lt, z_ltl, z_llt, z_inj, z_injl, z_add, z_addl, z_ladd, z_mul, z_mull, z_lmul, z_neg, z_negl, z_in, z_inl, z_ltT, z_ltF, z_eqF, z_10, z_01, z_litne, z_ne0, z_0ne, z_ne1, z_1ne, z_lt64, z_02, z_03, z_04, z_05, z_12, z_13, z_14, z_15, z_20, z_21, z_23, z_24, z_25, z_30, z_31, z_32, z_34, z_35, z_40, z_41, z_42, z_43, z_45, z_50, z_51, z_52, z_53, z_54]
  by_cases g3 : i 883 s + c = i 883 to
  · by_cases g4 : am_J B 884 s + r < am_J B 884 to
    · rw [if_pos (c := btr (i 883 s + c) (am_J B 884 s + r) (i 883 to, am_J B 884 to)) (Or.inr (Or.inr ⟨g3, g4⟩))]
      have e : ((-1 : Int32) < 0) = True := eq_true (by decide)
      simp (maxSteps := 1000000) (disch := omega) only [(fun d x0 x6 x7 x8 B i => bk_85_86 d x0 x6 x7 x8 (am_wI B i)), (fun d B i => bk_85_104 d (am_wI B i)), es, g0, hn, g1, g2, eq_true g3, eq_true g4, e, hM, y_ckd, y_ck2d, y_ond, y_onn, y_oI, y_oIx, y_oJ, y_oV, y_oVx, y_oR, y_oRn, y_oRx, y_b0, y_b1, y_bi, y_bid, y_wIK, y_wIL, y_wII, y_wIJ, y_wIR, y_wIN, y_wIw, y_sI, ↓reduceIte, Nat.reduceEqDiff, eq_self, true_or, or_true, false_or, or_false, and_true, true_and, false_and, and_false, not_true, not_false_eq_true, tf_T, tf_F, y_up1, y_up2, y_xx, y_nx, y_sJ, y_sR, Int32.reduceLT, y_nxK, y_nxL, y_nxR, y_sJK, y_sJL, y_sJR, y_sJN, y_sRK, y_sRL, y_sRN, Nat.add_zero, z_nat, z_lit, z_lit0, z_lit1, z_in0, z_in1, z_addl0, z_lt, z_ltl, z_llt, z_inj, z_injl, z_add, z_addl, z_ladd, z_mul, z_mull, z_lmul, z_neg, z_negl, z_in, z_inl, z_ltT, z_ltF, z_eqF, z_10, z_01, z_litne, z_ne0, z_0ne, z_ne1, z_1ne, z_lt64, z_02, z_03, z_04, z_05, z_12, z_13, z_14, z_15, z_20, z_21, z_23, z_24, z_25, z_30, z_31, z_32, z_34, z_35, z_40, z_41, z_42, z_43, z_45, z_50, z_51, z_52, z_53, z_54]
    · rw [if_neg (c := btr (i 883 s + c) (am_J B 884 s + r) (i 883 to, am_J B 884 to)) (fun q => q.elim g1 fun q => q.elim (fun q => Int32.lt_irrefl (show i 883 to < i 883 to from Eq.subst (motive := fun z => z < i 883 to) g3 q)) fun q => g4 q.2)]
      have e : ¬ (if am_J B 884 s + r = am_J B 884 to then 0 else 1 : Int32) < 0 := by split <;> decide
      simp (maxSteps := 1000000) (disch := omega) only [(fun d x0 x6 x7 x8 B i => bk_85_86 d x0 x6 x7 x8 (am_wI B i)), (fun d B i => bk_85_104 d (am_wI B i)), es, g0, hn, g1, g2, eq_true g3, eq_false g4, e, hM, y_ckd, y_ck2d, y_ond, y_onn, y_oI, y_oIx, y_oJ, y_oV, y_oVx, y_oR, y_oRn, y_oRx, y_b0, y_b1, y_bi, y_bid, y_wIK, y_wIL, y_wII, y_wIJ, y_wIR, y_wIN, y_wIw, y_sI, ↓reduceIte, Nat.reduceEqDiff, eq_self, true_or, or_true, false_or, or_false, and_true, true_and, false_and, and_false, not_true, not_false_eq_true, tf_T, tf_F, y_up1, y_up2, y_xx, y_nx, y_sJ, y_sR, Int32.reduceLT, y_nxK, y_nxL, y_nxR, y_sJK, y_sJL, y_sJR, y_sJN, y_sRK, y_sRL, y_sRN, Nat.add_zero, z_nat, z_lit, z_lit0, z_lit1, z_in0, z_in1, z_addl0, z_lt, z_ltl, z_llt, z_inj, z_injl, z_add, z_addl, z_ladd, z_mul, z_mull, z_lmul, z_neg, z_negl, z_in, z_inl, z_ltT, z_ltF, z_eqF, z_10, z_01, z_litne, z_ne0, z_0ne, z_ne1, z_1ne, z_lt64, z_02, z_03, z_04, z_05, z_12, z_13, z_14, z_15, z_20, z_21, z_23, z_24, z_25, z_30, z_31, z_32, z_34, z_35, z_40, z_41, z_42, z_43, z_45, z_50, z_51, z_52, z_53, z_54]
  · rw [if_pos (c := btr (i 883 s + c) (am_J B 884 s + r) (i 883 to, am_J B 884 to)) (Or.inr (Or.inl (by
      show i 883 s + c < i 883 to
      rw [Int32.lt_iff_toInt_lt] at g2 ⊢
      have : (i 883 s + c).toInt ≠ (i 883 to).toInt := fun q => g3 (Int32.toInt_inj.mp q)
      omega)))]
    simp (maxSteps := 1000000) (disch := omega) only [(fun d x0 x6 x7 x8 B i => bk_85_86 d x0 x6 x7 x8 (am_wI B i)), (fun d B i => bk_85_104 d (am_wI B i)), es, g0, hn, g1, g2, g3, hM, y_ckd, y_ck2d, y_ond, y_onn, y_oI, y_oIx, y_oJ, y_oV, y_oVx, y_oR, y_oRn, y_oRx, y_b0, y_b1, y_bi, y_bid, y_wIK, y_wIL, y_wII, y_wIJ, y_wIR, y_wIN, y_wIw, y_sI, ↓reduceIte, Nat.reduceEqDiff, eq_self, true_or, or_true, false_or, or_false, and_true, true_and, false_and, and_false, not_true, not_false_eq_true, tf_T, tf_F, y_up1, y_up2, y_xx, y_nx, y_sJ, y_sR, Int32.reduceLT, y_nxK, y_nxL, y_nxR, y_sJK, y_sJL, y_sJR, y_sJN, y_sRK, y_sRL, y_sRN, Nat.add_zero, z_nat, z_lit, z_lit0, z_lit1, z_in0, z_in1, z_addl0, z_lt, z_ltl, z_llt, z_inj, z_injl, z_add, z_addl, z_ladd, z_mul, z_mull, z_lmul, z_neg, z_negl, z_in, z_inl, z_ltT, z_ltF, z_eqF, z_10, z_01, z_litne, z_ne0, z_0ne, z_ne1, z_1ne, z_lt64, z_02, z_03, z_04, z_05, z_12, z_13, z_14, z_15, z_20, z_21, z_23, z_24, z_25, z_30, z_31, z_32, z_34, z_35, z_40, z_41, z_42, z_43, z_45, z_50, z_51, z_52, z_53, z_54]
theorem imp_sm {wd : Nat → Int32} {rk : Nat → Int64} {U : Cs} {m : Nat} {a : Int32 × Int64} (m8 : m ≤ 8) (hS : Csm U m) (hd : ∀ n, n < m → wd n = -1 ∨ ∃ v, wd n = Int32.ofNat v ∧ v ≤ 13000) (hT : T < 2 ^ m) (hn : n < m) (ih : a.1 = -1 ∨ ∃ v, a.1 = Int32.ofNat v ∧ v ≤ 13000 * T) : (imp wd rk U T n a).1 = -1 ∨ ∃ v, (imp wd rk U T n a).1 = Int32.ofNat v ∧ v ≤ 13000 * T := by
  have p8 := Nat.pow_le_pow_right (n := 2) (by omega) m8
  unfold imp imp1
  by_cases g : bt2 T n ∧ ¬ wd n = -1 ∧ ¬ U.1 (T - 2 ^ n) = -1
  · rw [if_pos g]
    by_cases q : btr (U.1 (T - 2 ^ n) + wd n) (U.2 (T - 2 ^ n) + rk n) a
    · rw [if_pos q]
      obtain ⟨u, e, hu⟩ := (hd n hn).resolve_left g.2.1
      obtain ⟨v, e2, hv⟩ := (hS (T - 2 ^ n) (Nat.lt_of_le_of_lt (Nat.sub_le _ _) hT)).resolve_left g.2.2
      refine Or.inr ⟨v + u, by rw [e, e2, z_add], ?_⟩
      have := (nb_ge T (by omega) n (by omega) g.1).1
      have := p2_pos (a := n)
      omega
    · rw [if_neg q]
      exact ih
  · rw [if_neg g]
    exact ih
theorem nwq_sm {wd : Nat → Int32} {rk : Nat → Int64} {U : Cs} {m s : Nat} (m8 : m ≤ 8) (hS : Csm U m) (hd : ∀ n, n < m → wd n = -1 ∨ ∃ v, wd n = Int32.ofNat v ∧ v ≤ 13000) (hT : T < 2 ^ m) : (nwq wd rk U s j T m).1 = -1 ∨ ∃ v, (nwq wd rk U s j T m).1 = Int32.ofNat v ∧ v ≤ 13000 * T := by
  refine itr_inv (P := fun _ (a : Int32 × Int64) => a.1 = -1 ∨ ∃ v, a.1 = Int32.ofNat v ∧ v ≤ 13000 * T) (hS T hT) fun k hk a ih => ?_
  unfold impQ
  split
  · exact imp_sm m8 hS hd hT hk ih
  · exact ih
theorem stp_ok {wd : Nat → Int32} {rk : Nat → Int64} {U : Cs} {m s : Nat} (m8 : m ≤ 8) (p2 : 2 ^ m ≤ 256) (hS : Csm U m) (hs : s < 2 ^ m) (hj : j < m) (hC : ∀ T', T' < 2 ^ m → CsT 883 884 B i T' (nwq wd rk U s j T' m)) : Jy 884 B (stp B i wd rk s j).1 ∧ (∀ q k, q ≠ 883 → (stp B i wd rk s j).2 q k = i q k) ∧ ∀ T', T' < 2 ^ m → CsT 883 884 (stp B i wd rk s j).1 (stp B i wd rk s j).2 T' (nwq wd rk U s (j + 1) T' m) := by
  have hss := hC s hs
  rw [nwq_low (Nat.le_refl _) (by omega) m8] at hss
  have h1 : i 883 s = U.1 s := hss.1
  have sn := sm_neg (hS s hs) (by omega)
  have same : (∀ T', T' < 2 ^ m → nwq wd rk U s (j + 1) T' m = nwq wd rk U s j T' m) → Jy 884 B B ∧ (∀ q k, q ≠ 883 → i q k = i q k) ∧ ∀ T', T' < 2 ^ m → CsT 883 884 B i T' (nwq wd rk U s (j + 1) T' m) := fun h => ⟨Jy.rf, fun _ _ _ => rfl, fun T' hT => by rw [h T' hT]; exact hC T' hT⟩
  unfold stp
  by_cases g : bt2 s j
  · rw [if_pos (Or.inl g)]
    exact same fun T' hT => nwq_other (by omega) (by omega) m8 fun q => q.1 g
  have ht := nb_up m (by omega) j hj s hs g
  have hh := nwq_hit (wd := wd) (rk := rk) (S := U) (s := s) (by omega) m8 hj (by omega) g
  have stay : imp wd rk U (s + 2 ^ j) j (nwq wd rk U s j (s + 2 ^ j) m) = nwq wd rk U s j (s + 2 ^ j) m → ∀ T', T' < 2 ^ m → nwq wd rk U s (j + 1) T' m = nwq wd rk U s j T' m := fun h T' hT => by
    by_cases e : T' = s + 2 ^ j
    · rw [e, hh, h]
    · exact nwq_other (by omega) (by omega) m8 fun q => e q.2
  by_cases gw : wd j = -1
  · rw [if_pos (Or.inr gw)]
    exact same (stay (if_neg fun q => q.2.1 gw))
  rw [if_neg (fun q => q.elim g gw)]
  unfold ofr
  by_cases gc : U.1 s = -1
  · rw [if_pos (by rw [h1, sn]; exact gc)]
    exact same (stay (if_neg fun q => q.2.2 (by rw [Nat.add_sub_cancel]; exact gc)))
  rw [if_neg (by rw [h1, sn]; exact gc)]
  have h2 : am_J B 884 s = U.2 s := hss.2 gc
  have hto := hC (s + 2 ^ j) ht
  have hb := btr_c (c := U.1 s + wd j) (r := U.2 s + rk j) hto.2
  rw [← hto.1] at hb
  rw [h1, h2]
  have es : imp wd rk U (s + 2 ^ j) j (nwq wd rk U s j (s + 2 ^ j) m) = if btr (U.1 s + wd j) (U.2 s + rk j) (nwq wd rk U s j (s + 2 ^ j) m) then (U.1 s + wd j, U.2 s + rk j) else nwq wd rk U s j (s + 2 ^ j) m := by
    unfold imp imp1
    rw [Nat.add_sub_cancel, if_pos ⟨nb_set s (by omega) j (by omega) g, gw, gc⟩]
  by_cases q : btr (U.1 s + wd j) (U.2 s + rk j) (nwq wd rk U s j (s + 2 ^ j) m)
  · rw [if_pos q] at es
    rw [if_pos (hb.mpr q)]
    refine ⟨Jy.sJ, fun q k hq => y_up2 (Or.inl hq), fun T' hT => ?_⟩
    by_cases e : T' = s + 2 ^ j
    · rw [e, hh, es]
      exact ⟨y_up1 rfl rfl, fun _ => y_up1 rfl rfl⟩
    · rw [nwq_other (by omega) (by omega) m8 fun q => e q.2]
      have := hC T' hT
      exact ⟨(y_up2 (Or.inr e)).trans this.1, fun r => (y_up2 (Or.inr e)).trans (this.2 r)⟩
  · rw [if_neg q] at es
    rw [if_neg (fun r => q (hb.mp r))]
    exact same (stay es)
theorem m_offer {ss tr tt : Int32} {x m : Nat} {wd : Nat → Int32} {U : Cs} (hM : Md B) (m8 : m ≤ 8) (e21 : i 874 21 = Int32.ofNat m) (hS : Csm U m) (hd : ∀ n, n < m → wd n = -1 ∨ ∃ v, wd n = Int32.ofNat v ∧ v ≤ 13000) (hC : ∀ T, T < 2 ^ m → CsT 883 884 B i T (U.1 T, U.2 T)) (hstep : ∀ B' i' s j, Jy 884 B B' → (∀ q k, q ≠ 883 → i' q k = i q k) → s < 2 ^ m → j < m → (¬ bt2 s j → (i' 883 (s + 2 ^ j) < 0) = (i' 883 (s + 2 ^ j) = -1)) → am_fx am_P (d + 5) 87 198 [some (.ref 874), some (.int ss), some (.int tr), some (.int tt), some (.int (Int32.ofNat x)), some (.int (Int32.ofNat s)), some (.int (Int32.ofNat j)), none, none, none, none] [] (am_wI B' i') = am_fx am_P (d + 5) 87 198 [some (.ref 874), some (.int ss), some (.int tr), some (.int tt), some (.int (Int32.ofNat x)), some (.int (Int32.ofNat s)), some (.int (Int32.ofNat (j + 1))), none, none, none, none] [] (am_wI (stp B' i' wd (rkx x m) s j).1 (stp B' i' wd (rkx x m) s j).2)) : ∃ s' : am_A × (Nat → Nat → Int32), am_fx am_P (d + 5) 87 180 [some (.ref 874), some (.int ss), some (.int tr), some (.int tt), some (.int (Int32.ofNat x)), none, none, none, none, none, none] [] (am_wI B i) = am_fx am_P (d + 5) 87 114 [some (.ref 874), some (.int ss), some (.int tr), some (.int tt), some (.int (Int32.ofNat (x + 1))), none, none, none, none, none, none] [] (am_wI s'.1 s'.2) ∧ Jy 884 B s'.1 ∧ (∀ q k, q ≠ 883 → s'.2 q k = i q k) ∧ ∀ T, T < 2 ^ m → CsT 883 884 s'.1 s'.2 T (nwp wd (rkx x m) U T m) := by
  obtain ⟨p1, p2⟩ := p2_le m8
  have eP := z_pow m8
  obtain ⟨s1, E, hB1, hf1, hC1⟩ := lp_inv (fun k (s : am_A × (Nat → Nat → Int32)) => am_fx am_P (d + 5) 87 190 [some (.ref 874), some (.int ss), some (.int tr), some (.int tt), some (.int (Int32.ofNat x)), some (.int (if k < 2 ^ m then Int32.ofNat (2 ^ m - 1 - k) else -1)), none, none, none, none, none] [] (am_wI s.1 s.2)) (fun k s => Jy 884 B s.1 ∧ (∀ q k, q ≠ 883 → s.2 q k = i q k) ∧ ∀ T', T' < 2 ^ m → CsT 883 884 s.1 s.2 T' (if k < 2 ^ m then nwq wd (rkx x m) U (2 ^ m - 1 - k) 0 T' m else nwp wd (rkx x m) U T' m)) (2 ^ m) (fun k s hk hI => by
    obtain ⟨hB, hf, hC⟩ := hI
    rw [if_pos hk] at *
    have hC0 : ∀ T', T' < 2 ^ m → CsT 883 884 s.1 s.2 T' (nwq wd (rkx x m) U (2 ^ m - 1 - k) 0 T' m) := fun T' h => by have := hC T' h; rw [if_pos hk] at this; exact this
    generalize hSS : 2 ^ m - 1 - k = S at *
    obtain ⟨s2, E2, hB2, hf2, hC2⟩ := lp_inv (fun n (s : am_A × (Nat → Nat → Int32)) => am_fx am_P (d + 5) 87 198 [some (.ref 874), some (.int ss), some (.int tr), some (.int tt), some (.int (Int32.ofNat x)), some (.int (Int32.ofNat S)), some (.int (Int32.ofNat n)), none, none, none, none] [] (am_wI s.1 s.2)) (fun n s => Jy 884 B s.1 ∧ (∀ q k, q ≠ 883 → s.2 q k = i q k) ∧ ∀ T', T' < 2 ^ m → CsT 883 884 s.1 s.2 T' (nwq wd (rkx x m) U S n T' m)) m (fun n s hn hI => by
      obtain ⟨hB, hf, hC⟩ := hI
      obtain ⟨hB', hf', hC'⟩ := stp_ok m8 p2 hS (by omega) hn hC
      refine ⟨stp s.1 s.2 wd (rkx x m) S n, hstep s.1 s.2 S n hB hf (by omega) hn fun g => ?_, hB.tr hB', fun q k hq => (hf' q k hq).trans (hf q k hq), hC'⟩
      have ht := nb_up m (by omega) n hn S (by omega) g
      rw [(hC _ ht).1]
      exact sm_neg (nwq_sm m8 hS hd ht) (by omega)) s ⟨hB, hf, hC0⟩
    have hM2 : Md s2.1 := hB2.md hM
    have e22 : s2.2 874 21 = Int32.ofNat m := (hf2 _ _ (by omega)).trans e21
    refine ⟨s2, ?_, hB2, hf2, fun T' h1 => ?_⟩
    · have zt : Int32.ofNat S + (-1) = if k + 1 < 2 ^ m then Int32.ofNat (2 ^ m - 1 - (k + 1)) else -1 := by
        by_cases c : k + 1 < 2 ^ m
        · rw [if_pos c, show Int32.ofNat S + (-1) = Int32.ofNat S - Int32.ofNat 1 from by rw [Int32.sub_eq_add_neg]; rfl, z_sub (by omega)]
          exact congrArg _ (by omega)
        · rw [if_neg c, show S = 0 by omega]
          rfl
      rw [bk_87_190]
      have gS : ¬ Int32.ofNat S < 0 := by rw [z_neg (by omega)]; exact id
      rw [if_neg gS]
      refine E2.trans ?_
      rw [bk_87_198, ← zt]
      simp (maxSteps := 1000000) (disch := omega) only [e22, hM2, y_ckd, y_ck2d, y_ond, y_onn, y_oI, y_oIx, y_oJ, y_oV, y_oVx, y_oR, y_oRn, y_oRx, y_b0, y_b1, y_bi, y_bid, y_wIK, y_wIL, y_wII, y_wIJ, y_wIR, y_wIN, y_wIw, y_sI, ↓reduceIte, Nat.reduceEqDiff, eq_self, true_or, or_true, false_or, or_false, and_true, true_and, false_and, and_false, not_true, not_false_eq_true, tf_T, tf_F, y_up1, y_up2, y_xx, y_nx, y_sJ, y_sR, Int32.reduceLT, y_nxK, y_nxL, y_nxR, y_sJK, y_sJL, y_sJR, y_sJN, y_sRK, y_sRL, y_sRN, Nat.add_zero, z_nat, z_lit, z_lit0, z_lit1, z_in0, z_in1, z_addl0, z_lt, z_ltl, z_llt, z_inj, z_injl, z_add, z_addl, z_ladd, z_mul, z_mull, z_lmul, z_neg, z_negl, z_in, z_inl, z_ltT, z_ltF, z_eqF, z_10, z_01, z_litne, z_ne0, z_0ne, z_ne1, z_1ne, z_lt64, z_02, z_03, z_04, z_05, z_12, z_13, z_14, z_15, z_20, z_21, z_23, z_24, z_25, z_30, z_31, z_32, z_34, z_35, z_40, z_41, z_42, z_43, z_45, z_50, z_51, z_52, z_53, z_54]
    · have := hC2 T' h1
      by_cases c : k + 1 < 2 ^ m
      · rw [if_pos c, ← nwq_next (s := 2 ^ m - 1 - (k + 1)) (by omega) m8, show 2 ^ m - 1 - (k + 1) + 1 = S by omega]
        exact this
      · rw [if_neg c, ← nwq_end (by omega) m8]
        rw [show S = 0 by omega] at this
        exact this) (B, i) ⟨Jy.rf, fun _ _ _ => rfl, fun T' h1 => by
      rw [if_pos (by omega), nwq_low (by omega) (by omega) m8]
      exact hC T' h1⟩
  refine ⟨s1, ?_, hB1, hf1, fun T h1 => ?_⟩
  · rw [bk_87_180]
    rw [if_neg (Nat.lt_irrefl _)] at E
    have z0 : Int32.ofNat (2 ^ m) - 1 = if 0 < 2 ^ m then Int32.ofNat (2 ^ m - 1 - 0) else -1 := by
      rw [if_pos (by omega), show (1 : Int32) = Int32.ofNat 1 from rfl, z_sub (by omega)]
      rfl
    simp (maxSteps := 1000000) (disch := omega) only [e21, eP, hM, y_ckd, y_wII, ↓reduceIte]
    rw [z0]
    refine E.trans ?_
    rw [bk_87_190, if_pos (by decide)]
    simp (maxSteps := 1000000) (disch := omega) only [y_ckd, y_ck2d, y_ond, y_onn, y_oI, y_oIx, y_oJ, y_oV, y_oVx, y_oR, y_oRn, y_oRx, y_b0, y_b1, y_bi, y_bid, y_wIK, y_wIL, y_wII, y_wIJ, y_wIR, y_wIN, y_wIw, y_sI, ↓reduceIte, Nat.reduceEqDiff, eq_self, true_or, or_true, false_or, or_false, and_true, true_and, false_and, and_false, not_true, not_false_eq_true, tf_T, tf_F, y_up1, y_up2, y_xx, y_nx, y_sJ, y_sR, Int32.reduceLT, y_nxK, y_nxL, y_nxR, y_sJK, y_sJL, y_sJR, y_sJN, y_sRK, y_sRL, y_sRN, Nat.add_zero, z_nat, z_lit, z_lit0, z_lit1, z_in0, z_in1, z_addl0, z_lt, z_ltl, z_llt, z_inj, z_injl, z_add, z_addl, z_ladd, z_mul, z_mull, z_lmul, z_neg, z_negl, z_in, z_inl, z_ltT, z_ltF, z_eqF, z_10, z_01, z_litne, z_ne0, z_0ne, z_ne1, z_1ne, z_lt64, z_02, z_03, z_04, z_05, z_12, z_13, z_14, z_15, z_20, z_21, z_23, z_24, z_25, z_30, z_31, z_32, z_34, z_35, z_40, z_41, z_42, z_43, z_45, z_50, z_51, z_52, z_53, z_54]
  · have := hC1 T h1
    rw [if_neg (Nat.lt_irrefl _)] at this
    exact this
end Offers
