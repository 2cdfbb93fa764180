/-! A YARD IS COPIED INTO ANOTHER: made by wip/whole/math/54.py. -/
/-- the first n of a row are those of another -/
def cpf (i : Nat → Nat → Int32) (a b n : Nat) : Nat → Nat → Int32 := fun c j => if c = b ∧ j < n then i a j else i c j
theorem cpf_at {i : Nat → Nat → Int32} {a b n c j : Nat} (h : c = b) (hj : j < n) : cpf i a b n c j = i a j := if_pos ⟨h, hj⟩
theorem cpf_ne {i : Nat → Nat → Int32} {a b n c j : Nat} (h : c ≠ b ∨ n ≤ j) : cpf i a b n c j = i c j := if_neg fun q => by rcases h with h | h <;> omega
theorem cpf_r {i : Nat → Nat → Int32} {a b n c : Nat} (h : c ≠ b) : cpf i a b n c = i c := funext fun j => cpf_ne (Or.inl h)
theorem y_cp0 {B : am_A} {i : Nat → Nat → Int32} {a b n : Nat} : am_cp (am_wI B i) a 0 b 0 n = am_wI B (cpf i a b n) := by
  rw [y_cp]
  refine congrArg (am_wI B) ?_
  funext c j
  unfold cpf
  simp only [Nat.zero_add, Nat.sub_zero, Nat.zero_le, true_and]
theorem z_80n : ((8 : Nat) < 0) = False := eq_false (by decide)
/-- of the yard at b, the cells of P hold what the yard at b2 held; all else is as it was -/
def Rl (i i' : Nat → Nat → Int32) (b b2 : Nat) (P : Nat → Nat → Prop) : Prop := (∀ q q2 k, q + b2 = q2 + b → b ≤ q → q < b + 260 → P (q - b) k → i' q k = i q2 k) ∧ ∀ q k, (q < b ∨ b + 260 ≤ q) → i' q k = i q k
/-- the same, but for one row of references -/
def Sr (B B' : am_A) (a : Nat) : Prop := am_K B' = am_K B ∧ am_L B' = am_L B ∧ am_N B' = am_N B ∧ am_C B' = am_C B ∧ am_S B' = am_S B ∧ am_J B' = am_J B ∧ ∀ q, q ≠ a → am_R B' q = am_R B q
section Copy2
variable {B B' : am_A} {i i' : Nat → Nat → Int32} {w : Nat → Int32} {b b2 d : Nat} {P : Nat → Nat → Prop}
theorem Sr.rf {a : Nat} : Sr B B a := ⟨rfl, rfl, rfl, rfl, rfl, rfl, fun _ _ => rfl⟩
theorem Sr.le {a : Nat} (h : Sr B B' a) (ha : a = 102 ∨ a = 362 ∨ a = 622) : Le B B' := by
  obtain ⟨h1, h2, h3, -, -, h6, h7⟩ := h
  exact ⟨by rw [h3]; exact Nat.le_refl _, fun q _ => ⟨by rw [h1], by rw [h2], fun a1 a2 a3 => h7 q (by omega)⟩, by rw [h6]⟩
theorem Rl.z (hd : b + 260 ≤ b2 ∨ b2 + 260 ≤ b) : Rl i i b b2 (fun _ _ => False) := ⟨fun _ _ _ _ _ _ h => h.elim, fun _ _ _ => rfl⟩
theorem Rl.up {q0 k0 a : Nat} {v : Int32} (h : Rl i i' b b2 P) (hq : q0 < 260) (ha : a = b + q0) (hv : v = i (b2 + q0) k0) : Rl i (am_up2 i' a k0 v) b b2 (fun q k => P q k ∨ (q = q0 ∧ k = k0)) := by
  refine ⟨fun q q2 k e h1 h2 hP => ?_, fun q k hq => ?_⟩
  · by_cases c : q = a ∧ k = k0
    · rw [y_up1 c.1 c.2, hv, c.2, show q2 = b2 + q0 by omega]
    · rw [y_up2 (by omega)]
      exact h.1 q q2 k e h1 h2 (hP.resolve_right fun z => c ⟨by omega, z.2⟩)
  · rw [y_up2 (by omega)]
    exact h.2 q k hq
theorem Rl.cp {q0 n a a2 : Nat} (h : Rl i i' b b2 P) (hd : b + 260 ≤ b2 ∨ b2 + 260 ≤ b) (hq : q0 < 260) (ha : a = b + q0) (ha2 : a2 = b2 + q0) : Rl i (cpf i' a2 a n) b b2 (fun q k => P q k ∨ (q = q0 ∧ k < n)) := by
  refine ⟨fun q q2 k e h1 h2 hP => ?_, fun q k hq => ?_⟩
  · by_cases c : q = a ∧ k < n
    · rw [cpf_at c.1 c.2, show q2 = a2 by omega]
      exact h.2 _ _ (by omega)
    · rw [cpf_ne (by omega)]
      exact h.1 q q2 k e h1 h2 (hP.resolve_right fun z => c ⟨by omega, z.2⟩)
  · rw [cpf_ne (by omega)]
    exact h.2 q k hq
theorem cp_harbour (hY : Yd B b) (hY2 : Yd B b2) (hd : b + 260 ≤ b2 ∨ b2 + 260 ≤ b) : am_fx am_P d 222 0 [some (.ref (b + 11)), some (.ref (b2 + 11))] [] (am_wI B i) = some (.inl none, am_wI B (cpf (am_up2 (cpf i (b2 + 12) (b + 12) 4) (b + 11) 1 (i (b2 + 11) 1)) (b2 + 13) (b + 13) 28)) := by
  rw [bk_222_0]
  simp (disch := omega) only [(fun d x0 x1 B i => bk_222_0 d x0 x1 (am_wI B i)), (fun d x0 x1 B i => bk_222_22 d x0 x1 (am_wI B i)), hY, hY2, y_cp0, z_80n, cpf_ne, y_ckd, y_ck2d, y_ond, y_onn, y_oI, y_oIx, y_oJ, y_oV, y_oVx, y_oR, y_oRn, y_oRx, y_b0, y_b1, y_bi, y_bid, y_wIK, y_wIL, y_wII, y_wIJ, y_wIR, y_wIN, y_wIw, y_sI, ↓reduceIte, Nat.reduceEqDiff, eq_self, true_or, or_true, false_or, or_false, and_true, true_and, false_and, and_false, not_true, not_false_eq_true, tf_T, tf_F, y_up1, y_up2, y_xx, y_nx, y_sJ, y_sR, Int32.reduceLT, y_nxK, y_nxL, y_nxR, y_sJK, y_sJL, y_sJR, y_sJN, y_sRK, y_sRL, y_sRN, z_nat, z_lit, z_lit0, z_lit1, z_in0, z_in1, z_addl0, z_lt, z_ltl, z_llt, z_inj, z_injl, z_add, z_addl, z_ladd, z_mul, z_mull, z_lmul, z_neg, z_negl, z_in, z_inl, z_ltT, z_ltF, z_eqF, z_10, z_01, z_litne, z_ne0, z_0ne, z_ne1, z_1ne, z_lt64, z_02, z_03, z_04, z_05, z_12, z_13, z_14, z_15, z_20, z_21, z_23, z_24, z_25, z_30, z_31, z_32, z_34, z_35, z_40, z_41, z_42, z_43, z_45, z_50, z_51, z_52, z_53, z_54, Nat.zero_add]
theorem cb_0 (hY : Yd B b) (hY2 : Yd B b2) (hd : b + 260 ≤ b2 ∨ b2 + 260 ≤ b) {m : Nat} (e4 : i (b2 + 14) 4 = Int32.ofNat m) (hm : m ≤ 100) : am_fx am_P d 151 0 [some (.ref (b + 14)), some (.ref (b2 + 14))] [] (am_wI B i) = am_fx am_P d 151 25 [some (.ref (b + 14)), some (.ref (b2 + 14))] [] (am_wI B (cpf (am_up2 i (b + 14) 4 (Int32.ofNat m)) (b2 + 15) (b + 15) m)) := by
  rw [bk_151_0]
  simp (disch := omega) only [e4, hY, hY2, y_cp0, z_80n, cpf_ne, y_ckd, y_ck2d, y_ond, y_onn, y_oI, y_oIx, y_oJ, y_oV, y_oVx, y_oR, y_oRn, y_oRx, y_b0, y_b1, y_bi, y_bid, y_wIK, y_wIL, y_wII, y_wIJ, y_wIR, y_wIN, y_wIw, y_sI, ↓reduceIte, Nat.reduceEqDiff, eq_self, true_or, or_true, false_or, or_false, and_true, true_and, false_and, and_false, not_true, not_false_eq_true, tf_T, tf_F, y_up1, y_up2, y_xx, y_nx, y_sJ, y_sR, Int32.reduceLT, y_nxK, y_nxL, y_nxR, y_sJK, y_sJL, y_sJR, y_sJN, y_sRK, y_sRL, y_sRN, z_nat, z_lit, z_lit0, z_lit1, z_in0, z_in1, z_addl0, z_lt, z_ltl, z_llt, z_inj, z_injl, z_add, z_addl, z_ladd, z_mul, z_mull, z_lmul, z_neg, z_negl, z_in, z_inl, z_ltT, z_ltF, z_eqF, z_10, z_01, z_litne, z_ne0, z_0ne, z_ne1, z_1ne, z_lt64, z_02, z_03, z_04, z_05, z_12, z_13, z_14, z_15, z_20, z_21, z_23, z_24, z_25, z_30, z_31, z_32, z_34, z_35, z_40, z_41, z_42, z_43, z_45, z_50, z_51, z_52, z_53, z_54, Nat.zero_add]
theorem cb_25 (hY : Yd B b) (hY2 : Yd B b2) (hd : b + 260 ≤ b2 ∨ b2 + 260 ≤ b) {m : Nat} (e4 : i (b + 14) 4 = Int32.ofNat m) (hm : m ≤ 100) : am_fx am_P d 151 25 [some (.ref (b + 14)), some (.ref (b2 + 14))] [] (am_wI B i) = am_fx am_P d 151 59 [some (.ref (b + 14)), some (.ref (b2 + 14))] [] (am_wI B (cpf (cpf i (b2 + 16) (b + 16) m) (b2 + 17) (b + 17) m)) := by
  rw [bk_151_25]
  simp (disch := omega) only [e4, hY, hY2, y_cp0, z_80n, cpf_ne, y_ckd, y_ck2d, y_ond, y_onn, y_oI, y_oIx, y_oJ, y_oV, y_oVx, y_oR, y_oRn, y_oRx, y_b0, y_b1, y_bi, y_bid, y_wIK, y_wIL, y_wII, y_wIJ, y_wIR, y_wIN, y_wIw, y_sI, ↓reduceIte, Nat.reduceEqDiff, eq_self, true_or, or_true, false_or, or_false, and_true, true_and, false_and, and_false, not_true, not_false_eq_true, tf_T, tf_F, y_up1, y_up2, y_xx, y_nx, y_sJ, y_sR, Int32.reduceLT, y_nxK, y_nxL, y_nxR, y_sJK, y_sJL, y_sJR, y_sJN, y_sRK, y_sRL, y_sRN, z_nat, z_lit, z_lit0, z_lit1, z_in0, z_in1, z_addl0, z_lt, z_ltl, z_llt, z_inj, z_injl, z_add, z_addl, z_ladd, z_mul, z_mull, z_lmul, z_neg, z_negl, z_in, z_inl, z_ltT, z_ltF, z_eqF, z_10, z_01, z_litne, z_ne0, z_0ne, z_ne1, z_1ne, z_lt64, z_02, z_03, z_04, z_05, z_12, z_13, z_14, z_15, z_20, z_21, z_23, z_24, z_25, z_30, z_31, z_32, z_34, z_35, z_40, z_41, z_42, z_43, z_45, z_50, z_51, z_52, z_53, z_54, Nat.zero_add]
theorem cb_59 (hY : Yd B b) (hY2 : Yd B b2) (hd : b + 260 ≤ b2 ∨ b2 + 260 ≤ b) {m n : Nat} (e4 : i (b + 14) 4 = Int32.ofNat m) (e7 : i (b2 + 14) 7 = Int32.ofNat n) (hm : m ≤ 100) : am_fx am_P d 151 59 [some (.ref (b + 14)), some (.ref (b2 + 14))] [] (am_wI B i) = am_fx am_P d 151 84 [some (.ref (b + 14)), some (.ref (b2 + 14))] [] (am_wI B (am_up2 (cpf i (b2 + 18) (b + 18) m) (b + 14) 7 (Int32.ofNat n))) := by
  rw [bk_151_59]
  simp (disch := omega) only [e4, e7, hY, hY2, y_cp0, z_80n, cpf_ne, y_ckd, y_ck2d, y_ond, y_onn, y_oI, y_oIx, y_oJ, y_oV, y_oVx, y_oR, y_oRn, y_oRx, y_b0, y_b1, y_bi, y_bid, y_wIK, y_wIL, y_wII, y_wIJ, y_wIR, y_wIN, y_wIw, y_sI, ↓reduceIte, Nat.reduceEqDiff, eq_self, true_or, or_true, false_or, or_false, and_true, true_and, false_and, and_false, not_true, not_false_eq_true, tf_T, tf_F, y_up1, y_up2, y_xx, y_nx, y_sJ, y_sR, Int32.reduceLT, y_nxK, y_nxL, y_nxR, y_sJK, y_sJL, y_sJR, y_sJN, y_sRK, y_sRL, y_sRN, z_nat, z_lit, z_lit0, z_lit1, z_in0, z_in1, z_addl0, z_lt, z_ltl, z_llt, z_inj, z_injl, z_add, z_addl, z_ladd, z_mul, z_mull, z_lmul, z_neg, z_negl, z_in, z_inl, z_ltT, z_ltF, z_eqF, z_10, z_01, z_litne, z_ne0, z_0ne, z_ne1, z_1ne, z_lt64, z_02, z_03, z_04, z_05, z_12, z_13, z_14, z_15, z_20, z_21, z_23, z_24, z_25, z_30, z_31, z_32, z_34, z_35, z_40, z_41, z_42, z_43, z_45, z_50, z_51, z_52, z_53, z_54, Nat.zero_add]
theorem cb_84 (hY : Yd B b) (hY2 : Yd B b2) (hd : b + 260 ≤ b2 ∨ b2 + 260 ≤ b) {n : Nat} (e7 : i (b + 14) 7 = Int32.ofNat n) (hn : n ≤ 20) : am_fx am_P d 151 84 [some (.ref (b + 14)), some (.ref (b2 + 14))] [] (am_wI B i) = some (.inl none, am_wI B (cpf (cpf i (b2 + 19) (b + 19) n) (b2 + 20) (b + 20) n)) := by
  rw [bk_151_84]
  simp (disch := omega) only [(fun d B i => bk_151_118 d (am_wI B i)), e7, hY, hY2, y_cp0, z_80n, cpf_ne, y_ckd, y_ck2d, y_ond, y_onn, y_oI, y_oIx, y_oJ, y_oV, y_oVx, y_oR, y_oRn, y_oRx, y_b0, y_b1, y_bi, y_bid, y_wIK, y_wIL, y_wII, y_wIJ, y_wIR, y_wIN, y_wIw, y_sI, ↓reduceIte, Nat.reduceEqDiff, eq_self, true_or, or_true, false_or, or_false, and_true, true_and, false_and, and_false, not_true, not_false_eq_true, tf_T, tf_F, y_up1, y_up2, y_xx, y_nx, y_sJ, y_sR, Int32.reduceLT, y_nxK, y_nxL, y_nxR, y_sJK, y_sJL, y_sJR, y_sJN, y_sRK, y_sRL, y_sRN, z_nat, z_lit, z_lit0, z_lit1, z_in0, z_in1, z_addl0, z_lt, z_ltl, z_llt, z_inj, z_injl, z_add, z_addl, z_ladd, z_mul, z_mull, z_lmul, z_neg, z_negl, z_in, z_inl, z_ltT, z_ltF, z_eqF, z_10, z_01, z_litne, z_ne0, z_0ne, z_ne1, z_1ne, z_lt64, z_02, z_03, z_04, z_05, z_12, z_13, z_14, z_15, z_20, z_21, z_23, z_24, z_25, z_30, z_31, z_32, z_34, z_35, z_40, z_41, z_42, z_43, z_45, z_50, z_51, z_52, z_53, z_54, Nat.zero_add]
theorem cp_books (hY : Yd B b) (hY2 : Yd B b2) (hd : b + 260 ≤ b2 ∨ b2 + 260 ≤ b) {m n : Nat} (e4 : i (b2 + 14) 4 = Int32.ofNat m) (e7 : i (b2 + 14) 7 = Int32.ofNat n) (hm : m ≤ 100) (hn : n ≤ 20) : am_fx am_P d 151 0 [some (.ref (b + 14)), some (.ref (b2 + 14))] [] (am_wI B i) = some (.inl none, am_wI B (cpf (cpf (am_up2 (cpf (cpf (cpf (cpf (am_up2 i (b + 14) 4 (Int32.ofNat m)) (b2 + 15) (b + 15) m) (b2 + 16) (b + 16) m) (b2 + 17) (b + 17) m) (b2 + 18) (b + 18) m) (b + 14) 7 (Int32.ofNat n)) (b2 + 19) (b + 19) n) (b2 + 20) (b + 20) n)) := by
  rw [cb_0 hY hY2 hd e4 hm, cb_25 hY hY2 hd (m := m) (by rw [cpf_ne (by omega), y_up1 rfl rfl]) hm, cb_59 hY hY2 hd (m := m) (n := n) (by rw [cpf_ne (by omega), cpf_ne (by omega), cpf_ne (by omega), y_up1 rfl rfl]) (by rw [cpf_ne (by omega), cpf_ne (by omega), cpf_ne (by omega), y_up2 (by omega)]; exact e7) hm, cb_84 hY hY2 hd (n := n) (y_up1 rfl rfl) hn]
theorem cp_plan (hY : Yd B b) (hY2 : Yd B b2) (hd : b + 260 ≤ b2 ∨ b2 + 260 ≤ b) : am_fx am_P d 174 0 [some (.ref (b + 22)), some (.ref (b2 + 22)), none] [] (am_wI B i) = some (.inl none, am_wI B (itr (fun r j => cpf j (b2 + 28 + r) (b + 28 + r) 10) 3 (am_up2 (cpf (cpf (cpf (cpf i (b2 + 23) (b + 23) 8) (b2 + 24) (b + 24) 8) (b2 + 25) (b + 25) 8) (b2 + 26) (b + 26) 8) (b + 22) 4 (i (b2 + 22) 4)))) := by
  rw [bk_174_0]
  simp (disch := omega) only [(fun d x0 x1 B i => bk_174_30 d x0 x1 (am_wI B i)), (fun d x0 x1 B i => bk_174_60 d x0 x1 (am_wI B i)), hY, hY2, y_cp0, z_80n, cpf_ne, y_ckd, y_ck2d, y_ond, y_onn, y_oI, y_oIx, y_oJ, y_oV, y_oVx, y_oR, y_oRn, y_oRx, y_b0, y_b1, y_bi, y_bid, y_wIK, y_wIL, y_wII, y_wIJ, y_wIR, y_wIN, y_wIw, y_sI, ↓reduceIte, Nat.reduceEqDiff, eq_self, true_or, or_true, false_or, or_false, and_true, true_and, false_and, and_false, not_true, not_false_eq_true, tf_T, tf_F, y_up1, y_up2, y_xx, y_nx, y_sJ, y_sR, Int32.reduceLT, y_nxK, y_nxL, y_nxR, y_sJK, y_sJL, y_sJR, y_sJN, y_sRK, y_sRL, y_sRN, z_nat, z_lit, z_lit0, z_lit1, z_in0, z_in1, z_addl0, z_lt, z_ltl, z_llt, z_inj, z_injl, z_add, z_addl, z_ladd, z_mul, z_mull, z_lmul, z_neg, z_negl, z_in, z_inl, z_ltT, z_ltF, z_eqF, z_10, z_01, z_litne, z_ne0, z_0ne, z_ne1, z_1ne, z_lt64, z_02, z_03, z_04, z_05, z_12, z_13, z_14, z_15, z_20, z_21, z_23, z_24, z_25, z_30, z_31, z_32, z_34, z_35, z_40, z_41, z_42, z_43, z_45, z_50, z_51, z_52, z_53, z_54, Nat.zero_add]
  refine (lp_itr (fun k j => am_fx am_P d 174 70 [some (.ref (b + 22)), some (.ref (b2 + 22)), some (.int (Int32.ofNat k))] [] (am_wI B j)) (fun r j => cpf j (b2 + 28 + r) (b + 28 + r) 10) 3 (fun k j hk => ?_) _).trans ?_
  · rw [bk_174_70]
    simp (disch := omega) only [hY, hY2, y_cp0, z_80n, y_ckd, y_ck2d, y_ond, y_onn, y_oI, y_oIx, y_oJ, y_oV, y_oVx, y_oR, y_oRn, y_oRx, y_b0, y_b1, y_bi, y_bid, y_wIK, y_wIL, y_wII, y_wIJ, y_wIR, y_wIN, y_wIw, y_sI, ↓reduceIte, Nat.reduceEqDiff, eq_self, true_or, or_true, false_or, or_false, and_true, true_and, false_and, and_false, not_true, not_false_eq_true, tf_T, tf_F, y_up1, y_up2, y_xx, y_nx, y_sJ, y_sR, Int32.reduceLT, y_nxK, y_nxL, y_nxR, y_sJK, y_sJL, y_sJR, y_sJN, y_sRK, y_sRL, y_sRN, z_nat, z_lit, z_lit0, z_lit1, z_in0, z_in1, z_addl0, z_lt, z_ltl, z_llt, z_inj, z_injl, z_add, z_addl, z_ladd, z_mul, z_mull, z_lmul, z_neg, z_negl, z_in, z_inl, z_ltT, z_ltF, z_eqF, z_10, z_01, z_litne, z_ne0, z_0ne, z_ne1, z_1ne, z_lt64, z_02, z_03, z_04, z_05, z_12, z_13, z_14, z_15, z_20, z_21, z_23, z_24, z_25, z_30, z_31, z_32, z_34, z_35, z_40, z_41, z_42, z_43, z_45, z_50, z_51, z_52, z_53, z_54, Nat.zero_add]
  · rw [bk_174_70]
    simp (disch := omega) only [y_ckd, y_ck2d, y_ond, y_onn, y_oI, y_oIx, y_oJ, y_oV, y_oVx, y_oR, y_oRn, y_oRx, y_b0, y_b1, y_bi, y_bid, y_wIK, y_wIL, y_wII, y_wIJ, y_wIR, y_wIN, y_wIw, y_sI, ↓reduceIte, Nat.reduceEqDiff, eq_self, true_or, or_true, false_or, or_false, and_true, true_and, false_and, and_false, not_true, not_false_eq_true, tf_T, tf_F, y_up1, y_up2, y_xx, y_nx, y_sJ, y_sR, Int32.reduceLT, y_nxK, y_nxL, y_nxR, y_sJK, y_sJL, y_sJR, y_sJN, y_sRK, y_sRL, y_sRN, z_nat, z_lit, z_lit0, z_lit1, z_in0, z_in1, z_addl0, z_lt, z_ltl, z_llt, z_inj, z_injl, z_add, z_addl, z_ladd, z_mul, z_mull, z_lmul, z_neg, z_negl, z_in, z_inl, z_ltT, z_ltF, z_eqF, z_10, z_01, z_litne, z_ne0, z_0ne, z_ne1, z_1ne, z_lt64, z_02, z_03, z_04, z_05, z_12, z_13, z_14, z_15, z_20, z_21, z_23, z_24, z_25, z_30, z_31, z_32, z_34, z_35, z_40, z_41, z_42, z_43, z_45, z_50, z_51, z_52, z_53, z_54]
/-- a ship's cell and its rows -/
abbrev Shc (B : am_A) (q : Nat) : Prop := am_K B q = 7 ∧ am_R B q 9 = some (q + 1) ∧ am_R B q 10 = some (q + 2) ∧ am_R B q 11 = some (q + 3) ∧ am_R B q 12 = some (q + 4) ∧ am_R B q 13 = some (q + 5) ∧ (am_K B (q + 1) = 21 ∧ am_L B (q + 1) = 8) ∧ (am_K B (q + 2) = 21 ∧ am_L B (q + 2) = 8) ∧ (am_K B (q + 3) = 21 ∧ am_L B (q + 3) = 8) ∧ (am_K B (q + 4) = 21 ∧ am_L B (q + 4) = 8) ∧ (am_K B (q + 5) = 21 ∧ am_L B (q + 5) = 8)
set_option maxHeartbeats 4000000 in
theorem cp_ship {q q2 : Nat} (hq : Shc B q) (hq2 : Shc B q2) (hne : q + 6 ≤ q2 ∨ q2 + 6 ≤ q) (hf : i q2 2 = 0 ∨ i q2 2 = 1) (hf2 : i q2 6 = 0 ∨ i q2 6 = 1) : ∃ i', am_fx am_P (d + 1) 234 0 [some (.ref q), some (.ref q2)] [] (am_wI B i) = some (.inl none, am_wI B i') ∧ (∀ r, (r < q ∨ q + 6 ≤ r) → i' r = i r) ∧ (∀ k, k < 9 → i' q k = i q2 k) ∧ ∀ m k, 1 ≤ m → m < 6 → k < 8 → i' (q + m) k = i (q2 + m) k := by
  apply Exists.intro
  refine ⟨?_, ?_, ?_, ?_⟩
  · rw [bk_234_0]
    simp (maxSteps := 1000000) (disch := omega) only [(fun d x0 x1 B i => bk_234_0 d x0 x1 (am_wI B i)), (fun d x0 x1 B i => bk_234_32 d x0 x1 (am_wI B i)), (fun d x0 x1 B i => bk_234_48 d x0 x1 (am_wI B i)), (fun d x0 x1 B i => bk_234_64 d x0 x1 (am_wI B i)), (fun d x0 x1 B i => bk_234_94 d x0 x1 (am_wI B i)), (fun d x0 x1 B i => bk_234_124 d x0 x1 (am_wI B i)), (fun d x0 x1 x2 x3 B i => bk_224_0 d x0 x1 x2 x3 (am_wI B i)), (fun d x0 x3 B i => bk_224_10 d x0 x3 (am_wI B i)), (fun d x0 B i => bk_224_20 d x0 (am_wI B i)), (fun d x0 B i => bk_224_30 d x0 (am_wI B i)), (fun d x0 B i => bk_224_40 d x0 (am_wI B i)), hq, hq2, y_bx hf, y_bx hf2, y_cp0, z_80n, cpf_ne, y_ckd, y_ck2d, y_ond, y_onn, y_oI, y_oIx, y_oJ, y_oV, y_oVx, y_oR, y_oRn, y_oRx, y_b0, y_b1, y_bi, y_bid, y_wIK, y_wIL, y_wII, y_wIJ, y_wIR, y_wIN, y_wIw, y_sI, ↓reduceIte, Nat.reduceEqDiff, eq_self, true_or, or_true, false_or, or_false, and_true, true_and, false_and, and_false, not_true, not_false_eq_true, tf_T, tf_F, y_up1, y_up2, y_xx, y_nx, y_sJ, y_sR, Int32.reduceLT, y_nxK, y_nxL, y_nxR, y_sJK, y_sJL, y_sJR, y_sJN, y_sRK, y_sRL, y_sRN, z_nat, z_lit, z_lit0, z_lit1, z_in0, z_in1, z_addl0, z_lt, z_ltl, z_llt, z_inj, z_injl, z_add, z_addl, z_ladd, z_mul, z_mull, z_lmul, z_neg, z_negl, z_in, z_inl, z_ltT, z_ltF, z_eqF, z_10, z_01, z_litne, z_ne0, z_0ne, z_ne1, z_1ne, z_lt64, z_02, z_03, z_04, z_05, z_12, z_13, z_14, z_15, z_20, z_21, z_23, z_24, z_25, z_30, z_31, z_32, z_34, z_35, z_40, z_41, z_42, z_43, z_45, z_50, z_51, z_52, z_53, z_54, Nat.zero_add]
    exact rfl
  · intro r hr
    simp (disch := omega) only [y_upr, cpf_r]
  · intro k hk
    have h : k = 0 ∨ k = 1 ∨ k = 2 ∨ k = 3 ∨ k = 4 ∨ k = 5 ∨ k = 6 ∨ k = 7 ∨ k = 8 := by omega
    rcases h with rfl | rfl | rfl | rfl | rfl | rfl | rfl | rfl | rfl <;> simp (disch := omega) only [y_up1, y_up2, cpf_ne]
  · intro m k h1 h2 hk
    have h : m = 1 ∨ m = 2 ∨ m = 3 ∨ m = 4 ∨ m = 5 := by omega
    rcases h with rfl | rfl | rfl | rfl | rfl <;> simp (disch := omega) only [y_up2, cpf_ne, cpf_at]
theorem cp_war (hY : Yd B b) (hY2 : Yd B b2) (hd : b + 260 ≤ b2 ∨ b2 + 260 ≤ b) (hb : b = 94 ∨ b = 354 ∨ b = 614) (hb2 : b2 = 94 ∨ b2 = 354 ∨ b2 = 614) (hN : 893 ≤ am_N B) {c : Nat} (e2 : i (b2 + 7) 2 = Int32.ofNat c) (hc : c ≤ 10) (hr : ∀ t, t < c → ∃ q, am_R B (b2 + 8) t = some q ∧ am_K B q = 9) : ∃ B' i', am_fx am_P d 194 0 [some (.ref (b + 7)), some (.ref (b2 + 7)), none] [] (am_wI B i) = some (.inl none, am_wI B' i') ∧ Sr B B' (b + 8) ∧ (∀ t, t < c → am_R B' (b + 8) t = am_R B (b2 + 8) t) ∧ i' (b + 7) 2 = i (b2 + 7) 2 ∧ (∀ t, t < c → i' (b + 9) t = i (b2 + 9) t) ∧ ∀ q k, (q = b + 7 → k ≠ 2) → q ≠ b + 9 → i' q k = i q k := by
  rw [bk_194_0]
  obtain ⟨⟨B1, i1⟩, e, hS, hR, h9, hf⟩ := lp_inv (fun k (s : am_A × (Nat → Nat → Int32)) => am_fx am_P d 194 2 [some (.ref (b + 7)), some (.ref (b2 + 7)), some (.int (Int32.ofNat k))] [] (am_wI s.1 s.2)) (fun k s => Sr B s.1 (b + 8) ∧ (∀ t, t < k → am_R s.1 (b + 8) t = am_R B (b2 + 8) t) ∧ (∀ t, t < k → s.2 (b + 9) t = i (b2 + 9) t) ∧ ∀ q k, q ≠ b + 9 → s.2 q k = i q k) c (fun k s hk hI => by
    obtain ⟨C, j⟩ := s
    obtain ⟨hS, hR, h9, hf⟩ := hI
    dsimp only at hS hR h9 hf ⊢
    have hL := Sr.le hS (by omega)
    have hY' := Yd_le hL hN (by omega) hY
    have hY2' := Yd_le hL hN (by omega) hY2
    obtain ⟨q, eq, kq⟩ := hr k hk
    have eq' : am_R C (b2 + 8) k = some q := by rw [hS.2.2.2.2.2.2 _ (by omega)]; exact eq
    have kq' : am_K C q = 9 := by rw [hS.1]; exact kq
    have e2' : j (b2 + 7) 2 = Int32.ofNat c := (hf _ _ (by omega)).trans e2
    refine ⟨(am_sR C (b + 8) k (some q), am_up2 j (b + 9) k (j (b2 + 9) k)), ?_, ⟨hS.1, hS.2.1, hS.2.2.1, hS.2.2.2.1, hS.2.2.2.2.1, hS.2.2.2.2.2.1, fun r hr => ?_⟩, fun t ht => ?_, fun t ht => ?_, fun r k' hr => ?_⟩
    · rw [bk_194_2]
      simp (disch := omega) only [(fun d x0 x1 x2 B i => bk_194_34 d x0 x1 x2 (am_wI B i)), e2', eq', kq', hY', hY2', y_sRR, y_ckd, y_ck2d, y_ond, y_onn, y_oI, y_oIx, y_oJ, y_oV, y_oVx, y_oR, y_oRn, y_oRx, y_b0, y_b1, y_bi, y_bid, y_wIK, y_wIL, y_wII, y_wIJ, y_wIR, y_wIN, y_wIw, y_sI, ↓reduceIte, Nat.reduceEqDiff, eq_self, true_or, or_true, false_or, or_false, and_true, true_and, false_and, and_false, not_true, not_false_eq_true, tf_T, tf_F, y_up1, y_up2, y_xx, y_nx, y_sJ, y_sR, Int32.reduceLT, y_nxK, y_nxL, y_nxR, y_sJK, y_sJL, y_sJR, y_sJN, y_sRK, y_sRL, y_sRN, z_nat, z_lit, z_lit0, z_lit1, z_in0, z_in1, z_addl0, z_lt, z_ltl, z_llt, z_inj, z_injl, z_add, z_addl, z_ladd, z_mul, z_mull, z_lmul, z_neg, z_negl, z_in, z_inl, z_ltT, z_ltF, z_eqF, z_10, z_01, z_litne, z_ne0, z_0ne, z_ne1, z_1ne, z_lt64, z_02, z_03, z_04, z_05, z_12, z_13, z_14, z_15, z_20, z_21, z_23, z_24, z_25, z_30, z_31, z_32, z_34, z_35, z_40, z_41, z_42, z_43, z_45, z_50, z_51, z_52, z_53, z_54]
    · show am_up2 (am_R C) (b + 8) k (some q) r = _
      rw [y_upr hr]
      exact hS.2.2.2.2.2.2 r hr
    · show am_up2 (am_R C) (b + 8) k (some q) (b + 8) t = _
      by_cases et : t = k
      · rw [y_up1 rfl et, et, eq]
      · rw [y_up2 (by omega)]
        exact hR t (by omega)
    · show am_up2 j (b + 9) k (j (b2 + 9) k) (b + 9) t = _
      by_cases et : t = k
      · rw [y_up1 rfl et, et]
        exact hf _ _ (by omega)
      · rw [y_up2 (by omega)]
        exact h9 t (by omega)
    · show am_up2 j (b + 9) k (j (b2 + 9) k) r k' = _
      rw [y_up2 (by omega)]
      exact hf r k' hr) (B, i) ⟨Sr.rf, fun t ht => absurd ht (Nat.not_lt_zero t), fun t ht => absurd ht (Nat.not_lt_zero t), fun _ _ _ => rfl⟩
  dsimp only at e hS hR h9 hf
  have hL := Sr.le hS (by omega)
  have hY' := Yd_le hL hN (by omega) hY
  have hY2' := Yd_le hL hN (by omega) hY2
  have e2' : i1 (b2 + 7) 2 = Int32.ofNat c := (hf _ _ (by omega)).trans e2
  refine ⟨B1, am_up2 i1 (b + 7) 2 (i1 (b2 + 7) 2), e.trans ?_, hS, hR, ?_, fun t ht => ?_, fun q k h1 h2 => ?_⟩
  · rw [bk_194_2]
    simp (disch := omega) only [e2', hY', hY2', y_ckd, y_ck2d, y_ond, y_onn, y_oI, y_oIx, y_oJ, y_oV, y_oVx, y_oR, y_oRn, y_oRx, y_b0, y_b1, y_bi, y_bid, y_wIK, y_wIL, y_wII, y_wIJ, y_wIR, y_wIN, y_wIw, y_sI, ↓reduceIte, Nat.reduceEqDiff, eq_self, true_or, or_true, false_or, or_false, and_true, true_and, false_and, and_false, not_true, not_false_eq_true, tf_T, tf_F, y_up1, y_up2, y_xx, y_nx, y_sJ, y_sR, Int32.reduceLT, y_nxK, y_nxL, y_nxR, y_sJK, y_sJL, y_sJR, y_sJN, y_sRK, y_sRL, y_sRN, z_nat, z_lit, z_lit0, z_lit1, z_in0, z_in1, z_addl0, z_lt, z_ltl, z_llt, z_inj, z_injl, z_add, z_addl, z_ladd, z_mul, z_mull, z_lmul, z_neg, z_negl, z_in, z_inl, z_ltT, z_ltF, z_eqF, z_10, z_01, z_litne, z_ne0, z_0ne, z_ne1, z_1ne, z_lt64, z_02, z_03, z_04, z_05, z_12, z_13, z_14, z_15, z_20, z_21, z_23, z_24, z_25, z_30, z_31, z_32, z_34, z_35, z_40, z_41, z_42, z_43, z_45, z_50, z_51, z_52, z_53, z_54]
  · rw [y_up1 rfl rfl]
    exact hf _ _ (by omega)
  · rw [y_up2 (by omega)]
    exact h9 t ht
  · rw [y_up2 (by omega)]
    exact hf q k h2
end Copy2
