/-! HAND: made by wip/whole/math/78.py. -/
section Hand
variable {B B1 : am_A} {i i1 : Nat → Nat → Int32} {σ σ' : Sg} {w : Nat → Int32} {L j d b : Nat} {x y : Int32}
theorem z_ltp1 {a : Int32} (h : a < 4001) : (y < a + 1) = ¬ (a < y) := by
  rw [Int32.lt_iff_toInt_lt] at h
  have e1 : (4001 : Int32).toInt = 4001 := by decide
  have e2 : (a + 1).toInt = a.toInt + 1 := by
    rw [Int32.toInt_add, show (1 : Int32).toInt = 1 from by decide]
    have := Int32.le_toInt a
    unfold Int.bmod
    simp only [Nat.reducePow]
    split <;> omega
  refine propext ⟨fun q r => ?_, fun q => ?_⟩
  · rw [Int32.lt_iff_toInt_lt] at q r
    omega
  · rw [Int32.lt_iff_toInt_lt] at q ⊢
    omega
/-- muster k stands before muster m; the last day before muster m's; what each hand did between two days -/
abbrev hah (w : Nat → Int32) (k m : Nat) : Prop := w (3438 + 2 * k) < w (3438 + 2 * m) ∨ (w (3438 + 2 * k) = w (3438 + 2 * m) ∧ k < m)
abbrev mx (a c : Int32) : Int32 := if a < c then c else a
abbrev fda (w : Nat → Int32) (m k : Nat) (a : Int32) : Int32 := if hah w k m then mx a (w (3438 + 2 * k)) else a
def dah (w : Nat → Int32) (m : Nat) : Int32 := itr (fda w m) (cn w 3437) (-1)
abbrev fau (w : Nat → Int32) (x lo hi : Int32) (e : Nat) (r : Nat → Int32) : Nat → Int32 := if w (3037 + 4 * e) = x ∧ lo < w (3037 + 4 * e + 1) ∧ ¬ hi < w (3037 + 4 * e + 1) then (fun h => if h = cn w (3037 + 4 * e + 3) then r h + ab (w (3037 + 4 * e + 2)) else r h) else r
def aus (w : Nat → Int32) (x lo hi : Int32) (n : Nat) : Nat → Int32 := itr (fau w x lo hi) n fun _ => 0
theorem aus_s {lo hi : Int32} {n : Nat} : aus w x lo hi (n + 1) = fau w x lo hi n (aus w x lo hi n) := rfl
def gtb (u : Nat → Int32) (k : Nat) : Option Nat → Bool
  | none => decide (0 < u k)
  | some m => decide (u m < u k)
def fch (u : Nat → Int32) (k : Nat) (o : Option Nat) : Option Nat := if gtb u k o = true then some k else o
def chs (u : Nat → Int32) (n : Nat) : Option Nat := itr (fch u) n none
theorem chs_s {u : Nat → Int32} {n : Nat} : chs u (n + 1) = fch u n (chs u n) := rfl
def chv (u : Nat → Int32) : Option Nat → Int32
  | none => 0
  | some m => u m
theorem chs_lt {u : Nat → Int32} : ∀ {n m : Nat}, chs u n = some m → m < n ∧ 0 < u m
  | 0, _, h => by
    have h' : (none : Option Nat) = some _ := h
    injection h'
  | n + 1, m, h => by
    rw [chs_s] at h
    unfold fch at h
    rcases hq : chs u n with _ | r
    · rw [hq] at h
      by_cases g : 0 < u n
      · rw [if_pos (show gtb u n none = true from decide_eq_true g)] at h
        injection h with h
        subst h
        exact ⟨by omega, g⟩
      · rw [if_neg (show ¬ gtb u n none = true from fun q => g (of_decide_eq_true q))] at h
        injection h
    · rw [hq] at h
      obtain ⟨a1, a2⟩ := chs_lt hq
      by_cases g : u r < u n
      · rw [if_pos (show gtb u n (some r) = true from decide_eq_true g)] at h
        injection h with h
        subst h
        exact ⟨by omega, Int32.lt_trans a2 g⟩
      · rw [if_neg (show ¬ gtb u n (some r) = true from fun q => g (of_decide_eq_true q))] at h
        injection h with h
        subst h
        exact ⟨by omega, a2⟩
def hnd (w : Nat → Int32) (x : Int32) : Int32 := match fls w x (cn w 3437) with
  | none => -1
  | some m => txn (chs (aus w x (dah w m) (w (3438 + 2 * m)) (cn w 3036)) 10)
theorem dah_lt {m : Nat} (h : WdM w) (h20 : cn w 3437 ≤ 20) : ∀ n, n ≤ cn w 3437 → itr (fda w m) n (-1) < 4001
  | 0, _ => by
    show (-1 : Int32) < 4001
    decide
  | n + 1, hn => by
    have q := dah_lt (m := m) h h20 n (by omega)
    show fda w m n (itr (fda w m) n (-1)) < 4001
    by_cases g : hah w n m
    · rw [show fda w m n (itr (fda w m) n (-1)) = _ from if_pos g]
      by_cases g2 : itr (fda w m) n (-1) < w (3438 + 2 * n)
      · rw [show mx _ _ = _ from if_pos g2]
        exact (h n (by omega) (by omega)).2
      · rw [show mx _ _ = _ from if_neg g2]
        exact q
    · rw [show fda w m n (itr (fda w m) n (-1)) = _ from if_neg g]
      exact q
theorem c_max {A : am_A} : am_fx am_P d 1 0 [some (.int x), some (.int y)] [] A = some (.inl (some (.int (mx x y))), A) := by
  rw [bk_1_0]
  by_cases g : x < y
  · rw [if_pos g, show mx x y = _ from if_pos g]
  · rw [if_neg g, show mx x y = _ from if_neg g]
theorem c_dah {m : Nat} (hY : Yd B b) (hR : RM i b w) (hc3 : isc w 3437 20) (hm : m < cn w 3437) : am_fx am_P (d + 1) 149 0 [some (.ref (b + 14)), some (.int (Int32.ofNat m)), none, none, none] [] (am_wI B i) = some (.inl (some (.int (dah w m))), am_wI B i) := by
  have h3 := hc3.2
  have e5 : i (b + 14) 7 = Int32.ofNat (cn w 3437) := hR.1.trans hc3.1
  have m1 := (hR.2 m hm (by omega)).1
  rw [bk_149_0]
  refine (lp_itr (fun k a => am_fx am_P (d + 1) 149 4 [some (.ref (b + 14)), some (.int (Int32.ofNat m)), some (.int a), some (.int (Int32.ofNat k)), none] [] (am_wI B i)) (fda w m) (cn w 3437) (fun k a hk => ?_) (-1)).trans ?_
  · have e1 := (hR.2 k hk (by omega)).1
    rw [bk_149_4]
    by_cases g : w (3438 + 2 * k) < w (3438 + 2 * m)
    · rw [show fda w m k a = _ from if_pos (Or.inl g)]
      simp (maxSteps := 1000000) (disch := omega) only [(fun d x0 x1 x2 x3 s0 B i => bk_149_52 d x0 x1 x2 x3 s0 (am_wI B i)), e5, e1, m1, g, c_max, hY, y_ckd, y_ck2d, y_ond, y_onn, y_oI, y_oIx, y_oJ, y_oV, y_oVx, y_oR, y_oRn, y_oRx, y_b0, y_b1, y_bi, y_bid, y_wIK, y_wIL, y_wII, y_wIJ, y_wIR, y_wIN, y_wIw, y_sI, ↓reduceIte, Nat.reduceEqDiff, eq_self, true_or, or_true, false_or, or_false, and_true, true_and, false_and, and_false, not_true, not_false_eq_true, tf_T, tf_F, y_up1, y_up2, y_xx, y_nx, y_sJ, y_sR, Int32.reduceLT, y_nxK, y_nxL, y_nxR, y_sJK, y_sJL, y_sJR, y_sJN, y_sRK, y_sRL, y_sRN, Nat.add_zero, z_nat, z_lit, z_lit0, z_lit1, z_in0, z_in1, z_addl0, z_lt, z_ltl, z_llt, z_inj, z_injl, z_add, z_addl, z_ladd, z_mul, z_mull, z_lmul, z_neg, z_negl, z_in, z_inl, z_ltT, z_ltF, z_eqF, z_10, z_01, z_litne, z_ne0, z_0ne, z_ne1, z_1ne, z_lt64, z_02, z_03, z_04, z_05, z_12, z_13, z_14, z_15, z_20, z_21, z_23, z_24, z_25, z_30, z_31, z_32, z_34, z_35, z_40, z_41, z_42, z_43, z_45, z_50, z_51, z_52, z_53, z_54]
    · by_cases g2 : w (3438 + 2 * k) = w (3438 + 2 * m)
      · by_cases g3 : k < m
        · rw [show fda w m k a = _ from if_pos (Or.inr ⟨g2, g3⟩)]
          rw [← g2] at m1
          simp (maxSteps := 1000000) (disch := omega) only [(fun d x0 x1 x2 x3 s0 B i => bk_149_52 d x0 x1 x2 x3 s0 (am_wI B i)), e5, e1, m1, g, g2, g3, Int32.lt_irrefl, c_max, hY, y_ckd, y_ck2d, y_ond, y_onn, y_oI, y_oIx, y_oJ, y_oV, y_oVx, y_oR, y_oRn, y_oRx, y_b0, y_b1, y_bi, y_bid, y_wIK, y_wIL, y_wII, y_wIJ, y_wIR, y_wIN, y_wIw, y_sI, ↓reduceIte, Nat.reduceEqDiff, eq_self, true_or, or_true, false_or, or_false, and_true, true_and, false_and, and_false, not_true, not_false_eq_true, tf_T, tf_F, y_up1, y_up2, y_xx, y_nx, y_sJ, y_sR, Int32.reduceLT, y_nxK, y_nxL, y_nxR, y_sJK, y_sJL, y_sJR, y_sJN, y_sRK, y_sRL, y_sRN, Nat.add_zero, z_nat, z_lit, z_lit0, z_lit1, z_in0, z_in1, z_addl0, z_lt, z_ltl, z_llt, z_inj, z_injl, z_add, z_addl, z_ladd, z_mul, z_mull, z_lmul, z_neg, z_negl, z_in, z_inl, z_ltT, z_ltF, z_eqF, z_10, z_01, z_litne, z_ne0, z_0ne, z_ne1, z_1ne, z_lt64, z_02, z_03, z_04, z_05, z_12, z_13, z_14, z_15, z_20, z_21, z_23, z_24, z_25, z_30, z_31, z_32, z_34, z_35, z_40, z_41, z_42, z_43, z_45, z_50, z_51, z_52, z_53, z_54]
        · rw [show fda w m k a = a from if_neg (fun q => q.elim g fun q => g3 q.2)]
          rw [← g2] at m1
          simp (maxSteps := 1000000) (disch := omega) only [(fun d x0 x1 x2 x3 s0 B i => bk_149_52 d x0 x1 x2 x3 s0 (am_wI B i)), e5, e1, m1, g, g2, g3, Int32.lt_irrefl, hY, y_ckd, y_ck2d, y_ond, y_onn, y_oI, y_oIx, y_oJ, y_oV, y_oVx, y_oR, y_oRn, y_oRx, y_b0, y_b1, y_bi, y_bid, y_wIK, y_wIL, y_wII, y_wIJ, y_wIR, y_wIN, y_wIw, y_sI, ↓reduceIte, Nat.reduceEqDiff, eq_self, true_or, or_true, false_or, or_false, and_true, true_and, false_and, and_false, not_true, not_false_eq_true, tf_T, tf_F, y_up1, y_up2, y_xx, y_nx, y_sJ, y_sR, Int32.reduceLT, y_nxK, y_nxL, y_nxR, y_sJK, y_sJL, y_sJR, y_sJN, y_sRK, y_sRL, y_sRN, Nat.add_zero, z_nat, z_lit, z_lit0, z_lit1, z_in0, z_in1, z_addl0, z_lt, z_ltl, z_llt, z_inj, z_injl, z_add, z_addl, z_ladd, z_mul, z_mull, z_lmul, z_neg, z_negl, z_in, z_inl, z_ltT, z_ltF, z_eqF, z_10, z_01, z_litne, z_ne0, z_0ne, z_ne1, z_1ne, z_lt64, z_02, z_03, z_04, z_05, z_12, z_13, z_14, z_15, z_20, z_21, z_23, z_24, z_25, z_30, z_31, z_32, z_34, z_35, z_40, z_41, z_42, z_43, z_45, z_50, z_51, z_52, z_53, z_54]
      · rw [show fda w m k a = a from if_neg (fun q => q.elim g fun q => g2 q.1)]
        simp (maxSteps := 1000000) (disch := omega) only [(fun d x0 x1 x2 x3 s0 B i => bk_149_52 d x0 x1 x2 x3 s0 (am_wI B i)), e5, e1, m1, g, g2, hY, y_ckd, y_ck2d, y_ond, y_onn, y_oI, y_oIx, y_oJ, y_oV, y_oVx, y_oR, y_oRn, y_oRx, y_b0, y_b1, y_bi, y_bid, y_wIK, y_wIL, y_wII, y_wIJ, y_wIR, y_wIN, y_wIw, y_sI, ↓reduceIte, Nat.reduceEqDiff, eq_self, true_or, or_true, false_or, or_false, and_true, true_and, false_and, and_false, not_true, not_false_eq_true, tf_T, tf_F, y_up1, y_up2, y_xx, y_nx, y_sJ, y_sR, Int32.reduceLT, y_nxK, y_nxL, y_nxR, y_sJK, y_sJL, y_sJR, y_sJN, y_sRK, y_sRL, y_sRN, Nat.add_zero, z_nat, z_lit, z_lit0, z_lit1, z_in0, z_in1, z_addl0, z_lt, z_ltl, z_llt, z_inj, z_injl, z_add, z_addl, z_ladd, z_mul, z_mull, z_lmul, z_neg, z_negl, z_in, z_inl, z_ltT, z_ltF, z_eqF, z_10, z_01, z_litne, z_ne0, z_0ne, z_ne1, z_1ne, z_lt64, z_02, z_03, z_04, z_05, z_12, z_13, z_14, z_15, z_20, z_21, z_23, z_24, z_25, z_30, z_31, z_32, z_34, z_35, z_40, z_41, z_42, z_43, z_45, z_50, z_51, z_52, z_53, z_54]
  · rw [bk_149_4]
    simp (maxSteps := 1000000) (disch := omega) only [e5, hY, y_ckd, y_ck2d, y_ond, y_onn, y_oI, y_oIx, y_oJ, y_oV, y_oVx, y_oR, y_oRn, y_oRx, y_b0, y_b1, y_bi, y_bid, y_wIK, y_wIL, y_wII, y_wIJ, y_wIR, y_wIN, y_wIw, y_sI, ↓reduceIte, Nat.reduceEqDiff, eq_self, true_or, or_true, false_or, or_false, and_true, true_and, false_and, and_false, not_true, not_false_eq_true, tf_T, tf_F, y_up1, y_up2, y_xx, y_nx, y_sJ, y_sR, Int32.reduceLT, y_nxK, y_nxL, y_nxR, y_sJK, y_sJL, y_sJR, y_sJN, y_sRK, y_sRL, y_sRN, Nat.add_zero, z_nat, z_lit, z_lit0, z_lit1, z_in0, z_in1, z_addl0, z_lt, z_ltl, z_llt, z_inj, z_injl, z_add, z_addl, z_ladd, z_mul, z_mull, z_lmul, z_neg, z_negl, z_in, z_inl, z_ltT, z_ltF, z_eqF, z_10, z_01, z_litne, z_ne0, z_0ne, z_ne1, z_1ne, z_lt64, z_02, z_03, z_04, z_05, z_12, z_13, z_14, z_15, z_20, z_21, z_23, z_24, z_25, z_30, z_31, z_32, z_34, z_35, z_40, z_41, z_42, z_43, z_45, z_50, z_51, z_52, z_53, z_54]
    rfl
theorem c_zero (hY : Yd B b) : ∃ i', am_fx am_P d 7 0 [some (.ref (b + 21)), some (.int 0), none, none] [] (am_wI B i) = some (.inl none, am_wI B i') ∧ (∀ k, k < 10 → i' (b + 21) k = 0) ∧ ∀ q k, q ≠ b + 21 → i' q k = i q k := by
  obtain ⟨j, E, hj, hf⟩ := lp_inv (fun k j => am_fx am_P d 7 5 [some (.ref (b + 21)), some (.int 0), some (.int (Int32.ofNat k)), some (.int (Int32.ofNat 10))] [] (am_wI B j)) (fun k j => (∀ m, m < k → j (b + 21) m = 0) ∧ ∀ q k, q ≠ b + 21 → j q k = i q k) 10 (fun k j hk hI => by
    refine ⟨am_up2 j (b + 21) k 0, ?_, fun m hm => ?_, fun q m hq => by rw [y_up2 (by omega)]; exact hI.2 q m hq⟩
    · rw [bk_7_5]
      simp (maxSteps := 1000000) (disch := omega) only [hY, y_ckd, y_ck2d, y_ond, y_onn, y_oI, y_oIx, y_oJ, y_oV, y_oVx, y_oR, y_oRn, y_oRx, y_b0, y_b1, y_bi, y_bid, y_wIK, y_wIL, y_wII, y_wIJ, y_wIR, y_wIN, y_wIw, y_sI, ↓reduceIte, Nat.reduceEqDiff, eq_self, true_or, or_true, false_or, or_false, and_true, true_and, false_and, and_false, not_true, not_false_eq_true, tf_T, tf_F, y_up1, y_up2, y_xx, y_nx, y_sJ, y_sR, Int32.reduceLT, y_nxK, y_nxL, y_nxR, y_sJK, y_sJL, y_sJR, y_sJN, y_sRK, y_sRL, y_sRN, Nat.add_zero, z_nat, z_lit, z_lit0, z_lit1, z_in0, z_in1, z_addl0, z_lt, z_ltl, z_llt, z_inj, z_injl, z_add, z_addl, z_ladd, z_mul, z_mull, z_lmul, z_neg, z_negl, z_in, z_inl, z_ltT, z_ltF, z_eqF, z_10, z_01, z_litne, z_ne0, z_0ne, z_ne1, z_1ne, z_lt64, z_02, z_03, z_04, z_05, z_12, z_13, z_14, z_15, z_20, z_21, z_23, z_24, z_25, z_30, z_31, z_32, z_34, z_35, z_40, z_41, z_42, z_43, z_45, z_50, z_51, z_52, z_53, z_54]
    · by_cases e : m = k
      · rw [y_up1 rfl e]
      · rw [y_up2 (by omega)]
        exact hI.1 m (by omega)) i ⟨fun m hm => absurd hm (by omega), fun _ _ _ => rfl⟩
  refine ⟨j, ?_, hj, hf⟩
  rw [bk_7_0]
  have kd : am_K B (b + 21) = 21 := by simp only [hY]
  have kl : am_L B (b + 21) = 10 := by simp only [hY]
  rw [if_pos (by rw [y_wIK, kd]; decide), y_wIL, kl]
  refine E.trans ?_
  rw [bk_7_5]
  simp (maxSteps := 1000000) (disch := omega) only [hY, y_ckd, y_ck2d, y_ond, y_onn, y_oI, y_oIx, y_oJ, y_oV, y_oVx, y_oR, y_oRn, y_oRx, y_b0, y_b1, y_bi, y_bid, y_wIK, y_wIL, y_wII, y_wIJ, y_wIR, y_wIN, y_wIw, y_sI, ↓reduceIte, Nat.reduceEqDiff, eq_self, true_or, or_true, false_or, or_false, and_true, true_and, false_and, and_false, not_true, not_false_eq_true, tf_T, tf_F, y_up1, y_up2, y_xx, y_nx, y_sJ, y_sR, Int32.reduceLT, y_nxK, y_nxL, y_nxR, y_sJK, y_sJL, y_sJR, y_sJN, y_sRK, y_sRL, y_sRN, Nat.add_zero, z_nat, z_lit, z_lit0, z_lit1, z_in0, z_in1, z_addl0, z_lt, z_ltl, z_llt, z_inj, z_injl, z_add, z_addl, z_ladd, z_mul, z_mull, z_lmul, z_neg, z_negl, z_in, z_inl, z_ltT, z_ltF, z_eqF, z_10, z_01, z_litne, z_ne0, z_0ne, z_ne1, z_1ne, z_lt64, z_02, z_03, z_04, z_05, z_12, z_13, z_14, z_15, z_20, z_21, z_23, z_24, z_25, z_30, z_31, z_32, z_34, z_35, z_40, z_41, z_42, z_43, z_45, z_50, z_51, z_52, z_53, z_54]
theorem c_aus {lo hi : Int32} (hY : Yd B b) (hE : RE i b w) (hc : isc w 3036 100) (hWE : WdE w) : ∃ i', am_fx am_P (d + 1) 150 0 [some (.ref (b + 14)), some (.int x), some (.int lo), some (.int hi), none] [] (am_wI B i) = some (.inl none, am_wI B i') ∧ (∀ k, k < 10 → i' (b + 21) k = aus w x lo hi (cn w 3036) k) ∧ ∀ q k, q ≠ b + 21 → i' q k = i q k := by
  have h2 := hc.2
  obtain ⟨i0, E0, hz, hf0⟩ := c_zero (i := i) (d := d) hY
  obtain ⟨j, E, hj, hf⟩ := lp_inv (fun k j => am_fx am_P (d + 1) 150 11 [some (.ref (b + 14)), some (.int x), some (.int lo), some (.int hi), some (.int (Int32.ofNat k))] [] (am_wI B j)) (fun k j => (∀ m, m < 10 → j (b + 21) m = aus w x lo hi k m) ∧ ∀ q m, q ≠ b + 21 → j q m = i q m) (cn w 3036) (fun k j hk hI => by
    obtain ⟨hj, hf⟩ := hI
    have e5 : j (b + 14) 4 = Int32.ofNat (cn w 3036) := (hf _ _ (by omega)).trans (hE.1.trans hc.1)
    obtain ⟨e1, e2, e3, e4⟩ := hE.2 k hk (by omega)
    have e1 := (hf _ _ (by omega)).trans e1
    have e2 := (hf _ _ (by omega)).trans e2
    have e3 := (hf _ _ (by omega)).trans e3
    obtain ⟨h, e4w, h10⟩ := z_lk 10 (by omega) (hWE k hk (by omega)).1 (hWE k hk (by omega)).2
    have e4 := ((hf _ _ (by omega)).trans e4).trans e4w
    have ch : cn w (3037 + 4 * k + 3) = h := cn_of e4w (by omega)
    by_cases g : w (3037 + 4 * k) = x
    · by_cases g2 : lo < w (3037 + 4 * k + 1)
      · by_cases g3 : hi < w (3037 + 4 * k + 1)
        · refine ⟨j, ?_, fun m hm => ?_, hf⟩
          · rw [bk_150_11]
            simp (maxSteps := 1000000) (disch := omega) only [e5, e1, e2, g, g2, g3, hY, y_ckd, y_ck2d, y_ond, y_onn, y_oI, y_oIx, y_oJ, y_oV, y_oVx, y_oR, y_oRn, y_oRx, y_b0, y_b1, y_bi, y_bid, y_wIK, y_wIL, y_wII, y_wIJ, y_wIR, y_wIN, y_wIw, y_sI, ↓reduceIte, Nat.reduceEqDiff, eq_self, true_or, or_true, false_or, or_false, and_true, true_and, false_and, and_false, not_true, not_false_eq_true, tf_T, tf_F, y_up1, y_up2, y_xx, y_nx, y_sJ, y_sR, Int32.reduceLT, y_nxK, y_nxL, y_nxR, y_sJK, y_sJL, y_sJR, y_sJN, y_sRK, y_sRL, y_sRN, Nat.add_zero, z_nat, z_lit, z_lit0, z_lit1, z_in0, z_in1, z_addl0, z_lt, z_ltl, z_llt, z_inj, z_injl, z_add, z_addl, z_ladd, z_mul, z_mull, z_lmul, z_neg, z_negl, z_in, z_inl, z_ltT, z_ltF, z_eqF, z_10, z_01, z_litne, z_ne0, z_0ne, z_ne1, z_1ne, z_lt64, z_02, z_03, z_04, z_05, z_12, z_13, z_14, z_15, z_20, z_21, z_23, z_24, z_25, z_30, z_31, z_32, z_34, z_35, z_40, z_41, z_42, z_43, z_45, z_50, z_51, z_52, z_53, z_54]
          · rw [aus_s, show fau w x lo hi k (aus w x lo hi k) = _ from if_neg (fun q => q.2.2 g3)]
            exact hj m hm
        · refine ⟨am_up2 j (b + 21) h (j (b + 21) h + ab (w (3037 + 4 * k + 2))), ?_, fun m hm => ?_, fun q m hq => by rw [y_up2 (by omega)]; exact hf q m hq⟩
          · rw [bk_150_11]
            simp (maxSteps := 1000000) (disch := omega) only [e5, e1, e2, e3, e4, g, g2, g3, c_abs, hY, y_ckd, y_ck2d, y_ond, y_onn, y_oI, y_oIx, y_oJ, y_oV, y_oVx, y_oR, y_oRn, y_oRx, y_b0, y_b1, y_bi, y_bid, y_wIK, y_wIL, y_wII, y_wIJ, y_wIR, y_wIN, y_wIw, y_sI, ↓reduceIte, Nat.reduceEqDiff, eq_self, true_or, or_true, false_or, or_false, and_true, true_and, false_and, and_false, not_true, not_false_eq_true, tf_T, tf_F, y_up1, y_up2, y_xx, y_nx, y_sJ, y_sR, Int32.reduceLT, y_nxK, y_nxL, y_nxR, y_sJK, y_sJL, y_sJR, y_sJN, y_sRK, y_sRL, y_sRN, Nat.add_zero, z_nat, z_lit, z_lit0, z_lit1, z_in0, z_in1, z_addl0, z_lt, z_ltl, z_llt, z_inj, z_injl, z_add, z_addl, z_ladd, z_mul, z_mull, z_lmul, z_neg, z_negl, z_in, z_inl, z_ltT, z_ltF, z_eqF, z_10, z_01, z_litne, z_ne0, z_0ne, z_ne1, z_1ne, z_lt64, z_02, z_03, z_04, z_05, z_12, z_13, z_14, z_15, z_20, z_21, z_23, z_24, z_25, z_30, z_31, z_32, z_34, z_35, z_40, z_41, z_42, z_43, z_45, z_50, z_51, z_52, z_53, z_54]
          · rw [aus_s, show fau w x lo hi k (aus w x lo hi k) = _ from if_pos ⟨g, g2, g3⟩]
            show _ = (if m = cn w (3037 + 4 * k + 3) then aus w x lo hi k m + ab (w (3037 + 4 * k + 2)) else aus w x lo hi k m)
            by_cases e : m = h
            · rw [y_up1 rfl e, e, if_pos ch.symm, hj h h10]
            · rw [y_up2 (by omega), if_neg (by rw [ch]; exact e)]
              exact hj m hm
      · refine ⟨j, ?_, fun m hm => ?_, hf⟩
        · rw [bk_150_11]
          simp (maxSteps := 1000000) (disch := omega) only [e5, e1, e2, g, g2, hY, y_ckd, y_ck2d, y_ond, y_onn, y_oI, y_oIx, y_oJ, y_oV, y_oVx, y_oR, y_oRn, y_oRx, y_b0, y_b1, y_bi, y_bid, y_wIK, y_wIL, y_wII, y_wIJ, y_wIR, y_wIN, y_wIw, y_sI, ↓reduceIte, Nat.reduceEqDiff, eq_self, true_or, or_true, false_or, or_false, and_true, true_and, false_and, and_false, not_true, not_false_eq_true, tf_T, tf_F, y_up1, y_up2, y_xx, y_nx, y_sJ, y_sR, Int32.reduceLT, y_nxK, y_nxL, y_nxR, y_sJK, y_sJL, y_sJR, y_sJN, y_sRK, y_sRL, y_sRN, Nat.add_zero, z_nat, z_lit, z_lit0, z_lit1, z_in0, z_in1, z_addl0, z_lt, z_ltl, z_llt, z_inj, z_injl, z_add, z_addl, z_ladd, z_mul, z_mull, z_lmul, z_neg, z_negl, z_in, z_inl, z_ltT, z_ltF, z_eqF, z_10, z_01, z_litne, z_ne0, z_0ne, z_ne1, z_1ne, z_lt64, z_02, z_03, z_04, z_05, z_12, z_13, z_14, z_15, z_20, z_21, z_23, z_24, z_25, z_30, z_31, z_32, z_34, z_35, z_40, z_41, z_42, z_43, z_45, z_50, z_51, z_52, z_53, z_54]
        · rw [aus_s, show fau w x lo hi k (aus w x lo hi k) = _ from if_neg (fun q => g2 q.2.1)]
          exact hj m hm
    · refine ⟨j, ?_, fun m hm => ?_, hf⟩
      · rw [bk_150_11]
        simp (maxSteps := 1000000) (disch := omega) only [e5, e1, g, hY, y_ckd, y_ck2d, y_ond, y_onn, y_oI, y_oIx, y_oJ, y_oV, y_oVx, y_oR, y_oRn, y_oRx, y_b0, y_b1, y_bi, y_bid, y_wIK, y_wIL, y_wII, y_wIJ, y_wIR, y_wIN, y_wIw, y_sI, ↓reduceIte, Nat.reduceEqDiff, eq_self, true_or, or_true, false_or, or_false, and_true, true_and, false_and, and_false, not_true, not_false_eq_true, tf_T, tf_F, y_up1, y_up2, y_xx, y_nx, y_sJ, y_sR, Int32.reduceLT, y_nxK, y_nxL, y_nxR, y_sJK, y_sJL, y_sJR, y_sJN, y_sRK, y_sRL, y_sRN, Nat.add_zero, z_nat, z_lit, z_lit0, z_lit1, z_in0, z_in1, z_addl0, z_lt, z_ltl, z_llt, z_inj, z_injl, z_add, z_addl, z_ladd, z_mul, z_mull, z_lmul, z_neg, z_negl, z_in, z_inl, z_ltT, z_ltF, z_eqF, z_10, z_01, z_litne, z_ne0, z_0ne, z_ne1, z_1ne, z_lt64, z_02, z_03, z_04, z_05, z_12, z_13, z_14, z_15, z_20, z_21, z_23, z_24, z_25, z_30, z_31, z_32, z_34, z_35, z_40, z_41, z_42, z_43, z_45, z_50, z_51, z_52, z_53, z_54]
      · rw [aus_s, show fau w x lo hi k (aus w x lo hi k) = _ from if_neg (fun q => g q.1)]
        exact hj m hm) i0 ⟨hz, hf0⟩
  refine ⟨j, ?_, hj, hf⟩
  have e5 : j (b + 14) 4 = Int32.ofNat (cn w 3036) := (hf _ _ (by omega)).trans (hE.1.trans hc.1)
  rw [bk_150_0]
  simp (maxSteps := 1000000) (disch := omega) only [E0, hY, y_ckd, y_ck2d, y_ond, y_onn, y_oI, y_oIx, y_oJ, y_oV, y_oVx, y_oR, y_oRn, y_oRx, y_b0, y_b1, y_bi, y_bid, y_wIK, y_wIL, y_wII, y_wIJ, y_wIR, y_wIN, y_wIw, y_sI, ↓reduceIte, Nat.reduceEqDiff, eq_self, true_or, or_true, false_or, or_false, and_true, true_and, false_and, and_false, not_true, not_false_eq_true, tf_T, tf_F, y_up1, y_up2, y_xx, y_nx, y_sJ, y_sR, Int32.reduceLT, y_nxK, y_nxL, y_nxR, y_sJK, y_sJL, y_sJR, y_sJN, y_sRK, y_sRL, y_sRN, Nat.add_zero, z_nat, z_lit, z_lit0, z_lit1, z_in0, z_in1, z_addl0, z_lt, z_ltl, z_llt, z_inj, z_injl, z_add, z_addl, z_ladd, z_mul, z_mull, z_lmul, z_neg, z_negl, z_in, z_inl, z_ltT, z_ltF, z_eqF, z_10, z_01, z_litne, z_ne0, z_0ne, z_ne1, z_1ne, z_lt64, z_02, z_03, z_04, z_05, z_12, z_13, z_14, z_15, z_20, z_21, z_23, z_24, z_25, z_30, z_31, z_32, z_34, z_35, z_40, z_41, z_42, z_43, z_45, z_50, z_51, z_52, z_53, z_54]
  refine E.trans ?_
  rw [bk_150_11]
  simp (maxSteps := 1000000) (disch := omega) only [e5, hY, y_ckd, y_ck2d, y_ond, y_onn, y_oI, y_oIx, y_oJ, y_oV, y_oVx, y_oR, y_oRn, y_oRx, y_b0, y_b1, y_bi, y_bid, y_wIK, y_wIL, y_wII, y_wIJ, y_wIR, y_wIN, y_wIw, y_sI, ↓reduceIte, Nat.reduceEqDiff, eq_self, true_or, or_true, false_or, or_false, and_true, true_and, false_and, and_false, not_true, not_false_eq_true, tf_T, tf_F, y_up1, y_up2, y_xx, y_nx, y_sJ, y_sR, Int32.reduceLT, y_nxK, y_nxL, y_nxR, y_sJK, y_sJL, y_sJR, y_sJN, y_sRK, y_sRL, y_sRN, Nat.add_zero, z_nat, z_lit, z_lit0, z_lit1, z_in0, z_in1, z_addl0, z_lt, z_ltl, z_llt, z_inj, z_injl, z_add, z_addl, z_ladd, z_mul, z_mull, z_lmul, z_neg, z_negl, z_in, z_inl, z_ltT, z_ltF, z_eqF, z_10, z_01, z_litne, z_ne0, z_0ne, z_ne1, z_1ne, z_lt64, z_02, z_03, z_04, z_05, z_12, z_13, z_14, z_15, z_20, z_21, z_23, z_24, z_25, z_30, z_31, z_32, z_34, z_35, z_40, z_41, z_42, z_43, z_45, z_50, z_51, z_52, z_53, z_54]
theorem c_chs {u : Nat → Int32} (hY : Yd B b) (hu : ∀ k, k < 10 → i (b + 21) k = u k) : am_fx am_P (d + 1) 148 37 [some (.ref (b + 14)), none, none, some (.int (-1)), some (.int 0), some (.int (Int32.ofNat 0))] [] (am_wI B i) = some (.inl (some (.int (txn (chs u 10)))), am_wI B i) := by
  refine (lp_itr (fun k (_ : Unit) => am_fx am_P (d + 1) 148 37 [some (.ref (b + 14)), none, none, some (.int (txn (chs u k))), some (.int (chv u (chs u k))), some (.int (Int32.ofNat k))] [] (am_wI B i)) (fun _ v => v) 10 (fun k v hk => ?_) ()).trans ?_
  · have e1 := hu k hk
    rw [bk_148_37, chs_s]
    rcases hq : chs u k with _ | m
    · by_cases g : 0 < u k
      · rw [show fch u k none = some k from if_pos (decide_eq_true g)]
        simp (maxSteps := 1000000) (disch := omega) only [txn, chv, e1, g, hY, y_ckd, y_ck2d, y_ond, y_onn, y_oI, y_oIx, y_oJ, y_oV, y_oVx, y_oR, y_oRn, y_oRx, y_b0, y_b1, y_bi, y_bid, y_wIK, y_wIL, y_wII, y_wIJ, y_wIR, y_wIN, y_wIw, y_sI, ↓reduceIte, Nat.reduceEqDiff, eq_self, true_or, or_true, false_or, or_false, and_true, true_and, false_and, and_false, not_true, not_false_eq_true, tf_T, tf_F, y_up1, y_up2, y_xx, y_nx, y_sJ, y_sR, Int32.reduceLT, y_nxK, y_nxL, y_nxR, y_sJK, y_sJL, y_sJR, y_sJN, y_sRK, y_sRL, y_sRN, Nat.add_zero, z_nat, z_lit, z_lit0, z_lit1, z_in0, z_in1, z_addl0, z_lt, z_ltl, z_llt, z_inj, z_injl, z_add, z_addl, z_ladd, z_mul, z_mull, z_lmul, z_neg, z_negl, z_in, z_inl, z_ltT, z_ltF, z_eqF, z_10, z_01, z_litne, z_ne0, z_0ne, z_ne1, z_1ne, z_lt64, z_02, z_03, z_04, z_05, z_12, z_13, z_14, z_15, z_20, z_21, z_23, z_24, z_25, z_30, z_31, z_32, z_34, z_35, z_40, z_41, z_42, z_43, z_45, z_50, z_51, z_52, z_53, z_54]
      · rw [show fch u k none = none from if_neg (fun q => g (of_decide_eq_true q))]
        simp (maxSteps := 1000000) (disch := omega) only [txn, chv, e1, g, hY, y_ckd, y_ck2d, y_ond, y_onn, y_oI, y_oIx, y_oJ, y_oV, y_oVx, y_oR, y_oRn, y_oRx, y_b0, y_b1, y_bi, y_bid, y_wIK, y_wIL, y_wII, y_wIJ, y_wIR, y_wIN, y_wIw, y_sI, ↓reduceIte, Nat.reduceEqDiff, eq_self, true_or, or_true, false_or, or_false, and_true, true_and, false_and, and_false, not_true, not_false_eq_true, tf_T, tf_F, y_up1, y_up2, y_xx, y_nx, y_sJ, y_sR, Int32.reduceLT, y_nxK, y_nxL, y_nxR, y_sJK, y_sJL, y_sJR, y_sJN, y_sRK, y_sRL, y_sRN, Nat.add_zero, z_nat, z_lit, z_lit0, z_lit1, z_in0, z_in1, z_addl0, z_lt, z_ltl, z_llt, z_inj, z_injl, z_add, z_addl, z_ladd, z_mul, z_mull, z_lmul, z_neg, z_negl, z_in, z_inl, z_ltT, z_ltF, z_eqF, z_10, z_01, z_litne, z_ne0, z_0ne, z_ne1, z_1ne, z_lt64, z_02, z_03, z_04, z_05, z_12, z_13, z_14, z_15, z_20, z_21, z_23, z_24, z_25, z_30, z_31, z_32, z_34, z_35, z_40, z_41, z_42, z_43, z_45, z_50, z_51, z_52, z_53, z_54]
    · by_cases g : u m < u k
      · rw [show fch u k (some m) = some k from if_pos (decide_eq_true g)]
        simp (maxSteps := 1000000) (disch := omega) only [txn, chv, e1, g, hY, y_ckd, y_ck2d, y_ond, y_onn, y_oI, y_oIx, y_oJ, y_oV, y_oVx, y_oR, y_oRn, y_oRx, y_b0, y_b1, y_bi, y_bid, y_wIK, y_wIL, y_wII, y_wIJ, y_wIR, y_wIN, y_wIw, y_sI, ↓reduceIte, Nat.reduceEqDiff, eq_self, true_or, or_true, false_or, or_false, and_true, true_and, false_and, and_false, not_true, not_false_eq_true, tf_T, tf_F, y_up1, y_up2, y_xx, y_nx, y_sJ, y_sR, Int32.reduceLT, y_nxK, y_nxL, y_nxR, y_sJK, y_sJL, y_sJR, y_sJN, y_sRK, y_sRL, y_sRN, Nat.add_zero, z_nat, z_lit, z_lit0, z_lit1, z_in0, z_in1, z_addl0, z_lt, z_ltl, z_llt, z_inj, z_injl, z_add, z_addl, z_ladd, z_mul, z_mull, z_lmul, z_neg, z_negl, z_in, z_inl, z_ltT, z_ltF, z_eqF, z_10, z_01, z_litne, z_ne0, z_0ne, z_ne1, z_1ne, z_lt64, z_02, z_03, z_04, z_05, z_12, z_13, z_14, z_15, z_20, z_21, z_23, z_24, z_25, z_30, z_31, z_32, z_34, z_35, z_40, z_41, z_42, z_43, z_45, z_50, z_51, z_52, z_53, z_54]
      · rw [show fch u k (some m) = some m from if_neg (fun q => g (of_decide_eq_true q))]
        simp (maxSteps := 1000000) (disch := omega) only [txn, chv, e1, g, hY, y_ckd, y_ck2d, y_ond, y_onn, y_oI, y_oIx, y_oJ, y_oV, y_oVx, y_oR, y_oRn, y_oRx, y_b0, y_b1, y_bi, y_bid, y_wIK, y_wIL, y_wII, y_wIJ, y_wIR, y_wIN, y_wIw, y_sI, ↓reduceIte, Nat.reduceEqDiff, eq_self, true_or, or_true, false_or, or_false, and_true, true_and, false_and, and_false, not_true, not_false_eq_true, tf_T, tf_F, y_up1, y_up2, y_xx, y_nx, y_sJ, y_sR, Int32.reduceLT, y_nxK, y_nxL, y_nxR, y_sJK, y_sJL, y_sJR, y_sJN, y_sRK, y_sRL, y_sRN, Nat.add_zero, z_nat, z_lit, z_lit0, z_lit1, z_in0, z_in1, z_addl0, z_lt, z_ltl, z_llt, z_inj, z_injl, z_add, z_addl, z_ladd, z_mul, z_mull, z_lmul, z_neg, z_negl, z_in, z_inl, z_ltT, z_ltF, z_eqF, z_10, z_01, z_litne, z_ne0, z_0ne, z_ne1, z_1ne, z_lt64, z_02, z_03, z_04, z_05, z_12, z_13, z_14, z_15, z_20, z_21, z_23, z_24, z_25, z_30, z_31, z_32, z_34, z_35, z_40, z_41, z_42, z_43, z_45, z_50, z_51, z_52, z_53, z_54]
  · rw [bk_148_37]
    simp (maxSteps := 1000000) (disch := omega) only [hY, y_ckd, y_ck2d, y_ond, y_onn, y_oI, y_oIx, y_oJ, y_oV, y_oVx, y_oR, y_oRn, y_oRx, y_b0, y_b1, y_bi, y_bid, y_wIK, y_wIL, y_wII, y_wIJ, y_wIR, y_wIN, y_wIw, y_sI, ↓reduceIte, Nat.reduceEqDiff, eq_self, true_or, or_true, false_or, or_false, and_true, true_and, false_and, and_false, not_true, not_false_eq_true, tf_T, tf_F, y_up1, y_up2, y_xx, y_nx, y_sJ, y_sR, Int32.reduceLT, y_nxK, y_nxL, y_nxR, y_sJK, y_sJL, y_sJR, y_sJN, y_sRK, y_sRL, y_sRN, Nat.add_zero, z_nat, z_lit, z_lit0, z_lit1, z_in0, z_in1, z_addl0, z_lt, z_ltl, z_llt, z_inj, z_injl, z_add, z_addl, z_ladd, z_mul, z_mull, z_lmul, z_neg, z_negl, z_in, z_inl, z_ltT, z_ltF, z_eqF, z_10, z_01, z_litne, z_ne0, z_0ne, z_ne1, z_1ne, z_lt64, z_02, z_03, z_04, z_05, z_12, z_13, z_14, z_15, z_20, z_21, z_23, z_24, z_25, z_30, z_31, z_32, z_34, z_35, z_40, z_41, z_42, z_43, z_45, z_50, z_51, z_52, z_53, z_54]
theorem m_hah {k m : Nat} (hM : Md B) (hw : ∀ s, s < 12042 → i 875 s = w s) (hm : m < 20) (hk : k < 20) : am_fx am_P d 130 0 [some (.ref 874), some (.int (Int32.ofNat k)), some (.int (Int32.ofNat m))] [] (am_wI B i) = some (.inl (some (.int (if hah w k m then 1 else 0))), am_wI B i) := by
  have d1 := hw (3438 + 2 * k) (by omega)
  have d2 := hw (3438 + 2 * m) (by omega)
  rw [bk_130_0]
  by_cases g : w (3438 + 2 * k) < w (3438 + 2 * m)
  · rw [if_pos (c := hah w k m) (Or.inl g)]
    simp (maxSteps := 1000000) (disch := omega) only [d1, d2, g, hM, y_ckd, y_ck2d, y_ond, y_onn, y_oI, y_oIx, y_oJ, y_oV, y_oVx, y_oR, y_oRn, y_oRx, y_b0, y_b1, y_bi, y_bid, y_wIK, y_wIL, y_wII, y_wIJ, y_wIR, y_wIN, y_wIw, y_sI, ↓reduceIte, Nat.reduceEqDiff, eq_self, true_or, or_true, false_or, or_false, and_true, true_and, false_and, and_false, not_true, not_false_eq_true, tf_T, tf_F, y_up1, y_up2, y_xx, y_nx, y_sJ, y_sR, Int32.reduceLT, y_nxK, y_nxL, y_nxR, y_sJK, y_sJL, y_sJR, y_sJN, y_sRK, y_sRL, y_sRN, Nat.add_zero, z_nat, z_lit, z_lit0, z_lit1, z_in0, z_in1, z_addl0, z_lt, z_ltl, z_llt, z_inj, z_injl, z_add, z_addl, z_ladd, z_mul, z_mull, z_lmul, z_neg, z_negl, z_in, z_inl, z_ltT, z_ltF, z_eqF, z_10, z_01, z_litne, z_ne0, z_0ne, z_ne1, z_1ne, z_lt64, z_02, z_03, z_04, z_05, z_12, z_13, z_14, z_15, z_20, z_21, z_23, z_24, z_25, z_30, z_31, z_32, z_34, z_35, z_40, z_41, z_42, z_43, z_45, z_50, z_51, z_52, z_53, z_54]
  · by_cases g2 : w (3438 + 2 * k) = w (3438 + 2 * m)
    · rw [← g2] at d2
      by_cases g3 : k < m
      · rw [if_pos (c := hah w k m) (Or.inr ⟨g2, g3⟩)]
        simp (maxSteps := 1000000) (disch := omega) only [d1, d2, g, g3, Int32.lt_irrefl, hM, y_ckd, y_ck2d, y_ond, y_onn, y_oI, y_oIx, y_oJ, y_oV, y_oVx, y_oR, y_oRn, y_oRx, y_b0, y_b1, y_bi, y_bid, y_wIK, y_wIL, y_wII, y_wIJ, y_wIR, y_wIN, y_wIw, y_sI, ↓reduceIte, Nat.reduceEqDiff, eq_self, true_or, or_true, false_or, or_false, and_true, true_and, false_and, and_false, not_true, not_false_eq_true, tf_T, tf_F, y_up1, y_up2, y_xx, y_nx, y_sJ, y_sR, Int32.reduceLT, y_nxK, y_nxL, y_nxR, y_sJK, y_sJL, y_sJR, y_sJN, y_sRK, y_sRL, y_sRN, Nat.add_zero, z_nat, z_lit, z_lit0, z_lit1, z_in0, z_in1, z_addl0, z_lt, z_ltl, z_llt, z_inj, z_injl, z_add, z_addl, z_ladd, z_mul, z_mull, z_lmul, z_neg, z_negl, z_in, z_inl, z_ltT, z_ltF, z_eqF, z_10, z_01, z_litne, z_ne0, z_0ne, z_ne1, z_1ne, z_lt64, z_02, z_03, z_04, z_05, z_12, z_13, z_14, z_15, z_20, z_21, z_23, z_24, z_25, z_30, z_31, z_32, z_34, z_35, z_40, z_41, z_42, z_43, z_45, z_50, z_51, z_52, z_53, z_54]
      · rw [if_neg (c := hah w k m) (fun q => q.elim g fun q => g3 q.2)]
        simp (maxSteps := 1000000) (disch := omega) only [d1, d2, g, g3, Int32.lt_irrefl, hM, y_ckd, y_ck2d, y_ond, y_onn, y_oI, y_oIx, y_oJ, y_oV, y_oVx, y_oR, y_oRn, y_oRx, y_b0, y_b1, y_bi, y_bid, y_wIK, y_wIL, y_wII, y_wIJ, y_wIR, y_wIN, y_wIw, y_sI, ↓reduceIte, Nat.reduceEqDiff, eq_self, true_or, or_true, false_or, or_false, and_true, true_and, false_and, and_false, not_true, not_false_eq_true, tf_T, tf_F, y_up1, y_up2, y_xx, y_nx, y_sJ, y_sR, Int32.reduceLT, y_nxK, y_nxL, y_nxR, y_sJK, y_sJL, y_sJR, y_sJN, y_sRK, y_sRL, y_sRN, Nat.add_zero, z_nat, z_lit, z_lit0, z_lit1, z_in0, z_in1, z_addl0, z_lt, z_ltl, z_llt, z_inj, z_injl, z_add, z_addl, z_ladd, z_mul, z_mull, z_lmul, z_neg, z_negl, z_in, z_inl, z_ltT, z_ltF, z_eqF, z_10, z_01, z_litne, z_ne0, z_0ne, z_ne1, z_1ne, z_lt64, z_02, z_03, z_04, z_05, z_12, z_13, z_14, z_15, z_20, z_21, z_23, z_24, z_25, z_30, z_31, z_32, z_34, z_35, z_40, z_41, z_42, z_43, z_45, z_50, z_51, z_52, z_53, z_54]
    · rw [if_neg (c := hah w k m) (fun q => q.elim g fun q => g2 q.1)]
      simp (maxSteps := 1000000) (disch := omega) only [d1, d2, g, g2, hM, y_ckd, y_ck2d, y_ond, y_onn, y_oI, y_oIx, y_oJ, y_oV, y_oVx, y_oR, y_oRn, y_oRx, y_b0, y_b1, y_bi, y_bid, y_wIK, y_wIL, y_wII, y_wIJ, y_wIR, y_wIN, y_wIw, y_sI, ↓reduceIte, Nat.reduceEqDiff, eq_self, true_or, or_true, false_or, or_false, and_true, true_and, false_and, and_false, not_true, not_false_eq_true, tf_T, tf_F, y_up1, y_up2, y_xx, y_nx, y_sJ, y_sR, Int32.reduceLT, y_nxK, y_nxL, y_nxR, y_sJK, y_sJL, y_sJR, y_sJN, y_sRK, y_sRL, y_sRN, Nat.add_zero, z_nat, z_lit, z_lit0, z_lit1, z_in0, z_in1, z_addl0, z_lt, z_ltl, z_llt, z_inj, z_injl, z_add, z_addl, z_ladd, z_mul, z_mull, z_lmul, z_neg, z_negl, z_in, z_inl, z_ltT, z_ltF, z_eqF, z_10, z_01, z_litne, z_ne0, z_0ne, z_ne1, z_1ne, z_lt64, z_02, z_03, z_04, z_05, z_12, z_13, z_14, z_15, z_20, z_21, z_23, z_24, z_25, z_30, z_31, z_32, z_34, z_35, z_40, z_41, z_42, z_43, z_45, z_50, z_51, z_52, z_53, z_54]
theorem m_dah {m : Nat} (hM : Md B) (hw : ∀ s, s < 12042 → i 875 s = w s) (hc3 : isc w 3437 20) (hm : m < cn w 3437) : am_fx am_P (d + 1) 134 46 [some (.ref 874), some (.int x), some (.int (Int32.ofNat m)), some (.int (-1)), some (.int (Int32.ofNat 0)), none] [] (am_wI B i) = am_fx am_P (d + 1) 134 96 [some (.ref 874), some (.int x), some (.int (Int32.ofNat m)), some (.int (dah w m)), some (.int 0), none] [] (am_wI B i) := by
  have h3 := hc3.2
  have e5 : i 875 3437 = Int32.ofNat (cn w 3437) := (hw _ (by omega)).trans hc3.1
  refine (lp_itr (fun k a => am_fx am_P (d + 1) 134 46 [some (.ref 874), some (.int x), some (.int (Int32.ofNat m)), some (.int a), some (.int (Int32.ofNat k)), none] [] (am_wI B i)) (fda w m) (cn w 3437) (fun k a hk => ?_) (-1)).trans ?_
  · have ea := m_hah (d := d) (k := k) (m := m) hM hw (by omega) (by omega)
    have d1 := hw (3438 + 2 * k) (by omega)
    rw [bk_134_46]
    by_cases g : hah w k m
    · rw [if_pos g] at ea
      rw [show fda w m k a = _ from if_pos g]
      simp (maxSteps := 1000000) (disch := omega) only [e5, ea, d1, c_max, hM, y_ckd, y_ck2d, y_ond, y_onn, y_oI, y_oIx, y_oJ, y_oV, y_oVx, y_oR, y_oRn, y_oRx, y_b0, y_b1, y_bi, y_bid, y_wIK, y_wIL, y_wII, y_wIJ, y_wIR, y_wIN, y_wIw, y_sI, ↓reduceIte, Nat.reduceEqDiff, eq_self, true_or, or_true, false_or, or_false, and_true, true_and, false_and, and_false, not_true, not_false_eq_true, tf_T, tf_F, y_up1, y_up2, y_xx, y_nx, y_sJ, y_sR, Int32.reduceLT, y_nxK, y_nxL, y_nxR, y_sJK, y_sJL, y_sJR, y_sJN, y_sRK, y_sRL, y_sRN, Nat.add_zero, z_nat, z_lit, z_lit0, z_lit1, z_in0, z_in1, z_addl0, z_lt, z_ltl, z_llt, z_inj, z_injl, z_add, z_addl, z_ladd, z_mul, z_mull, z_lmul, z_neg, z_negl, z_in, z_inl, z_ltT, z_ltF, z_eqF, z_10, z_01, z_litne, z_ne0, z_0ne, z_ne1, z_1ne, z_lt64, z_02, z_03, z_04, z_05, z_12, z_13, z_14, z_15, z_20, z_21, z_23, z_24, z_25, z_30, z_31, z_32, z_34, z_35, z_40, z_41, z_42, z_43, z_45, z_50, z_51, z_52, z_53, z_54]
    · rw [if_neg g] at ea
      rw [show fda w m k a = a from if_neg g]
      simp (maxSteps := 1000000) (disch := omega) only [e5, ea, hM, y_ckd, y_ck2d, y_ond, y_onn, y_oI, y_oIx, y_oJ, y_oV, y_oVx, y_oR, y_oRn, y_oRx, y_b0, y_b1, y_bi, y_bid, y_wIK, y_wIL, y_wII, y_wIJ, y_wIR, y_wIN, y_wIw, y_sI, ↓reduceIte, Nat.reduceEqDiff, eq_self, true_or, or_true, false_or, or_false, and_true, true_and, false_and, and_false, not_true, not_false_eq_true, tf_T, tf_F, y_up1, y_up2, y_xx, y_nx, y_sJ, y_sR, Int32.reduceLT, y_nxK, y_nxL, y_nxR, y_sJK, y_sJL, y_sJR, y_sJN, y_sRK, y_sRL, y_sRN, Nat.add_zero, z_nat, z_lit, z_lit0, z_lit1, z_in0, z_in1, z_addl0, z_lt, z_ltl, z_llt, z_inj, z_injl, z_add, z_addl, z_ladd, z_mul, z_mull, z_lmul, z_neg, z_negl, z_in, z_inl, z_ltT, z_ltF, z_eqF, z_10, z_01, z_litne, z_ne0, z_0ne, z_ne1, z_1ne, z_lt64, z_02, z_03, z_04, z_05, z_12, z_13, z_14, z_15, z_20, z_21, z_23, z_24, z_25, z_30, z_31, z_32, z_34, z_35, z_40, z_41, z_42, z_43, z_45, z_50, z_51, z_52, z_53, z_54]
  · rw [bk_134_46]
    simp (maxSteps := 1000000) (disch := omega) only [e5, hM, y_ckd, y_ck2d, y_ond, y_onn, y_oI, y_oIx, y_oJ, y_oV, y_oVx, y_oR, y_oRn, y_oRx, y_b0, y_b1, y_bi, y_bid, y_wIK, y_wIL, y_wII, y_wIJ, y_wIR, y_wIN, y_wIw, y_sI, ↓reduceIte, Nat.reduceEqDiff, eq_self, true_or, or_true, false_or, or_false, and_true, true_and, false_and, and_false, not_true, not_false_eq_true, tf_T, tf_F, y_up1, y_up2, y_xx, y_nx, y_sJ, y_sR, Int32.reduceLT, y_nxK, y_nxL, y_nxR, y_sJK, y_sJL, y_sJR, y_sJN, y_sRK, y_sRL, y_sRN, Nat.add_zero, z_nat, z_lit, z_lit0, z_lit1, z_in0, z_in1, z_addl0, z_lt, z_ltl, z_llt, z_inj, z_injl, z_add, z_addl, z_ladd, z_mul, z_mull, z_lmul, z_neg, z_negl, z_in, z_inl, z_ltT, z_ltF, z_eqF, z_10, z_01, z_litne, z_ne0, z_0ne, z_ne1, z_1ne, z_lt64, z_02, z_03, z_04, z_05, z_12, z_13, z_14, z_15, z_20, z_21, z_23, z_24, z_25, z_30, z_31, z_32, z_34, z_35, z_40, z_41, z_42, z_43, z_45, z_50, z_51, z_52, z_53, z_54]
    rfl
theorem m_zero {m : Nat} (hM : Md B) : ∃ i', am_fx am_P (d + 1) 134 96 [some (.ref 874), some (.int x), some (.int (Int32.ofNat m)), some (.int y), some (.int (Int32.ofNat 0)), none] [] (am_wI B i) = am_fx am_P (d + 1) 134 122 [some (.ref 874), some (.int x), some (.int (Int32.ofNat m)), some (.int y), some (.int 3037), none] [] (am_wI B i') ∧ (∀ k, k < 10 → i' 891 k = 0) ∧ ∀ q k, q ≠ 891 → i' q k = i q k := by
  obtain ⟨j, E, hj, hf⟩ := lp_inv (fun k j => am_fx am_P (d + 1) 134 96 [some (.ref 874), some (.int x), some (.int (Int32.ofNat m)), some (.int y), some (.int (Int32.ofNat k)), none] [] (am_wI B j)) (fun k j => (∀ m, m < k → j 891 m = 0) ∧ ∀ q k, q ≠ 891 → j q k = i q k) 10 (fun k j hk hI => by
    refine ⟨am_up2 j 891 k 0, ?_, fun m hm => ?_, fun q m hq => by rw [y_up2 (by omega)]; exact hI.2 q m hq⟩
    · rw [bk_134_96]
      simp (maxSteps := 1000000) (disch := omega) only [hM, y_ckd, y_ck2d, y_ond, y_onn, y_oI, y_oIx, y_oJ, y_oV, y_oVx, y_oR, y_oRn, y_oRx, y_b0, y_b1, y_bi, y_bid, y_wIK, y_wIL, y_wII, y_wIJ, y_wIR, y_wIN, y_wIw, y_sI, ↓reduceIte, Nat.reduceEqDiff, eq_self, true_or, or_true, false_or, or_false, and_true, true_and, false_and, and_false, not_true, not_false_eq_true, tf_T, tf_F, y_up1, y_up2, y_xx, y_nx, y_sJ, y_sR, Int32.reduceLT, y_nxK, y_nxL, y_nxR, y_sJK, y_sJL, y_sJR, y_sJN, y_sRK, y_sRL, y_sRN, Nat.add_zero, z_nat, z_lit, z_lit0, z_lit1, z_in0, z_in1, z_addl0, z_lt, z_ltl, z_llt, z_inj, z_injl, z_add, z_addl, z_ladd, z_mul, z_mull, z_lmul, z_neg, z_negl, z_in, z_inl, z_ltT, z_ltF, z_eqF, z_10, z_01, z_litne, z_ne0, z_0ne, z_ne1, z_1ne, z_lt64, z_02, z_03, z_04, z_05, z_12, z_13, z_14, z_15, z_20, z_21, z_23, z_24, z_25, z_30, z_31, z_32, z_34, z_35, z_40, z_41, z_42, z_43, z_45, z_50, z_51, z_52, z_53, z_54]
    · by_cases e : m = k
      · rw [y_up1 rfl e]
      · rw [y_up2 (by omega)]
        exact hI.1 m (by omega)) i ⟨fun m hm => absurd hm (by omega), fun _ _ _ => rfl⟩
  refine ⟨j, E.trans ?_, hj, hf⟩
  rw [bk_134_96]
  simp (maxSteps := 1000000) (disch := omega) only [hM, y_ckd, y_ck2d, y_ond, y_onn, y_oI, y_oIx, y_oJ, y_oV, y_oVx, y_oR, y_oRn, y_oRx, y_b0, y_b1, y_bi, y_bid, y_wIK, y_wIL, y_wII, y_wIJ, y_wIR, y_wIN, y_wIw, y_sI, ↓reduceIte, Nat.reduceEqDiff, eq_self, true_or, or_true, false_or, or_false, and_true, true_and, false_and, and_false, not_true, not_false_eq_true, tf_T, tf_F, y_up1, y_up2, y_xx, y_nx, y_sJ, y_sR, Int32.reduceLT, y_nxK, y_nxL, y_nxR, y_sJK, y_sJL, y_sJR, y_sJN, y_sRK, y_sRL, y_sRN, Nat.add_zero, z_nat, z_lit, z_lit0, z_lit1, z_in0, z_in1, z_addl0, z_lt, z_ltl, z_llt, z_inj, z_injl, z_add, z_addl, z_ladd, z_mul, z_mull, z_lmul, z_neg, z_negl, z_in, z_inl, z_ltT, z_ltF, z_eqF, z_10, z_01, z_litne, z_ne0, z_0ne, z_ne1, z_1ne, z_lt64, z_02, z_03, z_04, z_05, z_12, z_13, z_14, z_15, z_20, z_21, z_23, z_24, z_25, z_30, z_31, z_32, z_34, z_35, z_40, z_41, z_42, z_43, z_45, z_50, z_51, z_52, z_53, z_54]
theorem m_aus {m : Nat} {lo : Int32} (hM : Md B) (hw : ∀ s, s < 12042 → i 875 s = w s) (hW : Wd w) (hm : m < cn w 3437) (hlo : lo < 4001) (hz : ∀ k, k < 10 → i 891 k = 0) : ∃ i', am_fx am_P (d + 1) 134 122 [some (.ref 874), some (.int x), some (.int (Int32.ofNat m)), some (.int lo), some (.int (Int32.ofNat (3037 + 4 * 0))), none] [] (am_wI B i) = am_fx am_P (d + 1) 134 223 [some (.ref 874), none, none, none, some (.int (-1)), some (.int 0)] [] (am_wI B i') ∧ (∀ k, k < 10 → i' 891 k = aus w x lo (w (3438 + 2 * m)) (cn w 3036) k) ∧ ∀ q k, q ≠ 891 → i' q k = i q k := by
  have hc := hW.1.2.2.2.2.2.2.1
  have h2 := hc.2
  have h3 := hW.1.2.2.2.2.2.2.2.1.2
  have hWE := hW.2.2.2.2.2.2.1
  obtain ⟨j, E, hj, hf⟩ := lp_inv (fun k j => am_fx am_P (d + 1) 134 122 [some (.ref 874), some (.int x), some (.int (Int32.ofNat m)), some (.int lo), some (.int (Int32.ofNat (3037 + 4 * k))), none] [] (am_wI B j)) (fun k j => (∀ n, n < 10 → j 891 n = aus w x lo (w (3438 + 2 * m)) k n) ∧ ∀ q n, q ≠ 891 → j q n = i q n) (cn w 3036) (fun k j hk hI => by
    obtain ⟨hj, hf⟩ := hI
    have e5 : j 875 3036 = Int32.ofNat (cn w 3036) := ((hf _ _ (by omega)).trans (hw _ (by omega))).trans hc.1
    have d2 := (hf 875 (3438 + 2 * m) (by omega)).trans (hw _ (by omega))
    have e1 := (hf 875 (3037 + 4 * k) (by omega)).trans (hw _ (by omega))
    have e2 := (hf 875 (3037 + 4 * k + 1) (by omega)).trans (hw _ (by omega))
    have e3 := (hf 875 (3037 + 4 * k + 2) (by omega)).trans (hw _ (by omega))
    have e4 := (hf 875 (3037 + 4 * k + 3) (by omega)).trans (hw _ (by omega))
    obtain ⟨h, e4w, h10⟩ := z_lk 10 (by omega) (hWE k hk (by omega)).1 (hWE k hk (by omega)).2
    have ch : cn w (3037 + 4 * k + 3) = h := cn_of e4w (by omega)
    rw [e4w] at e4
    have ez := z_ltp1 (y := w (3037 + 4 * k + 1)) hlo
    show ∃ s', am_fx am_P (d + 1) 134 122 [some (.ref 874), some (.int x), some (.int (Int32.ofNat m)), some (.int lo), some (.int (Int32.ofNat (3037 + 4 * k))), none] [] (am_wI B j) = am_fx am_P (d + 1) 134 122 [some (.ref 874), some (.int x), some (.int (Int32.ofNat m)), some (.int lo), some (.int (Int32.ofNat (3037 + 4 * k + 4))), none] [] (am_wI B s') ∧ _
    by_cases g : w (3037 + 4 * k) = x
    · by_cases g2 : lo < w (3037 + 4 * k + 1)
      · by_cases g3 : w (3438 + 2 * m) < w (3037 + 4 * k + 1)
        · refine ⟨j, ?_, fun n hn => ?_, hf⟩
          · rw [bk_134_122]
            simp (maxSteps := 1000000) (disch := omega) only [e5, e1, e2, d2, m_in, ez, g, g2, g3, Classical.not_not, hM, y_ckd, y_ck2d, y_ond, y_onn, y_oI, y_oIx, y_oJ, y_oV, y_oVx, y_oR, y_oRn, y_oRx, y_b0, y_b1, y_bi, y_bid, y_wIK, y_wIL, y_wII, y_wIJ, y_wIR, y_wIN, y_wIw, y_sI, ↓reduceIte, Nat.reduceEqDiff, eq_self, true_or, or_true, false_or, or_false, and_true, true_and, false_and, and_false, not_true, not_false_eq_true, tf_T, tf_F, y_up1, y_up2, y_xx, y_nx, y_sJ, y_sR, Int32.reduceLT, y_nxK, y_nxL, y_nxR, y_sJK, y_sJL, y_sJR, y_sJN, y_sRK, y_sRL, y_sRN, Nat.add_zero, z_nat, z_lit, z_lit0, z_lit1, z_in0, z_in1, z_addl0, z_lt, z_ltl, z_llt, z_inj, z_injl, z_add, z_addl, z_ladd, z_mul, z_mull, z_lmul, z_neg, z_negl, z_in, z_inl, z_ltT, z_ltF, z_eqF, z_10, z_01, z_litne, z_ne0, z_0ne, z_ne1, z_1ne, z_lt64, z_02, z_03, z_04, z_05, z_12, z_13, z_14, z_15, z_20, z_21, z_23, z_24, z_25, z_30, z_31, z_32, z_34, z_35, z_40, z_41, z_42, z_43, z_45, z_50, z_51, z_52, z_53, z_54]
          · rw [aus_s, show fau w x lo (w (3438 + 2 * m)) k (aus w x lo (w (3438 + 2 * m)) k) = _ from if_neg (fun q => q.2.2 g3)]
            exact hj n hn
        · refine ⟨am_up2 j 891 h (j 891 h + ab (w (3037 + 4 * k + 2))), ?_, fun n hn => ?_, fun q n hq => by rw [y_up2 (by omega)]; exact hf q n hq⟩
          · rw [bk_134_122]
            simp (maxSteps := 1000000) (disch := omega) only [e5, e1, e2, e3, e4, d2, m_in, ez, c_abs, g, g2, g3, Classical.not_not, hM, y_ckd, y_ck2d, y_ond, y_onn, y_oI, y_oIx, y_oJ, y_oV, y_oVx, y_oR, y_oRn, y_oRx, y_b0, y_b1, y_bi, y_bid, y_wIK, y_wIL, y_wII, y_wIJ, y_wIR, y_wIN, y_wIw, y_sI, ↓reduceIte, Nat.reduceEqDiff, eq_self, true_or, or_true, false_or, or_false, and_true, true_and, false_and, and_false, not_true, not_false_eq_true, tf_T, tf_F, y_up1, y_up2, y_xx, y_nx, y_sJ, y_sR, Int32.reduceLT, y_nxK, y_nxL, y_nxR, y_sJK, y_sJL, y_sJR, y_sJN, y_sRK, y_sRL, y_sRN, Nat.add_zero, z_nat, z_lit, z_lit0, z_lit1, z_in0, z_in1, z_addl0, z_lt, z_ltl, z_llt, z_inj, z_injl, z_add, z_addl, z_ladd, z_mul, z_mull, z_lmul, z_neg, z_negl, z_in, z_inl, z_ltT, z_ltF, z_eqF, z_10, z_01, z_litne, z_ne0, z_0ne, z_ne1, z_1ne, z_lt64, z_02, z_03, z_04, z_05, z_12, z_13, z_14, z_15, z_20, z_21, z_23, z_24, z_25, z_30, z_31, z_32, z_34, z_35, z_40, z_41, z_42, z_43, z_45, z_50, z_51, z_52, z_53, z_54]
          · rw [aus_s, show fau w x lo (w (3438 + 2 * m)) k (aus w x lo (w (3438 + 2 * m)) k) = _ from if_pos ⟨g, g2, g3⟩]
            show _ = (if n = cn w (3037 + 4 * k + 3) then aus w x lo (w (3438 + 2 * m)) k n + ab (w (3037 + 4 * k + 2)) else aus w x lo (w (3438 + 2 * m)) k n)
            by_cases e : n = h
            · rw [y_up1 rfl e, e, if_pos ch.symm, hj h h10]
            · rw [y_up2 (by omega), if_neg (by rw [ch]; exact e)]
              exact hj n hn
      · refine ⟨j, ?_, fun n hn => ?_, hf⟩
        · rw [bk_134_122]
          simp (maxSteps := 1000000) (disch := omega) only [e5, e1, e2, d2, m_in, ez, g, g2, Classical.not_not, hM, y_ckd, y_ck2d, y_ond, y_onn, y_oI, y_oIx, y_oJ, y_oV, y_oVx, y_oR, y_oRn, y_oRx, y_b0, y_b1, y_bi, y_bid, y_wIK, y_wIL, y_wII, y_wIJ, y_wIR, y_wIN, y_wIw, y_sI, ↓reduceIte, Nat.reduceEqDiff, eq_self, true_or, or_true, false_or, or_false, and_true, true_and, false_and, and_false, not_true, not_false_eq_true, tf_T, tf_F, y_up1, y_up2, y_xx, y_nx, y_sJ, y_sR, Int32.reduceLT, y_nxK, y_nxL, y_nxR, y_sJK, y_sJL, y_sJR, y_sJN, y_sRK, y_sRL, y_sRN, Nat.add_zero, z_nat, z_lit, z_lit0, z_lit1, z_in0, z_in1, z_addl0, z_lt, z_ltl, z_llt, z_inj, z_injl, z_add, z_addl, z_ladd, z_mul, z_mull, z_lmul, z_neg, z_negl, z_in, z_inl, z_ltT, z_ltF, z_eqF, z_10, z_01, z_litne, z_ne0, z_0ne, z_ne1, z_1ne, z_lt64, z_02, z_03, z_04, z_05, z_12, z_13, z_14, z_15, z_20, z_21, z_23, z_24, z_25, z_30, z_31, z_32, z_34, z_35, z_40, z_41, z_42, z_43, z_45, z_50, z_51, z_52, z_53, z_54]
        · rw [aus_s, show fau w x lo (w (3438 + 2 * m)) k (aus w x lo (w (3438 + 2 * m)) k) = _ from if_neg (fun q => g2 q.2.1)]
          exact hj n hn
    · refine ⟨j, ?_, fun n hn => ?_, hf⟩
      · rw [bk_134_122]
        simp (maxSteps := 1000000) (disch := omega) only [e5, e1, g, hM, y_ckd, y_ck2d, y_ond, y_onn, y_oI, y_oIx, y_oJ, y_oV, y_oVx, y_oR, y_oRn, y_oRx, y_b0, y_b1, y_bi, y_bid, y_wIK, y_wIL, y_wII, y_wIJ, y_wIR, y_wIN, y_wIw, y_sI, ↓reduceIte, Nat.reduceEqDiff, eq_self, true_or, or_true, false_or, or_false, and_true, true_and, false_and, and_false, not_true, not_false_eq_true, tf_T, tf_F, y_up1, y_up2, y_xx, y_nx, y_sJ, y_sR, Int32.reduceLT, y_nxK, y_nxL, y_nxR, y_sJK, y_sJL, y_sJR, y_sJN, y_sRK, y_sRL, y_sRN, Nat.add_zero, z_nat, z_lit, z_lit0, z_lit1, z_in0, z_in1, z_addl0, z_lt, z_ltl, z_llt, z_inj, z_injl, z_add, z_addl, z_ladd, z_mul, z_mull, z_lmul, z_neg, z_negl, z_in, z_inl, z_ltT, z_ltF, z_eqF, z_10, z_01, z_litne, z_ne0, z_0ne, z_ne1, z_1ne, z_lt64, z_02, z_03, z_04, z_05, z_12, z_13, z_14, z_15, z_20, z_21, z_23, z_24, z_25, z_30, z_31, z_32, z_34, z_35, z_40, z_41, z_42, z_43, z_45, z_50, z_51, z_52, z_53, z_54]
      · rw [aus_s, show fau w x lo (w (3438 + 2 * m)) k (aus w x lo (w (3438 + 2 * m)) k) = _ from if_neg (fun q => g q.1)]
        exact hj n hn) i ⟨hz, fun _ _ _ => rfl⟩
  refine ⟨j, E.trans ?_, hj, hf⟩
  have e5 : j 875 3036 = Int32.ofNat (cn w 3036) := ((hf _ _ (by omega)).trans (hw _ (by omega))).trans hc.1
  rw [bk_134_122]
  simp (maxSteps := 1000000) (disch := omega) only [e5, hM, y_ckd, y_ck2d, y_ond, y_onn, y_oI, y_oIx, y_oJ, y_oV, y_oVx, y_oR, y_oRn, y_oRx, y_b0, y_b1, y_bi, y_bid, y_wIK, y_wIL, y_wII, y_wIJ, y_wIR, y_wIN, y_wIw, y_sI, ↓reduceIte, Nat.reduceEqDiff, eq_self, true_or, or_true, false_or, or_false, and_true, true_and, false_and, and_false, not_true, not_false_eq_true, tf_T, tf_F, y_up1, y_up2, y_xx, y_nx, y_sJ, y_sR, Int32.reduceLT, y_nxK, y_nxL, y_nxR, y_sJK, y_sJL, y_sJR, y_sJN, y_sRK, y_sRL, y_sRN, Nat.add_zero, z_nat, z_lit, z_lit0, z_lit1, z_in0, z_in1, z_addl0, z_lt, z_ltl, z_llt, z_inj, z_injl, z_add, z_addl, z_ladd, z_mul, z_mull, z_lmul, z_neg, z_negl, z_in, z_inl, z_ltT, z_ltF, z_eqF, z_10, z_01, z_litne, z_ne0, z_0ne, z_ne1, z_1ne, z_lt64, z_02, z_03, z_04, z_05, z_12, z_13, z_14, z_15, z_20, z_21, z_23, z_24, z_25, z_30, z_31, z_32, z_34, z_35, z_40, z_41, z_42, z_43, z_45, z_50, z_51, z_52, z_53, z_54]
theorem m_chs {u : Nat → Int32} (hM : Md B) (hu : ∀ k, k < 10 → i 891 k = u k) : am_fx am_P (d + 1) 134 223 [some (.ref 874), none, none, none, some (.int (-1)), some (.int (Int32.ofNat 0))] [] (am_wI B i) = some (.inl (some (.int (txn (chs u 10)))), am_wI B i) := by
  refine (lp_itr (fun k (_ : Unit) => am_fx am_P (d + 1) 134 223 [some (.ref 874), none, none, none, some (.int (txn (chs u k))), some (.int (Int32.ofNat k))] [] (am_wI B i)) (fun _ v => v) 10 (fun k v hk => ?_) ()).trans ?_
  · have e1 := hu k hk
    rw [bk_134_223, chs_s]
    rcases hq : chs u k with _ | m
    · by_cases g : 0 < u k
      · rw [show fch u k none = some k from if_pos (decide_eq_true g)]
        simp (maxSteps := 1000000) (disch := omega) only [txn, (fun d x0 x5 B i => bk_134_262 d x0 x5 (am_wI B i)), e1, g, z_lm1, hM, y_ckd, y_ck2d, y_ond, y_onn, y_oI, y_oIx, y_oJ, y_oV, y_oVx, y_oR, y_oRn, y_oRx, y_b0, y_b1, y_bi, y_bid, y_wIK, y_wIL, y_wII, y_wIJ, y_wIR, y_wIN, y_wIw, y_sI, ↓reduceIte, Nat.reduceEqDiff, eq_self, true_or, or_true, false_or, or_false, and_true, true_and, false_and, and_false, not_true, not_false_eq_true, tf_T, tf_F, y_up1, y_up2, y_xx, y_nx, y_sJ, y_sR, Int32.reduceLT, y_nxK, y_nxL, y_nxR, y_sJK, y_sJL, y_sJR, y_sJN, y_sRK, y_sRL, y_sRN, Nat.add_zero, z_nat, z_lit, z_lit0, z_lit1, z_in0, z_in1, z_addl0, z_lt, z_ltl, z_llt, z_inj, z_injl, z_add, z_addl, z_ladd, z_mul, z_mull, z_lmul, z_neg, z_negl, z_in, z_inl, z_ltT, z_ltF, z_eqF, z_10, z_01, z_litne, z_ne0, z_0ne, z_ne1, z_1ne, z_lt64, z_02, z_03, z_04, z_05, z_12, z_13, z_14, z_15, z_20, z_21, z_23, z_24, z_25, z_30, z_31, z_32, z_34, z_35, z_40, z_41, z_42, z_43, z_45, z_50, z_51, z_52, z_53, z_54]
      · rw [show fch u k none = none from if_neg (fun q => g (of_decide_eq_true q))]
        simp (maxSteps := 1000000) (disch := omega) only [txn, e1, g, hM, y_ckd, y_ck2d, y_ond, y_onn, y_oI, y_oIx, y_oJ, y_oV, y_oVx, y_oR, y_oRn, y_oRx, y_b0, y_b1, y_bi, y_bid, y_wIK, y_wIL, y_wII, y_wIJ, y_wIR, y_wIN, y_wIw, y_sI, ↓reduceIte, Nat.reduceEqDiff, eq_self, true_or, or_true, false_or, or_false, and_true, true_and, false_and, and_false, not_true, not_false_eq_true, tf_T, tf_F, y_up1, y_up2, y_xx, y_nx, y_sJ, y_sR, Int32.reduceLT, y_nxK, y_nxL, y_nxR, y_sJK, y_sJL, y_sJR, y_sJN, y_sRK, y_sRL, y_sRN, Nat.add_zero, z_nat, z_lit, z_lit0, z_lit1, z_in0, z_in1, z_addl0, z_lt, z_ltl, z_llt, z_inj, z_injl, z_add, z_addl, z_ladd, z_mul, z_mull, z_lmul, z_neg, z_negl, z_in, z_inl, z_ltT, z_ltF, z_eqF, z_10, z_01, z_litne, z_ne0, z_0ne, z_ne1, z_1ne, z_lt64, z_02, z_03, z_04, z_05, z_12, z_13, z_14, z_15, z_20, z_21, z_23, z_24, z_25, z_30, z_31, z_32, z_34, z_35, z_40, z_41, z_42, z_43, z_45, z_50, z_51, z_52, z_53, z_54]
    · obtain ⟨hm, hp⟩ := chs_lt hq
      have em := hu m (by omega)
      have nm : ¬ Int32.ofNat m < 0 := by rw [z_neg (by omega)]; exact id
      by_cases g : u m < u k
      · have g0 : 0 < u k := Int32.lt_trans hp g
        rw [show fch u k (some m) = some k from if_pos (decide_eq_true g)]
        simp (maxSteps := 1000000) (disch := omega) only [txn, (fun d x0 x5 B i => bk_134_262 d x0 x5 (am_wI B i)), e1, em, nm, g, g0, hM, y_ckd, y_ck2d, y_ond, y_onn, y_oI, y_oIx, y_oJ, y_oV, y_oVx, y_oR, y_oRn, y_oRx, y_b0, y_b1, y_bi, y_bid, y_wIK, y_wIL, y_wII, y_wIJ, y_wIR, y_wIN, y_wIw, y_sI, ↓reduceIte, Nat.reduceEqDiff, eq_self, true_or, or_true, false_or, or_false, and_true, true_and, false_and, and_false, not_true, not_false_eq_true, tf_T, tf_F, y_up1, y_up2, y_xx, y_nx, y_sJ, y_sR, Int32.reduceLT, y_nxK, y_nxL, y_nxR, y_sJK, y_sJL, y_sJR, y_sJN, y_sRK, y_sRL, y_sRN, Nat.add_zero, z_nat, z_lit, z_lit0, z_lit1, z_in0, z_in1, z_addl0, z_lt, z_ltl, z_llt, z_inj, z_injl, z_add, z_addl, z_ladd, z_mul, z_mull, z_lmul, z_neg, z_negl, z_in, z_inl, z_ltT, z_ltF, z_eqF, z_10, z_01, z_litne, z_ne0, z_0ne, z_ne1, z_1ne, z_lt64, z_02, z_03, z_04, z_05, z_12, z_13, z_14, z_15, z_20, z_21, z_23, z_24, z_25, z_30, z_31, z_32, z_34, z_35, z_40, z_41, z_42, z_43, z_45, z_50, z_51, z_52, z_53, z_54]
      · rw [show fch u k (some m) = some m from if_neg (fun q => g (of_decide_eq_true q))]
        by_cases g0 : 0 < u k
        · simp (maxSteps := 1000000) (disch := omega) only [txn, e1, em, nm, g, g0, hM, y_ckd, y_ck2d, y_ond, y_onn, y_oI, y_oIx, y_oJ, y_oV, y_oVx, y_oR, y_oRn, y_oRx, y_b0, y_b1, y_bi, y_bid, y_wIK, y_wIL, y_wII, y_wIJ, y_wIR, y_wIN, y_wIw, y_sI, ↓reduceIte, Nat.reduceEqDiff, eq_self, true_or, or_true, false_or, or_false, and_true, true_and, false_and, and_false, not_true, not_false_eq_true, tf_T, tf_F, y_up1, y_up2, y_xx, y_nx, y_sJ, y_sR, Int32.reduceLT, y_nxK, y_nxL, y_nxR, y_sJK, y_sJL, y_sJR, y_sJN, y_sRK, y_sRL, y_sRN, Nat.add_zero, z_nat, z_lit, z_lit0, z_lit1, z_in0, z_in1, z_addl0, z_lt, z_ltl, z_llt, z_inj, z_injl, z_add, z_addl, z_ladd, z_mul, z_mull, z_lmul, z_neg, z_negl, z_in, z_inl, z_ltT, z_ltF, z_eqF, z_10, z_01, z_litne, z_ne0, z_0ne, z_ne1, z_1ne, z_lt64, z_02, z_03, z_04, z_05, z_12, z_13, z_14, z_15, z_20, z_21, z_23, z_24, z_25, z_30, z_31, z_32, z_34, z_35, z_40, z_41, z_42, z_43, z_45, z_50, z_51, z_52, z_53, z_54]
        · simp (maxSteps := 1000000) (disch := omega) only [txn, e1, em, nm, g, g0, hM, y_ckd, y_ck2d, y_ond, y_onn, y_oI, y_oIx, y_oJ, y_oV, y_oVx, y_oR, y_oRn, y_oRx, y_b0, y_b1, y_bi, y_bid, y_wIK, y_wIL, y_wII, y_wIJ, y_wIR, y_wIN, y_wIw, y_sI, ↓reduceIte, Nat.reduceEqDiff, eq_self, true_or, or_true, false_or, or_false, and_true, true_and, false_and, and_false, not_true, not_false_eq_true, tf_T, tf_F, y_up1, y_up2, y_xx, y_nx, y_sJ, y_sR, Int32.reduceLT, y_nxK, y_nxL, y_nxR, y_sJK, y_sJL, y_sJR, y_sJN, y_sRK, y_sRL, y_sRN, Nat.add_zero, z_nat, z_lit, z_lit0, z_lit1, z_in0, z_in1, z_addl0, z_lt, z_ltl, z_llt, z_inj, z_injl, z_add, z_addl, z_ladd, z_mul, z_mull, z_lmul, z_neg, z_negl, z_in, z_inl, z_ltT, z_ltF, z_eqF, z_10, z_01, z_litne, z_ne0, z_0ne, z_ne1, z_1ne, z_lt64, z_02, z_03, z_04, z_05, z_12, z_13, z_14, z_15, z_20, z_21, z_23, z_24, z_25, z_30, z_31, z_32, z_34, z_35, z_40, z_41, z_42, z_43, z_45, z_50, z_51, z_52, z_53, z_54]
  · rw [bk_134_223]
    simp (maxSteps := 1000000) (disch := omega) only [hM, y_ckd, y_ck2d, y_ond, y_onn, y_oI, y_oIx, y_oJ, y_oV, y_oVx, y_oR, y_oRn, y_oRx, y_b0, y_b1, y_bi, y_bid, y_wIK, y_wIL, y_wII, y_wIJ, y_wIR, y_wIN, y_wIw, y_sI, ↓reduceIte, Nat.reduceEqDiff, eq_self, true_or, or_true, false_or, or_false, and_true, true_and, false_and, and_false, not_true, not_false_eq_true, tf_T, tf_F, y_up1, y_up2, y_xx, y_nx, y_sJ, y_sR, Int32.reduceLT, y_nxK, y_nxL, y_nxR, y_sJK, y_sJL, y_sJR, y_sJN, y_sRK, y_sRL, y_sRN, Nat.add_zero, z_nat, z_lit, z_lit0, z_lit1, z_in0, z_in1, z_addl0, z_lt, z_ltl, z_llt, z_inj, z_injl, z_add, z_addl, z_ladd, z_mul, z_mull, z_lmul, z_neg, z_negl, z_in, z_inl, z_ltT, z_ltF, z_eqF, z_10, z_01, z_litne, z_ne0, z_0ne, z_ne1, z_1ne, z_lt64, z_02, z_03, z_04, z_05, z_12, z_13, z_14, z_15, z_20, z_21, z_23, z_24, z_25, z_30, z_31, z_32, z_34, z_35, z_40, z_41, z_42, z_43, z_45, z_50, z_51, z_52, z_53, z_54]
theorem f_hand_x (h : CR B i σ) (g : ¬ (¬ x < 0 ∧ ¬ 1 < x)) : FRs B i σ (am_fx am_P (d + 150) 336 0 [some (.ref 64), some (.int x)] [] (am_wI B i)) (.inr 2) := by
  refine FRs_x h ?_
  have hF : Fc B := h.1.1
  have hY : Yd B 94 := h.1.2.1
  rw [bk_336_0]
  simp (maxSteps := 1000000) (disch := omega) only [c_within0 g, c_ckN0, hF, hY, y_ckd, y_ck2d, y_ond, y_onn, y_oI, y_oIx, y_oJ, y_oV, y_oVx, y_oR, y_oRn, y_oRx, y_b0, y_b1, y_bi, y_bid, y_wIK, y_wIL, y_wII, y_wIJ, y_wIR, y_wIN, y_wIw, y_sI, ↓reduceIte, Nat.reduceEqDiff, eq_self, true_or, or_true, false_or, or_false, and_true, true_and, false_and, and_false, not_true, not_false_eq_true, tf_T, tf_F, y_up1, y_up2, y_xx, y_nx, y_sJ, y_sR, Int32.reduceLT, y_nxK, y_nxL, y_nxR, y_sJK, y_sJL, y_sJR, y_sJN, y_sRK, y_sRL, y_sRN, Nat.add_zero, z_nat, z_lit, z_lit0, z_lit1, z_in0, z_in1, z_addl0, z_lt, z_ltl, z_llt, z_inj, z_injl, z_add, z_addl, z_ladd, z_mul, z_mull, z_lmul, z_neg, z_negl, z_in, z_inl, z_ltT, z_ltF, z_eqF, z_10, z_01, z_litne, z_ne0, z_0ne, z_ne1, z_1ne, z_lt64, z_02, z_03, z_04, z_05, z_12, z_13, z_14, z_15, z_20, z_21, z_23, z_24, z_25, z_30, z_31, z_32, z_34, z_35, z_40, z_41, z_42, z_43, z_45, z_50, z_51, z_52, z_53, z_54]
theorem m_hand_x (h : MR B i σ) (g : ¬ (¬ x < 0 ∧ ¬ 1 < x)) : MRs B i σ (am_fx am_P (d + 150) 134 0 [some (.ref 874), some (.int x), none, none, none, none] [] (am_wI B i)) (some (.int 0)) 1 := by
  refine MRs_x h ?_
  have hM : Md B := h.1.1
  rw [bk_134_0]
  simp (maxSteps := 1000000) (disch := omega) only [m_in, g, (fun d x0 x1 s0 s1 B i => bk_134_20 d x0 x1 s0 s1 (am_wI B i)), m_thr1 hM, hM, y_ckd, y_ck2d, y_ond, y_onn, y_oI, y_oIx, y_oJ, y_oV, y_oVx, y_oR, y_oRn, y_oRx, y_b0, y_b1, y_bi, y_bid, y_wIK, y_wIL, y_wII, y_wIJ, y_wIR, y_wIN, y_wIw, y_sI, ↓reduceIte, Nat.reduceEqDiff, eq_self, true_or, or_true, false_or, or_false, and_true, true_and, false_and, and_false, not_true, not_false_eq_true, tf_T, tf_F, y_up1, y_up2, y_xx, y_nx, y_sJ, y_sR, Int32.reduceLT, y_nxK, y_nxL, y_nxR, y_sJK, y_sJL, y_sJR, y_sJN, y_sRK, y_sRL, y_sRN, Nat.add_zero, z_nat, z_lit, z_lit0, z_lit1, z_in0, z_in1, z_addl0, z_lt, z_ltl, z_llt, z_inj, z_injl, z_add, z_addl, z_ladd, z_mul, z_mull, z_lmul, z_neg, z_negl, z_in, z_inl, z_ltT, z_ltF, z_eqF, z_10, z_01, z_litne, z_ne0, z_0ne, z_ne1, z_1ne, z_lt64, z_02, z_03, z_04, z_05, z_12, z_13, z_14, z_15, z_20, z_21, z_23, z_24, z_25, z_30, z_31, z_32, z_34, z_35, z_40, z_41, z_42, z_43, z_45, z_50, z_51, z_52, z_53, z_54]
theorem f_hand (h : CR B i σ) (hW : Wd σ.1) (g : ¬ x < 0 ∧ ¬ 1 < x) : FRs B i σ (am_fx am_P (d + 150) 336 0 [some (.ref 64), some (.int x)] [] (am_wI B i)) (.inl (some (.int (hnd σ.1 x)))) := by
  have hF : Fc B := h.1.1
  have hY : Yd B 94 := h.1.2.1
  have hc := hW.1.2.2.2.2.2.2.1
  have hc3 := hW.1.2.2.2.2.2.2.2.1
  have h3 := hc3.2
  have hE := h.2.1.2.2.2.2.2.1
  have hR := h.2.1.2.2.2.2.2.2.1
  have e1 := c_fls (x := x) (d := d + 147) hY hE hR hc hc3
  rcases hq : fls σ.1 x (cn σ.1 3437) with _ | m
  · rw [hq] at e1
    rw [show hnd σ.1 x = -1 by unfold hnd; rw [hq]]
    refine FRs_0 h ?_
    rw [bk_336_0]
    simp (maxSteps := 1000000) (disch := omega) only [(fun d x0 x1 B i => bk_148_0 d x0 x1 (am_wI B i)), c_within1 g, c_ckN1, e1, txn, hF, hY, y_ckd, y_ck2d, y_ond, y_onn, y_oI, y_oIx, y_oJ, y_oV, y_oVx, y_oR, y_oRn, y_oRx, y_b0, y_b1, y_bi, y_bid, y_wIK, y_wIL, y_wII, y_wIJ, y_wIR, y_wIN, y_wIw, y_sI, ↓reduceIte, Nat.reduceEqDiff, eq_self, true_or, or_true, false_or, or_false, and_true, true_and, false_and, and_false, not_true, not_false_eq_true, tf_T, tf_F, y_up1, y_up2, y_xx, y_nx, y_sJ, y_sR, Int32.reduceLT, y_nxK, y_nxL, y_nxR, y_sJK, y_sJL, y_sJR, y_sJN, y_sRK, y_sRL, y_sRN, Nat.add_zero, z_nat, z_lit, z_lit0, z_lit1, z_in0, z_in1, z_addl0, z_lt, z_ltl, z_llt, z_inj, z_injl, z_add, z_addl, z_ladd, z_mul, z_mull, z_lmul, z_neg, z_negl, z_in, z_inl, z_ltT, z_ltF, z_eqF, z_10, z_01, z_litne, z_ne0, z_0ne, z_ne1, z_1ne, z_lt64, z_02, z_03, z_04, z_05, z_12, z_13, z_14, z_15, z_20, z_21, z_23, z_24, z_25, z_30, z_31, z_32, z_34, z_35, z_40, z_41, z_42, z_43, z_45, z_50, z_51, z_52, z_53, z_54]
  · rw [hq] at e1
    have hm := fls_lt hq
    have nm : ¬ Int32.ofNat m = -1 := z_nm1 (by omega)
    have e2 := c_dah (d := d + 147) hY hR hc3 hm
    have e3 := (hR.2 m hm (by omega)).1
    obtain ⟨j, E, hj, hf⟩ := c_aus (i := i) (x := x) (lo := dah σ.1 m) (hi := σ.1 (3438 + 2 * m)) (d := d + 147) hY hE hc hW.2.2.2.2.2.2.1
    rw [show hnd σ.1 x = txn (chs (aus σ.1 x (dah σ.1 m) (σ.1 (3438 + 2 * m)) (cn σ.1 3036)) 10) by unfold hnd; rw [hq]]
    refine FRs_s (i' := j) h ?_ (fun q k h1 h2 h3 h4 h5 h6 => hf q k (by omega))
    have e4 := c_chs (d := d + 148) hY hj
    rw [show Int32.ofNat 0 = 0 from rfl] at e4
    rw [bk_336_0]
    simp (maxSteps := 1000000) (disch := omega) only [(fun d x0 x1 B i => bk_148_0 d x0 x1 (am_wI B i)), c_within1 g, c_ckN1, e1, txn, nm, e2, e3, E, e4, hF, hY, y_ckd, y_ck2d, y_ond, y_onn, y_oI, y_oIx, y_oJ, y_oV, y_oVx, y_oR, y_oRn, y_oRx, y_b0, y_b1, y_bi, y_bid, y_wIK, y_wIL, y_wII, y_wIJ, y_wIR, y_wIN, y_wIw, y_sI, ↓reduceIte, Nat.reduceEqDiff, eq_self, true_or, or_true, false_or, or_false, and_true, true_and, false_and, and_false, not_true, not_false_eq_true, tf_T, tf_F, y_up1, y_up2, y_xx, y_nx, y_sJ, y_sR, Int32.reduceLT, y_nxK, y_nxL, y_nxR, y_sJK, y_sJL, y_sJR, y_sJN, y_sRK, y_sRL, y_sRN, Nat.add_zero, z_nat, z_lit, z_lit0, z_lit1, z_in0, z_in1, z_addl0, z_lt, z_ltl, z_llt, z_inj, z_injl, z_add, z_addl, z_ladd, z_mul, z_mull, z_lmul, z_neg, z_negl, z_in, z_inl, z_ltT, z_ltF, z_eqF, z_10, z_01, z_litne, z_ne0, z_0ne, z_ne1, z_1ne, z_lt64, z_02, z_03, z_04, z_05, z_12, z_13, z_14, z_15, z_20, z_21, z_23, z_24, z_25, z_30, z_31, z_32, z_34, z_35, z_40, z_41, z_42, z_43, z_45, z_50, z_51, z_52, z_53, z_54]
theorem m_hand (h : MR B i σ) (hW : Wd σ.1) (g : ¬ x < 0 ∧ ¬ 1 < x) : MRs B i σ (am_fx am_P (d + 150) 134 0 [some (.ref 874), some (.int x), none, none, none, none] [] (am_wI B i)) (some (.int (hnd σ.1 x))) 0 := by
  have hM : Md B := h.1.1
  have hw := up_o (q := 874) (k := 0) (v := 0) (by omega) h.2.1
  have hc3 := hW.1.2.2.2.2.2.2.2.1
  have h3 := hc3.2
  have e1 := m_fls (x := x) (d := d + 148) hM hw hW
  rcases hq : fls σ.1 x (cn σ.1 3437) with _ | m
  · rw [hq] at e1
    rw [show hnd σ.1 x = -1 by unfold hnd; rw [hq]]
    refine MRs_0 h ?_
    rw [bk_134_0]
    simp (maxSteps := 1000000) (disch := omega) only [m_in, g, (fun d x0 x1 s0 s1 B i => bk_134_20 d x0 x1 s0 s1 (am_wI B i)), m_thr0, e1, txn, z_lm1, hM, y_ckd, y_ck2d, y_ond, y_onn, y_oI, y_oIx, y_oJ, y_oV, y_oVx, y_oR, y_oRn, y_oRx, y_b0, y_b1, y_bi, y_bid, y_wIK, y_wIL, y_wII, y_wIJ, y_wIR, y_wIN, y_wIw, y_sI, ↓reduceIte, Nat.reduceEqDiff, eq_self, true_or, or_true, false_or, or_false, and_true, true_and, false_and, and_false, not_true, not_false_eq_true, tf_T, tf_F, y_up1, y_up2, y_xx, y_nx, y_sJ, y_sR, Int32.reduceLT, y_nxK, y_nxL, y_nxR, y_sJK, y_sJL, y_sJR, y_sJN, y_sRK, y_sRL, y_sRN, Nat.add_zero, z_nat, z_lit, z_lit0, z_lit1, z_in0, z_in1, z_addl0, z_lt, z_ltl, z_llt, z_inj, z_injl, z_add, z_addl, z_ladd, z_mul, z_mull, z_lmul, z_neg, z_negl, z_in, z_inl, z_ltT, z_ltF, z_eqF, z_10, z_01, z_litne, z_ne0, z_0ne, z_ne1, z_1ne, z_lt64, z_02, z_03, z_04, z_05, z_12, z_13, z_14, z_15, z_20, z_21, z_23, z_24, z_25, z_30, z_31, z_32, z_34, z_35, z_40, z_41, z_42, z_43, z_45, z_50, z_51, z_52, z_53, z_54]
  · rw [hq] at e1
    have hm := fls_lt hq
    have nm : ¬ Int32.ofNat m < 0 := by rw [z_neg (by omega)]; exact id
    have e2 := m_dah (x := x) (d := d + 149) hM hw hc3 hm
    obtain ⟨j0, E0, hz, hf0⟩ := m_zero (i := am_up2 i 874 0 0) (x := x) (y := dah σ.1 m) (m := m) (d := d + 149) hM
    obtain ⟨j, E, hj, hf⟩ := m_aus (i := j0) (x := x) (lo := dah σ.1 m) (d := d + 149) hM (fun s hs => (hf0 _ _ (by omega)).trans (hw s hs)) hW hm (dah_lt hW.2.2.2.2.2.2.2.1 (by omega) _ (Nat.le_refl _)) hz
    have e4 := m_chs (d := d + 149) hM hj
    rw [show hnd σ.1 x = txn (chs (aus σ.1 x (dah σ.1 m) (σ.1 (3438 + 2 * m)) (cn σ.1 3036)) 10) by unfold hnd; rw [hq]]
    refine MRs_s (i' := j) h ?_ (by rw [hf _ _ (by omega), hf0 _ _ (by omega)]; exact y_up1 rfl rfl) (fun q k h1 h2 => by rw [hf q k (by omega), hf0 q k (by omega), y_up2 (by omega)])
    rw [bk_134_0]
    simp (maxSteps := 1000000) (disch := omega) only [m_in, g, (fun d x0 x1 s0 s1 B i => bk_134_20 d x0 x1 s0 s1 (am_wI B i)), m_thr0, e1, txn, nm, hM, y_ckd, y_ck2d, y_ond, y_onn, y_oI, y_oIx, y_oJ, y_oV, y_oVx, y_oR, y_oRn, y_oRx, y_b0, y_b1, y_bi, y_bid, y_wIK, y_wIL, y_wII, y_wIJ, y_wIR, y_wIN, y_wIw, y_sI, ↓reduceIte, Nat.reduceEqDiff, eq_self, true_or, or_true, false_or, or_false, and_true, true_and, false_and, and_false, not_true, not_false_eq_true, tf_T, tf_F, y_up1, y_up2, y_xx, y_nx, y_sJ, y_sR, Int32.reduceLT, y_nxK, y_nxL, y_nxR, y_sJK, y_sJL, y_sJR, y_sJN, y_sRK, y_sRL, y_sRN, Nat.add_zero, z_nat, z_lit, z_lit0, z_lit1, z_in0, z_in1, z_addl0, z_lt, z_ltl, z_llt, z_inj, z_injl, z_add, z_addl, z_ladd, z_mul, z_mull, z_lmul, z_neg, z_negl, z_in, z_inl, z_ltT, z_ltF, z_eqF, z_10, z_01, z_litne, z_ne0, z_0ne, z_ne1, z_1ne, z_lt64, z_02, z_03, z_04, z_05, z_12, z_13, z_14, z_15, z_20, z_21, z_23, z_24, z_25, z_30, z_31, z_32, z_34, z_35, z_40, z_41, z_42, z_43, z_45, z_50, z_51, z_52, z_53, z_54]
    exact (e2.trans E0).trans (E.trans e4)
theorem k_hand (h : Sim B i σ) (hs : Sc B i L j) (hO : am_K B 892 = 22 ∧ am_L B 892 = 1) : Stq B i d 3242 j := by
  by_cases g : ¬ i 0 (j + 1) < 0 ∧ ¬ 1 < i 0 (j + 1)
  rotate_left
  · exact kx_44_2 h hs hO (f_hand_x (d := d + 48) h.1 g) fun B0 i0 h0 => m_hand_x (d := d + 49) h0 g
  exact kk_44 h hs hO h.2.2 (f_hand (d := d + 48) h.1 h.2.2.1 g) fun B0 i0 h0 => m_hand (d := d + 49) h0 h.2.2.1 g
end Hand
