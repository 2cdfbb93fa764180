/-! DOCKS: the class. Made by wip/whole/math/901.py. -/
section DocksC
variable {B B1 : am_A} {i i1 : Nat → Nat → Int32} {σ σ' : Sg} {w : Nat → Int32} {L j d b m n c s q T k K S part st : Nat} {x y z v : Int32}
/-- a ship may pass a dock so many days from today -/
def pdk (w : Nat → Int32) (q s k : Nat) : Bool := decide (¬ w (11 + (cn w 0 + k) % 28) + w (3015 + q) < w (2622 + 49 * s + 2))
theorem pdk_t : pdk w q s k = true ↔ lts w q (w (2622 + 49 * s + 2)) (cn w 0 + k) := decide_eq_true_iff
theorem pdk_f : pdk w q s k = false ↔ ¬ lts w q (w (2622 + 49 * s + 2)) (cn w 0 + k) := by
  rw [← pdk_t]
  cases pdk w q s k <;> decide
theorem pdk_p : ∀ y, pdk w q s (y + 28) = pdk w q s y := fun y => by
  unfold pdk
  rw [show cn w 0 + (y + 28) = cn w 0 + y + 28 by omega, Nat.add_mod_right]
def fdv (w : Nat → Int32) (x : Nat) : Option Nat → Int32
  | some n => Int32.ofNat (cn w 0 + x + n)
  | none => -1
def dyv (w : Nat → Int32) : Option Nat → Int32
  | some y => Int32.ofNat (cn w 0 + y)
  | none => -1
theorem c_fd {x : Nat} (hY : Yd B 94) (hB : RB i 94 w) (hc : isc w 3014 4) (hq : q < cn w 3014) (hx : cn w 0 + x < 100000) : am_fx am_P (d + 3) 220 0 [some (.ref (94 + 11)), some (.int (Int32.ofNat q)), some (.int (w (2622 + 49 * s + 2))), some (.int (Int32.ofNat (cn w 0 + x))), none] [] (am_wI B i) = some (.inl (some (.int (fdv w x (fd (pdk w q s) x)))), am_wI B i) := by
  rw [bk_220_0]
  refine (lp_fst (fun k => am_fx am_P (d + 3) 220 3 [some (.ref (94 + 11)), some (.int (Int32.ofNat q)), some (.int (w (2622 + 49 * s + 2))), some (.int (Int32.ofNat (cn w 0 + x))), some (.int (Int32.ofNat k))] [] (am_wI B i)) (fun n => pdk w q s (x + n)) (fun n => some (.inl (some (.int (Int32.ofNat (cn w 0 + x + n)))), am_wI B i)) 28 fun k hk => ?_).trans ?_
  · rw [bk_220_3]
    cases e : pdk w q s (x + k) with
    | true =>
      have g := pdk_t.mp e
      rw [← Nat.add_assoc] at g
      have el := c_lets1 (B := B) (i := i) (b := 94) (d := d) hY hB hc hq (show cn w 0 + x + k < 2147483648 by omega) g
      rw [if_pos rfl]
      simp (maxSteps := 1000000) (disch := omega) only [el, hY, y_ckd, y_ck2d, y_ond, y_onn, y_oI, y_oIx, y_oJ, y_oV, y_oVx, y_oR, y_oRn, y_oRx, y_b0, y_b1, y_bi, y_bid, y_wIK, y_wIL, y_wII, y_wIJ, y_wIR, y_wIN, y_wIw, y_sI, ↓reduceIte, Nat.reduceEqDiff, eq_self, true_or, or_true, false_or, or_false, and_true, true_and, false_and, and_false, not_true, not_false_eq_true, tf_T, tf_F, y_up1, y_up2, y_xx, y_nx, y_sJ, y_sR, Int32.reduceLT, y_nxK, y_nxL, y_nxR, y_sJK, y_sJL, y_sJR, y_sJN, y_sRK, y_sRL, y_sRN, Nat.add_zero, z_nat, z_lit, z_lit0, z_lit1, z_in0, z_in1, z_addl0, z_lt, z_ltl, z_llt, z_inj, z_injl, z_add, z_addl, z_ladd, z_mul, z_mull, z_lmul, z_neg, z_negl, z_in, z_inl, z_ltT, z_ltF, z_eqF, z_10, z_01, z_litne, z_ne0, z_0ne, z_ne1, z_1ne, z_lt64, z_02, z_03, z_04, z_05, z_12, z_13, z_14, z_15, z_20, z_21, z_23, z_24, z_25, z_30, z_31, z_32, z_34, z_35, z_40, z_41, z_42, z_43, z_45, z_50, z_51, z_52, z_53, z_54]
    | false =>
      have g := pdk_f.mp e
      rw [← Nat.add_assoc] at g
      have el := c_lets0 (B := B) (i := i) (b := 94) (d := d) hY hB hc hq (show cn w 0 + x + k < 2147483648 by omega) g
      rw [if_neg (show ¬ (false = true) by decide)]
      simp (maxSteps := 1000000) (disch := omega) only [el, hY, y_ckd, y_ck2d, y_ond, y_onn, y_oI, y_oIx, y_oJ, y_oV, y_oVx, y_oR, y_oRn, y_oRx, y_b0, y_b1, y_bi, y_bid, y_wIK, y_wIL, y_wII, y_wIJ, y_wIR, y_wIN, y_wIw, y_sI, ↓reduceIte, Nat.reduceEqDiff, eq_self, true_or, or_true, false_or, or_false, and_true, true_and, false_and, and_false, not_true, not_false_eq_true, tf_T, tf_F, y_up1, y_up2, y_xx, y_nx, y_sJ, y_sR, Int32.reduceLT, y_nxK, y_nxL, y_nxR, y_sJK, y_sJL, y_sJR, y_sJN, y_sRK, y_sRL, y_sRN, Nat.add_zero, z_nat, z_lit, z_lit0, z_lit1, z_in0, z_in1, z_addl0, z_lt, z_ltl, z_llt, z_inj, z_injl, z_add, z_addl, z_ladd, z_mul, z_mull, z_lmul, z_neg, z_negl, z_in, z_inl, z_ltT, z_ltF, z_eqF, z_10, z_01, z_litne, z_ne0, z_0ne, z_ne1, z_1ne, z_lt64, z_02, z_03, z_04, z_05, z_12, z_13, z_14, z_15, z_20, z_21, z_23, z_24, z_25, z_30, z_31, z_32, z_34, z_35, z_40, z_41, z_42, z_43, z_45, z_50, z_51, z_52, z_53, z_54]
  · show (match fd (pdk w q s) x with | some k => _ | none => _) = _
    cases fd (pdk w q s) x with
    | some n => rfl
    | none =>
      show am_fx am_P (d + 3) 220 3 [some (.ref (94 + 11)), some (.int (Int32.ofNat q)), some (.int (w (2622 + 49 * s + 2))), some (.int (Int32.ofNat (cn w 0 + x))), some (.int (Int32.ofNat 28))] [] (am_wI B i) = _
      rw [bk_220_3, if_neg (by decide)]
      rfl
theorem c_dyo {x : Nat} (hY : Yd B 94) (hB : RB i 94 w) (hc : isc w 3014 4) (hq : q < cn w 3014) (hx : cn w 0 + x < 90000) (hst : st ≤ 60) : am_fx am_P (d + 4) 221 0 [some (.ref (94 + 11)), some (.int (Int32.ofNat q)), some (.int (w (2622 + 49 * s + 2))), some (.int (Int32.ofNat (cn w 0 + x))), some (.int (Int32.ofNat st)), none] [] (am_wI B i) = some (.inl (some (.int (dyv w (dyo (pdk w q s) st x)))), am_wI B i) := by
  have e1 := c_fd (d := d) (s := s) hY hB hc hq (show cn w 0 + x < 100000 by omega)
  rw [bk_221_0]
  unfold dyo
  cases e : fd (pdk w q s) x with
  | none =>
    rw [e] at e1
    simp only [fdv] at e1
    simp (maxSteps := 1000000) (disch := omega) only [e1, hY, y_ckd, y_ck2d, y_ond, y_onn, y_oI, y_oIx, y_oJ, y_oV, y_oVx, y_oR, y_oRn, y_oRx, y_b0, y_b1, y_bi, y_bid, y_wIK, y_wIL, y_wII, y_wIJ, y_wIR, y_wIN, y_wIw, y_sI, ↓reduceIte, Nat.reduceEqDiff, eq_self, true_or, or_true, false_or, or_false, and_true, true_and, false_and, and_false, not_true, not_false_eq_true, tf_T, tf_F, y_up1, y_up2, y_xx, y_nx, y_sJ, y_sR, Int32.reduceLT, y_nxK, y_nxL, y_nxR, y_sJK, y_sJL, y_sJR, y_sJN, y_sRK, y_sRL, y_sRN, Nat.add_zero, z_nat, z_lit, z_lit0, z_lit1, z_in0, z_in1, z_addl0, z_lt, z_ltl, z_llt, z_inj, z_injl, z_add, z_addl, z_ladd, z_mul, z_mull, z_lmul, z_neg, z_negl, z_in, z_inl, z_ltT, z_ltF, z_eqF, z_10, z_01, z_litne, z_ne0, z_0ne, z_ne1, z_1ne, z_lt64, z_02, z_03, z_04, z_05, z_12, z_13, z_14, z_15, z_20, z_21, z_23, z_24, z_25, z_30, z_31, z_32, z_34, z_35, z_40, z_41, z_42, z_43, z_45, z_50, z_51, z_52, z_53, z_54]
    rfl
  | some n =>
    rw [e] at e1
    have h28 := (fst0_some.mp e).1
    simp only [fdv] at e1
    have e2 := c_fd (d := d) (s := s) (x := x + n + st) hY hB hc hq (by omega)
    have nm : ¬ Int32.ofNat (cn w 0 + x + n) = -1 := z_nm1 (by omega)
    have za : Int32.ofNat (cn w 0 + x + n) + Int32.ofNat st = Int32.ofNat (cn w 0 + (x + n + st)) := by rw [z_add]; exact congrArg _ (by omega)
    have ev : fdv w (x + n + st) (fd (pdk w q s) (x + n + st)) = dyv w (match fd (pdk w q s) (x + n + st) with | none => none | some r => some (x + n + st + r)) := by
      cases fd (pdk w q s) (x + n + st) with
      | none => rfl
      | some r => exact congrArg Int32.ofNat (by omega)
    rw [ev] at e2
    dsimp only
    generalize dyv w _ = vv at *
    simp (maxSteps := 1000000) (disch := omega) only [e1, nm, za, e2, hY, y_ckd, y_ck2d, y_ond, y_onn, y_oI, y_oIx, y_oJ, y_oV, y_oVx, y_oR, y_oRn, y_oRx, y_b0, y_b1, y_bi, y_bid, y_wIK, y_wIL, y_wII, y_wIJ, y_wIR, y_wIN, y_wIw, y_sI, ↓reduceIte, Nat.reduceEqDiff, eq_self, true_or, or_true, false_or, or_false, and_true, true_and, false_and, and_false, not_true, not_false_eq_true, tf_T, tf_F, y_up1, y_up2, y_xx, y_nx, y_sJ, y_sR, Int32.reduceLT, y_nxK, y_nxL, y_nxR, y_sJK, y_sJL, y_sJR, y_sJN, y_sRK, y_sRL, y_sRN, Nat.add_zero, z_nat, z_lit, z_lit0, z_lit1, z_in0, z_in1, z_addl0, z_lt, z_ltl, z_llt, z_inj, z_injl, z_add, z_addl, z_ladd, z_mul, z_mull, z_lmul, z_neg, z_negl, z_in, z_inl, z_ltT, z_ltF, z_eqF, z_10, z_01, z_litne, z_ne0, z_0ne, z_ne1, z_1ne, z_lt64, z_02, z_03, z_04, z_05, z_12, z_13, z_14, z_15, z_20, z_21, z_23, z_24, z_25, z_30, z_31, z_32, z_34, z_35, z_40, z_41, z_42, z_43, z_45, z_50, z_51, z_52, z_53, z_54]
/-- a day as the class holds it, and cut at 301 from today -/
def CP (w : Nat → Int32) (K : Nat) (v : Int32) (c : Nat) : Prop := (v = -1 ∧ c = 301) ∨ ∃ x, v = Int32.ofNat (cn w 0 + x) ∧ x ≤ K ∧ c = min 301 x
theorem CP_le {K2 : Nat} (h : CP w K v c) (hk : K ≤ K2) : CP w K2 v c := by
  rcases h with h | ⟨x, a, e, g⟩
  · exact Or.inl h
  · exact Or.inr ⟨x, a, by omega, g⟩
/-- the lesser of two -/
abbrev mn1 (a c : Int32) : Int32 := if c = -1 then a else if a = -1 then c else if c < a then c else a
theorem CP_mn {a e : Int32} {ca ce : Nat} (hD : cn w 0 ≤ 4000) (hK : K ≤ 1000) (h : CP w K a ca) (g : CP w K e ce) (h3 : ca ≤ 301) (h4 : ce ≤ 301) : CP w K (mn1 a e) (min ca ce) := by
  unfold mn1
  rcases g with ⟨g1, g2⟩ | ⟨y, g1, g2, g3⟩
  · rw [if_pos g1, show min ca ce = ca by omega]
    exact h
  rw [if_neg (by rw [g1]; exact z_nm1 (by omega))]
  rcases h with ⟨h1, h2⟩ | ⟨x, h1, h2, h3⟩
  · rw [if_pos h1, show min ca ce = ce by omega]
    exact Or.inr ⟨y, g1, g2, g3⟩
  rw [if_neg (by rw [h1]; exact z_nm1 (by omega))]
  by_cases r : y < x
  · rw [if_pos (by rw [g1, h1, z_lt (by omega) (by omega)]; omega)]
    exact Or.inr ⟨y, g1, g2, by omega⟩
  · rw [if_neg (by rw [g1, h1, z_lt (by omega) (by omega)]; omega)]
    exact Or.inr ⟨x, h1, h2, by omega⟩
theorem CP_dyo {x : Nat} (hx : x ≤ K) (hst : st ≤ 60) : CP w (K + 114) (dyv w (dyo (pdk w q s) st x)) (oud (pdk w q s) st (min 301 x)) := by
  rw [oud_fd pdk_p]
  cases e : dyo (pdk w q s) st x with
  | none => exact Or.inl ⟨rfl, rfl⟩
  | some y => exact Or.inr ⟨y, rfl, by have := (dyo_le e).2; omega, rfl⟩
abbrev Gd (w : Nat → Int32) (q st : Nat) : Nat → Nat → Nat := fun s f => oud (pdk w q s) st f
theorem Ba_301 {G : Nat → Nat → Nat} {f : Nat} (hf : f ≤ 301) : ∀ k S, Ba G k S f ≤ 301
  | 0, _ => hf
  | _ + 1, _ => mnS_301
theorem c_fdo (hY : Yd B 94) (hB : RB i 94 w) (hR : RS i 94 w) (hW : Wd w) (hq : q < cn w 3014) (hst : st ≤ 60) (hS : S < 2 ^ cn w 2621) (h4 : pcn S ≤ 4) (hp : part < 16) (hk : pcn part = k + 1) (hk4 : k ≤ 4) (hrow : ∀ r, r < 5 → bt2 part r → CP w (114 * k) (i 125 (part - 2 ^ r)) (Ba (Gd w q st) k (exS S (part - 2 ^ r)) 0)) : ∃ v, am_fx am_P (d + 5) 262 0 [some (.ref 94), some (.int (Int32.ofNat q)), some (.int (Int32.ofNat S)), some (.int (Int32.ofNat part)), some (.int (Int32.ofNat st)), none, none, none, none, none] [] (am_wI B i) = some (.inl (some (.int v)), am_wI B i) ∧ CP w (114 * (k + 1)) v (Ba (Gd w q st) (k + 1) (exS S part) 0) := by
  have h0 := hW.1.1
  have h02 := h0.2
  have hc := hW.1.2.2.2.1
  have hc2 := hc.2
  have hcd := hW.1.2.2.2.2.1
  have hS256 : S < 256 := by have := Nat.pow_le_pow_right (n := 2) (by omega) hc2; omega
  have e8 : i 94 8 = Int32.ofNat (cn w 2621) := hR.1.trans hc.1
  have hlow : ∀ s, cn w 2621 ≤ s → s < 8 → ¬ bt2 S s := fun s a e hb => by
    have := (nb_ge S hS256 s e hb).1
    have := Nat.pow_le_pow_right (n := 2) (by omega) a
    omega
  rw [bk_262_0]
  obtain ⟨v, E, hv⟩ := lp_inv (fun s (v : Int32) => am_fx am_P (d + 5) 262 9 [some (.ref 94), some (.int (Int32.ofNat q)), some (.int (Int32.ofNat S)), some (.int (Int32.ofNat part)), some (.int (Int32.ofNat st)), some (.int v), some (.int (Int32.ofNat (rkS S s))), some (.int (Int32.ofNat s)), none, none] [] (am_wI B i)) (fun s v => CP w (114 * (k + 1)) v (itr (fun s a => if bt2 (exS S part) s then min a (Gd w q st s (Ba (Gd w q st) k (exS S part - 2 ^ s) 0)) else a) s 301) ∧ itr (fun s a => if bt2 (exS S part) s then min a (Gd w q st s (Ba (Gd w q st) k (exS S part - 2 ^ s) 0)) else a) s 301 ≤ 301) (cn w 2621) (fun s v hs hI => by
    obtain ⟨hI, hI2⟩ := hI
    have eb := zb_tsu S hS256 s (by omega)
    have er := rkS_4 S hS256 h4 s (by omega)
    have ex := exS_bt S hS256 h4 part hp s (by omega)
    have zs : Int32.ofNat s + 1 = Int32.ofNat (s + 1) := z_add s 1
    have e1 : i (94 + 212 + 6 * s) 0 = w (2622 + 49 * s + 2) := (hR.2 s hs (by omega)).2.2.1
    show ∃ v', _ ∧ CP w (114 * (k + 1)) v' (if bt2 (exS S part) s then min _ _ else _) ∧ (if bt2 (exS S part) s then min _ _ else _) ≤ 301
    generalize itr (fun s a => if bt2 (exS S part) s then min a (Gd w q st s (Ba (Gd w q st) k (exS S part - 2 ^ s) 0)) else a) s 301 = a at *
    by_cases g : bt2 S s
    rotate_left
    · have ebn : ¬ (((Int32.ofNat S).toUInt32 >>> ((Int32.ofNat s).toUInt32 &&& Int32.toUInt32 31)).toInt32) &&& 1 = 1 := fun r => g (eb.mp r)
      rw [if_neg (fun r => g (ex.mp r).1)]
      refine ⟨v, ?_, hI, hI2⟩
      rw [show rkS S (s + 1) = rkS S s from if_neg g, bk_262_9]
      generalize rkS S s = r at *
      simp (maxSteps := 1000000) (disch := omega) only [e8, ebn, zs, hY, y_ckd, y_ck2d, y_ond, y_onn, y_oI, y_oIx, y_oJ, y_oV, y_oVx, y_oR, y_oRn, y_oRx, y_b0, y_b1, y_bi, y_bid, y_wIK, y_wIL, y_wII, y_wIJ, y_wIR, y_wIN, y_wIw, y_sI, ↓reduceIte, Nat.reduceEqDiff, eq_self, true_or, or_true, false_or, or_false, and_true, true_and, false_and, and_false, not_true, not_false_eq_true, tf_T, tf_F, y_up1, y_up2, y_xx, y_nx, y_sJ, y_sR, Int32.reduceLT, y_nxK, y_nxL, y_nxR, y_sJK, y_sJL, y_sJR, y_sJN, y_sRK, y_sRL, y_sRN, Nat.add_zero, z_nat, z_lit, z_lit0, z_lit1, z_in0, z_in1, z_addl0, z_lt, z_ltl, z_llt, z_inj, z_injl, z_add, z_addl, z_ladd, z_mul, z_mull, z_lmul, z_neg, z_negl, z_in, z_inl, z_ltT, z_ltF, z_eqF, z_10, z_01, z_litne, z_ne0, z_0ne, z_ne1, z_1ne, z_lt64, z_02, z_03, z_04, z_05, z_12, z_13, z_14, z_15, z_20, z_21, z_23, z_24, z_25, z_30, z_31, z_32, z_34, z_35, z_40, z_41, z_42, z_43, z_45, z_50, z_51, z_52, z_53, z_54]
    have eb := eb.mpr g
    have erk : rkS S (s + 1) = rkS S s + 1 := if_pos g
    have hsub := exS_sub S hS256 h4 part hp s (by omega) g
    have ec := zb_clr part (by omega) (rkS S s) (by omega)
    rw [erk]
    generalize rkS S s = r at *
    have zr : Int32.ofNat r + 1 = Int32.ofNat (r + 1) := z_add r 1
    by_cases g2 : bt2 part r
    rotate_left
    · rw [if_neg g2] at ec
      rw [if_neg (fun u => g2 (ex.mp u).2)]
      refine ⟨v, ?_, hI, hI2⟩
      rw [bk_262_9]
      simp (maxSteps := 1000000) (disch := omega) only [e8, eb, ec, zr, zs, hY, y_ckd, y_ck2d, y_ond, y_onn, y_oI, y_oIx, y_oJ, y_oV, y_oVx, y_oR, y_oRn, y_oRx, y_b0, y_b1, y_bi, y_bid, y_wIK, y_wIL, y_wII, y_wIJ, y_wIR, y_wIN, y_wIw, y_sI, ↓reduceIte, Nat.reduceEqDiff, eq_self, true_or, or_true, false_or, or_false, and_true, true_and, false_and, and_false, not_true, not_false_eq_true, tf_T, tf_F, y_up1, y_up2, y_xx, y_nx, y_sJ, y_sR, Int32.reduceLT, y_nxK, y_nxL, y_nxR, y_sJK, y_sJL, y_sJR, y_sJN, y_sRK, y_sRL, y_sRN, Nat.add_zero, z_nat, z_lit, z_lit0, z_lit1, z_in0, z_in1, z_addl0, z_lt, z_ltl, z_llt, z_inj, z_injl, z_add, z_addl, z_ladd, z_mul, z_mull, z_lmul, z_neg, z_negl, z_in, z_inl, z_ltT, z_ltF, z_eqF, z_10, z_01, z_litne, z_ne0, z_0ne, z_ne1, z_1ne, z_lt64, z_02, z_03, z_04, z_05, z_12, z_13, z_14, z_15, z_20, z_21, z_23, z_24, z_25, z_30, z_31, z_32, z_34, z_35, z_40, z_41, z_42, z_43, z_45, z_50, z_51, z_52, z_53, z_54]
    rw [if_pos g2] at ec
    have hsub := hsub g2
    have gp := p2_pos (a := r)
    obtain ⟨gr, -⟩ := nb_ge part (by omega) r (by omega) g2
    have hro := hrow r (by omega) g2
    rw [hsub] at hro
    rw [if_pos (ex.mpr ⟨g, g2⟩)]
    have hR16 : part - 2 ^ r < part := by omega
    generalize part - 2 ^ r = R at *
    have gne : (Int32.ofNat R = Int32.ofNat part) = False := by
      rw [z_inj (by omega) (by omega)]
      exact eq_false (by omega)
    have hb301 := Ba_301 (G := Gd w q st) (f := 0) (by omega) k (exS S part - 2 ^ s)
    generalize Ba (Gd w q st) k (exS S part - 2 ^ s) 0 = cr at *
    rcases hro with ⟨r1, r2⟩ | ⟨x, r1, r2, r3⟩
    · refine ⟨v, ?_, ?_, by omega⟩
      · rw [bk_262_9]
        simp (maxSteps := 1000000) (disch := omega) only [e8, eb, ec, gne, r1, zr, zs, hY, y_ckd, y_ck2d, y_ond, y_onn, y_oI, y_oIx, y_oJ, y_oV, y_oVx, y_oR, y_oRn, y_oRx, y_b0, y_b1, y_bi, y_bid, y_wIK, y_wIL, y_wII, y_wIJ, y_wIR, y_wIN, y_wIw, y_sI, ↓reduceIte, Nat.reduceEqDiff, eq_self, true_or, or_true, false_or, or_false, and_true, true_and, false_and, and_false, not_true, not_false_eq_true, tf_T, tf_F, y_up1, y_up2, y_xx, y_nx, y_sJ, y_sR, Int32.reduceLT, y_nxK, y_nxL, y_nxR, y_sJK, y_sJL, y_sJR, y_sJN, y_sRK, y_sRL, y_sRN, Nat.add_zero, z_nat, z_lit, z_lit0, z_lit1, z_in0, z_in1, z_addl0, z_lt, z_ltl, z_llt, z_inj, z_injl, z_add, z_addl, z_ladd, z_mul, z_mull, z_lmul, z_neg, z_negl, z_in, z_inl, z_ltT, z_ltF, z_eqF, z_10, z_01, z_litne, z_ne0, z_0ne, z_ne1, z_1ne, z_lt64, z_02, z_03, z_04, z_05, z_12, z_13, z_14, z_15, z_20, z_21, z_23, z_24, z_25, z_30, z_31, z_32, z_34, z_35, z_40, z_41, z_42, z_43, z_45, z_50, z_51, z_52, z_53, z_54]
      · rw [r2, show Gd w q st s 301 = 301 from oud_top (by omega), show min a 301 = a by omega]
        exact hI
    · have nm : ¬ Int32.ofNat (cn w 0 + x) = -1 := z_nm1 (by omega)
      have ed := c_dyo (B := B) (i := i) (w := w) (q := q) (s := s) (st := st) (d := d) (x := x) hY hB hcd hq (by omega) hst
      have hcp := CP_dyo (w := w) (q := q) (s := s) (K := 114 * k) (st := st) (x := x) r2 hst
      rw [← r3] at hcp
      have hb2 : Gd w q st s cr ≤ 301 := oud_301
      refine ⟨mn1 v (dyv w (dyo (pdk w q s) st x)), ?_, CP_mn h02 (by omega) hI (CP_le hcp (by omega)) hI2 hb2, by omega⟩
      rw [bk_262_9]
      generalize dyv w (dyo (pdk w q s) st x) = u at *
      have e110 : ∀ u : Int32, am_fx am_P (d + 5) 262 110 [some (.ref 94), some (.int (Int32.ofNat q)), some (.int (Int32.ofNat S)), some (.int (Int32.ofNat part)), some (.int (Int32.ofNat st)), none, some (.int (Int32.ofNat r)), some (.int (Int32.ofNat s)), none, none] [.int u] (am_wI B i) = am_fx am_P (d + 5) 262 9 [some (.ref 94), some (.int (Int32.ofNat q)), some (.int (Int32.ofNat S)), some (.int (Int32.ofNat part)), some (.int (Int32.ofNat st)), some (.int u), some (.int (Int32.ofNat (r + 1))), some (.int (Int32.ofNat (s + 1))), none, none] [] (am_wI B i) := fun u => by rw [bk_262_110, zr, zs]
      rw [← e110]
      unfold mn1
      by_cases g3 : u = -1
      · rw [if_pos g3]
        rw [g3] at ed
        simp (maxSteps := 1000000) (disch := omega) only [e8, eb, ec, gne, r1, nm, e1, ed, hY, y_ckd, y_ck2d, y_ond, y_onn, y_oI, y_oIx, y_oJ, y_oV, y_oVx, y_oR, y_oRn, y_oRx, y_b0, y_b1, y_bi, y_bid, y_wIK, y_wIL, y_wII, y_wIJ, y_wIR, y_wIN, y_wIw, y_sI, ↓reduceIte, Nat.reduceEqDiff, eq_self, true_or, or_true, false_or, or_false, and_true, true_and, false_and, and_false, not_true, not_false_eq_true, tf_T, tf_F, y_up1, y_up2, y_xx, y_nx, y_sJ, y_sR, Int32.reduceLT, y_nxK, y_nxL, y_nxR, y_sJK, y_sJL, y_sJR, y_sJN, y_sRK, y_sRL, y_sRN, Nat.add_zero, z_nat, z_lit, z_lit0, z_lit1, z_in0, z_in1, z_addl0, z_lt, z_ltl, z_llt, z_inj, z_injl, z_add, z_addl, z_ladd, z_mul, z_mull, z_lmul, z_neg, z_negl, z_in, z_inl, z_ltT, z_ltF, z_eqF, z_10, z_01, z_litne, z_ne0, z_0ne, z_ne1, z_1ne, z_lt64, z_02, z_03, z_04, z_05, z_12, z_13, z_14, z_15, z_20, z_21, z_23, z_24, z_25, z_30, z_31, z_32, z_34, z_35, z_40, z_41, z_42, z_43, z_45, z_50, z_51, z_52, z_53, z_54]
      · rw [if_neg g3]
        by_cases g4 : v = -1
        · rw [if_pos g4]
          simp (maxSteps := 1000000) (disch := omega) only [e8, eb, ec, gne, r1, nm, e1, ed, g3, eq_true g4, hY, y_ckd, y_ck2d, y_ond, y_onn, y_oI, y_oIx, y_oJ, y_oV, y_oVx, y_oR, y_oRn, y_oRx, y_b0, y_b1, y_bi, y_bid, y_wIK, y_wIL, y_wII, y_wIJ, y_wIR, y_wIN, y_wIw, y_sI, ↓reduceIte, Nat.reduceEqDiff, eq_self, true_or, or_true, false_or, or_false, and_true, true_and, false_and, and_false, not_true, not_false_eq_true, tf_T, tf_F, y_up1, y_up2, y_xx, y_nx, y_sJ, y_sR, Int32.reduceLT, y_nxK, y_nxL, y_nxR, y_sJK, y_sJL, y_sJR, y_sJN, y_sRK, y_sRL, y_sRN, Nat.add_zero, z_nat, z_lit, z_lit0, z_lit1, z_in0, z_in1, z_addl0, z_lt, z_ltl, z_llt, z_inj, z_injl, z_add, z_addl, z_ladd, z_mul, z_mull, z_lmul, z_neg, z_negl, z_in, z_inl, z_ltT, z_ltF, z_eqF, z_10, z_01, z_litne, z_ne0, z_0ne, z_ne1, z_1ne, z_lt64, z_02, z_03, z_04, z_05, z_12, z_13, z_14, z_15, z_20, z_21, z_23, z_24, z_25, z_30, z_31, z_32, z_34, z_35, z_40, z_41, z_42, z_43, z_45, z_50, z_51, z_52, z_53, z_54]
        · rw [if_neg g4]
          by_cases g5 : u < v
          · rw [if_pos g5]
            simp (maxSteps := 1000000) (disch := omega) only [e8, eb, ec, gne, r1, nm, e1, ed, g3, g4, g5, hY, y_ckd, y_ck2d, y_ond, y_onn, y_oI, y_oIx, y_oJ, y_oV, y_oVx, y_oR, y_oRn, y_oRx, y_b0, y_b1, y_bi, y_bid, y_wIK, y_wIL, y_wII, y_wIJ, y_wIR, y_wIN, y_wIw, y_sI, ↓reduceIte, Nat.reduceEqDiff, eq_self, true_or, or_true, false_or, or_false, and_true, true_and, false_and, and_false, not_true, not_false_eq_true, tf_T, tf_F, y_up1, y_up2, y_xx, y_nx, y_sJ, y_sR, Int32.reduceLT, y_nxK, y_nxL, y_nxR, y_sJK, y_sJL, y_sJR, y_sJN, y_sRK, y_sRL, y_sRN, Nat.add_zero, z_nat, z_lit, z_lit0, z_lit1, z_in0, z_in1, z_addl0, z_lt, z_ltl, z_llt, z_inj, z_injl, z_add, z_addl, z_ladd, z_mul, z_mull, z_lmul, z_neg, z_negl, z_in, z_inl, z_ltT, z_ltF, z_eqF, z_10, z_01, z_litne, z_ne0, z_0ne, z_ne1, z_1ne, z_lt64, z_02, z_03, z_04, z_05, z_12, z_13, z_14, z_15, z_20, z_21, z_23, z_24, z_25, z_30, z_31, z_32, z_34, z_35, z_40, z_41, z_42, z_43, z_45, z_50, z_51, z_52, z_53, z_54]
          · rw [if_neg g5]
            simp (maxSteps := 1000000) (disch := omega) only [e8, eb, ec, gne, r1, nm, e1, ed, g3, g4, g5, hY, y_ckd, y_ck2d, y_ond, y_onn, y_oI, y_oIx, y_oJ, y_oV, y_oVx, y_oR, y_oRn, y_oRx, y_b0, y_b1, y_bi, y_bid, y_wIK, y_wIL, y_wII, y_wIJ, y_wIR, y_wIN, y_wIw, y_sI, ↓reduceIte, Nat.reduceEqDiff, eq_self, true_or, or_true, false_or, or_false, and_true, true_and, false_and, and_false, not_true, not_false_eq_true, tf_T, tf_F, y_up1, y_up2, y_xx, y_nx, y_sJ, y_sR, Int32.reduceLT, y_nxK, y_nxL, y_nxR, y_sJK, y_sJL, y_sJR, y_sJN, y_sRK, y_sRL, y_sRN, Nat.add_zero, z_nat, z_lit, z_lit0, z_lit1, z_in0, z_in1, z_addl0, z_lt, z_ltl, z_llt, z_inj, z_injl, z_add, z_addl, z_ladd, z_mul, z_mull, z_lmul, z_neg, z_negl, z_in, z_inl, z_ltT, z_ltF, z_eqF, z_10, z_01, z_litne, z_ne0, z_0ne, z_ne1, z_1ne, z_lt64, z_02, z_03, z_04, z_05, z_12, z_13, z_14, z_15, z_20, z_21, z_23, z_24, z_25, z_30, z_31, z_32, z_34, z_35, z_40, z_41, z_42, z_43, z_45, z_50, z_51, z_52, z_53, z_54]) (-1) ⟨Or.inl ⟨rfl, rfl⟩, Nat.le_refl _⟩
  refine ⟨v, E.trans ?_, ?_⟩
  · rw [bk_262_9]
    generalize rkS S (cn w 2621) = r
    simp (maxSteps := 1000000) (disch := omega) only [e8, hY, y_ckd, y_ck2d, y_ond, y_onn, y_oI, y_oIx, y_oJ, y_oV, y_oVx, y_oR, y_oRn, y_oRx, y_b0, y_b1, y_bi, y_bid, y_wIK, y_wIL, y_wII, y_wIJ, y_wIR, y_wIN, y_wIw, y_sI, ↓reduceIte, Nat.reduceEqDiff, eq_self, true_or, or_true, false_or, or_false, and_true, true_and, false_and, and_false, not_true, not_false_eq_true, tf_T, tf_F, y_up1, y_up2, y_xx, y_nx, y_sJ, y_sR, Int32.reduceLT, y_nxK, y_nxL, y_nxR, y_sJK, y_sJL, y_sJR, y_sJN, y_sRK, y_sRL, y_sRN, Nat.add_zero, z_nat, z_lit, z_lit0, z_lit1, z_in0, z_in1, z_addl0, z_lt, z_ltl, z_llt, z_inj, z_injl, z_add, z_addl, z_ladd, z_mul, z_mull, z_lmul, z_neg, z_negl, z_in, z_inl, z_ltT, z_ltF, z_eqF, z_10, z_01, z_litne, z_ne0, z_0ne, z_ne1, z_1ne, z_lt64, z_02, z_03, z_04, z_05, z_12, z_13, z_14, z_15, z_20, z_21, z_23, z_24, z_25, z_30, z_31, z_32, z_34, z_35, z_40, z_41, z_42, z_43, z_45, z_50, z_51, z_52, z_53, z_54]
  · have : Ba (Gd w q st) (k + 1) (exS S part) 0 = itr (fun s a => if bt2 (exS S part) s then min a (Gd w q st s (Ba (Gd w q st) k (exS S part - 2 ^ s) 0)) else a) (cn w 2621) 301 := by
      show itr (fun s a => if bt2 (exS S part) s then min a (Gd w q st s (Ba (Gd w q st) k (exS S part - 2 ^ s) 0)) else a) 8 301 = _
      refine itr_stop 8 hc2 fun s a e u => ?_
      refine if_neg fun r => ?_
      exact hlow s a e ((exS_bt S hS256 h4 part hp s e).mp r).1
    rw [this]
    exact hv.1
end DocksC
