/-! DOCKS: the call. Made by wip/whole/math/902.py. -/
section DocksM
variable {B B1 : am_A} {i i1 : Nat → Nat → Int32} {σ σ' : Sg} {w : Nat → Int32} {L j d b m n c s q T k K S part st f : Nat} {x y z v : Int32}
/-- 301 and more: none -/
def sv (c : Nat) : Int32 := if 300 < c then -1 else Int32.ofNat c
theorem sv_s {c : Nat} (h : ¬ 300 < c) : sv c = Int32.ofNat c := if_neg h
theorem sv_m {c : Nat} (h : 300 < c) : sv c = -1 := if_pos h
theorem sv_n {c : Nat} (h : c ≤ 301) : (sv c < 0) = (300 < c) := by
  by_cases g : 300 < c
  · rw [sv_m g]
    exact propext ⟨fun _ => g, fun _ => by decide⟩
  · rw [sv_s g, z_neg (by omega)]
    exact (eq_false g).symm
theorem sv_min {a e : Nat} (ha : a ≤ 301) (he : e ≤ 300) : sv (min a e) = if sv a < 0 then Int32.ofNat e else mn (sv a) (Int32.ofNat e) := by
  by_cases g : 300 < a
  · rw [if_pos (show sv a < 0 by rw [sv_n ha]; exact g), show min a e = e by omega, sv_s (by omega)]
  · rw [if_neg (show ¬ sv a < 0 by rw [sv_n ha]; exact g), sv_s (show ¬ 300 < min a e by omega), sv_s g]
    unfold mn
    by_cases q : e < a
    · rw [if_pos (by rw [z_lt (by omega) (by omega)]; exact q), show min a e = e by omega]
    · rw [if_neg (by rw [z_lt (by omega) (by omega)]; exact q), show min a e = a by omega]
/-- all ships of the set are afloat -/
abbrev afl (w : Nat → Int32) (S : Nat) : Bool := (fst0 (fun s => decide (bt2 S s ∧ ¬ w (2622 + 49 * s) = 2)) (cn w 2621)).isNone
def dkv (w : Nat → Int32) (q S st : Nat) : Int32 := if afl w S = true then sv (Fo (Gd w q st) (pcn S) S 0) else -1
theorem CP_sv {c : Nat} (hD : cn w 0 ≤ 4000) (h : CP w K v c) (hK : K ≤ 1000) : (v = -1 ∧ sv c = -1) ∨ ∃ x, v = Int32.ofNat (cn w 0 + x) ∧ x ≤ 1000 ∧ (300 < x ∧ sv c = -1 ∨ ¬ 300 < x ∧ sv c = Int32.ofNat x) := by
  rcases h with ⟨h1, h2⟩ | ⟨x, h1, h2, h3⟩
  · exact Or.inl ⟨h1, by rw [h2]; rfl⟩
  · refine Or.inr ⟨x, h1, by omega, ?_⟩
    unfold sv
    by_cases g : 300 < x
    · exact Or.inl ⟨g, by rw [if_pos (by omega)]⟩
    · exact Or.inr ⟨g, by rw [if_neg (by omega), show c = x by omega]⟩
theorem p2_4 {m : Nat} (h : m ≤ 4) : 1 ≤ 2 ^ m ∧ 2 ^ m ≤ 16 := by
  have h : m = 0 ∨ m = 1 ∨ m = 2 ∨ m = 3 ∨ m = 4 := by omega
  rcases h with rfl | rfl | rfl | rfl | rfl <;> decide
theorem pcn_z : ∀ p, p < 16 → pcn p = 0 → p = 0 := by decide +kernel
theorem c_plan (h : CR B i σ) (hW : Wd σ.1) (hq : q < cn σ.1 3014) (hst : st ≤ 60) (hS : S < 2 ^ cn σ.1 2621) (h4 : pcn S ≤ 4) : ∃ i', am_fx am_P (d + 6) 261 0 [some (.ref 94), some (.int (Int32.ofNat q)), some (.int (Int32.ofNat S)), some (.int (Int32.ofNat st)), none, none] [] (am_wI B i) = some (.inl (some (.int (dkv σ.1 q S st))), am_wI B i') ∧ ∀ q k, q ≠ 125 → i' q k = i q k := by
  have hF : Fc B := h.1.1
  have hY : Yd B 94 := h.1.2.1
  have h0 := hW.1.1
  have h02 := h0.2
  have hc := hW.1.2.2.2.1
  have hc2 := hc.2
  have hB := h.2.1.1
  have hR := h.2.1.2.2.2.1
  have hS256 : S < 256 := by have := Nat.pow_le_pow_right (n := 2) (by omega) hc2; omega
  have e8 : i 94 8 = Int32.ofNat (cn σ.1 2621) := hR.1.trans hc.1
  have e0 : i 94 0 = Int32.ofNat (cn σ.1 0) := hB.1.trans h0.1
  have E1 := lp_fst (fun k => am_fx am_P (d + 6) 261 3 [some (.ref 94), some (.int (Int32.ofNat q)), some (.int (Int32.ofNat S)), some (.int (Int32.ofNat st)), some (.int (Int32.ofNat k)), none] [] (am_wI B i)) (fun s => decide (bt2 S s ∧ ¬ σ.1 (2622 + 49 * s) = 2)) (fun _ => some (.inl (some (.int (-1))), am_wI B i)) (cn σ.1 2621) fun s hs => by
    have eb := zb_tsu S hS256 s (by omega)
    have e3 : i (94 + 212 + 6 * s) 3 = σ.1 (2622 + 49 * s) := (hR.2 s hs (by omega)).1
    rw [bk_261_3]
    by_cases g : bt2 S s
    · have eb := eb.mpr g
      by_cases g2 : σ.1 (2622 + 49 * s) = 2
      · rw [decide_eq_false (fun r => r.2 g2), if_neg (show ¬ (false = true) by decide)]
        simp (maxSteps := 1000000) (disch := omega) only [e8, eb, e3, g2, hY, y_ckd, y_ck2d, y_ond, y_onn, y_oI, y_oIx, y_oJ, y_oV, y_oVx, y_oR, y_oRn, y_oRx, y_b0, y_b1, y_bi, y_bid, y_wIK, y_wIL, y_wII, y_wIJ, y_wIR, y_wIN, y_wIw, y_sI, ↓reduceIte, Nat.reduceEqDiff, eq_self, true_or, or_true, false_or, or_false, and_true, true_and, false_and, and_false, not_true, not_false_eq_true, tf_T, tf_F, y_up1, y_up2, y_xx, y_nx, y_sJ, y_sR, Int32.reduceLT, y_nxK, y_nxL, y_nxR, y_sJK, y_sJL, y_sJR, y_sJN, y_sRK, y_sRL, y_sRN, Nat.add_zero, z_nat, z_lit, z_lit0, z_lit1, z_in0, z_in1, z_addl0, z_lt, z_ltl, z_llt, z_inj, z_injl, z_add, z_addl, z_ladd, z_mul, z_mull, z_lmul, z_neg, z_negl, z_in, z_inl, z_ltT, z_ltF, z_eqF, z_10, z_01, z_litne, z_ne0, z_0ne, z_ne1, z_1ne, z_lt64, z_02, z_03, z_04, z_05, z_12, z_13, z_14, z_15, z_20, z_21, z_23, z_24, z_25, z_30, z_31, z_32, z_34, z_35, z_40, z_41, z_42, z_43, z_45, z_50, z_51, z_52, z_53, z_54]
      · rw [decide_eq_true ⟨g, g2⟩, if_pos rfl]
        simp (maxSteps := 1000000) (disch := omega) only [e8, eb, e3, g2, hY, y_ckd, y_ck2d, y_ond, y_onn, y_oI, y_oIx, y_oJ, y_oV, y_oVx, y_oR, y_oRn, y_oRx, y_b0, y_b1, y_bi, y_bid, y_wIK, y_wIL, y_wII, y_wIJ, y_wIR, y_wIN, y_wIw, y_sI, ↓reduceIte, Nat.reduceEqDiff, eq_self, true_or, or_true, false_or, or_false, and_true, true_and, false_and, and_false, not_true, not_false_eq_true, tf_T, tf_F, y_up1, y_up2, y_xx, y_nx, y_sJ, y_sR, Int32.reduceLT, y_nxK, y_nxL, y_nxR, y_sJK, y_sJL, y_sJR, y_sJN, y_sRK, y_sRL, y_sRN, Nat.add_zero, z_nat, z_lit, z_lit0, z_lit1, z_in0, z_in1, z_addl0, z_lt, z_ltl, z_llt, z_inj, z_injl, z_add, z_addl, z_ladd, z_mul, z_mull, z_lmul, z_neg, z_negl, z_in, z_inl, z_ltT, z_ltF, z_eqF, z_10, z_01, z_litne, z_ne0, z_0ne, z_ne1, z_1ne, z_lt64, z_02, z_03, z_04, z_05, z_12, z_13, z_14, z_15, z_20, z_21, z_23, z_24, z_25, z_30, z_31, z_32, z_34, z_35, z_40, z_41, z_42, z_43, z_45, z_50, z_51, z_52, z_53, z_54]
    · have eb : ¬ (((Int32.ofNat S).toUInt32 >>> ((Int32.ofNat s).toUInt32 &&& Int32.toUInt32 31)).toInt32) &&& 1 = 1 := fun r => g (eb.mp r)
      rw [decide_eq_false (fun r => g r.1), if_neg (show ¬ (false = true) by decide)]
      simp (maxSteps := 1000000) (disch := omega) only [e8, eb, hY, y_ckd, y_ck2d, y_ond, y_onn, y_oI, y_oIx, y_oJ, y_oV, y_oVx, y_oR, y_oRn, y_oRx, y_b0, y_b1, y_bi, y_bid, y_wIK, y_wIL, y_wII, y_wIJ, y_wIR, y_wIN, y_wIw, y_sI, ↓reduceIte, Nat.reduceEqDiff, eq_self, true_or, or_true, false_or, or_false, and_true, true_and, false_and, and_false, not_true, not_false_eq_true, tf_T, tf_F, y_up1, y_up2, y_xx, y_nx, y_sJ, y_sR, Int32.reduceLT, y_nxK, y_nxL, y_nxR, y_sJK, y_sJL, y_sJR, y_sJN, y_sRK, y_sRL, y_sRN, Nat.add_zero, z_nat, z_lit, z_lit0, z_lit1, z_in0, z_in1, z_addl0, z_lt, z_ltl, z_llt, z_inj, z_injl, z_add, z_addl, z_ladd, z_mul, z_mull, z_lmul, z_neg, z_negl, z_in, z_inl, z_ltT, z_ltF, z_eqF, z_10, z_01, z_litne, z_ne0, z_0ne, z_ne1, z_1ne, z_lt64, z_02, z_03, z_04, z_05, z_12, z_13, z_14, z_15, z_20, z_21, z_23, z_24, z_25, z_30, z_31, z_32, z_34, z_35, z_40, z_41, z_42, z_43, z_45, z_50, z_51, z_52, z_53, z_54]
  unfold dkv afl
  cases ef : fst0 (fun s => decide (bt2 S s ∧ ¬ σ.1 (2622 + 49 * s) = 2)) (cn σ.1 2621) with
  | some k =>
    rw [ef] at E1
    refine ⟨i, ?_, fun _ _ _ => rfl⟩
    rw [bk_261_0]
    exact E1
  | none =>
  rw [ef] at E1
  have E1 : am_fx am_P (d + 6) 261 3 [some (.ref 94), some (.int (Int32.ofNat q)), some (.int (Int32.ofNat S)), some (.int (Int32.ofNat st)), some (.int (Int32.ofNat 0)), none] [] (am_wI B i) = am_fx am_P (d + 6) 261 3 [some (.ref 94), some (.int (Int32.ofNat q)), some (.int (Int32.ofNat S)), some (.int (Int32.ofNat st)), some (.int (Int32.ofNat (cn σ.1 2621))), none] [] (am_wI B i) := E1
  rw [if_pos (show (Option.isNone (none : Option Nat)) = true from rfl)]
  obtain ⟨p1, p2⟩ := p2_4 h4
  have eP := z_pow (n := pcn S) (by omega)
  have ebc := c_bits (T := S) (d := d + 5) (A := am_wI B i) hS256
  have z0 : Int32.ofNat (2 ^ pcn S) - 1 = Int32.ofNat (2 ^ pcn S - 1) := by
    rw [show (1 : Int32) = Int32.ofNat 1 from rfl, z_sub (by omega)]
  have k125 : am_K B 125 = 21 := by simp only [hY]
  have l125 : am_L B 125 = 16 := by simp only [hY]
  have hB' : ∀ j : Nat → Nat → Int32, (∀ q k, q ≠ 125 → j q k = i q k) → RB j 94 σ.1 ∧ RS j 94 σ.1 := fun j hf => ⟨RB_fr hB (fun q k hq => hf q k (by omega)) fun _ _ => rfl, RS_fr hR (fun q k hq => hf q k (by omega)) fun _ _ => rfl⟩
  obtain ⟨j, E2, hf, hj⟩ := lp_inv (fun k j => am_fx am_P (d + 6) 261 67 [some (.ref 94), some (.int (Int32.ofNat q)), some (.int (Int32.ofNat S)), some (.int (Int32.ofNat st)), some (.int (Int32.ofNat (2 ^ pcn S - 1))), some (.int (Int32.ofNat (k + 1)))] [] (am_wI B j)) (fun k j => (∀ q k, q ≠ 125 → j q k = i q k) ∧ ∀ r, r < k + 1 → CP σ.1 (114 * pcn r) (j 125 r) (Ba (Gd σ.1 q st) (pcn r) (exS S r) 0)) (2 ^ pcn S - 1) (fun k j hk hI => by
    obtain ⟨hf, hj⟩ := hI
    obtain ⟨hBj, hRj⟩ := hB' j hf
    have hp16 : k + 1 < 16 := by omega
    have hpp : ∃ u, pcn (k + 1) = u + 1 := by
      rcases Nat.eq_zero_or_pos (pcn (k + 1)) with r | r
      · exact absurd (pcn_z (k + 1) hp16 r) (by omega)
      · exact ⟨pcn (k + 1) - 1, by omega⟩
    obtain ⟨u, hu⟩ := hpp
    have hu4 : u ≤ 4 := by have := exS_pcn S hS256 h4 (k + 1) (by omega); have := pcn_8 (k + 1) (by omega); have : ∀ p, p < 16 → pcn p ≤ 4 := by decide +kernel
                           have := this (k + 1) hp16; omega
    obtain ⟨v, E3, hv⟩ := c_fdo (B := B) (i := j) (d := d) (part := k + 1) (k := u) hY hBj hRj hW hq hst hS h4 hp16 hu hu4 fun r hr hb => by
      have e1 := pcn_sub4 (k + 1) hp16 r hr hb
      have gp := p2_pos (a := r)
      have := hj (k + 1 - 2 ^ r) (by omega)
      rw [show pcn (k + 1 - 2 ^ r) = u by omega] at this
      exact this
    refine ⟨am_up2 j 125 (k + 1) v, ?_, fun q k hq => by rw [y_up2 (Or.inl hq)]; exact hf q k hq, fun r hr => ?_⟩
    · have g1 : ¬ Int32.ofNat (2 ^ pcn S - 1) < Int32.ofNat (k + 1) := by rw [z_lt (by omega) (by omega)]; omega
      have g2 : Int32.ofNat (k + 1) < Int32.ofNat 16 := by rw [z_lt (by omega) (by omega)]; omega
      have g3 : ((21 : Nat) ≤ 21 ∧ 21 ≤ 29) = True := eq_true (by decide)
      rw [bk_261_67]
      generalize 2 ^ pcn S - 1 = M at *
      simp (maxSteps := 1000000) (disch := omega) only [E3, g1, g2, g3, k125, l125, hY, y_ckd, y_ck2d, y_ond, y_onn, y_oI, y_oIx, y_oJ, y_oV, y_oVx, y_oR, y_oRn, y_oRx, y_b0, y_b1, y_bi, y_bid, y_wIK, y_wIL, y_wII, y_wIJ, y_wIR, y_wIN, y_wIw, y_sI, ↓reduceIte, Nat.reduceEqDiff, eq_self, true_or, or_true, false_or, or_false, and_true, true_and, false_and, and_false, not_true, not_false_eq_true, tf_T, tf_F, y_up1, y_up2, y_xx, y_nx, y_sJ, y_sR, Int32.reduceLT, y_nxK, y_nxL, y_nxR, y_sJK, y_sJL, y_sJR, y_sJN, y_sRK, y_sRL, y_sRN, Nat.add_zero, z_nat, z_lit, z_lit0, z_lit1, z_in0, z_in1, z_addl0, z_lt, z_ltl, z_llt, z_inj, z_injl, z_add, z_addl, z_ladd, z_mul, z_mull, z_lmul, z_neg, z_negl, z_in, z_inl, z_ltT, z_ltF, z_eqF, z_10, z_01, z_litne, z_ne0, z_0ne, z_ne1, z_1ne, z_lt64, z_02, z_03, z_04, z_05, z_12, z_13, z_14, z_15, z_20, z_21, z_23, z_24, z_25, z_30, z_31, z_32, z_34, z_35, z_40, z_41, z_42, z_43, z_45, z_50, z_51, z_52, z_53, z_54]
    · by_cases e : r = k + 1
      · rw [e, y_up1 rfl rfl, hu]
        exact hv
      · rw [y_up2 (Or.inr e)]
        exact hj r (by omega)) (am_up2 i 125 0 (Int32.ofNat (cn σ.1 0))) ⟨fun q k hq => y_up2 (Or.inl hq), fun r hr => by
      have : r = 0 := by omega
      subst this
      rw [y_up1 rfl rfl]
      exact Or.inr ⟨0, rfl, Nat.zero_le _, rfl⟩⟩
  have hl := hj (2 ^ pcn S - 1) (by omega)
  have ea := exS_all S hS256 h4
  have ep := exS_pcn S hS256 h4 (2 ^ pcn S - 1) (by omega)
  rw [ea] at ep hl
  have hFB := FB (G := Gd σ.1 q st) (fun s a c => oud_mono) (fun s => oud_top (by omega)) (pcn S) S 0 hS256 rfl
  rw [← ep, ← hFB] at hl
  have hsv := CP_sv h02 hl (by omega)
  have e0j : j 94 0 = Int32.ofNat (cn σ.1 0) := (hf _ _ (by omega)).trans e0
  refine ⟨j, ?_, hf⟩
  rw [bk_261_0]
  refine E1.trans ?_
  rw [bk_261_3]
  have g1 : Int32.ofNat (2 ^ pcn S - 1) < Int32.ofNat (2 ^ pcn S - 1 + 1) := by rw [z_lt (by omega) (by omega)]; omega
  have g2 : Int32.ofNat (2 ^ pcn S - 1) < Int32.ofNat 16 := by rw [z_lt (by omega) (by omega)]; omega
  have g3 : ((21 : Nat) ≤ 21 ∧ 21 ≤ 29) = True := eq_true (by decide)
  have hM16 : 2 ^ pcn S - 1 < 16 := by omega
  have E3 : am_fx am_P (d + 6) 261 67 [some (.ref 94), some (.int (Int32.ofNat q)), some (.int (Int32.ofNat S)), some (.int (Int32.ofNat st)), some (.int (Int32.ofNat (2 ^ pcn S - 1))), some (.int (Int32.ofNat (2 ^ pcn S - 1 + 1)))] [] (am_wI B j) = some (.inl (some (.int (sv (Fo (Gd σ.1 q st) (pcn S) S 0)))), am_wI B j) := by
    rcases hsv with ⟨a1, a2⟩ | ⟨x, a1, a2, a3⟩
    · rw [a2, bk_261_67, if_pos g1, bk_261_106]
      generalize 2 ^ pcn S - 1 = M at *
      simp (maxSteps := 1000000) (disch := omega) only [(fun d x0 s0 B i => bk_261_127 d x0 s0 (am_wI B i)), g2, g3, k125, l125, a1, hY, y_ckd, y_ck2d, y_ond, y_onn, y_oI, y_oIx, y_oJ, y_oV, y_oVx, y_oR, y_oRn, y_oRx, y_b0, y_b1, y_bi, y_bid, y_wIK, y_wIL, y_wII, y_wIJ, y_wIR, y_wIN, y_wIw, y_sI, ↓reduceIte, Nat.reduceEqDiff, eq_self, true_or, or_true, false_or, or_false, and_true, true_and, false_and, and_false, not_true, not_false_eq_true, tf_T, tf_F, y_up1, y_up2, y_xx, y_nx, y_sJ, y_sR, Int32.reduceLT, y_nxK, y_nxL, y_nxR, y_sJK, y_sJL, y_sJR, y_sJN, y_sRK, y_sRL, y_sRN, Nat.add_zero, z_nat, z_lit, z_lit0, z_lit1, z_in0, z_in1, z_addl0, z_lt, z_ltl, z_llt, z_inj, z_injl, z_add, z_addl, z_ladd, z_mul, z_mull, z_lmul, z_neg, z_negl, z_in, z_inl, z_ltT, z_ltF, z_eqF, z_10, z_01, z_litne, z_ne0, z_0ne, z_ne1, z_1ne, z_lt64, z_02, z_03, z_04, z_05, z_12, z_13, z_14, z_15, z_20, z_21, z_23, z_24, z_25, z_30, z_31, z_32, z_34, z_35, z_40, z_41, z_42, z_43, z_45, z_50, z_51, z_52, z_53, z_54]
    · have nm : ¬ Int32.ofNat (cn σ.1 0 + x) = -1 := z_nm1 (by omega)
      have zz : Int32.ofNat (cn σ.1 0 + x) - Int32.ofNat (cn σ.1 0) = Int32.ofNat x := by rw [z_sub (by omega)]; exact congrArg _ (by omega)
      have zl : ((300 : Int32) < Int32.ofNat x) = (300 < x) := by rw [show (300 : Int32) = Int32.ofNat 300 from rfl, z_lt (by omega) (by omega)]
      rw [bk_261_67, if_pos g1, bk_261_106]
      generalize 2 ^ pcn S - 1 = M at *
      rcases a3 with ⟨c1, c2⟩ | ⟨c1, c2⟩
      · rw [c2]
        have zl := zl.trans (eq_true c1)
        simp (maxSteps := 1000000) (disch := omega) only [(fun d x0 s0 B i => bk_261_127 d x0 s0 (am_wI B i)), g2, g3, k125, l125, a1, nm, zz, zl, e0j, hY, y_ckd, y_ck2d, y_ond, y_onn, y_oI, y_oIx, y_oJ, y_oV, y_oVx, y_oR, y_oRn, y_oRx, y_b0, y_b1, y_bi, y_bid, y_wIK, y_wIL, y_wII, y_wIJ, y_wIR, y_wIN, y_wIw, y_sI, ↓reduceIte, Nat.reduceEqDiff, eq_self, true_or, or_true, false_or, or_false, and_true, true_and, false_and, and_false, not_true, not_false_eq_true, tf_T, tf_F, y_up1, y_up2, y_xx, y_nx, y_sJ, y_sR, Int32.reduceLT, y_nxK, y_nxL, y_nxR, y_sJK, y_sJL, y_sJR, y_sJN, y_sRK, y_sRL, y_sRN, Nat.add_zero, z_nat, z_lit, z_lit0, z_lit1, z_in0, z_in1, z_addl0, z_lt, z_ltl, z_llt, z_inj, z_injl, z_add, z_addl, z_ladd, z_mul, z_mull, z_lmul, z_neg, z_negl, z_in, z_inl, z_ltT, z_ltF, z_eqF, z_10, z_01, z_litne, z_ne0, z_0ne, z_ne1, z_1ne, z_lt64, z_02, z_03, z_04, z_05, z_12, z_13, z_14, z_15, z_20, z_21, z_23, z_24, z_25, z_30, z_31, z_32, z_34, z_35, z_40, z_41, z_42, z_43, z_45, z_50, z_51, z_52, z_53, z_54]
      · rw [c2]
        have zl := zl.trans (eq_false c1)
        simp (maxSteps := 1000000) (disch := omega) only [(fun d x0 s0 B i => bk_261_127 d x0 s0 (am_wI B i)), g2, g3, k125, l125, a1, nm, zz, zl, e0j, hY, y_ckd, y_ck2d, y_ond, y_onn, y_oI, y_oIx, y_oJ, y_oV, y_oVx, y_oR, y_oRn, y_oRx, y_b0, y_b1, y_bi, y_bid, y_wIK, y_wIL, y_wII, y_wIJ, y_wIR, y_wIN, y_wIw, y_sI, ↓reduceIte, Nat.reduceEqDiff, eq_self, true_or, or_true, false_or, or_false, and_true, true_and, false_and, and_false, not_true, not_false_eq_true, tf_T, tf_F, y_up1, y_up2, y_xx, y_nx, y_sJ, y_sR, Int32.reduceLT, y_nxK, y_nxL, y_nxR, y_sJK, y_sJL, y_sJR, y_sJN, y_sRK, y_sRL, y_sRN, Nat.add_zero, z_nat, z_lit, z_lit0, z_lit1, z_in0, z_in1, z_addl0, z_lt, z_ltl, z_llt, z_inj, z_injl, z_add, z_addl, z_ladd, z_mul, z_mull, z_lmul, z_neg, z_negl, z_in, z_inl, z_ltT, z_ltF, z_eqF, z_10, z_01, z_litne, z_ne0, z_0ne, z_ne1, z_1ne, z_lt64, z_02, z_03, z_04, z_05, z_12, z_13, z_14, z_15, z_20, z_21, z_23, z_24, z_25, z_30, z_31, z_32, z_34, z_35, z_40, z_41, z_42, z_43, z_45, z_50, z_51, z_52, z_53, z_54]
  simp (maxSteps := 1000000) (disch := omega) only [e8, e0, ebc, eP, z0, hY, y_ckd, y_ck2d, y_ond, y_onn, y_oI, y_oIx, y_oJ, y_oV, y_oVx, y_oR, y_oRn, y_oRx, y_b0, y_b1, y_bi, y_bid, y_wIK, y_wIL, y_wII, y_wIJ, y_wIR, y_wIN, y_wIw, y_sI, ↓reduceIte, Nat.reduceEqDiff, eq_self, true_or, or_true, false_or, or_false, and_true, true_and, false_and, and_false, not_true, not_false_eq_true, tf_T, tf_F, y_up1, y_up2, y_xx, y_nx, y_sJ, y_sR, Int32.reduceLT, y_nxK, y_nxL, y_nxR, y_sJK, y_sJL, y_sJR, y_sJN, y_sRK, y_sRL, y_sRN, Nat.add_zero, z_nat, z_lit, z_lit0, z_lit1, z_in0, z_in1, z_addl0, z_lt, z_ltl, z_llt, z_inj, z_injl, z_add, z_addl, z_ladd, z_mul, z_mull, z_lmul, z_neg, z_negl, z_in, z_inl, z_ltT, z_ltF, z_eqF, z_10, z_01, z_litne, z_ne0, z_0ne, z_ne1, z_1ne, z_lt64, z_02, z_03, z_04, z_05, z_12, z_13, z_14, z_15, z_20, z_21, z_23, z_24, z_25, z_30, z_31, z_32, z_34, z_35, z_40, z_41, z_42, z_43, z_45, z_50, z_51, z_52, z_53, z_54]
  exact E2.trans E3
end DocksM
