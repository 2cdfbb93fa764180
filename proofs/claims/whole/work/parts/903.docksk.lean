/-! DOCKS: the model, the call. Made by wip/whole/math/903.py. -/
section DocksK
variable {B B1 : am_A} {i i1 : Nat → Nat → Int32} {σ σ' : Sg} {w : Nat → Int32} {L j d b m n c s q T k K S part st f : Nat} {x y z v : Int32}
theorem sm_a : ∀ c, c < 9 → ∀ S, S < 2 ^ c → Int32.ofNat S &&& (-(1 <<< (Int32.ofNat c &&& 31))) = 0 := by decide +kernel
theorem sm_b : ∀ c, c < 9 → ∀ S, S < 2 ^ c → Int32.ofNat S >>> (Int32.ofNat c &&& 31) = 0 := by decide +kernel
theorem sm_c : ∀ c, c < 9 → ∀ i, i < 32 → c ≤ i → (-(1 <<< (Int32.ofNat c &&& 31)) : Int32).toBitVec.getLsbD i = true := by decide +kernel
theorem sm_of (h : ∀ i, c ≤ i → i < 32 → x.toBitVec.getLsbD i = false) : ∃ S, S < 2 ^ c ∧ x = Int32.ofNat S := by
  refine ⟨x.toBitVec.toNat, Nat.lt_pow_two_of_testBit _ fun i hi => ?_, ?_⟩
  · rcases Nat.lt_or_ge i 32 with q | q
    · exact h i hi q
    · exact BitVec.getLsbD_of_ge x.toBitVec i q
  · exact Int32.toBitVec_inj.mp (BitVec.eq_of_toNat_eq (by
      show x.toBitVec.toNat = (BitVec.ofNat 32 x.toBitVec.toNat).toNat
      rw [BitVec.toNat_ofNat, Nat.mod_eq_of_lt x.toBitVec.isLt]))
theorem z_msk (hc : c < 9) : x &&& (-(1 <<< (Int32.ofNat c &&& 31))) = 0 ↔ ∃ S, S < 2 ^ c ∧ x = Int32.ofNat S := by
  refine ⟨fun h => sm_of fun i h1 h2 => ?_, fun ⟨S, h1, h2⟩ => by rw [h2]; exact sm_a c hc S h1⟩
  have e := congrArg (fun z : Int32 => z.toBitVec.getLsbD i) h
  have e : (x.toBitVec &&& (-(1 <<< (Int32.ofNat c &&& 31)) : Int32).toBitVec).getLsbD i = (0 : BitVec 32).getLsbD i := e
  rw [BitVec.getLsbD_and, sm_c c hc i h2 h1, Bool.and_true] at e
  rw [e]
  exact BitVec.getLsbD_zero
theorem z_shr (hc : c < 9) : x >>> (Int32.ofNat c &&& 31) = 0 ↔ ∃ S, S < 2 ^ c ∧ x = Int32.ofNat S := by
  refine ⟨fun h => sm_of fun i h1 h2 => ?_, fun ⟨S, h1, h2⟩ => by rw [h2]; exact sm_b c hc S h1⟩
  have e := congrArg (fun z : Int32 => z.toBitVec.getLsbD (i - c)) h
  have hs : (x >>> (Int32.ofNat c &&& 31)).toBitVec = x.toBitVec.sshiftRight c := by
    have hc : c = 0 ∨ c = 1 ∨ c = 2 ∨ c = 3 ∨ c = 4 ∨ c = 5 ∨ c = 6 ∨ c = 7 ∨ c = 8 := by omega
    rcases hc with rfl | rfl | rfl | rfl | rfl | rfl | rfl | rfl | rfl <;> rfl
  have e : (x >>> (Int32.ofNat c &&& 31)).toBitVec.getLsbD (i - c) = (0 : BitVec 32).getLsbD (i - c) := e
  rw [hs, BitVec.getLsbD_sshiftRight, if_pos (by omega), show c + (i - c) = i by omega, decide_eq_false (by omega)] at e
  rw [show x.toBitVec.getLsbD i = (!false && x.toBitVec.getLsbD i) by simp, e]
  exact BitVec.getLsbD_zero
theorem f_docks_x0 (h : CR B i σ) (g : ¬ (¬ x < 0 ∧ x < σ.1 3014)) : FRs B i σ (am_fx am_P (d + 150) 325 0 [some (.ref 64), some (.int x), some (.int y), some (.int z)] [] (am_wI B i)) (.inr 1) := by
  refine FRs_x h ?_
  have hF : Fc B := h.1.1
  have hY : Yd B 94 := h.1.2.1
  have e := h.2.1.1.2.2.2.2.2.2.2.1
  rw [bk_325_0]
  simp (disch := omega) only [c_ckI0 g, e, hF, hY, y_ckd, y_ck2d, y_ond, y_onn, y_oI, y_oIx, y_oJ, y_oV, y_oVx, y_oR, y_oRn, y_oRx, y_b0, y_b1, y_bi, y_bid, y_wIK, y_wIL, y_wII, y_wIJ, y_wIR, y_wIN, y_wIw, y_sI, ↓reduceIte, Nat.reduceEqDiff, eq_self, true_or, or_true, false_or, or_false, and_true, true_and, false_and, and_false, not_true, not_false_eq_true, tf_T, tf_F, y_up1, y_up2, y_xx, y_nx, y_sJ, y_sR, Int32.reduceLT, y_nxK, y_nxL, y_nxR, y_sJK, y_sJL, y_sJR, y_sJN, y_sRK, y_sRL, y_sRN, Nat.add_zero, z_nat, z_lit, z_lit0, z_lit1, z_in0, z_in1, z_addl0, z_lt, z_ltl, z_llt, z_inj, z_injl, z_add, z_addl, z_ladd, z_mul, z_mull, z_lmul, z_neg, z_negl, z_in, z_inl, z_ltT, z_ltF, z_eqF, z_10, z_01, z_litne, z_ne0, z_0ne, z_ne1, z_1ne, z_lt64, z_02, z_03, z_04, z_05, z_12, z_13, z_14, z_15, z_20, z_21, z_23, z_24, z_25, z_30, z_31, z_32, z_34, z_35, z_40, z_41, z_42, z_43, z_45, z_50, z_51, z_52, z_53, z_54]
abbrev dkOk (w : Nat → Int32) (y z : Int32) : Prop := (∃ S, S < 2 ^ cn w 2621 ∧ y = Int32.ofNat S ∧ pcn S ≤ 4) ∧ (¬ z < 1 ∧ ¬ 60 < z)
theorem f_docks_x1 (h : CR B i σ) (hW : Wd σ.1) (hq : q < cn σ.1 3014) (g : ¬ dkOk σ.1 y z) : FRs B i σ (am_fx am_P (d + 150) 325 0 [some (.ref 64), some (.int (Int32.ofNat q)), some (.int y), some (.int z)] [] (am_wI B i)) (.inr 2) := by
  refine FRs_x h ?_
  have hF : Fc B := h.1.1
  have hY : Yd B 94 := h.1.2.1
  have hc := hW.1.2.2.2.1
  have hc2 := hc.2
  have e := h.2.1.1.2.2.2.2.2.2.2.1
  have e8 : i 94 8 = Int32.ofNat (cn σ.1 2621) := h.2.1.2.2.2.1.1.trans hc.1
  have hm := z_msk (x := y) (c := cn σ.1 2621) (by omega)
  rw [bk_325_0]
  by_cases a : ∃ S, S < 2 ^ cn σ.1 2621 ∧ y = Int32.ofNat S
  rotate_left
  · have hm : ¬ y &&& (-(1 <<< (Int32.ofNat (cn σ.1 2621) &&& 31))) = 0 := fun r => a (hm.mp r)
    simp (disch := omega) only [(fun d x0 x1 x2 x3 s0 B i => bk_325_42 d x0 x1 x2 x3 s0 (am_wI B i)), c_ckI1 (ck_nat hW.1.2.2.2.2.1 (by omega) hq), e, e8, hm, c_ckN0, hF, hY, y_ckd, y_ck2d, y_ond, y_onn, y_oI, y_oIx, y_oJ, y_oV, y_oVx, y_oR, y_oRn, y_oRx, y_b0, y_b1, y_bi, y_bid, y_wIK, y_wIL, y_wII, y_wIJ, y_wIR, y_wIN, y_wIw, y_sI, ↓reduceIte, Nat.reduceEqDiff, eq_self, true_or, or_true, false_or, or_false, and_true, true_and, false_and, and_false, not_true, not_false_eq_true, tf_T, tf_F, y_up1, y_up2, y_xx, y_nx, y_sJ, y_sR, Int32.reduceLT, y_nxK, y_nxL, y_nxR, y_sJK, y_sJL, y_sJR, y_sJN, y_sRK, y_sRL, y_sRN, Nat.add_zero, z_nat, z_lit, z_lit0, z_lit1, z_in0, z_in1, z_addl0, z_lt, z_ltl, z_llt, z_inj, z_injl, z_add, z_addl, z_ladd, z_mul, z_mull, z_lmul, z_neg, z_negl, z_in, z_inl, z_ltT, z_ltF, z_eqF, z_10, z_01, z_litne, z_ne0, z_0ne, z_ne1, z_1ne, z_lt64, z_02, z_03, z_04, z_05, z_12, z_13, z_14, z_15, z_20, z_21, z_23, z_24, z_25, z_30, z_31, z_32, z_34, z_35, z_40, z_41, z_42, z_43, z_45, z_50, z_51, z_52, z_53, z_54]
  have hm := hm.mpr a
  obtain ⟨S, hS, rfl⟩ := a
  have hS256 : S < 256 := by have := Nat.pow_le_pow_right (n := 2) (by omega) hc2; omega
  have eb := fun A => c_bits (T := S) (d := d + 149) (A := A) hS256
  have h8 := pcn_8 S hS256
  have z4 : ((4 : Int32) < Int32.ofNat (pcn S)) = (4 < pcn S) := by rw [show (4 : Int32) = Int32.ofNat 4 from rfl, z_lt (by omega) (by omega)]
  by_cases g4 : 4 < pcn S
  · have z4 := z4.trans (eq_true g4)
    simp (disch := omega) only [(fun d x0 x1 x2 x3 s0 B i => bk_325_42 d x0 x1 x2 x3 s0 (am_wI B i)), c_ckI1 (ck_nat hW.1.2.2.2.2.1 (by omega) hq), e, e8, hm, eb, z4, c_ckN0, hF, hY, y_ckd, y_ck2d, y_ond, y_onn, y_oI, y_oIx, y_oJ, y_oV, y_oVx, y_oR, y_oRn, y_oRx, y_b0, y_b1, y_bi, y_bid, y_wIK, y_wIL, y_wII, y_wIJ, y_wIR, y_wIN, y_wIw, y_sI, ↓reduceIte, Nat.reduceEqDiff, eq_self, true_or, or_true, false_or, or_false, and_true, true_and, false_and, and_false, not_true, not_false_eq_true, tf_T, tf_F, y_up1, y_up2, y_xx, y_nx, y_sJ, y_sR, Int32.reduceLT, y_nxK, y_nxL, y_nxR, y_sJK, y_sJL, y_sJR, y_sJN, y_sRK, y_sRL, y_sRN, Nat.add_zero, z_nat, z_lit, z_lit0, z_lit1, z_in0, z_in1, z_addl0, z_lt, z_ltl, z_llt, z_inj, z_injl, z_add, z_addl, z_ladd, z_mul, z_mull, z_lmul, z_neg, z_negl, z_in, z_inl, z_ltT, z_ltF, z_eqF, z_10, z_01, z_litne, z_ne0, z_0ne, z_ne1, z_1ne, z_lt64, z_02, z_03, z_04, z_05, z_12, z_13, z_14, z_15, z_20, z_21, z_23, z_24, z_25, z_30, z_31, z_32, z_34, z_35, z_40, z_41, z_42, z_43, z_45, z_50, z_51, z_52, z_53, z_54]
  · have z4 := z4.trans (eq_false g4)
    have gz : ¬ (¬ z < 1 ∧ ¬ 60 < z) := fun r => g ⟨⟨S, hS, rfl, by omega⟩, r⟩
    simp (disch := omega) only [(fun d x0 x1 x2 x3 s0 B i => bk_325_42 d x0 x1 x2 x3 s0 (am_wI B i)), c_ckI1 (ck_nat hW.1.2.2.2.2.1 (by omega) hq), e, e8, hm, eb, z4, c_ckN0, c_ckN1, c_within0 gz, hF, hY, y_ckd, y_ck2d, y_ond, y_onn, y_oI, y_oIx, y_oJ, y_oV, y_oVx, y_oR, y_oRn, y_oRx, y_b0, y_b1, y_bi, y_bid, y_wIK, y_wIL, y_wII, y_wIJ, y_wIR, y_wIN, y_wIw, y_sI, ↓reduceIte, Nat.reduceEqDiff, eq_self, true_or, or_true, false_or, or_false, and_true, true_and, false_and, and_false, not_true, not_false_eq_true, tf_T, tf_F, y_up1, y_up2, y_xx, y_nx, y_sJ, y_sR, Int32.reduceLT, y_nxK, y_nxL, y_nxR, y_sJK, y_sJL, y_sJR, y_sJN, y_sRK, y_sRL, y_sRN, Nat.add_zero, z_nat, z_lit, z_lit0, z_lit1, z_in0, z_in1, z_addl0, z_lt, z_ltl, z_llt, z_inj, z_injl, z_add, z_addl, z_ladd, z_mul, z_mull, z_lmul, z_neg, z_negl, z_in, z_inl, z_ltT, z_ltF, z_eqF, z_10, z_01, z_litne, z_ne0, z_0ne, z_ne1, z_1ne, z_lt64, z_02, z_03, z_04, z_05, z_12, z_13, z_14, z_15, z_20, z_21, z_23, z_24, z_25, z_30, z_31, z_32, z_34, z_35, z_40, z_41, z_42, z_43, z_45, z_50, z_51, z_52, z_53, z_54]
theorem f_docks (h : CR B i σ) (hW : Wd σ.1) (hq : q < cn σ.1 3014) (hS : S < 2 ^ cn σ.1 2621) (h4 : pcn S ≤ 4) (h1 : 1 ≤ st) (hst : st ≤ 60) : FRs B i σ (am_fx am_P (d + 150) 325 0 [some (.ref 64), some (.int (Int32.ofNat q)), some (.int (Int32.ofNat S)), some (.int (Int32.ofNat st))] [] (am_wI B i)) (.inl (some (.int (dkv σ.1 q S st)))) := by
  have hF : Fc B := h.1.1
  have hY : Yd B 94 := h.1.2.1
  have hc := hW.1.2.2.2.1
  have hc2 := hc.2
  have e := h.2.1.1.2.2.2.2.2.2.2.1
  have e8 : i 94 8 = Int32.ofNat (cn σ.1 2621) := h.2.1.2.2.2.1.1.trans hc.1
  have hm := (z_msk (x := Int32.ofNat S) (c := cn σ.1 2621) (by omega)).mpr ⟨S, hS, rfl⟩
  have hS256 : S < 256 := by have := Nat.pow_le_pow_right (n := 2) (by omega) hc2; omega
  have eb := fun A => c_bits (T := S) (d := d + 149) (A := A) hS256
  have z4 : ((4 : Int32) < Int32.ofNat (pcn S)) = False := by rw [show (4 : Int32) = Int32.ofNat 4 from rfl, z_lt (by omega) (by omega)]; exact eq_false (by omega)
  have gz : ¬ Int32.ofNat st < 1 ∧ ¬ 60 < Int32.ofNat st := by
    rw [show (1 : Int32) = Int32.ofNat 1 from rfl, show (60 : Int32) = Int32.ofNat 60 from rfl, z_lt (by omega) (by omega), z_lt (by omega) (by omega)]
    omega
  obtain ⟨i1, E1, f1⟩ := c_plan (d := d + 143) h hW hq hst hS h4
  refine FRs_s (i' := i1) h ?_ fun q k a _ b c _ r => f1 q k r
  rw [bk_325_0]
  simp (disch := omega) only [(fun d x0 x1 x2 x3 s0 B i => bk_325_42 d x0 x1 x2 x3 s0 (am_wI B i)), c_ckI1 (ck_nat hW.1.2.2.2.2.1 (by omega) hq), e, e8, hm, eb, z4, c_ckN1, c_within1 gz, E1, hF, hY, y_ckd, y_ck2d, y_ond, y_onn, y_oI, y_oIx, y_oJ, y_oV, y_oVx, y_oR, y_oRn, y_oRx, y_b0, y_b1, y_bi, y_bid, y_wIK, y_wIL, y_wII, y_wIJ, y_wIR, y_wIN, y_wIw, y_sI, ↓reduceIte, Nat.reduceEqDiff, eq_self, true_or, or_true, false_or, or_false, and_true, true_and, false_and, and_false, not_true, not_false_eq_true, tf_T, tf_F, y_up1, y_up2, y_xx, y_nx, y_sJ, y_sR, Int32.reduceLT, y_nxK, y_nxL, y_nxR, y_sJK, y_sJL, y_sJR, y_sJN, y_sRK, y_sRL, y_sRN, Nat.add_zero, z_nat, z_lit, z_lit0, z_lit1, z_in0, z_in1, z_addl0, z_lt, z_ltl, z_llt, z_inj, z_injl, z_add, z_addl, z_ladd, z_mul, z_mull, z_lmul, z_neg, z_negl, z_in, z_inl, z_ltT, z_ltF, z_eqF, z_10, z_01, z_litne, z_ne0, z_0ne, z_ne1, z_1ne, z_lt64, z_02, z_03, z_04, z_05, z_12, z_13, z_14, z_15, z_20, z_21, z_23, z_24, z_25, z_30, z_31, z_32, z_34, z_35, z_40, z_41, z_42, z_43, z_45, z_50, z_51, z_52, z_53, z_54]
theorem m_srch (hM : Md B) (hw : ∀ z, z < 12042 → i 875 z = w z) (hW : Wd w) (hq : q < 4) (s8 : s < 8) (hf : f ≤ 300) : am_fx am_P (d + 3) 108 56 [some (.ref 874), some (.int (Int32.ofNat q)), some (.int x), some (.int y), some (.int z), some (.int (Int32.ofNat s)), some (.int (Int32.ofNat f))] [] (am_wI B i) = am_fx am_P (d + 3) 108 87 [some (.ref 874), some (.int (Int32.ofNat q)), some (.int x), some (.int y), some (.int z), some (.int (Int32.ofNat s)), some (.int (Int32.ofNat (w1 (pdk w q s) f)))] [] (am_wI B i) ∧ am_fx am_P (d + 3) 108 93 [some (.ref 874), some (.int (Int32.ofNat q)), some (.int x), some (.int y), some (.int z), some (.int (Int32.ofNat s)), some (.int (Int32.ofNat f))] [] (am_wI B i) = am_fx am_P (d + 3) 108 124 [some (.ref 874), some (.int (Int32.ofNat q)), some (.int x), some (.int y), some (.int z), some (.int (Int32.ofNat s)), some (.int (Int32.ofNat (w1 (pdk w q s) f)))] [] (am_wI B i) := by
  have h0 := hW.1.1
  have h02 := h0.2
  have e0 : i 875 0 = Int32.ofNat (cn w 0) := (hw 0 (by omega)).trans h0.1
  have step : ∀ k, k < 301 - f → (¬ (300 : Int32) < Int32.ofNat (f + k)) ∧ am_fx am_P (d + 2) 99 0 [some (.ref 874), some (.int (Int32.ofNat s)), some (.int (Int32.ofNat q)), some (.int (Int32.ofNat (cn w 0 + (f + k))))] [] (am_wI B i) = some (.inl (some (.int (if pdk w q s (f + k) = true then 1 else 0))), am_wI B i) := fun k hk => by
    refine ⟨by rw [show (300 : Int32) = Int32.ofNat 300 from rfl, z_lt (by omega) (by omega)]; omega, ?_⟩
    cases e : pdk w q s (f + k) with
    | true =>
      rw [if_pos rfl]
      exact m_pass1 hM hw s8 hq (by omega) (pdk_t.mp e)
    | false =>
      rw [if_neg (by decide)]
      exact m_pass0 hM hw s8 hq (by omega) (pdk_f.mp e)
  have z3 : (300 : Int32) < Int32.ofNat (f + (301 - f)) := by rw [show f + (301 - f) = 301 by omega]; decide
  constructor
  · refine (lp_fst (fun k => am_fx am_P (d + 3) 108 56 [some (.ref 874), some (.int (Int32.ofNat q)), some (.int x), some (.int y), some (.int z), some (.int (Int32.ofNat s)), some (.int (Int32.ofNat (f + k)))] [] (am_wI B i)) (fun k => pdk w q s (f + k)) (fun k => am_fx am_P (d + 3) 108 87 [some (.ref 874), some (.int (Int32.ofNat q)), some (.int x), some (.int y), some (.int z), some (.int (Int32.ofNat s)), some (.int (Int32.ofNat (f + k)))] [] (am_wI B i)) (301 - f) fun k hk => ?_).trans ?_
    · obtain ⟨g1, g2⟩ := step k hk
      rw [bk_108_56]
      cases e : pdk w q s (f + k) with
      | true =>
        rw [e, if_pos rfl] at g2
        rw [if_pos rfl]
        simp (maxSteps := 1000000) (disch := omega) only [(fun d x0 B i => bk_13_0 d x0 (am_wI B i)), e0, g1, g2, hM, y_ckd, y_ck2d, y_ond, y_onn, y_oI, y_oIx, y_oJ, y_oV, y_oVx, y_oR, y_oRn, y_oRx, y_b0, y_b1, y_bi, y_bid, y_wIK, y_wIL, y_wII, y_wIJ, y_wIR, y_wIN, y_wIw, y_sI, ↓reduceIte, Nat.reduceEqDiff, eq_self, true_or, or_true, false_or, or_false, and_true, true_and, false_and, and_false, not_true, not_false_eq_true, tf_T, tf_F, y_up1, y_up2, y_xx, y_nx, y_sJ, y_sR, Int32.reduceLT, y_nxK, y_nxL, y_nxR, y_sJK, y_sJL, y_sJR, y_sJN, y_sRK, y_sRL, y_sRN, Nat.add_zero, z_nat, z_lit, z_lit0, z_lit1, z_in0, z_in1, z_addl0, z_lt, z_ltl, z_llt, z_inj, z_injl, z_add, z_addl, z_ladd, z_mul, z_mull, z_lmul, z_neg, z_negl, z_in, z_inl, z_ltT, z_ltF, z_eqF, z_10, z_01, z_litne, z_ne0, z_0ne, z_ne1, z_1ne, z_lt64, z_02, z_03, z_04, z_05, z_12, z_13, z_14, z_15, z_20, z_21, z_23, z_24, z_25, z_30, z_31, z_32, z_34, z_35, z_40, z_41, z_42, z_43, z_45, z_50, z_51, z_52, z_53, z_54]
      | false =>
        rw [e, if_neg (show ¬ (false = true) by decide)] at g2
        rw [if_neg (show ¬ (false = true) by decide)]
        simp (maxSteps := 1000000) (disch := omega) only [(fun d x0 B i => bk_13_0 d x0 (am_wI B i)), e0, g1, g2, hM, y_ckd, y_ck2d, y_ond, y_onn, y_oI, y_oIx, y_oJ, y_oV, y_oVx, y_oR, y_oRn, y_oRx, y_b0, y_b1, y_bi, y_bid, y_wIK, y_wIL, y_wII, y_wIJ, y_wIR, y_wIN, y_wIw, y_sI, ↓reduceIte, Nat.reduceEqDiff, eq_self, true_or, or_true, false_or, or_false, and_true, true_and, false_and, and_false, not_true, not_false_eq_true, tf_T, tf_F, y_up1, y_up2, y_xx, y_nx, y_sJ, y_sR, Int32.reduceLT, y_nxK, y_nxL, y_nxR, y_sJK, y_sJL, y_sJR, y_sJN, y_sRK, y_sRL, y_sRN, Nat.add_zero, z_nat, z_lit, z_lit0, z_lit1, z_in0, z_in1, z_addl0, z_lt, z_ltl, z_llt, z_inj, z_injl, z_add, z_addl, z_ladd, z_mul, z_mull, z_lmul, z_neg, z_negl, z_in, z_inl, z_ltT, z_ltF, z_eqF, z_10, z_01, z_litne, z_ne0, z_0ne, z_ne1, z_1ne, z_lt64, z_02, z_03, z_04, z_05, z_12, z_13, z_14, z_15, z_20, z_21, z_23, z_24, z_25, z_30, z_31, z_32, z_34, z_35, z_40, z_41, z_42, z_43, z_45, z_50, z_51, z_52, z_53, z_54]
        rfl
    · unfold w1
      cases fst0 (fun k => pdk w q s (f + k)) (301 - f) with
      | some k => rfl
      | none =>
        show am_fx am_P (d + 3) 108 56 [some (.ref 874), some (.int (Int32.ofNat q)), some (.int x), some (.int y), some (.int z), some (.int (Int32.ofNat s)), some (.int (Int32.ofNat (f + (301 - f))))] [] (am_wI B i) = _
        rw [bk_108_56, if_pos z3, show f + (301 - f) = 301 by omega]
  · refine (lp_fst (fun k => am_fx am_P (d + 3) 108 93 [some (.ref 874), some (.int (Int32.ofNat q)), some (.int x), some (.int y), some (.int z), some (.int (Int32.ofNat s)), some (.int (Int32.ofNat (f + k)))] [] (am_wI B i)) (fun k => pdk w q s (f + k)) (fun k => am_fx am_P (d + 3) 108 124 [some (.ref 874), some (.int (Int32.ofNat q)), some (.int x), some (.int y), some (.int z), some (.int (Int32.ofNat s)), some (.int (Int32.ofNat (f + k)))] [] (am_wI B i)) (301 - f) fun k hk => ?_).trans ?_
    · obtain ⟨g1, g2⟩ := step k hk
      rw [bk_108_93]
      cases e : pdk w q s (f + k) with
      | true =>
        rw [e, if_pos rfl] at g2
        rw [if_pos rfl]
        simp (maxSteps := 1000000) (disch := omega) only [(fun d x0 B i => bk_13_0 d x0 (am_wI B i)), e0, g1, g2, hM, y_ckd, y_ck2d, y_ond, y_onn, y_oI, y_oIx, y_oJ, y_oV, y_oVx, y_oR, y_oRn, y_oRx, y_b0, y_b1, y_bi, y_bid, y_wIK, y_wIL, y_wII, y_wIJ, y_wIR, y_wIN, y_wIw, y_sI, ↓reduceIte, Nat.reduceEqDiff, eq_self, true_or, or_true, false_or, or_false, and_true, true_and, false_and, and_false, not_true, not_false_eq_true, tf_T, tf_F, y_up1, y_up2, y_xx, y_nx, y_sJ, y_sR, Int32.reduceLT, y_nxK, y_nxL, y_nxR, y_sJK, y_sJL, y_sJR, y_sJN, y_sRK, y_sRL, y_sRN, Nat.add_zero, z_nat, z_lit, z_lit0, z_lit1, z_in0, z_in1, z_addl0, z_lt, z_ltl, z_llt, z_inj, z_injl, z_add, z_addl, z_ladd, z_mul, z_mull, z_lmul, z_neg, z_negl, z_in, z_inl, z_ltT, z_ltF, z_eqF, z_10, z_01, z_litne, z_ne0, z_0ne, z_ne1, z_1ne, z_lt64, z_02, z_03, z_04, z_05, z_12, z_13, z_14, z_15, z_20, z_21, z_23, z_24, z_25, z_30, z_31, z_32, z_34, z_35, z_40, z_41, z_42, z_43, z_45, z_50, z_51, z_52, z_53, z_54]
      | false =>
        rw [e, if_neg (show ¬ (false = true) by decide)] at g2
        rw [if_neg (show ¬ (false = true) by decide)]
        simp (maxSteps := 1000000) (disch := omega) only [(fun d x0 B i => bk_13_0 d x0 (am_wI B i)), e0, g1, g2, hM, y_ckd, y_ck2d, y_ond, y_onn, y_oI, y_oIx, y_oJ, y_oV, y_oVx, y_oR, y_oRn, y_oRx, y_b0, y_b1, y_bi, y_bid, y_wIK, y_wIL, y_wII, y_wIJ, y_wIR, y_wIN, y_wIw, y_sI, ↓reduceIte, Nat.reduceEqDiff, eq_self, true_or, or_true, false_or, or_false, and_true, true_and, false_and, and_false, not_true, not_false_eq_true, tf_T, tf_F, y_up1, y_up2, y_xx, y_nx, y_sJ, y_sR, Int32.reduceLT, y_nxK, y_nxL, y_nxR, y_sJK, y_sJL, y_sJR, y_sJN, y_sRK, y_sRL, y_sRN, Nat.add_zero, z_nat, z_lit, z_lit0, z_lit1, z_in0, z_in1, z_addl0, z_lt, z_ltl, z_llt, z_inj, z_injl, z_add, z_addl, z_ladd, z_mul, z_mull, z_lmul, z_neg, z_negl, z_in, z_inl, z_ltT, z_ltF, z_eqF, z_10, z_01, z_litne, z_ne0, z_0ne, z_ne1, z_1ne, z_lt64, z_02, z_03, z_04, z_05, z_12, z_13, z_14, z_15, z_20, z_21, z_23, z_24, z_25, z_30, z_31, z_32, z_34, z_35, z_40, z_41, z_42, z_43, z_45, z_50, z_51, z_52, z_53, z_54]
        rfl
    · unfold w1
      cases fst0 (fun k => pdk w q s (f + k)) (301 - f) with
      | some k => rfl
      | none =>
        show am_fx am_P (d + 3) 108 93 [some (.ref 874), some (.int (Int32.ofNat q)), some (.int x), some (.int y), some (.int z), some (.int (Int32.ofNat s)), some (.int (Int32.ofNat (f + (301 - f))))] [] (am_wI B i) = _
        rw [bk_108_93, if_pos z3, show f + (301 - f) = 301 by omega]
theorem sv_301 (h : f ≤ 301) : sv f = -1 ∧ f = 301 ∨ sv f = Int32.ofNat f ∧ f ≤ 300 := by
  by_cases g : 300 < f
  · exact Or.inl ⟨sv_m g, by omega⟩
  · exact Or.inr ⟨sv_s g, by omega⟩
theorem m_moors (hM : Md B) (hW : Wd w) (hq : q < 4) (hst : st ≤ 60) : ∀ k S f so i, (∀ z, z < 12042 → i 875 z = w z) → S < 256 → pcn S = k → f ≤ 300 → so ≤ 301 → i 874 26 = sv so → ∃ i', am_fx am_P (d + k + 3) 108 0 [some (.ref 874), some (.int (Int32.ofNat q)), some (.int (Int32.ofNat S)), some (.int (Int32.ofNat st)), some (.int (Int32.ofNat f)), none, none] [] (am_wI B i) = some (.inl none, am_wI B i') ∧ i' 874 26 = sv (min so (Fo (Gd w q st) k S f)) ∧ ∀ q k, (q = 874 → k ≠ 26) → i' q k = i q k
  | 0, S, f, so, i, hw, hS, hk, hf, hso, e26 => by
    have hS0 : S = 0 := by
      rcases Nat.eq_zero_or_pos S with r | r
      · exact r
      · obtain ⟨a, a8, ab⟩ := pcn_bit 8 (by omega) S (by omega) r
        have := pcn_sub S hS a a8 ab
        omega
    subst hS0
    have em := sv_min hso hf
    show ∃ i', am_fx am_P (d + 0 + 3) 108 0 [some (.ref 874), some (.int (Int32.ofNat q)), some (.int (Int32.ofNat 0)), some (.int (Int32.ofNat st)), some (.int (Int32.ofNat f)), none, none] [] (am_wI B i) = some (.inl none, am_wI B i') ∧ i' 874 26 = sv (min so f) ∧ ∀ q k, (q = 874 → k ≠ 26) → i' q k = i q k
    refine ⟨am_up2 i 874 26 (sv (min so f)), ?_, y_up1 rfl rfl, fun q k h => y_up2 (by omega)⟩
    rw [bk_108_0, if_pos (show Int32.ofNat 0 = 0 from rfl), em]
    generalize sv so = u at *
    by_cases g : u < 0
    · rw [if_pos g]
      simp (maxSteps := 1000000) (disch := omega) only [e26, g, hM, y_ckd, y_ck2d, y_ond, y_onn, y_oI, y_oIx, y_oJ, y_oV, y_oVx, y_oR, y_oRn, y_oRx, y_b0, y_b1, y_bi, y_bid, y_wIK, y_wIL, y_wII, y_wIJ, y_wIR, y_wIN, y_wIw, y_sI, ↓reduceIte, Nat.reduceEqDiff, eq_self, true_or, or_true, false_or, or_false, and_true, true_and, false_and, and_false, not_true, not_false_eq_true, tf_T, tf_F, y_up1, y_up2, y_xx, y_nx, y_sJ, y_sR, Int32.reduceLT, y_nxK, y_nxL, y_nxR, y_sJK, y_sJL, y_sJR, y_sJN, y_sRK, y_sRL, y_sRN, Nat.add_zero, z_nat, z_lit, z_lit0, z_lit1, z_in0, z_in1, z_addl0, z_lt, z_ltl, z_llt, z_inj, z_injl, z_add, z_addl, z_ladd, z_mul, z_mull, z_lmul, z_neg, z_negl, z_in, z_inl, z_ltT, z_ltF, z_eqF, z_10, z_01, z_litne, z_ne0, z_0ne, z_ne1, z_1ne, z_lt64, z_02, z_03, z_04, z_05, z_12, z_13, z_14, z_15, z_20, z_21, z_23, z_24, z_25, z_30, z_31, z_32, z_34, z_35, z_40, z_41, z_42, z_43, z_45, z_50, z_51, z_52, z_53, z_54]
    · rw [if_neg g]
      simp (maxSteps := 1000000) (disch := omega) only [e26, g, c_min, hM, y_ckd, y_ck2d, y_ond, y_onn, y_oI, y_oIx, y_oJ, y_oV, y_oVx, y_oR, y_oRn, y_oRx, y_b0, y_b1, y_bi, y_bid, y_wIK, y_wIL, y_wII, y_wIJ, y_wIR, y_wIN, y_wIw, y_sI, ↓reduceIte, Nat.reduceEqDiff, eq_self, true_or, or_true, false_or, or_false, and_true, true_and, false_and, and_false, not_true, not_false_eq_true, tf_T, tf_F, y_up1, y_up2, y_xx, y_nx, y_sJ, y_sR, Int32.reduceLT, y_nxK, y_nxL, y_nxR, y_sJK, y_sJL, y_sJR, y_sJN, y_sRK, y_sRL, y_sRN, Nat.add_zero, z_nat, z_lit, z_lit0, z_lit1, z_in0, z_in1, z_addl0, z_lt, z_ltl, z_llt, z_inj, z_injl, z_add, z_addl, z_ladd, z_mul, z_mull, z_lmul, z_neg, z_negl, z_in, z_inl, z_ltT, z_ltF, z_eqF, z_10, z_01, z_litne, z_ne0, z_0ne, z_ne1, z_1ne, z_lt64, z_02, z_03, z_04, z_05, z_12, z_13, z_14, z_15, z_20, z_21, z_23, z_24, z_25, z_30, z_31, z_32, z_34, z_35, z_40, z_41, z_42, z_43, z_45, z_50, z_51, z_52, z_53, z_54]
  | k + 1, S, f, so, i, hw, hS, hk, hf, hso, e26 => by
    have hS0 : ¬ Int32.ofNat S = 0 := by
      rw [show (0 : Int32) = Int32.ofNat 0 from rfl, z_inj (by omega) (by omega)]
      rintro rfl
      exact absurd hk (by rw [show pcn 0 = 0 from by decide]; omega)
    obtain ⟨j, E, e, hf1, he⟩ := lp_inv (fun s (u : (Nat → Nat → Int32)) => am_fx am_P (d + (k + 1) + 3) 108 33 [some (.ref 874), some (.int (Int32.ofNat q)), some (.int (Int32.ofNat S)), some (.int (Int32.ofNat st)), some (.int (Int32.ofNat f)), some (.int (Int32.ofNat s)), none] [] (am_wI B u)) (fun s u => u 874 26 = sv (min so (itr (fun s a => if bt2 S s then min a (Fo (Gd w q st) k (S - 2 ^ s) (Gd w q st s f)) else a) s 301)) ∧ (∀ q k, (q = 874 → k ≠ 26) → u q k = i q k) ∧ itr (fun s a => if bt2 S s then min a (Fo (Gd w q st) k (S - 2 ^ s) (Gd w q st s f)) else a) s 301 ≤ 301) 8 (fun s u hs hI => by
      obtain ⟨e, hfu, he⟩ := hI
      have hwu : ∀ z, z < 12042 → u 875 z = w z := fun z hz => (hfu _ _ (by omega)).trans (hw z hz)
      have eb := zb_ts0 S hS s hs
      have zs : Int32.ofNat s + 1 = Int32.ofNat (s + 1) := z_add s 1
      have l8 : Int32.ofNat s < 8 := by rw [show (8 : Int32) = Int32.ofNat 8 from rfl, z_lt (by omega) (by omega)]; exact hs
      show ∃ u' : Nat → Nat → Int32, _ ∧ u' 874 26 = sv (min so (if bt2 S s then min _ _ else _)) ∧ _ ∧ (if bt2 S s then min _ _ else _) ≤ 301
      generalize itr (fun s a => if bt2 S s then min a (Fo (Gd w q st) k (S - 2 ^ s) (Gd w q st s f)) else a) s 301 = a at *
      by_cases g : bt2 S s
      rotate_left
      · have eb := eb.mpr g
        rw [if_neg g]
        refine ⟨u, ?_, e, hfu, he⟩
        rw [bk_108_33, if_pos l8, if_pos eb, zs]
      have eb : ¬ (Int32.ofNat S >>> (Int32.ofNat s &&& 31)) &&& 1 = 0 := fun r => (eb.mp r) g
      rw [if_pos g]
      obtain ⟨S1, -⟩ := m_srch (B := B) (i := u) (d := d + k + 1) (x := Int32.ofNat S) (y := Int32.ofNat st) (z := Int32.ofNat f) hM hwu hW hq hs hf
      have hw301 := w1_301 (p := pdk w q s) (f := f)
      have zst : Int32.ofNat (w1 (pdk w q s) f) + Int32.ofNat st = Int32.ofNat (w1 (pdk w q s) f + st) := z_add _ _
      have base : am_fx am_P (d + (k + 1) + 3) 108 33 [some (.ref 874), some (.int (Int32.ofNat q)), some (.int (Int32.ofNat S)), some (.int (Int32.ofNat st)), some (.int (Int32.ofNat f)), some (.int (Int32.ofNat s)), none] [] (am_wI B u) = am_fx am_P (d + (k + 1) + 3) 108 93 [some (.ref 874), some (.int (Int32.ofNat q)), some (.int (Int32.ofNat S)), some (.int (Int32.ofNat st)), some (.int (Int32.ofNat f)), some (.int (Int32.ofNat s)), some (.int (Int32.ofNat (w1 (pdk w q s) f + st)))] [] (am_wI B u) := by
        rw [bk_108_33, if_pos l8, if_neg eb]
        refine S1.trans ?_
        rw [bk_108_87, zst]
        rfl
      have zl : ∀ n, n < 1000 → ((300 : Int32) < Int32.ofNat n) = (300 < n) := fun n hn => by rw [show (300 : Int32) = Int32.ofNat 300 from rfl, z_lt (by omega) (by omega)]
      have eG : Gd w q st s f = if 300 < w1 (pdk w q s) f + st then 301 else w1 (pdk w q s) (w1 (pdk w q s) f + st) := rfl
      have big : ∀ n, n < 1000 → 300 < n → am_fx am_P (d + (k + 1) + 3) 108 124 [some (.ref 874), some (.int (Int32.ofNat q)), some (.int (Int32.ofNat S)), some (.int (Int32.ofNat st)), some (.int (Int32.ofNat f)), some (.int (Int32.ofNat s)), some (.int (Int32.ofNat n))] [] (am_wI B u) = am_fx am_P (d + (k + 1) + 3) 108 33 [some (.ref 874), some (.int (Int32.ofNat q)), some (.int (Int32.ofNat S)), some (.int (Int32.ofNat st)), some (.int (Int32.ofNat f)), some (.int (Int32.ofNat (s + 1))), none] [] (am_wI B u) := fun n h1 h2 => by
        rw [bk_108_124, if_pos (by rw [zl n h1]; exact h2), zs]
      have F301 : ∀ k S, Fo (Gd w q st) k S 301 = 301 := by
        intro k
        induction k with
        | zero => exact fun _ => rfl
        | succ k ih =>
          intro S
          refine Nat.le_antisymm mnS_301 (le_mnS.mpr ⟨Nat.le_refl _, fun s _ _ => ?_⟩)
          rw [show Gd w q st s 301 = 301 from oud_top (by omega), ih]
          exact Nat.le_refl _
      by_cases g1 : 300 < w1 (pdk w q s) f + st
      · rw [if_pos g1] at eG
        rw [eG, F301, show min a 301 = a by omega]
        refine ⟨u, base.trans ?_, e, hfu, he⟩
        rw [bk_108_93, if_pos (by rw [zl _ (by omega)]; exact g1)]
        exact big _ (by omega) g1
      rw [if_neg g1] at eG
      obtain ⟨-, S2⟩ := m_srch (B := B) (i := u) (d := d + k + 1) (f := w1 (pdk w q s) f + st) (x := Int32.ofNat S) (y := Int32.ofNat st) (z := Int32.ofNat f) hM hwu hW hq hs (by omega)
      rw [← eG] at S2
      have hG := oud_301 (p := pdk w q s) (st := st) (f := f)
      have hG : Gd w q st s f ≤ 301 := hG
      generalize Gd w q st s f = n at *
      by_cases g2 : 300 < n
      · rw [show n = 301 by omega, F301, show min a 301 = a by omega]
        refine ⟨u, base.trans (S2.trans (big _ (by omega) g2)), e, hfu, he⟩
      · have ec := zb_clr S hS s hs
        rw [if_pos g] at ec
        have hp := pcn_sub S hS s hs g
        obtain ⟨u', E', e', hf'⟩ := m_moors hM hW hq hst k (S - 2 ^ s) n (min so a) u hwu (sub_lt hS) (by omega) (by omega) (by omega) e
        refine ⟨u', base.trans (S2.trans ?_), ?_, fun q k hq => (hf' q k hq).trans (hfu q k hq), by omega⟩
        · rw [bk_108_124, if_neg (by rw [zl _ (by omega)]; exact g2), ec, zs]
          generalize S - 2 ^ s = R at *
          simp only [E', hM, y_ckd, y_oV, ↓reduceIte]
          rfl
        · rw [e']
          exact congrArg sv (by omega)) i ⟨by rw [e26]; exact congrArg sv (by show so = min so 301; omega), fun _ _ _ => rfl, Nat.le_refl _⟩
    refine ⟨j, ?_, e, hf1⟩
    rw [bk_108_0, if_neg hS0]
    refine E.trans ?_
    rw [bk_108_33, if_neg (by decide)]
theorem m_docks_x0 (h : MR B i σ) (hcd : isc σ.1 3014 4) (g : ¬ (¬ x < 0 ∧ x < σ.1 3014)) : MRs B i σ (am_fx am_P (d + 150) 109 0 [some (.ref 874), some (.int x), some (.int y), some (.int z), none] [] (am_wI B i)) (some (.int 0)) 1 := by
  refine MRs_x h ?_
  have hM : Md B := h.1.1
  have e5 := h.2.1 3014 (by omega)
  rw [bk_109_0]
  simp (maxSteps := 1000000) (disch := omega) only [bk_96_0, m_in, z_pred hcd.1, Classical.not_not, g, m_thr1 hM, e5, hM, y_ckd, y_ck2d, y_ond, y_onn, y_oI, y_oIx, y_oJ, y_oV, y_oVx, y_oR, y_oRn, y_oRx, y_b0, y_b1, y_bi, y_bid, y_wIK, y_wIL, y_wII, y_wIJ, y_wIR, y_wIN, y_wIw, y_sI, ↓reduceIte, Nat.reduceEqDiff, eq_self, true_or, or_true, false_or, or_false, and_true, true_and, false_and, and_false, not_true, not_false_eq_true, tf_T, tf_F, y_up1, y_up2, y_xx, y_nx, y_sJ, y_sR, Int32.reduceLT, y_nxK, y_nxL, y_nxR, y_sJK, y_sJL, y_sJR, y_sJN, y_sRK, y_sRL, y_sRN, Nat.add_zero, z_nat, z_lit, z_lit0, z_lit1, z_in0, z_in1, z_addl0, z_lt, z_ltl, z_llt, z_inj, z_injl, z_add, z_addl, z_ladd, z_mul, z_mull, z_lmul, z_neg, z_negl, z_in, z_inl, z_ltT, z_ltF, z_eqF, z_10, z_01, z_litne, z_ne0, z_0ne, z_ne1, z_1ne, z_lt64, z_02, z_03, z_04, z_05, z_12, z_13, z_14, z_15, z_20, z_21, z_23, z_24, z_25, z_30, z_31, z_32, z_34, z_35, z_40, z_41, z_42, z_43, z_45, z_50, z_51, z_52, z_53, z_54]
theorem m_docks_x1 (h : MR B i σ) (hW : Wd σ.1) (hq : q < cn σ.1 3014) (g : ¬ dkOk σ.1 y z) : MRs B i σ (am_fx am_P (d + 150) 109 0 [some (.ref 874), some (.int (Int32.ofNat q)), some (.int y), some (.int z), none] [] (am_wI B i)) (some (.int 0)) 2 := by
  refine MRs_x h ?_
  have hM : Md B := h.1.1
  have hc := hW.1.2.2.2.1
  have hc2 := hc.2
  have hcd := hW.1.2.2.2.2.1
  have h4 := hcd.2
  have e5 := h.2.1 3014 (by omega)
  have e8 : i 875 2621 = Int32.ofNat (cn σ.1 2621) := (h.2.1 2621 (by omega)).trans hc.1
  have t1 : (Int32.ofNat q < 0) = False := z_neg (by omega)
  have t2 := eq_true (ck_nat hcd (by omega) hq).2
  have hm := z_shr (x := y) (c := cn σ.1 2621) (by omega)
  rw [bk_109_0]
  by_cases a : ∃ S, S < 2 ^ cn σ.1 2621 ∧ y = Int32.ofNat S
  rotate_left
  · have hm : ¬ y >>> (Int32.ofNat (cn σ.1 2621) &&& 31) = 0 := fun r => a (hm.mp r)
    simp (maxSteps := 1000000) (disch := omega) only [bk_96_0, m_in, z_pred hcd.1, Classical.not_not, (fun d x0 x1 x2 x3 s0 s1 B i => bk_109_55 d x0 x1 x2 x3 s0 s1 (am_wI B i)), t1, t2, hm, m_thr0, m_thr1 hM, e5, e8, hM, y_ckd, y_ck2d, y_ond, y_onn, y_oI, y_oIx, y_oJ, y_oV, y_oVx, y_oR, y_oRn, y_oRx, y_b0, y_b1, y_bi, y_bid, y_wIK, y_wIL, y_wII, y_wIJ, y_wIR, y_wIN, y_wIw, y_sI, ↓reduceIte, Nat.reduceEqDiff, eq_self, true_or, or_true, false_or, or_false, and_true, true_and, false_and, and_false, not_true, not_false_eq_true, tf_T, tf_F, y_up1, y_up2, y_xx, y_nx, y_sJ, y_sR, Int32.reduceLT, y_nxK, y_nxL, y_nxR, y_sJK, y_sJL, y_sJR, y_sJN, y_sRK, y_sRL, y_sRN, Nat.add_zero, z_nat, z_lit, z_lit0, z_lit1, z_in0, z_in1, z_addl0, z_lt, z_ltl, z_llt, z_inj, z_injl, z_add, z_addl, z_ladd, z_mul, z_mull, z_lmul, z_neg, z_negl, z_in, z_inl, z_ltT, z_ltF, z_eqF, z_10, z_01, z_litne, z_ne0, z_0ne, z_ne1, z_1ne, z_lt64, z_02, z_03, z_04, z_05, z_12, z_13, z_14, z_15, z_20, z_21, z_23, z_24, z_25, z_30, z_31, z_32, z_34, z_35, z_40, z_41, z_42, z_43, z_45, z_50, z_51, z_52, z_53, z_54]
  have hm := hm.mpr a
  obtain ⟨S, hS, rfl⟩ := a
  have hS256 : S < 256 := by have := Nat.pow_le_pow_right (n := 2) (by omega) hc2; omega
  have eb := fun A => c_bits (T := S) (d := d + 149) (A := A) hS256
  have h8 := pcn_8 S hS256
  have z4 : ((4 : Int32) < Int32.ofNat (pcn S)) = (4 < pcn S) := by rw [show (4 : Int32) = Int32.ofNat 4 from rfl, z_lt (by omega) (by omega)]
  by_cases g4 : 4 < pcn S
  · have z4 := z4.trans (eq_true g4)
    simp (maxSteps := 1000000) (disch := omega) only [bk_96_0, m_in, z_pred hcd.1, Classical.not_not, (fun d x0 x1 x2 x3 s0 s1 B i => bk_109_55 d x0 x1 x2 x3 s0 s1 (am_wI B i)), t1, t2, hm, eb, z4, m_thr0, m_thr1 hM, e5, e8, hM, y_ckd, y_ck2d, y_ond, y_onn, y_oI, y_oIx, y_oJ, y_oV, y_oVx, y_oR, y_oRn, y_oRx, y_b0, y_b1, y_bi, y_bid, y_wIK, y_wIL, y_wII, y_wIJ, y_wIR, y_wIN, y_wIw, y_sI, ↓reduceIte, Nat.reduceEqDiff, eq_self, true_or, or_true, false_or, or_false, and_true, true_and, false_and, and_false, not_true, not_false_eq_true, tf_T, tf_F, y_up1, y_up2, y_xx, y_nx, y_sJ, y_sR, Int32.reduceLT, y_nxK, y_nxL, y_nxR, y_sJK, y_sJL, y_sJR, y_sJN, y_sRK, y_sRL, y_sRN, Nat.add_zero, z_nat, z_lit, z_lit0, z_lit1, z_in0, z_in1, z_addl0, z_lt, z_ltl, z_llt, z_inj, z_injl, z_add, z_addl, z_ladd, z_mul, z_mull, z_lmul, z_neg, z_negl, z_in, z_inl, z_ltT, z_ltF, z_eqF, z_10, z_01, z_litne, z_ne0, z_0ne, z_ne1, z_1ne, z_lt64, z_02, z_03, z_04, z_05, z_12, z_13, z_14, z_15, z_20, z_21, z_23, z_24, z_25, z_30, z_31, z_32, z_34, z_35, z_40, z_41, z_42, z_43, z_45, z_50, z_51, z_52, z_53, z_54]
  · have z4 := z4.trans (eq_false g4)
    have gz : ¬ (¬ z < 1 ∧ ¬ 60 < z) := fun r => g ⟨⟨S, hS, rfl, by omega⟩, r⟩
    simp (maxSteps := 1000000) (disch := omega) only [bk_96_0, m_in, z_pred hcd.1, Classical.not_not, (fun d x0 x1 x2 x3 s0 s1 B i => bk_109_55 d x0 x1 x2 x3 s0 s1 (am_wI B i)), t1, t2, hm, eb, z4, gz, m_thr0, m_thr1 hM, e5, e8, hM, y_ckd, y_ck2d, y_ond, y_onn, y_oI, y_oIx, y_oJ, y_oV, y_oVx, y_oR, y_oRn, y_oRx, y_b0, y_b1, y_bi, y_bid, y_wIK, y_wIL, y_wII, y_wIJ, y_wIR, y_wIN, y_wIw, y_sI, ↓reduceIte, Nat.reduceEqDiff, eq_self, true_or, or_true, false_or, or_false, and_true, true_and, false_and, and_false, not_true, not_false_eq_true, tf_T, tf_F, y_up1, y_up2, y_xx, y_nx, y_sJ, y_sR, Int32.reduceLT, y_nxK, y_nxL, y_nxR, y_sJK, y_sJL, y_sJR, y_sJN, y_sRK, y_sRL, y_sRN, Nat.add_zero, z_nat, z_lit, z_lit0, z_lit1, z_in0, z_in1, z_addl0, z_lt, z_ltl, z_llt, z_inj, z_injl, z_add, z_addl, z_ladd, z_mul, z_mull, z_lmul, z_neg, z_negl, z_in, z_inl, z_ltT, z_ltF, z_eqF, z_10, z_01, z_litne, z_ne0, z_0ne, z_ne1, z_1ne, z_lt64, z_02, z_03, z_04, z_05, z_12, z_13, z_14, z_15, z_20, z_21, z_23, z_24, z_25, z_30, z_31, z_32, z_34, z_35, z_40, z_41, z_42, z_43, z_45, z_50, z_51, z_52, z_53, z_54]
theorem m_docks (h : MR B i σ) (hW : Wd σ.1) (hq : q < cn σ.1 3014) (hS : S < 2 ^ cn σ.1 2621) (h4 : pcn S ≤ 4) (h1 : 1 ≤ st) (hst : st ≤ 60) : MRs B i σ (am_fx am_P (d + 151) 109 0 [some (.ref 874), some (.int (Int32.ofNat q)), some (.int (Int32.ofNat S)), some (.int (Int32.ofNat st)), none] [] (am_wI B i)) (some (.int (dkv σ.1 q S st))) 0 := by
  have hM : Md B := h.1.1
  have hc := hW.1.2.2.2.1
  have hc2 := hc.2
  have hcd := hW.1.2.2.2.2.1
  have hd4 := hcd.2
  have e5 := h.2.1 3014 (by omega)
  have e8 : i 875 2621 = Int32.ofNat (cn σ.1 2621) := (h.2.1 2621 (by omega)).trans hc.1
  have t1 : (Int32.ofNat q < 0) = False := z_neg (by omega)
  have t2 := eq_true (ck_nat hcd (by omega) hq).2
  have hm := (z_shr (x := Int32.ofNat S) (c := cn σ.1 2621) (by omega)).mpr ⟨S, hS, rfl⟩
  have hS256 : S < 256 := by have := Nat.pow_le_pow_right (n := 2) (by omega) hc2; omega
  have eb := fun A => c_bits (T := S) (d := d + 150) (A := A) hS256
  have h8 := pcn_8 S hS256
  have z4 : ((4 : Int32) < Int32.ofNat (pcn S)) = False := by rw [show (4 : Int32) = Int32.ofNat 4 from rfl, z_lt (by omega) (by omega)]; exact eq_false (by omega)
  have gz : ¬ Int32.ofNat st < 1 ∧ ¬ 60 < Int32.ofNat st := by
    rw [show (1 : Int32) = Int32.ofNat 1 from rfl, show (60 : Int32) = Int32.ofNat 60 from rfl, z_lt (by omega) (by omega), z_lt (by omega) (by omega)]
    omega
  have hw := up_o (q := 874) (k := 0) (v := 0) (by omega) h.2.1
  have E0 : (am_fx am_P (d + 151) 109 0 [some (.ref 874), some (.int (Int32.ofNat q)), some (.int (Int32.ofNat S)), some (.int (Int32.ofNat st)), none] [] (am_wI B i)) = am_fx am_P (d + 151) 109 67 [some (.ref 874), some (.int (Int32.ofNat q)), some (.int (Int32.ofNat S)), some (.int (Int32.ofNat st)), some (.int (Int32.ofNat 0))] [] (am_wI B (am_up2 i 874 0 0)) := by
    rw [bk_109_0]
    simp (maxSteps := 1000000) (disch := omega) only [bk_96_0, m_in, z_pred hcd.1, Classical.not_not, (fun d x0 x1 x2 x3 s0 s1 B i => bk_109_55 d x0 x1 x2 x3 s0 s1 (am_wI B i)), t1, t2, hm, eb, z4, gz.1, gz.2, m_thr0, m_thr1 hM, e5, e8, hM, y_ckd, y_ck2d, y_ond, y_onn, y_oI, y_oIx, y_oJ, y_oV, y_oVx, y_oR, y_oRn, y_oRx, y_b0, y_b1, y_bi, y_bid, y_wIK, y_wIL, y_wII, y_wIJ, y_wIR, y_wIN, y_wIw, y_sI, ↓reduceIte, Nat.reduceEqDiff, eq_self, true_or, or_true, false_or, or_false, and_true, true_and, false_and, and_false, not_true, not_false_eq_true, tf_T, tf_F, y_up1, y_up2, y_xx, y_nx, y_sJ, y_sR, Int32.reduceLT, y_nxK, y_nxL, y_nxR, y_sJK, y_sJL, y_sJR, y_sJN, y_sRK, y_sRL, y_sRN, Nat.add_zero, z_nat, z_lit, z_lit0, z_lit1, z_in0, z_in1, z_addl0, z_lt, z_ltl, z_llt, z_inj, z_injl, z_add, z_addl, z_ladd, z_mul, z_mull, z_lmul, z_neg, z_negl, z_in, z_inl, z_ltT, z_ltF, z_eqF, z_10, z_01, z_litne, z_ne0, z_0ne, z_ne1, z_1ne, z_lt64, z_02, z_03, z_04, z_05, z_12, z_13, z_14, z_15, z_20, z_21, z_23, z_24, z_25, z_30, z_31, z_32, z_34, z_35, z_40, z_41, z_42, z_43, z_45, z_50, z_51, z_52, z_53, z_54]
    rfl
  have E1 := lp_fst (fun k => am_fx am_P (d + 151) 109 67 [some (.ref 874), some (.int (Int32.ofNat q)), some (.int (Int32.ofNat S)), some (.int (Int32.ofNat st)), some (.int (Int32.ofNat k))] [] (am_wI B (am_up2 i 874 0 0))) (fun s => decide (bt2 S s ∧ ¬ σ.1 (2622 + 49 * s) = 2)) (fun _ => some (.inl (some (.int (-1))), am_wI B (am_up2 i 874 0 0))) (cn σ.1 2621) fun s hs => by
    have eb := zb_tst S hS256 s (by omega)
    have e3 := h.2.1 (2622 + 49 * s) (by omega)
    rw [bk_109_67]
    by_cases g : bt2 S s
    · have eb := eb.mpr g
      by_cases g2 : σ.1 (2622 + 49 * s) = 2
      · rw [decide_eq_false (fun r => r.2 g2), if_neg (show ¬ (false = true) by decide)]
        simp (maxSteps := 1000000) (disch := omega) only [(fun d x0 x1 x2 B i => bk_67_0 d x0 x1 x2 (am_wI B i)), (fun d x0 x1 B i => bk_66_0 d x0 x1 (am_wI B i)), e8, eb, e3, g2, hM, y_ckd, y_ck2d, y_ond, y_onn, y_oI, y_oIx, y_oJ, y_oV, y_oVx, y_oR, y_oRn, y_oRx, y_b0, y_b1, y_bi, y_bid, y_wIK, y_wIL, y_wII, y_wIJ, y_wIR, y_wIN, y_wIw, y_sI, ↓reduceIte, Nat.reduceEqDiff, eq_self, true_or, or_true, false_or, or_false, and_true, true_and, false_and, and_false, not_true, not_false_eq_true, tf_T, tf_F, y_up1, y_up2, y_xx, y_nx, y_sJ, y_sR, Int32.reduceLT, y_nxK, y_nxL, y_nxR, y_sJK, y_sJL, y_sJR, y_sJN, y_sRK, y_sRL, y_sRN, Nat.add_zero, z_nat, z_lit, z_lit0, z_lit1, z_in0, z_in1, z_addl0, z_lt, z_ltl, z_llt, z_inj, z_injl, z_add, z_addl, z_ladd, z_mul, z_mull, z_lmul, z_neg, z_negl, z_in, z_inl, z_ltT, z_ltF, z_eqF, z_10, z_01, z_litne, z_ne0, z_0ne, z_ne1, z_1ne, z_lt64, z_02, z_03, z_04, z_05, z_12, z_13, z_14, z_15, z_20, z_21, z_23, z_24, z_25, z_30, z_31, z_32, z_34, z_35, z_40, z_41, z_42, z_43, z_45, z_50, z_51, z_52, z_53, z_54]
      · rw [decide_eq_true ⟨g, g2⟩, if_pos rfl]
        simp (maxSteps := 1000000) (disch := omega) only [(fun d x0 x1 x2 B i => bk_67_0 d x0 x1 x2 (am_wI B i)), (fun d x0 x1 B i => bk_66_0 d x0 x1 (am_wI B i)), e8, eb, e3, g2, hM, y_ckd, y_ck2d, y_ond, y_onn, y_oI, y_oIx, y_oJ, y_oV, y_oVx, y_oR, y_oRn, y_oRx, y_b0, y_b1, y_bi, y_bid, y_wIK, y_wIL, y_wII, y_wIJ, y_wIR, y_wIN, y_wIw, y_sI, ↓reduceIte, Nat.reduceEqDiff, eq_self, true_or, or_true, false_or, or_false, and_true, true_and, false_and, and_false, not_true, not_false_eq_true, tf_T, tf_F, y_up1, y_up2, y_xx, y_nx, y_sJ, y_sR, Int32.reduceLT, y_nxK, y_nxL, y_nxR, y_sJK, y_sJL, y_sJR, y_sJN, y_sRK, y_sRL, y_sRN, Nat.add_zero, z_nat, z_lit, z_lit0, z_lit1, z_in0, z_in1, z_addl0, z_lt, z_ltl, z_llt, z_inj, z_injl, z_add, z_addl, z_ladd, z_mul, z_mull, z_lmul, z_neg, z_negl, z_in, z_inl, z_ltT, z_ltF, z_eqF, z_10, z_01, z_litne, z_ne0, z_0ne, z_ne1, z_1ne, z_lt64, z_02, z_03, z_04, z_05, z_12, z_13, z_14, z_15, z_20, z_21, z_23, z_24, z_25, z_30, z_31, z_32, z_34, z_35, z_40, z_41, z_42, z_43, z_45, z_50, z_51, z_52, z_53, z_54]
    · have eb : ¬ (Int32.ofNat S >>> (Int32.ofNat s &&& 31)) &&& 1 = 1 := fun r => g (eb.mp r)
      rw [decide_eq_false (fun r => g r.1), if_neg (show ¬ (false = true) by decide)]
      simp (maxSteps := 1000000) (disch := omega) only [(fun d x0 x1 x2 B i => bk_67_0 d x0 x1 x2 (am_wI B i)), (fun d x0 x1 B i => bk_66_0 d x0 x1 (am_wI B i)), e8, eb, e3, hM, y_ckd, y_ck2d, y_ond, y_onn, y_oI, y_oIx, y_oJ, y_oV, y_oVx, y_oR, y_oRn, y_oRx, y_b0, y_b1, y_bi, y_bid, y_wIK, y_wIL, y_wII, y_wIJ, y_wIR, y_wIN, y_wIw, y_sI, ↓reduceIte, Nat.reduceEqDiff, eq_self, true_or, or_true, false_or, or_false, and_true, true_and, false_and, and_false, not_true, not_false_eq_true, tf_T, tf_F, y_up1, y_up2, y_xx, y_nx, y_sJ, y_sR, Int32.reduceLT, y_nxK, y_nxL, y_nxR, y_sJK, y_sJL, y_sJR, y_sJN, y_sRK, y_sRL, y_sRN, Nat.add_zero, z_nat, z_lit, z_lit0, z_lit1, z_in0, z_in1, z_addl0, z_lt, z_ltl, z_llt, z_inj, z_injl, z_add, z_addl, z_ladd, z_mul, z_mull, z_lmul, z_neg, z_negl, z_in, z_inl, z_ltT, z_ltF, z_eqF, z_10, z_01, z_litne, z_ne0, z_0ne, z_ne1, z_1ne, z_lt64, z_02, z_03, z_04, z_05, z_12, z_13, z_14, z_15, z_20, z_21, z_23, z_24, z_25, z_30, z_31, z_32, z_34, z_35, z_40, z_41, z_42, z_43, z_45, z_50, z_51, z_52, z_53, z_54]
  rw [E0]
  unfold dkv afl
  cases ef : fst0 (fun s => decide (bt2 S s ∧ ¬ σ.1 (2622 + 49 * s) = 2)) (cn σ.1 2621) with
  | some k =>
    rw [ef] at E1
    exact MRs_0 h E1
  | none =>
  rw [ef] at E1
  have E1 : am_fx am_P (d + 151) 109 67 [some (.ref 874), some (.int (Int32.ofNat q)), some (.int (Int32.ofNat S)), some (.int (Int32.ofNat st)), some (.int (Int32.ofNat 0))] [] (am_wI B (am_up2 i 874 0 0)) = am_fx am_P (d + 151) 109 67 [some (.ref 874), some (.int (Int32.ofNat q)), some (.int (Int32.ofNat S)), some (.int (Int32.ofNat st)), some (.int (Int32.ofNat (cn σ.1 2621)))] [] (am_wI B (am_up2 i 874 0 0)) := E1
  rw [if_pos (show (Option.isNone (none : Option Nat)) = true from rfl), E1]
  obtain ⟨i2, E2, e26, f2⟩ := m_moors (B := B) (w := σ.1) (d := d + 147 - pcn S) (st := st) (q := q) hM hW (by omega) hst (pcn S) S 0 301 (am_up2 (am_up2 i 874 0 0) 874 26 (-1)) (fun z hz => by rw [y_up2 (by omega)]; exact hw z hz) hS256 rfl (by omega) (by omega) (y_up1 rfl rfl)
  rw [show d + 147 - pcn S + pcn S + 3 = d + 150 by omega] at E2
  have hF301 : Fo (Gd σ.1 q st) (pcn S) S 0 ≤ 301 := by
    cases pcn S with
    | zero => show 0 ≤ 301; omega
    | succ k => exact mnS_301
  rw [Nat.min_eq_right hF301] at e26
  refine MRs_s (i' := i2) h ?_ (by rw [f2 _ _ (by omega), y_up2 (by omega), y_up1 rfl rfl]) fun q k h1 h2 => by rw [f2 _ _ (by omega), y_up2 (by omega), y_up2 (by omega)]
  rw [bk_109_67]
  have z0 : (0 : Int32) = Int32.ofNat 0 := rfl
  rw [← z0] at E2
  simp (maxSteps := 1000000) (disch := omega) only [e8, E2, e26, hM, y_ckd, y_ck2d, y_ond, y_onn, y_oI, y_oIx, y_oJ, y_oV, y_oVx, y_oR, y_oRn, y_oRx, y_b0, y_b1, y_bi, y_bid, y_wIK, y_wIL, y_wII, y_wIJ, y_wIR, y_wIN, y_wIw, y_sI, ↓reduceIte, Nat.reduceEqDiff, eq_self, true_or, or_true, false_or, or_false, and_true, true_and, false_and, and_false, not_true, not_false_eq_true, tf_T, tf_F, y_up1, y_up2, y_xx, y_nx, y_sJ, y_sR, Int32.reduceLT, y_nxK, y_nxL, y_nxR, y_sJK, y_sJL, y_sJR, y_sJN, y_sRK, y_sRL, y_sRN, Nat.add_zero, z_nat, z_lit, z_lit0, z_lit1, z_in0, z_in1, z_addl0, z_lt, z_ltl, z_llt, z_inj, z_injl, z_add, z_addl, z_ladd, z_mul, z_mull, z_lmul, z_neg, z_negl, z_in, z_inl, z_ltT, z_ltF, z_eqF, z_10, z_01, z_litne, z_ne0, z_0ne, z_ne1, z_1ne, z_lt64, z_02, z_03, z_04, z_05, z_12, z_13, z_14, z_15, z_20, z_21, z_23, z_24, z_25, z_30, z_31, z_32, z_34, z_35, z_40, z_41, z_42, z_43, z_45, z_50, z_51, z_52, z_53, z_54]
theorem k_docks (h : Sim B i σ) (hs : Sc B i L j) (hO : am_K B 892 = 22 ∧ am_L B 892 = 1) : Stq B i d 2593 j := by
  have hcd := h.2.2.1.1.2.2.2.2.1
  have hd4 := hcd.2
  by_cases g : ¬ i 0 (j + 1) < 0 ∧ i 0 (j + 1) < σ.1 3014
  rotate_left
  · exact kx_33_1 h hs hO (f_docks_x0 (d := d + 48) h.1 g) fun B0 i0 h0 => m_docks_x0 (d := d + 49) h0 hcd g
  obtain ⟨q, e, hq⟩ := nat_ck hcd (by omega) g
  by_cases g1 : dkOk σ.1 (i 0 (j + 2)) (i 0 (j + 3))
  rotate_left
  · exact kx_33_2 h hs hO (by rw [e]; exact f_docks_x1 (d := d + 48) h.1 h.2.2.1 hq g1) fun B0 i0 h0 => by rw [e]; exact m_docks_x1 (d := d + 49) h0 h.2.2.1 hq g1
  obtain ⟨⟨S, hS, e2, h4⟩, h5, h6⟩ := g1
  obtain ⟨st, e3, h7⟩ := z_le 60 (by omega) (lt_of_not1 h5) h6
  have h8 : 1 ≤ st := by
    rw [e3, show (1 : Int32) = Int32.ofNat 1 from rfl, z_lt (by omega) (by omega)] at h5
    omega
  exact kk_33 h hs hO h.2.2 (by rw [e, e2, e3]; exact f_docks (d := d + 48) h.1 h.2.2.1 hq hS h4 h8 h7) fun B0 i0 h0 => by rw [e, e2, e3]; exact m_docks (d := d + 48) h0 h.2.2.1 hq hS h4 h8 h7
end DocksK
