/-! A NEW PIECE; BUY: made by wip/whole/math/67.py. -/
/-- a world with one piece more -/
def pcw (w : Nat → Int32) (c : Nat) (f : Nat → Int32) : Nat → Int32 := fun s => if 461 + 18 * c ≤ s ∧ s < 461 + 18 * c + 18 then f (s - (461 + 18 * c)) else if s = 460 then Int32.ofNat (c + 1) else w s
/-- what is told of a new piece -/
def npf (kd pl ln th bd so dr ro tr bo sh co : Int32) : Nat → Int32 := fun k => if k = 0 then kd else if k = 1 then pl else if k = 2 then ln else if k = 3 then th else if k = 4 then bd else if k = 5 then so else if k = 6 then dr else if k = 7 then ro else if k = 8 then 0 else if k = 9 then tr else if k = 10 then bo else if k = 11 then -1 else if k = 12 then -1 else if k = 13 then 0 else if k = 14 then sh else if k = 15 then 0 else if k = 16 then 0 else co
section NewPc
variable {B B1 : am_A} {i i' i1 : Nat → Nat → Int32} {σ σ' : Sg} {w w' : Nat → Int32} {f : Nat → Int32} {L j d b c : Nat} {x y z u v t : Int32}
theorem pcw_at {k : Nat} (h : k < 18) : pcw w c f (461 + 18 * c + k) = f k := by
  unfold pcw
  rw [if_pos (by omega), Nat.add_sub_cancel_left]
theorem pcw_0 : pcw w c f (461 + 18 * c) = f 0 := pcw_at (k := 0) (by omega)
theorem pcw_n : pcw w c f 460 = Int32.ofNat (c + 1) := by
  unfold pcw
  rw [if_neg (by omega), if_pos rfl]
theorem pcw_ne {s : Nat} (h : s < 460 ∨ (460 < s ∧ s < 461 + 18 * c) ∨ 461 + 18 * c + 18 ≤ s) : pcw w c f s = w s := by
  unfold pcw
  rw [if_neg (by omega), if_neg (by omega)]
theorem Rep_new (h : Rep B i b w) (hb : b + 260 ≤ 874) (hc : w 460 = Int32.ofNat c) (c6 : c < 120) (hi : ∀ q k, (q = b → k ≠ 5) → q ≠ b + 92 + c → i' q k = i q k) (h5 : i' b 5 = Int32.ofNat (c + 1)) (n : PcR i' (b + 92 + c) (pcw w c f) (461 + 18 * c)) : Rep B i' b (pcw w c f) := by
  have hh : ∀ t, hrt (pcw w c f) t = hrt w t := hrt_fr fun t ht => pcw_ne (by omega)
  refine Rep_piece h (Le.rf B) hb rfl ⟨h5.trans pcw_n.symm, fun t ht t8 => ?_⟩ (fun q k h1 h2 h3 h4 => hi q k h2 (by omega)) (fun q h1 _ => funext fun k => hi q k (by omega) (by omega)) fun z h1 h2 => pcw_ne (by omega)
  rw [cn_of pcw_n (by omega)] at ht
  by_cases e : t = c
  · subst e
    exact n
  · obtain ⟨a1, a2, a3, a4, a5, a6, a7, a8, a9, a10, a11, a12, a13, a14, a15, a16, a17, a18, a19⟩ := h.2.2.1.2 t (by rw [cn_of hc (by omega)]; omega) t8
    refine ⟨?_, ?_, ?_, ?_, ?_, ?_, ?_, ?_, ?_, ?_, ?_, ?_, ?_, ?_, ?_, ?_, ?_, fun e => ?_, ?_⟩
    all_goals try (rw [hi _ _ (by omega) (by omega), pcw_ne (by omega)]; assumption)
    · rw [hi _ _ (by omega) (by omega), pcw_ne (by omega)]
      exact a18 (by rw [pcw_ne (by omega)] at e; exact e)
    · rw [hi _ _ (by omega) (by omega), pcw_ne (by omega), hh]
      exact a19
theorem lng_new (hc : w 460 = Int32.ofNat c) (c6 : c < 120) : lng (pcw w c f) = lng w + lnt (pcw w c f) c := by
  rw [lng_lnt, lng_lnt, cn_of pcw_n (by omega), cn_of hc (by omega)]
  show itr (fun p a => a + lnt (pcw w c f) p) c 0 + lnt (pcw w c f) c = _
  refine congrArg (· + lnt (pcw w c f) c) (itr_congr fun k hk a => ?_)
  refine congrArg (a + ·) ?_
  unfold lnt cn
  rw [pcw_ne (by omega), pcw_ne (by omega), pcw_ne (by omega)]
theorem Wd_new (h : Wd w) (hc : w 460 = Int32.ofNat c) (c6 : c < 120) (n : PcW (pcw w c f) (461 + 18 * c)) (hl : lng (pcw w c f) ≤ 100 * (c + 1)) : Wd (pcw w c f) := by
  obtain ⟨h1, h2, h3, h4, h5, h6, h7, h8, h9, h10, h11⟩ := h
  have k : ∀ s, s < 460 ∨ (460 < s ∧ s < 461 + 18 * c) ∨ 461 + 18 * c + 18 ≤ s → pcw w c f s = w s := fun s hs => pcw_ne hs
  have k46 : pcw w c f 460 = Int32.ofNat (c + 1) := pcw_n
  generalize pcw w c f = w' at k k46 n hl ⊢
  have hcn := cn_of hc (by omega)
  obtain ⟨b1, b2, b3, b4, b5, b6, b7, b8, b9, b10⟩ := h1
  have kk : ∀ s, s < 460 ∨ 2621 ≤ s → w' s = w s := fun s hs => k s (by omega)
  have e21 : cn w' 2621 = cn w 2621 := by unfold cn; rw [kk _ (by omega)]
  refine ⟨⟨isc_fr b1 (kk _ (by omega)), isc_fr b2 (kk _ (by omega)), isc_of k46 (by omega) (by omega), isc_fr b4 (kk _ (by omega)), isc_fr b5 (kk _ (by omega)), isc_fr b6 (kk _ (by omega)), isc_fr b7 (kk _ (by omega)), isc_fr b8 (kk _ (by omega)), isc_fr b9 (kk _ (by omega)), isc_fr b10 (kk _ (by omega))⟩, WdR_fr h2 fun s _ => kk s (by omega), WdT_fr h3 fun s _ => kk s (by omega), ⟨fun p hp p6 => ?_, ?_⟩, ⟨fun s hs s8 => ?_, fun s hs s8 => ?_⟩, WdG_fr h6 fun s _ => kk s (by omega), WdE_fr h7 fun s _ => kk s (by omega), WdM_fr h8 fun s _ => kk s (by omega), WdX_fr h9 fun s _ => kk s (by omega), WdZ_fr h10 fun s _ => kk s (by omega), ?_⟩
  · rw [cn_of k46 (by omega)] at hp
    by_cases e : p = c
    · subst e
      exact n
    · exact PcW_fr (h4.1 p (by omega) p6) fun s hs => k s (by omega)
  · rw [cn_of k46 (by omega)]
    exact hl
  · obtain ⟨a1, a2, a3, a4, a5, a6, a7, a8, a9⟩ := h5.1 s (by omega) s8
    have e8 : cn w' (2622 + 49 * s + 8) = cn w (2622 + 49 * s + 8) := by unfold cn; rw [kk _ (by omega)]
    refine ⟨?_, ?_, ?_, ?_, ?_, ?_, ?_, isc_fr a8 (kk _ (by omega)), fun m hm m8 => ?_⟩
    · rw [kk _ (by omega)]
      exact a1
    · rw [kk _ (by omega)]
      exact a2
    · rw [kk _ (by omega)]
      exact a3
    · rw [kk (2622 + 49 * s) (by omega), kk (2622 + 49 * s + 4) (by omega), kk 3014 (by omega)]
      exact a4
    · rw [kk (2622 + 49 * s) (by omega), kk (2622 + 49 * s + 4) (by omega)]
      exact a5
    · rw [kk _ (by omega)]
      exact a6
    · rw [kk _ (by omega)]
      exact a7
    · rw [kk (2622 + 49 * s + 9 + 5 * m) (by omega), kk (2622 + 49 * s + 9 + 5 * m + 4) (by omega), k46]
      have q := a9 m (by omega) m8
      rw [hc] at q
      exact ⟨q.1, q.2.imp id fun z => ⟨z.1, z_lt1 (by omega) z.2⟩⟩
  · rw [kk _ (by omega), kk _ (by omega), kk _ (by omega), kk _ (by omega)]
    exact h5.2 s (by omega) s8
  · intro s hs s8 m hm m8 g hp
    have e8 : cn w' (2622 + 49 * s + 8) = cn w (2622 + 49 * s + 8) := by unfold cn; rw [kk _ (by omega)]
    have e4 : cn w' (2622 + 49 * s + 9 + 5 * m + 4) = cn w (2622 + 49 * s + 9 + 5 * m + 4) := by unfold cn; rw [kk _ (by omega)]
    rw [e4] at hp ⊢
    rw [kk _ (by omega)] at g
    have q := (nn_of ((h5.1 s (by omega) s8).2.2.2.2.2.2.2.2 m (by omega) m8).2 hc (by omega) g).2
    rw [k _ (by omega), k _ (by omega), k _ (by omega)]
    exact h11 s (by omega) s8 m (by omega) m8 g hp
theorem m_begins (hM : Md B) (hw : ∀ s, s < 12042 → i 875 s = w s) (hc : w 460 = Int32.ofNat c) (c6 : c < 120) : ∃ j, am_fx am_P (d + 3) 27 0 [some (.ref 874), some (.int x), some (.int y), some (.int z), some (.int u), some (.int v), some (.int t), none, none] [] (am_wI B i) = some (.inl (some (.int (Int32.ofNat c))), am_wI B j) ∧ (∀ s, s < 12042 → j 875 s = pcw w c (npf x 1 z u v y 0 0 t (w 0) (-1) 0) s) ∧ ∀ q k, q ≠ 875 → j q k = i q k := by
  have ec : i 875 460 = Int32.ofNat c := (hw _ (by omega)).trans hc
  obtain ⟨j, E, hj, hf⟩ := lp_inv (fun k j => am_fx am_P (d + 3) 27 25 [some (.ref 874), some (.int x), some (.int y), some (.int z), some (.int u), some (.int v), some (.int t), some (.int (Int32.ofNat c)), some (.int (Int32.ofNat k))] [] (am_wI B j)) (fun k j => (∀ s, j 875 s = if 461 + 18 * c ≤ s ∧ s < 461 + 18 * c + k then 0 else am_up2 i 875 460 (Int32.ofNat (c + 1)) 875 s) ∧ ∀ q k', q ≠ 875 → j q k' = i q k') 18 (fun k j hk hI => by
    refine ⟨am_up2 j 875 (461 + 18 * c + k) 0, ?_, fun s => ?_, fun q k' hq => ?_⟩
    · rw [bk_27_25]
      simp (disch := omega) only [(fun d x0 x1 x2 x3 B i => bk_25_0 d x0 x1 x2 x3 (am_wI B i)), (fun d x0 x1 B i => bk_23_0 d x0 x1 (am_wI B i)), hM, y_ckd, y_ck2d, y_ond, y_onn, y_oI, y_oIx, y_oJ, y_oV, y_oVx, y_oR, y_oRn, y_oRx, y_b0, y_b1, y_bi, y_bid, y_wIK, y_wIL, y_wII, y_wIJ, y_wIR, y_wIN, y_wIw, y_sI, ↓reduceIte, Nat.reduceEqDiff, eq_self, true_or, or_true, false_or, or_false, and_true, true_and, false_and, and_false, not_true, not_false_eq_true, tf_T, tf_F, y_up1, y_up2, y_xx, y_nx, y_sJ, y_sR, Int32.reduceLT, y_nxK, y_nxL, y_nxR, y_sJK, y_sJL, y_sJR, y_sJN, y_sRK, y_sRL, y_sRN, Nat.add_zero, z_nat, z_lit, z_lit0, z_lit1, z_in0, z_in1, z_addl0, z_lt, z_ltl, z_llt, z_inj, z_injl, z_add, z_addl, z_ladd, z_mul, z_mull, z_lmul, z_neg, z_negl, z_in, z_inl, z_ltT, z_ltF, z_eqF, z_10, z_01, z_litne, z_ne0, z_0ne, z_ne1, z_1ne, z_lt64, z_02, z_03, z_04, z_05, z_12, z_13, z_14, z_15, z_20, z_21, z_23, z_24, z_25, z_30, z_31, z_32, z_34, z_35, z_40, z_41, z_42, z_43, z_45, z_50, z_51, z_52, z_53, z_54]
    · by_cases e : s = 461 + 18 * c + k
      · rw [y_up1 rfl e, if_pos (by omega)]
      · rw [y_up2 (by omega), hI.1 s]
        by_cases e2 : 461 + 18 * c ≤ s ∧ s < 461 + 18 * c + k
        · rw [if_pos e2, if_pos (by omega)]
        · rw [if_neg e2, if_neg (by omega)]
    · rw [y_up2 (by omega)]
      exact hI.2 q k' hq) (am_up2 i 875 460 (Int32.ofNat (c + 1))) ⟨fun s => by rw [if_neg (by omega)], fun q k' hq => y_up2 (by omega)⟩
  have hz : ∀ k, k < 18 → j 875 (461 + 18 * c + k) = 0 := fun k hk => (hj _).trans (if_pos (by omega))
  have h0 : j 875 0 = w 0 := by rw [hj, if_neg (by omega), y_up2 (by omega)]; exact hw 0 (by omega)
  refine ⟨am_up2 (am_up2 (am_up2 (am_up2 (am_up2 (am_up2 (am_up2 (am_up2 (am_up2 (am_up2 (am_up2 j 875 (461 + 18 * c) x) 875 (461 + 18 * c + 1) 1) 875 (461 + 18 * c + 2) z) 875 (461 + 18 * c + 3) u) 875 (461 + 18 * c + 4) v) 875 (461 + 18 * c + 5) y) 875 (461 + 18 * c + 9) t) 875 (461 + 18 * c + 10) (w 0)) 875 (461 + 18 * c + 11) (-1)) 875 (461 + 18 * c + 12) (-1)) 875 (461 + 18 * c + 14) (-1), ?_, fun s hs => ?_, fun q k hq => by simp (disch := omega) only [y_up2]; exact hf q k hq⟩
  · rw [bk_27_0]
    simp (disch := omega) only [ec, hM, y_ckd, y_ck2d, y_ond, y_onn, y_oI, y_oIx, y_oJ, y_oV, y_oVx, y_oR, y_oRn, y_oRx, y_b0, y_b1, y_bi, y_bid, y_wIK, y_wIL, y_wII, y_wIJ, y_wIR, y_wIN, y_wIw, y_sI, ↓reduceIte, Nat.reduceEqDiff, eq_self, true_or, or_true, false_or, or_false, and_true, true_and, false_and, and_false, not_true, not_false_eq_true, tf_T, tf_F, y_up1, y_up2, y_xx, y_nx, y_sJ, y_sR, Int32.reduceLT, y_nxK, y_nxL, y_nxR, y_sJK, y_sJL, y_sJR, y_sJN, y_sRK, y_sRL, y_sRN, Nat.add_zero, z_nat, z_lit, z_lit0, z_lit1, z_in0, z_in1, z_addl0, z_lt, z_ltl, z_llt, z_inj, z_injl, z_add, z_addl, z_ladd, z_mul, z_mull, z_lmul, z_neg, z_negl, z_in, z_inl, z_ltT, z_ltF, z_eqF, z_10, z_01, z_litne, z_ne0, z_0ne, z_ne1, z_1ne, z_lt64, z_02, z_03, z_04, z_05, z_12, z_13, z_14, z_15, z_20, z_21, z_23, z_24, z_25, z_30, z_31, z_32, z_34, z_35, z_40, z_41, z_42, z_43, z_45, z_50, z_51, z_52, z_53, z_54]
    refine E.trans ?_
    rw [bk_27_25]
    simp (maxSteps := 2000000) (disch := omega) only [(fun d x0 x1 x2 x3 x4 x5 x6 B i => bk_27_0 d x0 x1 x2 x3 x4 x5 x6 (am_wI B i)), (fun d x0 x2 x5 x6 x7 B i => bk_27_80 d x0 x2 x5 x6 x7 (am_wI B i)), (fun d x0 x7 B i => bk_27_119 d x0 x7 (am_wI B i)), (fun d x0 x1 x2 x3 B i => bk_25_0 d x0 x1 x2 x3 (am_wI B i)), (fun d x0 x1 B i => bk_23_0 d x0 x1 (am_wI B i)), (fun d x0 B i => bk_13_0 d x0 (am_wI B i)), h0, hM, y_ckd, y_ck2d, y_ond, y_onn, y_oI, y_oIx, y_oJ, y_oV, y_oVx, y_oR, y_oRn, y_oRx, y_b0, y_b1, y_bi, y_bid, y_wIK, y_wIL, y_wII, y_wIJ, y_wIR, y_wIN, y_wIw, y_sI, ↓reduceIte, Nat.reduceEqDiff, eq_self, true_or, or_true, false_or, or_false, and_true, true_and, false_and, and_false, not_true, not_false_eq_true, tf_T, tf_F, y_up1, y_up2, y_xx, y_nx, y_sJ, y_sR, Int32.reduceLT, y_nxK, y_nxL, y_nxR, y_sJK, y_sJL, y_sJR, y_sJN, y_sRK, y_sRL, y_sRN, Nat.add_zero, z_nat, z_lit, z_lit0, z_lit1, z_in0, z_in1, z_addl0, z_lt, z_ltl, z_llt, z_inj, z_injl, z_add, z_addl, z_ladd, z_mul, z_mull, z_lmul, z_neg, z_negl, z_in, z_inl, z_ltT, z_ltF, z_eqF, z_10, z_01, z_litne, z_ne0, z_0ne, z_ne1, z_1ne, z_lt64, z_02, z_03, z_04, z_05, z_12, z_13, z_14, z_15, z_20, z_21, z_23, z_24, z_25, z_30, z_31, z_32, z_34, z_35, z_40, z_41, z_42, z_43, z_45, z_50, z_51, z_52, z_53, z_54]
  · by_cases e : 461 + 18 * c ≤ s ∧ s < 461 + 18 * c + 18
    · obtain ⟨k, rfl⟩ : ∃ k, s = 461 + 18 * c + k := ⟨s - (461 + 18 * c), by omega⟩
      have hk : k < 18 := by omega
      rw [pcw_at hk]
      have h : k = 0 ∨ k = 1 ∨ k = 2 ∨ k = 3 ∨ k = 4 ∨ k = 5 ∨ k = 6 ∨ k = 7 ∨ k = 8 ∨ k = 9 ∨ k = 10 ∨ k = 11 ∨ k = 12 ∨ k = 13 ∨ k = 14 ∨ k = 15 ∨ k = 16 ∨ k = 17 := by omega
      rcases h with rfl | rfl | rfl | rfl | rfl | rfl | rfl | rfl | rfl | rfl | rfl | rfl | rfl | rfl | rfl | rfl | rfl | rfl <;> simp (disch := omega) only [y_up1, y_up2, hz, Nat.add_zero] <;> rfl
    · simp (disch := omega) only [y_up2]
      rw [hj, if_neg e]
      by_cases e2 : s = 460
      · rw [y_up1 rfl e2, e2, pcw_n]
      · rw [y_up2 (by omega), pcw_ne (by omega)]
        exact hw s hs
theorem f_buy_x0 (h : CR B i σ) (g : ¬ ((¬ x < 0 ∧ ¬ 3 < x) ∧ (¬ y < 0 ∧ ¬ 2 < y) ∧ (x = 3 → y = 0) ∧ (¬ z < 5 ∧ ¬ 100 < z) ∧ (¬ u < 1 ∧ ¬ 60 < u) ∧ bnd x v)) : FRs B i σ (am_fx am_P (d + 150) 296 0 [some (.ref 64), some (.int x), some (.int y), some (.int z), some (.int u), some (.int v), none] [] (am_wI B i)) (.inr 2) := by
  refine FRs_x h ?_
  have hF : Fc B := h.1.1
  have hY : Yd B 94 := h.1.2.1
  rw [bk_296_0]
  by_cases a : ¬ x < 0 ∧ ¬ 3 < x
  rotate_left
  · simp (maxSteps := 2000000) (disch := omega) only [(fun d x0 x1 x2 x3 x4 x5 B i => bk_296_0 d x0 x1 x2 x3 x4 x5 (am_wI B i)), (fun d x0 x1 x2 x3 x4 x5 s0 B i => bk_296_32 d x0 x1 x2 x3 x4 x5 s0 (am_wI B i)), (fun d x0 x1 x2 x3 x4 x5 s0 B i => bk_296_70 d x0 x1 x2 x3 x4 x5 s0 (am_wI B i)), (fun d x0 x1 x2 x3 x4 x5 B i => bk_296_65 d x0 x1 x2 x3 x4 x5 (am_wI B i)), (fun d x0 x1 x2 x3 x4 x5 x6 B i => bk_296_98 d x0 x1 x2 x3 x4 x5 x6 (am_wI B i)), c_ckN0, c_ckN1, hF, hY, c_within0 a, y_ckd, y_ck2d, y_ond, y_onn, y_oI, y_oIx, y_oJ, y_oV, y_oVx, y_oR, y_oRn, y_oRx, y_b0, y_b1, y_bi, y_bid, y_wIK, y_wIL, y_wII, y_wIJ, y_wIR, y_wIN, y_wIw, y_sI, ↓reduceIte, Nat.reduceEqDiff, eq_self, true_or, or_true, false_or, or_false, and_true, true_and, false_and, and_false, not_true, not_false_eq_true, tf_T, tf_F, y_up1, y_up2, y_xx, y_nx, y_sJ, y_sR, Int32.reduceLT, y_nxK, y_nxL, y_nxR, y_sJK, y_sJL, y_sJR, y_sJN, y_sRK, y_sRL, y_sRN, Nat.add_zero, z_nat, z_lit, z_lit0, z_lit1, z_in0, z_in1, z_addl0, z_lt, z_ltl, z_llt, z_inj, z_injl, z_add, z_addl, z_ladd, z_mul, z_mull, z_lmul, z_neg, z_negl, z_in, z_inl, z_ltT, z_ltF, z_eqF, z_10, z_01, z_litne, z_ne0, z_0ne, z_ne1, z_1ne, z_lt64, z_02, z_03, z_04, z_05, z_12, z_13, z_14, z_15, z_20, z_21, z_23, z_24, z_25, z_30, z_31, z_32, z_34, z_35, z_40, z_41, z_42, z_43, z_45, z_50, z_51, z_52, z_53, z_54]
  by_cases b : ¬ y < 0 ∧ ¬ 2 < y
  rotate_left
  · simp (maxSteps := 2000000) (disch := omega) only [(fun d x0 x1 x2 x3 x4 x5 B i => bk_296_0 d x0 x1 x2 x3 x4 x5 (am_wI B i)), (fun d x0 x1 x2 x3 x4 x5 s0 B i => bk_296_32 d x0 x1 x2 x3 x4 x5 s0 (am_wI B i)), (fun d x0 x1 x2 x3 x4 x5 s0 B i => bk_296_70 d x0 x1 x2 x3 x4 x5 s0 (am_wI B i)), (fun d x0 x1 x2 x3 x4 x5 B i => bk_296_65 d x0 x1 x2 x3 x4 x5 (am_wI B i)), (fun d x0 x1 x2 x3 x4 x5 x6 B i => bk_296_98 d x0 x1 x2 x3 x4 x5 x6 (am_wI B i)), c_ckN0, c_ckN1, hF, hY, c_within1 a, c_within0 b, y_ckd, y_ck2d, y_ond, y_onn, y_oI, y_oIx, y_oJ, y_oV, y_oVx, y_oR, y_oRn, y_oRx, y_b0, y_b1, y_bi, y_bid, y_wIK, y_wIL, y_wII, y_wIJ, y_wIR, y_wIN, y_wIw, y_sI, ↓reduceIte, Nat.reduceEqDiff, eq_self, true_or, or_true, false_or, or_false, and_true, true_and, false_and, and_false, not_true, not_false_eq_true, tf_T, tf_F, y_up1, y_up2, y_xx, y_nx, y_sJ, y_sR, Int32.reduceLT, y_nxK, y_nxL, y_nxR, y_sJK, y_sJL, y_sJR, y_sJN, y_sRK, y_sRL, y_sRN, Nat.add_zero, z_nat, z_lit, z_lit0, z_lit1, z_in0, z_in1, z_addl0, z_lt, z_ltl, z_llt, z_inj, z_injl, z_add, z_addl, z_ladd, z_mul, z_mull, z_lmul, z_neg, z_negl, z_in, z_inl, z_ltT, z_ltF, z_eqF, z_10, z_01, z_litne, z_ne0, z_0ne, z_ne1, z_1ne, z_lt64, z_02, z_03, z_04, z_05, z_12, z_13, z_14, z_15, z_20, z_21, z_23, z_24, z_25, z_30, z_31, z_32, z_34, z_35, z_40, z_41, z_42, z_43, z_45, z_50, z_51, z_52, z_53, z_54]
  by_cases e : ¬ z < 5 ∧ ¬ 100 < z
  rotate_left
  · by_cases k : x = 3
    · by_cases k2 : y = 0
      · simp (maxSteps := 2000000) (disch := omega) only [(fun d x0 x1 x2 x3 x4 x5 B i => bk_296_0 d x0 x1 x2 x3 x4 x5 (am_wI B i)), (fun d x0 x1 x2 x3 x4 x5 s0 B i => bk_296_32 d x0 x1 x2 x3 x4 x5 s0 (am_wI B i)), (fun d x0 x1 x2 x3 x4 x5 s0 B i => bk_296_70 d x0 x1 x2 x3 x4 x5 s0 (am_wI B i)), (fun d x0 x1 x2 x3 x4 x5 B i => bk_296_65 d x0 x1 x2 x3 x4 x5 (am_wI B i)), (fun d x0 x1 x2 x3 x4 x5 x6 B i => bk_296_98 d x0 x1 x2 x3 x4 x5 x6 (am_wI B i)), c_ckN0, c_ckN1, hF, hY, c_within1 a, c_within1 b, k, k2, c_within0 e, y_ckd, y_ck2d, y_ond, y_onn, y_oI, y_oIx, y_oJ, y_oV, y_oVx, y_oR, y_oRn, y_oRx, y_b0, y_b1, y_bi, y_bid, y_wIK, y_wIL, y_wII, y_wIJ, y_wIR, y_wIN, y_wIw, y_sI, ↓reduceIte, Nat.reduceEqDiff, eq_self, true_or, or_true, false_or, or_false, and_true, true_and, false_and, and_false, not_true, not_false_eq_true, tf_T, tf_F, y_up1, y_up2, y_xx, y_nx, y_sJ, y_sR, Int32.reduceLT, y_nxK, y_nxL, y_nxR, y_sJK, y_sJL, y_sJR, y_sJN, y_sRK, y_sRL, y_sRN, Nat.add_zero, z_nat, z_lit, z_lit0, z_lit1, z_in0, z_in1, z_addl0, z_lt, z_ltl, z_llt, z_inj, z_injl, z_add, z_addl, z_ladd, z_mul, z_mull, z_lmul, z_neg, z_negl, z_in, z_inl, z_ltT, z_ltF, z_eqF, z_10, z_01, z_litne, z_ne0, z_0ne, z_ne1, z_1ne, z_lt64, z_02, z_03, z_04, z_05, z_12, z_13, z_14, z_15, z_20, z_21, z_23, z_24, z_25, z_30, z_31, z_32, z_34, z_35, z_40, z_41, z_42, z_43, z_45, z_50, z_51, z_52, z_53, z_54]
      · simp (maxSteps := 2000000) (disch := omega) only [(fun d x0 x1 x2 x3 x4 x5 B i => bk_296_0 d x0 x1 x2 x3 x4 x5 (am_wI B i)), (fun d x0 x1 x2 x3 x4 x5 s0 B i => bk_296_32 d x0 x1 x2 x3 x4 x5 s0 (am_wI B i)), (fun d x0 x1 x2 x3 x4 x5 s0 B i => bk_296_70 d x0 x1 x2 x3 x4 x5 s0 (am_wI B i)), (fun d x0 x1 x2 x3 x4 x5 B i => bk_296_65 d x0 x1 x2 x3 x4 x5 (am_wI B i)), (fun d x0 x1 x2 x3 x4 x5 x6 B i => bk_296_98 d x0 x1 x2 x3 x4 x5 x6 (am_wI B i)), c_ckN0, c_ckN1, hF, hY, c_within1 a, c_within1 b, k, k2, y_ckd, y_ck2d, y_ond, y_onn, y_oI, y_oIx, y_oJ, y_oV, y_oVx, y_oR, y_oRn, y_oRx, y_b0, y_b1, y_bi, y_bid, y_wIK, y_wIL, y_wII, y_wIJ, y_wIR, y_wIN, y_wIw, y_sI, ↓reduceIte, Nat.reduceEqDiff, eq_self, true_or, or_true, false_or, or_false, and_true, true_and, false_and, and_false, not_true, not_false_eq_true, tf_T, tf_F, y_up1, y_up2, y_xx, y_nx, y_sJ, y_sR, Int32.reduceLT, y_nxK, y_nxL, y_nxR, y_sJK, y_sJL, y_sJR, y_sJN, y_sRK, y_sRL, y_sRN, Nat.add_zero, z_nat, z_lit, z_lit0, z_lit1, z_in0, z_in1, z_addl0, z_lt, z_ltl, z_llt, z_inj, z_injl, z_add, z_addl, z_ladd, z_mul, z_mull, z_lmul, z_neg, z_negl, z_in, z_inl, z_ltT, z_ltF, z_eqF, z_10, z_01, z_litne, z_ne0, z_0ne, z_ne1, z_1ne, z_lt64, z_02, z_03, z_04, z_05, z_12, z_13, z_14, z_15, z_20, z_21, z_23, z_24, z_25, z_30, z_31, z_32, z_34, z_35, z_40, z_41, z_42, z_43, z_45, z_50, z_51, z_52, z_53, z_54]
    · simp (maxSteps := 2000000) (disch := omega) only [(fun d x0 x1 x2 x3 x4 x5 B i => bk_296_0 d x0 x1 x2 x3 x4 x5 (am_wI B i)), (fun d x0 x1 x2 x3 x4 x5 s0 B i => bk_296_32 d x0 x1 x2 x3 x4 x5 s0 (am_wI B i)), (fun d x0 x1 x2 x3 x4 x5 s0 B i => bk_296_70 d x0 x1 x2 x3 x4 x5 s0 (am_wI B i)), (fun d x0 x1 x2 x3 x4 x5 B i => bk_296_65 d x0 x1 x2 x3 x4 x5 (am_wI B i)), (fun d x0 x1 x2 x3 x4 x5 x6 B i => bk_296_98 d x0 x1 x2 x3 x4 x5 x6 (am_wI B i)), c_ckN0, c_ckN1, hF, hY, c_within1 a, c_within1 b, k, c_within0 e, y_ckd, y_ck2d, y_ond, y_onn, y_oI, y_oIx, y_oJ, y_oV, y_oVx, y_oR, y_oRn, y_oRx, y_b0, y_b1, y_bi, y_bid, y_wIK, y_wIL, y_wII, y_wIJ, y_wIR, y_wIN, y_wIw, y_sI, ↓reduceIte, Nat.reduceEqDiff, eq_self, true_or, or_true, false_or, or_false, and_true, true_and, false_and, and_false, not_true, not_false_eq_true, tf_T, tf_F, y_up1, y_up2, y_xx, y_nx, y_sJ, y_sR, Int32.reduceLT, y_nxK, y_nxL, y_nxR, y_sJK, y_sJL, y_sJR, y_sJN, y_sRK, y_sRL, y_sRN, Nat.add_zero, z_nat, z_lit, z_lit0, z_lit1, z_in0, z_in1, z_addl0, z_lt, z_ltl, z_llt, z_inj, z_injl, z_add, z_addl, z_ladd, z_mul, z_mull, z_lmul, z_neg, z_negl, z_in, z_inl, z_ltT, z_ltF, z_eqF, z_10, z_01, z_litne, z_ne0, z_0ne, z_ne1, z_1ne, z_lt64, z_02, z_03, z_04, z_05, z_12, z_13, z_14, z_15, z_20, z_21, z_23, z_24, z_25, z_30, z_31, z_32, z_34, z_35, z_40, z_41, z_42, z_43, z_45, z_50, z_51, z_52, z_53, z_54]
  by_cases k : x = 3 → y = 0
  rotate_left
  · obtain ⟨k1, k2⟩ := Classical.not_imp.mp k
    simp (maxSteps := 2000000) (disch := omega) only [(fun d x0 x1 x2 x3 x4 x5 B i => bk_296_0 d x0 x1 x2 x3 x4 x5 (am_wI B i)), (fun d x0 x1 x2 x3 x4 x5 s0 B i => bk_296_32 d x0 x1 x2 x3 x4 x5 s0 (am_wI B i)), (fun d x0 x1 x2 x3 x4 x5 s0 B i => bk_296_70 d x0 x1 x2 x3 x4 x5 s0 (am_wI B i)), (fun d x0 x1 x2 x3 x4 x5 B i => bk_296_65 d x0 x1 x2 x3 x4 x5 (am_wI B i)), (fun d x0 x1 x2 x3 x4 x5 x6 B i => bk_296_98 d x0 x1 x2 x3 x4 x5 x6 (am_wI B i)), c_ckN0, c_ckN1, hF, hY, c_within1 a, c_within1 b, k1, k2, y_ckd, y_ck2d, y_ond, y_onn, y_oI, y_oIx, y_oJ, y_oV, y_oVx, y_oR, y_oRn, y_oRx, y_b0, y_b1, y_bi, y_bid, y_wIK, y_wIL, y_wII, y_wIJ, y_wIR, y_wIN, y_wIw, y_sI, ↓reduceIte, Nat.reduceEqDiff, eq_self, true_or, or_true, false_or, or_false, and_true, true_and, false_and, and_false, not_true, not_false_eq_true, tf_T, tf_F, y_up1, y_up2, y_xx, y_nx, y_sJ, y_sR, Int32.reduceLT, y_nxK, y_nxL, y_nxR, y_sJK, y_sJL, y_sJR, y_sJN, y_sRK, y_sRL, y_sRN, Nat.add_zero, z_nat, z_lit, z_lit0, z_lit1, z_in0, z_in1, z_addl0, z_lt, z_ltl, z_llt, z_inj, z_injl, z_add, z_addl, z_ladd, z_mul, z_mull, z_lmul, z_neg, z_negl, z_in, z_inl, z_ltT, z_ltF, z_eqF, z_10, z_01, z_litne, z_ne0, z_0ne, z_ne1, z_1ne, z_lt64, z_02, z_03, z_04, z_05, z_12, z_13, z_14, z_15, z_20, z_21, z_23, z_24, z_25, z_30, z_31, z_32, z_34, z_35, z_40, z_41, z_42, z_43, z_45, z_50, z_51, z_52, z_53, z_54]
  by_cases e2 : ¬ u < 1 ∧ ¬ 60 < u
  rotate_left
  · by_cases k1 : x = 3
    · have k2 := k k1
      simp (maxSteps := 2000000) (disch := omega) only [(fun d x0 x1 x2 x3 x4 x5 B i => bk_296_0 d x0 x1 x2 x3 x4 x5 (am_wI B i)), (fun d x0 x1 x2 x3 x4 x5 s0 B i => bk_296_32 d x0 x1 x2 x3 x4 x5 s0 (am_wI B i)), (fun d x0 x1 x2 x3 x4 x5 s0 B i => bk_296_70 d x0 x1 x2 x3 x4 x5 s0 (am_wI B i)), (fun d x0 x1 x2 x3 x4 x5 B i => bk_296_65 d x0 x1 x2 x3 x4 x5 (am_wI B i)), (fun d x0 x1 x2 x3 x4 x5 x6 B i => bk_296_98 d x0 x1 x2 x3 x4 x5 x6 (am_wI B i)), c_ckN0, c_ckN1, hF, hY, c_within1 a, c_within1 b, k1, k2, c_within1 e, c_within0 e2, y_ckd, y_ck2d, y_ond, y_onn, y_oI, y_oIx, y_oJ, y_oV, y_oVx, y_oR, y_oRn, y_oRx, y_b0, y_b1, y_bi, y_bid, y_wIK, y_wIL, y_wII, y_wIJ, y_wIR, y_wIN, y_wIw, y_sI, ↓reduceIte, Nat.reduceEqDiff, eq_self, true_or, or_true, false_or, or_false, and_true, true_and, false_and, and_false, not_true, not_false_eq_true, tf_T, tf_F, y_up1, y_up2, y_xx, y_nx, y_sJ, y_sR, Int32.reduceLT, y_nxK, y_nxL, y_nxR, y_sJK, y_sJL, y_sJR, y_sJN, y_sRK, y_sRL, y_sRN, Nat.add_zero, z_nat, z_lit, z_lit0, z_lit1, z_in0, z_in1, z_addl0, z_lt, z_ltl, z_llt, z_inj, z_injl, z_add, z_addl, z_ladd, z_mul, z_mull, z_lmul, z_neg, z_negl, z_in, z_inl, z_ltT, z_ltF, z_eqF, z_10, z_01, z_litne, z_ne0, z_0ne, z_ne1, z_1ne, z_lt64, z_02, z_03, z_04, z_05, z_12, z_13, z_14, z_15, z_20, z_21, z_23, z_24, z_25, z_30, z_31, z_32, z_34, z_35, z_40, z_41, z_42, z_43, z_45, z_50, z_51, z_52, z_53, z_54]
    · simp (maxSteps := 2000000) (disch := omega) only [(fun d x0 x1 x2 x3 x4 x5 B i => bk_296_0 d x0 x1 x2 x3 x4 x5 (am_wI B i)), (fun d x0 x1 x2 x3 x4 x5 s0 B i => bk_296_32 d x0 x1 x2 x3 x4 x5 s0 (am_wI B i)), (fun d x0 x1 x2 x3 x4 x5 s0 B i => bk_296_70 d x0 x1 x2 x3 x4 x5 s0 (am_wI B i)), (fun d x0 x1 x2 x3 x4 x5 B i => bk_296_65 d x0 x1 x2 x3 x4 x5 (am_wI B i)), (fun d x0 x1 x2 x3 x4 x5 x6 B i => bk_296_98 d x0 x1 x2 x3 x4 x5 x6 (am_wI B i)), c_ckN0, c_ckN1, hF, hY, c_within1 a, c_within1 b, k1, c_within1 e, c_within0 e2, y_ckd, y_ck2d, y_ond, y_onn, y_oI, y_oIx, y_oJ, y_oV, y_oVx, y_oR, y_oRn, y_oRx, y_b0, y_b1, y_bi, y_bid, y_wIK, y_wIL, y_wII, y_wIJ, y_wIR, y_wIN, y_wIw, y_sI, ↓reduceIte, Nat.reduceEqDiff, eq_self, true_or, or_true, false_or, or_false, and_true, true_and, false_and, and_false, not_true, not_false_eq_true, tf_T, tf_F, y_up1, y_up2, y_xx, y_nx, y_sJ, y_sR, Int32.reduceLT, y_nxK, y_nxL, y_nxR, y_sJK, y_sJL, y_sJR, y_sJN, y_sRK, y_sRL, y_sRN, Nat.add_zero, z_nat, z_lit, z_lit0, z_lit1, z_in0, z_in1, z_addl0, z_lt, z_ltl, z_llt, z_inj, z_injl, z_add, z_addl, z_ladd, z_mul, z_mull, z_lmul, z_neg, z_negl, z_in, z_inl, z_ltT, z_ltF, z_eqF, z_10, z_01, z_litne, z_ne0, z_0ne, z_ne1, z_1ne, z_lt64, z_02, z_03, z_04, z_05, z_12, z_13, z_14, z_15, z_20, z_21, z_23, z_24, z_25, z_30, z_31, z_32, z_34, z_35, z_40, z_41, z_42, z_43, z_45, z_50, z_51, z_52, z_53, z_54]
  have e3 : ¬ bnd x v := fun q => g ⟨a, b, k, e, e2, q⟩
  by_cases k1 : x = 3
  · have k2 := k k1
    simp (maxSteps := 2000000) (disch := omega) only [(fun d x0 x1 x2 x3 x4 x5 B i => bk_296_0 d x0 x1 x2 x3 x4 x5 (am_wI B i)), (fun d x0 x1 x2 x3 x4 x5 s0 B i => bk_296_32 d x0 x1 x2 x3 x4 x5 s0 (am_wI B i)), (fun d x0 x1 x2 x3 x4 x5 s0 B i => bk_296_70 d x0 x1 x2 x3 x4 x5 s0 (am_wI B i)), (fun d x0 x1 x2 x3 x4 x5 B i => bk_296_65 d x0 x1 x2 x3 x4 x5 (am_wI B i)), (fun d x0 x1 x2 x3 x4 x5 x6 B i => bk_296_98 d x0 x1 x2 x3 x4 x5 x6 (am_wI B i)), c_ckN0, c_ckN1, hF, hY, c_within1 a, c_within1 b, k1, k2, c_within1 e, c_within1 e2, c_bend0 e3, y_ckd, y_ck2d, y_ond, y_onn, y_oI, y_oIx, y_oJ, y_oV, y_oVx, y_oR, y_oRn, y_oRx, y_b0, y_b1, y_bi, y_bid, y_wIK, y_wIL, y_wII, y_wIJ, y_wIR, y_wIN, y_wIw, y_sI, ↓reduceIte, Nat.reduceEqDiff, eq_self, true_or, or_true, false_or, or_false, and_true, true_and, false_and, and_false, not_true, not_false_eq_true, tf_T, tf_F, y_up1, y_up2, y_xx, y_nx, y_sJ, y_sR, Int32.reduceLT, y_nxK, y_nxL, y_nxR, y_sJK, y_sJL, y_sJR, y_sJN, y_sRK, y_sRL, y_sRN, Nat.add_zero, z_nat, z_lit, z_lit0, z_lit1, z_in0, z_in1, z_addl0, z_lt, z_ltl, z_llt, z_inj, z_injl, z_add, z_addl, z_ladd, z_mul, z_mull, z_lmul, z_neg, z_negl, z_in, z_inl, z_ltT, z_ltF, z_eqF, z_10, z_01, z_litne, z_ne0, z_0ne, z_ne1, z_1ne, z_lt64, z_02, z_03, z_04, z_05, z_12, z_13, z_14, z_15, z_20, z_21, z_23, z_24, z_25, z_30, z_31, z_32, z_34, z_35, z_40, z_41, z_42, z_43, z_45, z_50, z_51, z_52, z_53, z_54]
  · simp (maxSteps := 2000000) (disch := omega) only [(fun d x0 x1 x2 x3 x4 x5 B i => bk_296_0 d x0 x1 x2 x3 x4 x5 (am_wI B i)), (fun d x0 x1 x2 x3 x4 x5 s0 B i => bk_296_32 d x0 x1 x2 x3 x4 x5 s0 (am_wI B i)), (fun d x0 x1 x2 x3 x4 x5 s0 B i => bk_296_70 d x0 x1 x2 x3 x4 x5 s0 (am_wI B i)), (fun d x0 x1 x2 x3 x4 x5 B i => bk_296_65 d x0 x1 x2 x3 x4 x5 (am_wI B i)), (fun d x0 x1 x2 x3 x4 x5 x6 B i => bk_296_98 d x0 x1 x2 x3 x4 x5 x6 (am_wI B i)), c_ckN0, c_ckN1, hF, hY, c_within1 a, c_within1 b, k1, c_within1 e, c_within1 e2, c_bend0 e3, y_ckd, y_ck2d, y_ond, y_onn, y_oI, y_oIx, y_oJ, y_oV, y_oVx, y_oR, y_oRn, y_oRx, y_b0, y_b1, y_bi, y_bid, y_wIK, y_wIL, y_wII, y_wIJ, y_wIR, y_wIN, y_wIw, y_sI, ↓reduceIte, Nat.reduceEqDiff, eq_self, true_or, or_true, false_or, or_false, and_true, true_and, false_and, and_false, not_true, not_false_eq_true, tf_T, tf_F, y_up1, y_up2, y_xx, y_nx, y_sJ, y_sR, Int32.reduceLT, y_nxK, y_nxL, y_nxR, y_sJK, y_sJL, y_sJR, y_sJN, y_sRK, y_sRL, y_sRN, Nat.add_zero, z_nat, z_lit, z_lit0, z_lit1, z_in0, z_in1, z_addl0, z_lt, z_ltl, z_llt, z_inj, z_injl, z_add, z_addl, z_ladd, z_mul, z_mull, z_lmul, z_neg, z_negl, z_in, z_inl, z_ltT, z_ltF, z_eqF, z_10, z_01, z_litne, z_ne0, z_0ne, z_ne1, z_1ne, z_lt64, z_02, z_03, z_04, z_05, z_12, z_13, z_14, z_15, z_20, z_21, z_23, z_24, z_25, z_30, z_31, z_32, z_34, z_35, z_40, z_41, z_42, z_43, z_45, z_50, z_51, z_52, z_53, z_54]
theorem m_buy_x0 (h : MR B i σ) (g : ¬ ((¬ x < 0 ∧ ¬ 3 < x) ∧ (¬ y < 0 ∧ ¬ 2 < y) ∧ (x = 3 → y = 0) ∧ (¬ z < 5 ∧ ¬ 100 < z) ∧ (¬ u < 1 ∧ ¬ 60 < u) ∧ bnd x v)) : MRs B i σ (am_fx am_P (d + 150) 30 0 [some (.ref 874), some (.int x), some (.int y), some (.int z), some (.int u), some (.int v)] [] (am_wI B i)) (some (.int 0)) 1 := by
  refine MRs_x h ?_
  have hM : Md B := h.1.1
  rw [bk_30_0]
  by_cases a : ¬ x < 0 ∧ ¬ 3 < x
  rotate_left
  · simp (maxSteps := 2000000) (disch := omega) only [(fun d x0 x1 x2 x3 x4 x5 B i => bk_30_0 d x0 x1 x2 x3 x4 x5 (am_wI B i)), (fun d x0 x1 x2 x3 x4 x5 s0 s1 B i => bk_30_89 d x0 x1 x2 x3 x4 x5 s0 s1 (am_wI B i)), (fun d x0 x1 x2 x3 x4 x5 s0 s1 s2 s3 B i => bk_30_27 d x0 x1 x2 x3 x4 x5 s0 s1 s2 s3 (am_wI B i)), (fun d x0 x1 x2 x3 x4 x5 s0 s1 B i => bk_30_115 d x0 x1 x2 x3 x4 x5 s0 s1 (am_wI B i)), (fun d x0 x1 x2 x3 x4 x5 s0 s1 s2 B i => bk_30_67 d x0 x1 x2 x3 x4 x5 s0 s1 s2 (am_wI B i)), (fun d x0 x1 x2 x3 x4 x5 s0 s1 s2 s3 B i => bk_30_78 d x0 x1 x2 x3 x4 x5 s0 s1 s2 s3 (am_wI B i)), m_in, m_thr0, m_thr1 hM, hM, a, y_ckd, y_ck2d, y_ond, y_onn, y_oI, y_oIx, y_oJ, y_oV, y_oVx, y_oR, y_oRn, y_oRx, y_b0, y_b1, y_bi, y_bid, y_wIK, y_wIL, y_wII, y_wIJ, y_wIR, y_wIN, y_wIw, y_sI, ↓reduceIte, Nat.reduceEqDiff, eq_self, true_or, or_true, false_or, or_false, and_true, true_and, false_and, and_false, not_true, not_false_eq_true, tf_T, tf_F, y_up1, y_up2, y_xx, y_nx, y_sJ, y_sR, Int32.reduceLT, y_nxK, y_nxL, y_nxR, y_sJK, y_sJL, y_sJR, y_sJN, y_sRK, y_sRL, y_sRN, Nat.add_zero, z_nat, z_lit, z_lit0, z_lit1, z_in0, z_in1, z_addl0, z_lt, z_ltl, z_llt, z_inj, z_injl, z_add, z_addl, z_ladd, z_mul, z_mull, z_lmul, z_neg, z_negl, z_in, z_inl, z_ltT, z_ltF, z_eqF, z_10, z_01, z_litne, z_ne0, z_0ne, z_ne1, z_1ne, z_lt64, z_02, z_03, z_04, z_05, z_12, z_13, z_14, z_15, z_20, z_21, z_23, z_24, z_25, z_30, z_31, z_32, z_34, z_35, z_40, z_41, z_42, z_43, z_45, z_50, z_51, z_52, z_53, z_54]
  by_cases k1 : x = 3
  · by_cases b : y = 0
    rotate_left
    · simp (maxSteps := 2000000) (disch := omega) only [(fun d x0 x1 x2 x3 x4 x5 B i => bk_30_0 d x0 x1 x2 x3 x4 x5 (am_wI B i)), (fun d x0 x1 x2 x3 x4 x5 s0 s1 B i => bk_30_89 d x0 x1 x2 x3 x4 x5 s0 s1 (am_wI B i)), (fun d x0 x1 x2 x3 x4 x5 s0 s1 s2 s3 B i => bk_30_27 d x0 x1 x2 x3 x4 x5 s0 s1 s2 s3 (am_wI B i)), (fun d x0 x1 x2 x3 x4 x5 s0 s1 B i => bk_30_115 d x0 x1 x2 x3 x4 x5 s0 s1 (am_wI B i)), (fun d x0 x1 x2 x3 x4 x5 s0 s1 s2 B i => bk_30_67 d x0 x1 x2 x3 x4 x5 s0 s1 s2 (am_wI B i)), (fun d x0 x1 x2 x3 x4 x5 s0 s1 s2 s3 B i => bk_30_78 d x0 x1 x2 x3 x4 x5 s0 s1 s2 s3 (am_wI B i)), m_in, m_thr0, m_thr1 hM, hM, a.1, a.2, k1, z_eq0, b, y_ckd, y_ck2d, y_ond, y_onn, y_oI, y_oIx, y_oJ, y_oV, y_oVx, y_oR, y_oRn, y_oRx, y_b0, y_b1, y_bi, y_bid, y_wIK, y_wIL, y_wII, y_wIJ, y_wIR, y_wIN, y_wIw, y_sI, ↓reduceIte, Nat.reduceEqDiff, eq_self, true_or, or_true, false_or, or_false, and_true, true_and, false_and, and_false, not_true, not_false_eq_true, tf_T, tf_F, y_up1, y_up2, y_xx, y_nx, y_sJ, y_sR, Int32.reduceLT, y_nxK, y_nxL, y_nxR, y_sJK, y_sJL, y_sJR, y_sJN, y_sRK, y_sRL, y_sRN, Nat.add_zero, z_nat, z_lit, z_lit0, z_lit1, z_in0, z_in1, z_addl0, z_lt, z_ltl, z_llt, z_inj, z_injl, z_add, z_addl, z_ladd, z_mul, z_mull, z_lmul, z_neg, z_negl, z_in, z_inl, z_ltT, z_ltF, z_eqF, z_10, z_01, z_litne, z_ne0, z_0ne, z_ne1, z_1ne, z_lt64, z_02, z_03, z_04, z_05, z_12, z_13, z_14, z_15, z_20, z_21, z_23, z_24, z_25, z_30, z_31, z_32, z_34, z_35, z_40, z_41, z_42, z_43, z_45, z_50, z_51, z_52, z_53, z_54]
    by_cases e : ¬ z < 5 ∧ ¬ 100 < z
    rotate_left
    · simp (maxSteps := 2000000) (disch := omega) only [(fun d x0 x1 x2 x3 x4 x5 B i => bk_30_0 d x0 x1 x2 x3 x4 x5 (am_wI B i)), (fun d x0 x1 x2 x3 x4 x5 s0 s1 B i => bk_30_89 d x0 x1 x2 x3 x4 x5 s0 s1 (am_wI B i)), (fun d x0 x1 x2 x3 x4 x5 s0 s1 s2 s3 B i => bk_30_27 d x0 x1 x2 x3 x4 x5 s0 s1 s2 s3 (am_wI B i)), (fun d x0 x1 x2 x3 x4 x5 s0 s1 B i => bk_30_115 d x0 x1 x2 x3 x4 x5 s0 s1 (am_wI B i)), (fun d x0 x1 x2 x3 x4 x5 s0 s1 s2 B i => bk_30_67 d x0 x1 x2 x3 x4 x5 s0 s1 s2 (am_wI B i)), (fun d x0 x1 x2 x3 x4 x5 s0 s1 s2 s3 B i => bk_30_78 d x0 x1 x2 x3 x4 x5 s0 s1 s2 s3 (am_wI B i)), m_in, m_thr0, m_thr1 hM, hM, a.1, a.2, k1, z_eq0, b, e, y_ckd, y_ck2d, y_ond, y_onn, y_oI, y_oIx, y_oJ, y_oV, y_oVx, y_oR, y_oRn, y_oRx, y_b0, y_b1, y_bi, y_bid, y_wIK, y_wIL, y_wII, y_wIJ, y_wIR, y_wIN, y_wIw, y_sI, ↓reduceIte, Nat.reduceEqDiff, eq_self, true_or, or_true, false_or, or_false, and_true, true_and, false_and, and_false, not_true, not_false_eq_true, tf_T, tf_F, y_up1, y_up2, y_xx, y_nx, y_sJ, y_sR, Int32.reduceLT, y_nxK, y_nxL, y_nxR, y_sJK, y_sJL, y_sJR, y_sJN, y_sRK, y_sRL, y_sRN, Nat.add_zero, z_nat, z_lit, z_lit0, z_lit1, z_in0, z_in1, z_addl0, z_lt, z_ltl, z_llt, z_inj, z_injl, z_add, z_addl, z_ladd, z_mul, z_mull, z_lmul, z_neg, z_negl, z_in, z_inl, z_ltT, z_ltF, z_eqF, z_10, z_01, z_litne, z_ne0, z_0ne, z_ne1, z_1ne, z_lt64, z_02, z_03, z_04, z_05, z_12, z_13, z_14, z_15, z_20, z_21, z_23, z_24, z_25, z_30, z_31, z_32, z_34, z_35, z_40, z_41, z_42, z_43, z_45, z_50, z_51, z_52, z_53, z_54]
    by_cases e2 : ¬ u < 1 ∧ ¬ 60 < u
    rotate_left
    · simp (maxSteps := 2000000) (disch := omega) only [(fun d x0 x1 x2 x3 x4 x5 B i => bk_30_0 d x0 x1 x2 x3 x4 x5 (am_wI B i)), (fun d x0 x1 x2 x3 x4 x5 s0 s1 B i => bk_30_89 d x0 x1 x2 x3 x4 x5 s0 s1 (am_wI B i)), (fun d x0 x1 x2 x3 x4 x5 s0 s1 s2 s3 B i => bk_30_27 d x0 x1 x2 x3 x4 x5 s0 s1 s2 s3 (am_wI B i)), (fun d x0 x1 x2 x3 x4 x5 s0 s1 B i => bk_30_115 d x0 x1 x2 x3 x4 x5 s0 s1 (am_wI B i)), (fun d x0 x1 x2 x3 x4 x5 s0 s1 s2 B i => bk_30_67 d x0 x1 x2 x3 x4 x5 s0 s1 s2 (am_wI B i)), (fun d x0 x1 x2 x3 x4 x5 s0 s1 s2 s3 B i => bk_30_78 d x0 x1 x2 x3 x4 x5 s0 s1 s2 s3 (am_wI B i)), m_in, m_thr0, m_thr1 hM, hM, a.1, a.2, k1, z_eq0, b, e.1, e.2, e2, y_ckd, y_ck2d, y_ond, y_onn, y_oI, y_oIx, y_oJ, y_oV, y_oVx, y_oR, y_oRn, y_oRx, y_b0, y_b1, y_bi, y_bid, y_wIK, y_wIL, y_wII, y_wIJ, y_wIR, y_wIN, y_wIw, y_sI, ↓reduceIte, Nat.reduceEqDiff, eq_self, true_or, or_true, false_or, or_false, and_true, true_and, false_and, and_false, not_true, not_false_eq_true, tf_T, tf_F, y_up1, y_up2, y_xx, y_nx, y_sJ, y_sR, Int32.reduceLT, y_nxK, y_nxL, y_nxR, y_sJK, y_sJL, y_sJR, y_sJN, y_sRK, y_sRL, y_sRN, Nat.add_zero, z_nat, z_lit, z_lit0, z_lit1, z_in0, z_in1, z_addl0, z_lt, z_ltl, z_llt, z_inj, z_injl, z_add, z_addl, z_ladd, z_mul, z_mull, z_lmul, z_neg, z_negl, z_in, z_inl, z_ltT, z_ltF, z_eqF, z_10, z_01, z_litne, z_ne0, z_0ne, z_ne1, z_1ne, z_lt64, z_02, z_03, z_04, z_05, z_12, z_13, z_14, z_15, z_20, z_21, z_23, z_24, z_25, z_30, z_31, z_32, z_34, z_35, z_40, z_41, z_42, z_43, z_45, z_50, z_51, z_52, z_53, z_54]
    have e3 : ¬ bnd x v := fun q => g ⟨a, by subst b; decide, fun _ => b, e, e2, q⟩
    subst k1
    rw [bnd2 (by decide)] at e3
    simp (maxSteps := 2000000) (disch := omega) only [(fun d x0 x1 x2 x3 x4 x5 B i => bk_30_0 d x0 x1 x2 x3 x4 x5 (am_wI B i)), (fun d x0 x1 x2 x3 x4 x5 s0 s1 B i => bk_30_89 d x0 x1 x2 x3 x4 x5 s0 s1 (am_wI B i)), (fun d x0 x1 x2 x3 x4 x5 s0 s1 s2 s3 B i => bk_30_27 d x0 x1 x2 x3 x4 x5 s0 s1 s2 s3 (am_wI B i)), (fun d x0 x1 x2 x3 x4 x5 s0 s1 B i => bk_30_115 d x0 x1 x2 x3 x4 x5 s0 s1 (am_wI B i)), (fun d x0 x1 x2 x3 x4 x5 s0 s1 s2 B i => bk_30_67 d x0 x1 x2 x3 x4 x5 s0 s1 s2 (am_wI B i)), (fun d x0 x1 x2 x3 x4 x5 s0 s1 s2 s3 B i => bk_30_78 d x0 x1 x2 x3 x4 x5 s0 s1 s2 s3 (am_wI B i)), m_in, m_thr0, m_thr1 hM, hM, a.1, a.2, z_eq0, b, e.1, e.2, e2.1, e2.2, e3, y_ckd, y_ck2d, y_ond, y_onn, y_oI, y_oIx, y_oJ, y_oV, y_oVx, y_oR, y_oRn, y_oRx, y_b0, y_b1, y_bi, y_bid, y_wIK, y_wIL, y_wII, y_wIJ, y_wIR, y_wIN, y_wIw, y_sI, ↓reduceIte, Nat.reduceEqDiff, eq_self, true_or, or_true, false_or, or_false, and_true, true_and, false_and, and_false, not_true, not_false_eq_true, tf_T, tf_F, y_up1, y_up2, y_xx, y_nx, y_sJ, y_sR, Int32.reduceLT, y_nxK, y_nxL, y_nxR, y_sJK, y_sJL, y_sJR, y_sJN, y_sRK, y_sRL, y_sRN, Nat.add_zero, z_nat, z_lit, z_lit0, z_lit1, z_in0, z_in1, z_addl0, z_lt, z_ltl, z_llt, z_inj, z_injl, z_add, z_addl, z_ladd, z_mul, z_mull, z_lmul, z_neg, z_negl, z_in, z_inl, z_ltT, z_ltF, z_eqF, z_10, z_01, z_litne, z_ne0, z_0ne, z_ne1, z_1ne, z_lt64, z_02, z_03, z_04, z_05, z_12, z_13, z_14, z_15, z_20, z_21, z_23, z_24, z_25, z_30, z_31, z_32, z_34, z_35, z_40, z_41, z_42, z_43, z_45, z_50, z_51, z_52, z_53, z_54]
  · by_cases b : ¬ y < 0 ∧ ¬ 2 < y
    rotate_left
    · simp (maxSteps := 2000000) (disch := omega) only [(fun d x0 x1 x2 x3 x4 x5 B i => bk_30_0 d x0 x1 x2 x3 x4 x5 (am_wI B i)), (fun d x0 x1 x2 x3 x4 x5 s0 s1 B i => bk_30_89 d x0 x1 x2 x3 x4 x5 s0 s1 (am_wI B i)), (fun d x0 x1 x2 x3 x4 x5 s0 s1 s2 s3 B i => bk_30_27 d x0 x1 x2 x3 x4 x5 s0 s1 s2 s3 (am_wI B i)), (fun d x0 x1 x2 x3 x4 x5 s0 s1 B i => bk_30_115 d x0 x1 x2 x3 x4 x5 s0 s1 (am_wI B i)), (fun d x0 x1 x2 x3 x4 x5 s0 s1 s2 B i => bk_30_67 d x0 x1 x2 x3 x4 x5 s0 s1 s2 (am_wI B i)), (fun d x0 x1 x2 x3 x4 x5 s0 s1 s2 s3 B i => bk_30_78 d x0 x1 x2 x3 x4 x5 s0 s1 s2 s3 (am_wI B i)), m_in, m_thr0, m_thr1 hM, hM, a.1, a.2, k1, b, y_ckd, y_ck2d, y_ond, y_onn, y_oI, y_oIx, y_oJ, y_oV, y_oVx, y_oR, y_oRn, y_oRx, y_b0, y_b1, y_bi, y_bid, y_wIK, y_wIL, y_wII, y_wIJ, y_wIR, y_wIN, y_wIw, y_sI, ↓reduceIte, Nat.reduceEqDiff, eq_self, true_or, or_true, false_or, or_false, and_true, true_and, false_and, and_false, not_true, not_false_eq_true, tf_T, tf_F, y_up1, y_up2, y_xx, y_nx, y_sJ, y_sR, Int32.reduceLT, y_nxK, y_nxL, y_nxR, y_sJK, y_sJL, y_sJR, y_sJN, y_sRK, y_sRL, y_sRN, Nat.add_zero, z_nat, z_lit, z_lit0, z_lit1, z_in0, z_in1, z_addl0, z_lt, z_ltl, z_llt, z_inj, z_injl, z_add, z_addl, z_ladd, z_mul, z_mull, z_lmul, z_neg, z_negl, z_in, z_inl, z_ltT, z_ltF, z_eqF, z_10, z_01, z_litne, z_ne0, z_0ne, z_ne1, z_1ne, z_lt64, z_02, z_03, z_04, z_05, z_12, z_13, z_14, z_15, z_20, z_21, z_23, z_24, z_25, z_30, z_31, z_32, z_34, z_35, z_40, z_41, z_42, z_43, z_45, z_50, z_51, z_52, z_53, z_54]
    by_cases e : ¬ z < 5 ∧ ¬ 100 < z
    rotate_left
    · simp (maxSteps := 2000000) (disch := omega) only [(fun d x0 x1 x2 x3 x4 x5 B i => bk_30_0 d x0 x1 x2 x3 x4 x5 (am_wI B i)), (fun d x0 x1 x2 x3 x4 x5 s0 s1 B i => bk_30_89 d x0 x1 x2 x3 x4 x5 s0 s1 (am_wI B i)), (fun d x0 x1 x2 x3 x4 x5 s0 s1 s2 s3 B i => bk_30_27 d x0 x1 x2 x3 x4 x5 s0 s1 s2 s3 (am_wI B i)), (fun d x0 x1 x2 x3 x4 x5 s0 s1 B i => bk_30_115 d x0 x1 x2 x3 x4 x5 s0 s1 (am_wI B i)), (fun d x0 x1 x2 x3 x4 x5 s0 s1 s2 B i => bk_30_67 d x0 x1 x2 x3 x4 x5 s0 s1 s2 (am_wI B i)), (fun d x0 x1 x2 x3 x4 x5 s0 s1 s2 s3 B i => bk_30_78 d x0 x1 x2 x3 x4 x5 s0 s1 s2 s3 (am_wI B i)), m_in, m_thr0, m_thr1 hM, hM, a.1, a.2, k1, b.1, b.2, e, y_ckd, y_ck2d, y_ond, y_onn, y_oI, y_oIx, y_oJ, y_oV, y_oVx, y_oR, y_oRn, y_oRx, y_b0, y_b1, y_bi, y_bid, y_wIK, y_wIL, y_wII, y_wIJ, y_wIR, y_wIN, y_wIw, y_sI, ↓reduceIte, Nat.reduceEqDiff, eq_self, true_or, or_true, false_or, or_false, and_true, true_and, false_and, and_false, not_true, not_false_eq_true, tf_T, tf_F, y_up1, y_up2, y_xx, y_nx, y_sJ, y_sR, Int32.reduceLT, y_nxK, y_nxL, y_nxR, y_sJK, y_sJL, y_sJR, y_sJN, y_sRK, y_sRL, y_sRN, Nat.add_zero, z_nat, z_lit, z_lit0, z_lit1, z_in0, z_in1, z_addl0, z_lt, z_ltl, z_llt, z_inj, z_injl, z_add, z_addl, z_ladd, z_mul, z_mull, z_lmul, z_neg, z_negl, z_in, z_inl, z_ltT, z_ltF, z_eqF, z_10, z_01, z_litne, z_ne0, z_0ne, z_ne1, z_1ne, z_lt64, z_02, z_03, z_04, z_05, z_12, z_13, z_14, z_15, z_20, z_21, z_23, z_24, z_25, z_30, z_31, z_32, z_34, z_35, z_40, z_41, z_42, z_43, z_45, z_50, z_51, z_52, z_53, z_54]
    by_cases e2 : ¬ u < 1 ∧ ¬ 60 < u
    rotate_left
    · simp (maxSteps := 2000000) (disch := omega) only [(fun d x0 x1 x2 x3 x4 x5 B i => bk_30_0 d x0 x1 x2 x3 x4 x5 (am_wI B i)), (fun d x0 x1 x2 x3 x4 x5 s0 s1 B i => bk_30_89 d x0 x1 x2 x3 x4 x5 s0 s1 (am_wI B i)), (fun d x0 x1 x2 x3 x4 x5 s0 s1 s2 s3 B i => bk_30_27 d x0 x1 x2 x3 x4 x5 s0 s1 s2 s3 (am_wI B i)), (fun d x0 x1 x2 x3 x4 x5 s0 s1 B i => bk_30_115 d x0 x1 x2 x3 x4 x5 s0 s1 (am_wI B i)), (fun d x0 x1 x2 x3 x4 x5 s0 s1 s2 B i => bk_30_67 d x0 x1 x2 x3 x4 x5 s0 s1 s2 (am_wI B i)), (fun d x0 x1 x2 x3 x4 x5 s0 s1 s2 s3 B i => bk_30_78 d x0 x1 x2 x3 x4 x5 s0 s1 s2 s3 (am_wI B i)), m_in, m_thr0, m_thr1 hM, hM, a.1, a.2, k1, b.1, b.2, e.1, e.2, e2, y_ckd, y_ck2d, y_ond, y_onn, y_oI, y_oIx, y_oJ, y_oV, y_oVx, y_oR, y_oRn, y_oRx, y_b0, y_b1, y_bi, y_bid, y_wIK, y_wIL, y_wII, y_wIJ, y_wIR, y_wIN, y_wIw, y_sI, ↓reduceIte, Nat.reduceEqDiff, eq_self, true_or, or_true, false_or, or_false, and_true, true_and, false_and, and_false, not_true, not_false_eq_true, tf_T, tf_F, y_up1, y_up2, y_xx, y_nx, y_sJ, y_sR, Int32.reduceLT, y_nxK, y_nxL, y_nxR, y_sJK, y_sJL, y_sJR, y_sJN, y_sRK, y_sRL, y_sRN, Nat.add_zero, z_nat, z_lit, z_lit0, z_lit1, z_in0, z_in1, z_addl0, z_lt, z_ltl, z_llt, z_inj, z_injl, z_add, z_addl, z_ladd, z_mul, z_mull, z_lmul, z_neg, z_negl, z_in, z_inl, z_ltT, z_ltF, z_eqF, z_10, z_01, z_litne, z_ne0, z_0ne, z_ne1, z_1ne, z_lt64, z_02, z_03, z_04, z_05, z_12, z_13, z_14, z_15, z_20, z_21, z_23, z_24, z_25, z_30, z_31, z_32, z_34, z_35, z_40, z_41, z_42, z_43, z_45, z_50, z_51, z_52, z_53, z_54]
    have e3 : ¬ bnd x v := fun q => g ⟨a, b, fun q => absurd q k1, e, e2, q⟩
    by_cases k2 : x = 1
    · rw [bnd1 k2] at e3
      subst k2
      simp (maxSteps := 2000000) (disch := omega) only [(fun d x0 x1 x2 x3 x4 x5 B i => bk_30_0 d x0 x1 x2 x3 x4 x5 (am_wI B i)), (fun d x0 x1 x2 x3 x4 x5 s0 s1 B i => bk_30_89 d x0 x1 x2 x3 x4 x5 s0 s1 (am_wI B i)), (fun d x0 x1 x2 x3 x4 x5 s0 s1 s2 s3 B i => bk_30_27 d x0 x1 x2 x3 x4 x5 s0 s1 s2 s3 (am_wI B i)), (fun d x0 x1 x2 x3 x4 x5 s0 s1 B i => bk_30_115 d x0 x1 x2 x3 x4 x5 s0 s1 (am_wI B i)), (fun d x0 x1 x2 x3 x4 x5 s0 s1 s2 B i => bk_30_67 d x0 x1 x2 x3 x4 x5 s0 s1 s2 (am_wI B i)), (fun d x0 x1 x2 x3 x4 x5 s0 s1 s2 s3 B i => bk_30_78 d x0 x1 x2 x3 x4 x5 s0 s1 s2 s3 (am_wI B i)), m_in, m_thr0, m_thr1 hM, hM, a.1, a.2, b.1, b.2, e.1, e.2, e2.1, e2.2, e3, y_ckd, y_ck2d, y_ond, y_onn, y_oI, y_oIx, y_oJ, y_oV, y_oVx, y_oR, y_oRn, y_oRx, y_b0, y_b1, y_bi, y_bid, y_wIK, y_wIL, y_wII, y_wIJ, y_wIR, y_wIN, y_wIw, y_sI, ↓reduceIte, Nat.reduceEqDiff, eq_self, true_or, or_true, false_or, or_false, and_true, true_and, false_and, and_false, not_true, not_false_eq_true, tf_T, tf_F, y_up1, y_up2, y_xx, y_nx, y_sJ, y_sR, Int32.reduceLT, y_nxK, y_nxL, y_nxR, y_sJK, y_sJL, y_sJR, y_sJN, y_sRK, y_sRL, y_sRN, Nat.add_zero, z_nat, z_lit, z_lit0, z_lit1, z_in0, z_in1, z_addl0, z_lt, z_ltl, z_llt, z_inj, z_injl, z_add, z_addl, z_ladd, z_mul, z_mull, z_lmul, z_neg, z_negl, z_in, z_inl, z_ltT, z_ltF, z_eqF, z_10, z_01, z_litne, z_ne0, z_0ne, z_ne1, z_1ne, z_lt64, z_02, z_03, z_04, z_05, z_12, z_13, z_14, z_15, z_20, z_21, z_23, z_24, z_25, z_30, z_31, z_32, z_34, z_35, z_40, z_41, z_42, z_43, z_45, z_50, z_51, z_52, z_53, z_54]
    · rw [bnd2 k2] at e3
      simp (maxSteps := 2000000) (disch := omega) only [(fun d x0 x1 x2 x3 x4 x5 B i => bk_30_0 d x0 x1 x2 x3 x4 x5 (am_wI B i)), (fun d x0 x1 x2 x3 x4 x5 s0 s1 B i => bk_30_89 d x0 x1 x2 x3 x4 x5 s0 s1 (am_wI B i)), (fun d x0 x1 x2 x3 x4 x5 s0 s1 s2 s3 B i => bk_30_27 d x0 x1 x2 x3 x4 x5 s0 s1 s2 s3 (am_wI B i)), (fun d x0 x1 x2 x3 x4 x5 s0 s1 B i => bk_30_115 d x0 x1 x2 x3 x4 x5 s0 s1 (am_wI B i)), (fun d x0 x1 x2 x3 x4 x5 s0 s1 s2 B i => bk_30_67 d x0 x1 x2 x3 x4 x5 s0 s1 s2 (am_wI B i)), (fun d x0 x1 x2 x3 x4 x5 s0 s1 s2 s3 B i => bk_30_78 d x0 x1 x2 x3 x4 x5 s0 s1 s2 s3 (am_wI B i)), m_in, m_thr0, m_thr1 hM, hM, a.1, a.2, k1, k2, b.1, b.2, e.1, e.2, e2.1, e2.2, z_eq0, e3, y_ckd, y_ck2d, y_ond, y_onn, y_oI, y_oIx, y_oJ, y_oV, y_oVx, y_oR, y_oRn, y_oRx, y_b0, y_b1, y_bi, y_bid, y_wIK, y_wIL, y_wII, y_wIJ, y_wIR, y_wIN, y_wIw, y_sI, ↓reduceIte, Nat.reduceEqDiff, eq_self, true_or, or_true, false_or, or_false, and_true, true_and, false_and, and_false, not_true, not_false_eq_true, tf_T, tf_F, y_up1, y_up2, y_xx, y_nx, y_sJ, y_sR, Int32.reduceLT, y_nxK, y_nxL, y_nxR, y_sJK, y_sJL, y_sJR, y_sJN, y_sRK, y_sRL, y_sRN, Nat.add_zero, z_nat, z_lit, z_lit0, z_lit1, z_in0, z_in1, z_addl0, z_lt, z_ltl, z_llt, z_inj, z_injl, z_add, z_addl, z_ladd, z_mul, z_mull, z_lmul, z_neg, z_negl, z_in, z_inl, z_ltT, z_ltF, z_eqF, z_10, z_01, z_litne, z_ne0, z_0ne, z_ne1, z_1ne, z_lt64, z_02, z_03, z_04, z_05, z_12, z_13, z_14, z_15, z_20, z_21, z_23, z_24, z_25, z_30, z_31, z_32, z_34, z_35, z_40, z_41, z_42, z_43, z_45, z_50, z_51, z_52, z_53, z_54]
theorem f_buy_full (h : CR B i σ) (a : ¬ x < 0 ∧ ¬ 3 < x) (b : ¬ y < 0 ∧ ¬ 2 < y) (k : x = 3 → y = 0) (e : ¬ z < 5 ∧ ¬ 100 < z) (e2 : ¬ u < 1 ∧ ¬ 60 < u) (e3 : bnd x v) (hc : σ.1 460 = Int32.ofNat 120) : FRs B i σ (am_fx am_P (d + 150) 296 0 [some (.ref 64), some (.int x), some (.int y), some (.int z), some (.int u), some (.int v), none] [] (am_wI B i)) (.inr 3) := by
  refine FRs_x h ?_
  have hF : Fc B := h.1.1
  have hY : Yd B 94 := h.1.2.1
  have ec : i 94 5 = Int32.ofNat 120 := h.2.1.2.2.1.1.trans hc
  rw [bk_296_0]
  by_cases k1 : x = 3
  · have k2 := k k1
    simp (maxSteps := 2000000) (disch := omega) only [(fun d x0 x1 x2 x3 x4 x5 B i => bk_296_0 d x0 x1 x2 x3 x4 x5 (am_wI B i)), (fun d x0 x1 x2 x3 x4 x5 s0 B i => bk_296_32 d x0 x1 x2 x3 x4 x5 s0 (am_wI B i)), (fun d x0 x1 x2 x3 x4 x5 s0 B i => bk_296_70 d x0 x1 x2 x3 x4 x5 s0 (am_wI B i)), (fun d x0 x1 x2 x3 x4 x5 B i => bk_296_65 d x0 x1 x2 x3 x4 x5 (am_wI B i)), (fun d x0 x1 x2 x3 x4 x5 x6 B i => bk_296_98 d x0 x1 x2 x3 x4 x5 x6 (am_wI B i)), c_ckN0, c_ckN1, hF, hY, c_within1 a, c_within1 b, c_within1 e, c_within1 e2, c_bend1 e3, k1, k2, ec, c_ckR0 (x := Int32.ofNat 120) (c := 120) (by decide), y_ckd, y_ck2d, y_ond, y_onn, y_oI, y_oIx, y_oJ, y_oV, y_oVx, y_oR, y_oRn, y_oRx, y_b0, y_b1, y_bi, y_bid, y_wIK, y_wIL, y_wII, y_wIJ, y_wIR, y_wIN, y_wIw, y_sI, ↓reduceIte, Nat.reduceEqDiff, eq_self, true_or, or_true, false_or, or_false, and_true, true_and, false_and, and_false, not_true, not_false_eq_true, tf_T, tf_F, y_up1, y_up2, y_xx, y_nx, y_sJ, y_sR, Int32.reduceLT, y_nxK, y_nxL, y_nxR, y_sJK, y_sJL, y_sJR, y_sJN, y_sRK, y_sRL, y_sRN, Nat.add_zero, z_nat, z_lit, z_lit0, z_lit1, z_in0, z_in1, z_addl0, z_lt, z_ltl, z_llt, z_inj, z_injl, z_add, z_addl, z_ladd, z_mul, z_mull, z_lmul, z_neg, z_negl, z_in, z_inl, z_ltT, z_ltF, z_eqF, z_10, z_01, z_litne, z_ne0, z_0ne, z_ne1, z_1ne, z_lt64, z_02, z_03, z_04, z_05, z_12, z_13, z_14, z_15, z_20, z_21, z_23, z_24, z_25, z_30, z_31, z_32, z_34, z_35, z_40, z_41, z_42, z_43, z_45, z_50, z_51, z_52, z_53, z_54]
  · simp (maxSteps := 2000000) (disch := omega) only [(fun d x0 x1 x2 x3 x4 x5 B i => bk_296_0 d x0 x1 x2 x3 x4 x5 (am_wI B i)), (fun d x0 x1 x2 x3 x4 x5 s0 B i => bk_296_32 d x0 x1 x2 x3 x4 x5 s0 (am_wI B i)), (fun d x0 x1 x2 x3 x4 x5 s0 B i => bk_296_70 d x0 x1 x2 x3 x4 x5 s0 (am_wI B i)), (fun d x0 x1 x2 x3 x4 x5 B i => bk_296_65 d x0 x1 x2 x3 x4 x5 (am_wI B i)), (fun d x0 x1 x2 x3 x4 x5 x6 B i => bk_296_98 d x0 x1 x2 x3 x4 x5 x6 (am_wI B i)), c_ckN0, c_ckN1, hF, hY, c_within1 a, c_within1 b, c_within1 e, c_within1 e2, c_bend1 e3, k1, ec, c_ckR0 (x := Int32.ofNat 120) (c := 120) (by decide), y_ckd, y_ck2d, y_ond, y_onn, y_oI, y_oIx, y_oJ, y_oV, y_oVx, y_oR, y_oRn, y_oRx, y_b0, y_b1, y_bi, y_bid, y_wIK, y_wIL, y_wII, y_wIJ, y_wIR, y_wIN, y_wIw, y_sI, ↓reduceIte, Nat.reduceEqDiff, eq_self, true_or, or_true, false_or, or_false, and_true, true_and, false_and, and_false, not_true, not_false_eq_true, tf_T, tf_F, y_up1, y_up2, y_xx, y_nx, y_sJ, y_sR, Int32.reduceLT, y_nxK, y_nxL, y_nxR, y_sJK, y_sJL, y_sJR, y_sJN, y_sRK, y_sRL, y_sRN, Nat.add_zero, z_nat, z_lit, z_lit0, z_lit1, z_in0, z_in1, z_addl0, z_lt, z_ltl, z_llt, z_inj, z_injl, z_add, z_addl, z_ladd, z_mul, z_mull, z_lmul, z_neg, z_negl, z_in, z_inl, z_ltT, z_ltF, z_eqF, z_10, z_01, z_litne, z_ne0, z_0ne, z_ne1, z_1ne, z_lt64, z_02, z_03, z_04, z_05, z_12, z_13, z_14, z_15, z_20, z_21, z_23, z_24, z_25, z_30, z_31, z_32, z_34, z_35, z_40, z_41, z_42, z_43, z_45, z_50, z_51, z_52, z_53, z_54]
theorem m_buy_full (h : MR B i σ) (a : ¬ x < 0 ∧ ¬ 3 < x) (b : ¬ y < 0 ∧ ¬ 2 < y) (k : x = 3 → y = 0) (e : ¬ z < 5 ∧ ¬ 100 < z) (e2 : ¬ u < 1 ∧ ¬ 60 < u) (e3 : bnd x v) (hc : σ.1 460 = Int32.ofNat 120) : MRs B i σ (am_fx am_P (d + 150) 30 0 [some (.ref 874), some (.int x), some (.int y), some (.int z), some (.int u), some (.int v)] [] (am_wI B i)) (some (.int 0)) 2 := by
  refine MRs_x h ?_
  have hM : Md B := h.1.1
  have ec : i 875 460 = Int32.ofNat 120 := (h.2.1 460 (by omega)).trans hc
  have ec' : (Int32.ofNat 120 = (120 : Int32)) := rfl
  rw [bk_30_0]
  by_cases k1 : x = 3
  · have k2 := k k1
    subst k1
    subst k2
    rw [bnd2 (by decide)] at e3
    subst e3
    simp (maxSteps := 2000000) (disch := omega) only [(fun d x0 x1 x2 x3 x4 x5 B i => bk_30_0 d x0 x1 x2 x3 x4 x5 (am_wI B i)), (fun d x0 x1 x2 x3 x4 x5 s0 s1 B i => bk_30_89 d x0 x1 x2 x3 x4 x5 s0 s1 (am_wI B i)), (fun d x0 x1 x2 x3 x4 x5 s0 s1 s2 s3 B i => bk_30_27 d x0 x1 x2 x3 x4 x5 s0 s1 s2 s3 (am_wI B i)), (fun d x0 x1 x2 x3 x4 x5 s0 s1 B i => bk_30_115 d x0 x1 x2 x3 x4 x5 s0 s1 (am_wI B i)), (fun d x0 x1 x2 x3 x4 x5 s0 s1 s2 B i => bk_30_67 d x0 x1 x2 x3 x4 x5 s0 s1 s2 (am_wI B i)), (fun d x0 x1 x2 x3 x4 x5 s0 s1 s2 s3 B i => bk_30_78 d x0 x1 x2 x3 x4 x5 s0 s1 s2 s3 (am_wI B i)), m_in, m_thr0, m_thr1 hM, hM, e.1, e.2, e2.1, e2.2, z_eq0, ec, ec', y_ckd, y_ck2d, y_ond, y_onn, y_oI, y_oIx, y_oJ, y_oV, y_oVx, y_oR, y_oRn, y_oRx, y_b0, y_b1, y_bi, y_bid, y_wIK, y_wIL, y_wII, y_wIJ, y_wIR, y_wIN, y_wIw, y_sI, ↓reduceIte, Nat.reduceEqDiff, eq_self, true_or, or_true, false_or, or_false, and_true, true_and, false_and, and_false, not_true, not_false_eq_true, tf_T, tf_F, y_up1, y_up2, y_xx, y_nx, y_sJ, y_sR, Int32.reduceLT, y_nxK, y_nxL, y_nxR, y_sJK, y_sJL, y_sJR, y_sJN, y_sRK, y_sRL, y_sRN, Nat.add_zero, z_nat, z_lit, z_lit0, z_lit1, z_in0, z_in1, z_addl0, z_lt, z_ltl, z_llt, z_inj, z_injl, z_add, z_addl, z_ladd, z_mul, z_mull, z_lmul, z_neg, z_negl, z_in, z_inl, z_ltT, z_ltF, z_eqF, z_10, z_01, z_litne, z_ne0, z_0ne, z_ne1, z_1ne, z_lt64, z_02, z_03, z_04, z_05, z_12, z_13, z_14, z_15, z_20, z_21, z_23, z_24, z_25, z_30, z_31, z_32, z_34, z_35, z_40, z_41, z_42, z_43, z_45, z_50, z_51, z_52, z_53, z_54]
  · by_cases k2 : x = 1
    · rw [bnd1 k2] at e3
      subst k2
      simp (maxSteps := 2000000) (disch := omega) only [(fun d x0 x1 x2 x3 x4 x5 B i => bk_30_0 d x0 x1 x2 x3 x4 x5 (am_wI B i)), (fun d x0 x1 x2 x3 x4 x5 s0 s1 B i => bk_30_89 d x0 x1 x2 x3 x4 x5 s0 s1 (am_wI B i)), (fun d x0 x1 x2 x3 x4 x5 s0 s1 s2 s3 B i => bk_30_27 d x0 x1 x2 x3 x4 x5 s0 s1 s2 s3 (am_wI B i)), (fun d x0 x1 x2 x3 x4 x5 s0 s1 B i => bk_30_115 d x0 x1 x2 x3 x4 x5 s0 s1 (am_wI B i)), (fun d x0 x1 x2 x3 x4 x5 s0 s1 s2 B i => bk_30_67 d x0 x1 x2 x3 x4 x5 s0 s1 s2 (am_wI B i)), (fun d x0 x1 x2 x3 x4 x5 s0 s1 s2 s3 B i => bk_30_78 d x0 x1 x2 x3 x4 x5 s0 s1 s2 s3 (am_wI B i)), m_in, m_thr0, m_thr1 hM, hM, b.1, b.2, e.1, e.2, e2.1, e2.2, e3.1, e3.2, ec, ec', y_ckd, y_ck2d, y_ond, y_onn, y_oI, y_oIx, y_oJ, y_oV, y_oVx, y_oR, y_oRn, y_oRx, y_b0, y_b1, y_bi, y_bid, y_wIK, y_wIL, y_wII, y_wIJ, y_wIR, y_wIN, y_wIw, y_sI, ↓reduceIte, Nat.reduceEqDiff, eq_self, true_or, or_true, false_or, or_false, and_true, true_and, false_and, and_false, not_true, not_false_eq_true, tf_T, tf_F, y_up1, y_up2, y_xx, y_nx, y_sJ, y_sR, Int32.reduceLT, y_nxK, y_nxL, y_nxR, y_sJK, y_sJL, y_sJR, y_sJN, y_sRK, y_sRL, y_sRN, Nat.add_zero, z_nat, z_lit, z_lit0, z_lit1, z_in0, z_in1, z_addl0, z_lt, z_ltl, z_llt, z_inj, z_injl, z_add, z_addl, z_ladd, z_mul, z_mull, z_lmul, z_neg, z_negl, z_in, z_inl, z_ltT, z_ltF, z_eqF, z_10, z_01, z_litne, z_ne0, z_0ne, z_ne1, z_1ne, z_lt64, z_02, z_03, z_04, z_05, z_12, z_13, z_14, z_15, z_20, z_21, z_23, z_24, z_25, z_30, z_31, z_32, z_34, z_35, z_40, z_41, z_42, z_43, z_45, z_50, z_51, z_52, z_53, z_54]
    · rw [bnd2 k2] at e3
      subst e3
      simp (maxSteps := 2000000) (disch := omega) only [(fun d x0 x1 x2 x3 x4 x5 B i => bk_30_0 d x0 x1 x2 x3 x4 x5 (am_wI B i)), (fun d x0 x1 x2 x3 x4 x5 s0 s1 B i => bk_30_89 d x0 x1 x2 x3 x4 x5 s0 s1 (am_wI B i)), (fun d x0 x1 x2 x3 x4 x5 s0 s1 s2 s3 B i => bk_30_27 d x0 x1 x2 x3 x4 x5 s0 s1 s2 s3 (am_wI B i)), (fun d x0 x1 x2 x3 x4 x5 s0 s1 B i => bk_30_115 d x0 x1 x2 x3 x4 x5 s0 s1 (am_wI B i)), (fun d x0 x1 x2 x3 x4 x5 s0 s1 s2 B i => bk_30_67 d x0 x1 x2 x3 x4 x5 s0 s1 s2 (am_wI B i)), (fun d x0 x1 x2 x3 x4 x5 s0 s1 s2 s3 B i => bk_30_78 d x0 x1 x2 x3 x4 x5 s0 s1 s2 s3 (am_wI B i)), m_in, m_thr0, m_thr1 hM, hM, a.1, a.2, k1, k2, b.1, b.2, e.1, e.2, e2.1, e2.2, z_eq0, ec, ec', y_ckd, y_ck2d, y_ond, y_onn, y_oI, y_oIx, y_oJ, y_oV, y_oVx, y_oR, y_oRn, y_oRx, y_b0, y_b1, y_bi, y_bid, y_wIK, y_wIL, y_wII, y_wIJ, y_wIR, y_wIN, y_wIw, y_sI, ↓reduceIte, Nat.reduceEqDiff, eq_self, true_or, or_true, false_or, or_false, and_true, true_and, false_and, and_false, not_true, not_false_eq_true, tf_T, tf_F, y_up1, y_up2, y_xx, y_nx, y_sJ, y_sR, Int32.reduceLT, y_nxK, y_nxL, y_nxR, y_sJK, y_sJL, y_sJR, y_sJN, y_sRK, y_sRL, y_sRN, Nat.add_zero, z_nat, z_lit, z_lit0, z_lit1, z_in0, z_in1, z_addl0, z_lt, z_ltl, z_llt, z_inj, z_injl, z_add, z_addl, z_ladd, z_mul, z_mull, z_lmul, z_neg, z_negl, z_in, z_inl, z_ltT, z_ltF, z_eqF, z_10, z_01, z_litne, z_ne0, z_0ne, z_ne1, z_1ne, z_lt64, z_02, z_03, z_04, z_05, z_12, z_13, z_14, z_15, z_20, z_21, z_23, z_24, z_25, z_30, z_31, z_32, z_34, z_35, z_40, z_41, z_42, z_43, z_45, z_50, z_51, z_52, z_53, z_54]
theorem c_newPiece (hY : Yd B 94) (hc : i 94 5 = Int32.ofNat c) (c6 : c < 120) : am_fx am_P (d + 1) 238 0 [some (.ref 94), none] [] (am_wI B i) = some (.inl (some (.ref (94 + 92 + c))), am_wI B (am_up2 i 94 5 (Int32.ofNat (c + 1)))) := by
  rw [bk_238_0]
  simp (disch := omega) only [bk_0_0, hc, hY, y_ckd, y_ck2d, y_ond, y_onn, y_oI, y_oIx, y_oJ, y_oV, y_oVx, y_oR, y_oRn, y_oRx, y_b0, y_b1, y_bi, y_bid, y_wIK, y_wIL, y_wII, y_wIJ, y_wIR, y_wIN, y_wIw, y_sI, ↓reduceIte, Nat.reduceEqDiff, eq_self, true_or, or_true, false_or, or_false, and_true, true_and, false_and, and_false, not_true, not_false_eq_true, tf_T, tf_F, y_up1, y_up2, y_xx, y_nx, y_sJ, y_sR, Int32.reduceLT, y_nxK, y_nxL, y_nxR, y_sJK, y_sJL, y_sJR, y_sJN, y_sRK, y_sRL, y_sRN, Nat.add_zero, z_nat, z_lit, z_lit0, z_lit1, z_in0, z_in1, z_addl0, z_lt, z_ltl, z_llt, z_inj, z_injl, z_add, z_addl, z_ladd, z_mul, z_mull, z_lmul, z_neg, z_negl, z_in, z_inl, z_ltT, z_ltF, z_eqF, z_10, z_01, z_litne, z_ne0, z_0ne, z_ne1, z_1ne, z_lt64, z_02, z_03, z_04, z_05, z_12, z_13, z_14, z_15, z_20, z_21, z_23, z_24, z_25, z_30, z_31, z_32, z_34, z_35, z_40, z_41, z_42, z_43, z_45, z_50, z_51, z_52, z_53, z_54]
theorem f_buy {c : Nat} (h : CR B i σ) (hW : Wd σ.1) (a : ¬ x < 0 ∧ ¬ 3 < x) (b : ¬ y < 0 ∧ ¬ 2 < y) (k : x = 3 → y = 0) (e : ¬ z < 5 ∧ ¬ 100 < z) (e2 : ¬ u < 1 ∧ ¬ 60 < u) (e3 : bnd x v) (hc : σ.1 460 = Int32.ofNat c) (c6 : c < 120) : FRs B i ((pcw σ.1 c (npf x 1 z u v y 0 0 (-1) (σ.1 0) (-1) 0)), σ.1, σ.2.2.1, true, σ.2.2.2.2) (am_fx am_P (d + 150) 296 0 [some (.ref 64), some (.int x), some (.int y), some (.int z), some (.int u), some (.int v), none] [] (am_wI B i)) (.inl (some (.int (Int32.ofNat c)))) := by
  have hF : Fc B := h.1.1
  have hY : Yd B 94 := h.1.2.1
  have ec : i 94 5 = Int32.ofNat c := h.2.1.2.2.1.1.trans hc
  have c6' : Int32.ofNat c < 120 := by rw [show (120 : Int32) = Int32.ofNat 120 from rfl, z_lt (by omega) (by omega)]; omega
  obtain ⟨B1, i1, E, hC, hS, hf⟩ := c_remember (d := d + 143) h hW
  have hF1 : Fc B1 := hC.1.1
  have hY1 : Yd B1 94 := hC.1.2.1
  have ec1 : i1 94 5 = Int32.ofNat c := hC.2.1.2.2.1.1.trans hc
  have k0 : i1 94 0 = σ.1 0 := hC.2.1.1.1
  have hq : am_K B1 (94 + 92 + c) = 5 := by simp (disch := omega) only [hY1]
  obtain ⟨j, E2, jf, ⟨g0, g1, g7, g5, g6, g8, g9, g10, g11, g12, g13, g14, g15, g16, g17, g18⟩, -⟩ := pc_begin (B := B1) (i := am_up2 i1 94 5 (Int32.ofNat (c + 1))) (d := d + 148) (q := 94 + 92 + c) (x := x) (y := y) (z := σ.1 0) hq
  have j5 : j 94 5 = Int32.ofNat (c + 1) := by rw [jf _ (by omega), y_up1 rfl rfl]
  refine FRs_tr hS hf (FRs_w (i' := am_up2 (am_up2 (am_up2 j (94 + 92 + c) 2 z) (94 + 92 + c) 3 u) (94 + 92 + c) 4 v) hC ?_ ?_ (fun q k h1 h2 => by rw [y_up2 (by omega), y_up2 (by omega), y_up2 (by omega), jf _ (by omega), y_up2 (by omega)]))
  · rw [bk_296_0]
  by_cases k1 : x = 3
  · have k2 := k k1
    simp (maxSteps := 2000000) (disch := omega) only [(fun d x0 x1 x2 x3 x4 x5 B i => bk_296_0 d x0 x1 x2 x3 x4 x5 (am_wI B i)), (fun d x0 x1 x2 x3 x4 x5 s0 B i => bk_296_32 d x0 x1 x2 x3 x4 x5 s0 (am_wI B i)), (fun d x0 x1 x2 x3 x4 x5 s0 B i => bk_296_70 d x0 x1 x2 x3 x4 x5 s0 (am_wI B i)), (fun d x0 x1 x2 x3 x4 x5 B i => bk_296_65 d x0 x1 x2 x3 x4 x5 (am_wI B i)), (fun d x0 x1 x2 x3 x4 x5 x6 B i => bk_296_98 d x0 x1 x2 x3 x4 x5 x6 (am_wI B i)), c_ckN0, c_ckN1, hF, hY, c_within1 a, c_within1 b, c_within1 e, c_within1 e2, c_bend1 e3, k1, k2, ec, c_ckR1 c6', E, c_newPiece hY1 ec1 c6, E2, pc_measure hq, k0, j5, jf, z_n1, hF1, hY1, y_ckd, y_ck2d, y_ond, y_onn, y_oI, y_oIx, y_oJ, y_oV, y_oVx, y_oR, y_oRn, y_oRx, y_b0, y_b1, y_bi, y_bid, y_wIK, y_wIL, y_wII, y_wIJ, y_wIR, y_wIN, y_wIw, y_sI, ↓reduceIte, Nat.reduceEqDiff, eq_self, true_or, or_true, false_or, or_false, and_true, true_and, false_and, and_false, not_true, not_false_eq_true, tf_T, tf_F, y_up1, y_up2, y_xx, y_nx, y_sJ, y_sR, Int32.reduceLT, y_nxK, y_nxL, y_nxR, y_sJK, y_sJL, y_sJR, y_sJN, y_sRK, y_sRL, y_sRN, Nat.add_zero, z_nat, z_lit, z_lit0, z_lit1, z_in0, z_in1, z_addl0, z_lt, z_ltl, z_llt, z_inj, z_injl, z_add, z_addl, z_ladd, z_mul, z_mull, z_lmul, z_neg, z_negl, z_in, z_inl, z_ltT, z_ltF, z_eqF, z_10, z_01, z_litne, z_ne0, z_0ne, z_ne1, z_1ne, z_lt64, z_02, z_03, z_04, z_05, z_12, z_13, z_14, z_15, z_20, z_21, z_23, z_24, z_25, z_30, z_31, z_32, z_34, z_35, z_40, z_41, z_42, z_43, z_45, z_50, z_51, z_52, z_53, z_54]
  · simp (maxSteps := 2000000) (disch := omega) only [(fun d x0 x1 x2 x3 x4 x5 B i => bk_296_0 d x0 x1 x2 x3 x4 x5 (am_wI B i)), (fun d x0 x1 x2 x3 x4 x5 s0 B i => bk_296_32 d x0 x1 x2 x3 x4 x5 s0 (am_wI B i)), (fun d x0 x1 x2 x3 x4 x5 s0 B i => bk_296_70 d x0 x1 x2 x3 x4 x5 s0 (am_wI B i)), (fun d x0 x1 x2 x3 x4 x5 B i => bk_296_65 d x0 x1 x2 x3 x4 x5 (am_wI B i)), (fun d x0 x1 x2 x3 x4 x5 x6 B i => bk_296_98 d x0 x1 x2 x3 x4 x5 x6 (am_wI B i)), c_ckN0, c_ckN1, hF, hY, c_within1 a, c_within1 b, c_within1 e, c_within1 e2, c_bend1 e3, k1, ec, c_ckR1 c6', E, c_newPiece hY1 ec1 c6, E2, pc_measure hq, k0, j5, jf, z_n1, hF1, hY1, y_ckd, y_ck2d, y_ond, y_onn, y_oI, y_oIx, y_oJ, y_oV, y_oVx, y_oR, y_oRn, y_oRx, y_b0, y_b1, y_bi, y_bid, y_wIK, y_wIL, y_wII, y_wIJ, y_wIR, y_wIN, y_wIw, y_sI, ↓reduceIte, Nat.reduceEqDiff, eq_self, true_or, or_true, false_or, or_false, and_true, true_and, false_and, and_false, not_true, not_false_eq_true, tf_T, tf_F, y_up1, y_up2, y_xx, y_nx, y_sJ, y_sR, Int32.reduceLT, y_nxK, y_nxL, y_nxR, y_sJK, y_sJL, y_sJR, y_sJN, y_sRK, y_sRL, y_sRN, Nat.add_zero, z_nat, z_lit, z_lit0, z_lit1, z_in0, z_in1, z_addl0, z_lt, z_ltl, z_llt, z_inj, z_injl, z_add, z_addl, z_ladd, z_mul, z_mull, z_lmul, z_neg, z_negl, z_in, z_inl, z_ltT, z_ltF, z_eqF, z_10, z_01, z_litne, z_ne0, z_0ne, z_ne1, z_1ne, z_lt64, z_02, z_03, z_04, z_05, z_12, z_13, z_14, z_15, z_20, z_21, z_23, z_24, z_25, z_30, z_31, z_32, z_34, z_35, z_40, z_41, z_42, z_43, z_45, z_50, z_51, z_52, z_53, z_54]
  · refine Rep_new hC.2.1 (by omega) hc c6 (fun q k h1 h2 => by rw [y_up2 (by omega), y_up2 (by omega), y_up2 (by omega), jf _ (by omega), y_up2 (by omega)]) (by rw [y_up2 (by omega), y_up2 (by omega), y_up2 (by omega)]; exact j5) ?_
    refine ⟨?_, ?_, ?_, ?_, ?_, ?_, ?_, ?_, ?_, ?_, ?_, ?_, ?_, ?_, ?_, ?_, ?_, fun e => ?_, ?_⟩
    all_goals try (rw [pcw_0]; simp (disch := omega) only [y_up1, y_up2, g0]; done)
    all_goals try (rw [pcw_at (by omega)]; simp (disch := omega) only [y_up1, y_up2, g0, g1, g7, g5, g6, g9, g10, g11, g12, g13, g14, g15, g16, g17, g18]; rfl)
    · rw [pcw_at (by omega)] at e
      exact absurd e (by show ¬ (1 : Int32) = 0; decide)
    · rw [pcw_at (by omega), y_up2 (by omega), y_up2 (by omega), y_up2 (by omega), g6]
      rfl
theorem m_buy {c : Nat} (h : MR B i σ) (a : ¬ x < 0 ∧ ¬ 3 < x) (b : ¬ y < 0 ∧ ¬ 2 < y) (k : x = 3 → y = 0) (e : ¬ z < 5 ∧ ¬ 100 < z) (e2 : ¬ u < 1 ∧ ¬ 60 < u) (e3 : bnd x v) (hc : σ.1 460 = Int32.ofNat c) (c6 : c < 120) : MRs B i ((pcw σ.1 c (npf x 1 z u v y 0 0 (-1) (σ.1 0) (-1) 0)), σ.1, σ.2.2.1, true, σ.2.2.2.2) (am_fx am_P (d + 150) 30 0 [some (.ref 874), some (.int x), some (.int y), some (.int z), some (.int u), some (.int v)] [] (am_wI B i)) (some (.int (Int32.ofNat c))) 0 := by
  have hM : Md B := h.1.1
  have ec : i 875 460 = Int32.ofNat c := (h.2.1 460 (by omega)).trans hc
  have c6' : ¬ Int32.ofNat c = 120 := by rw [show (120 : Int32) = Int32.ofNat 120 from rfl, z_inj (by omega) (by omega)]; omega
  obtain ⟨i1, E, hD, hf⟩ := m_deed (d := d + 149) (MR_0 h)
  have z0 : i1 874 0 = 0 := (hf _ _ (by omega) (by omega)).trans (y_up1 rfl rfl)
  obtain ⟨j, E2, hj, jf⟩ := m_begins (d := d + 146) (x := x) (y := y) (z := z) (u := u) (v := v) (t := -1) hM hD.2.1 hc c6
  refine MRs_d hf (MRs_w hD (i' := j) ?_ (by rw [jf _ _ (by omega)]; exact z0) hj (fun q k h1 h2 => jf q k (by omega)))
  rw [bk_30_0]
  by_cases k1 : x = 3
  · have k2 := k k1
    subst k1
    subst k2
    rw [bnd2 (by decide)] at e3
    subst e3
    simp (maxSteps := 2000000) (disch := omega) only [(fun d x0 x1 x2 x3 x4 x5 B i => bk_30_0 d x0 x1 x2 x3 x4 x5 (am_wI B i)), (fun d x0 x1 x2 x3 x4 x5 s0 s1 B i => bk_30_89 d x0 x1 x2 x3 x4 x5 s0 s1 (am_wI B i)), (fun d x0 x1 x2 x3 x4 x5 s0 s1 s2 s3 B i => bk_30_27 d x0 x1 x2 x3 x4 x5 s0 s1 s2 s3 (am_wI B i)), (fun d x0 x1 x2 x3 x4 x5 s0 s1 B i => bk_30_115 d x0 x1 x2 x3 x4 x5 s0 s1 (am_wI B i)), (fun d x0 x1 x2 x3 x4 x5 s0 s1 s2 B i => bk_30_67 d x0 x1 x2 x3 x4 x5 s0 s1 s2 (am_wI B i)), (fun d x0 x1 x2 x3 x4 x5 s0 s1 s2 s3 B i => bk_30_78 d x0 x1 x2 x3 x4 x5 s0 s1 s2 s3 (am_wI B i)), m_in, m_thr0, m_thr1 hM, hM, e.1, e.2, e2.1, e2.2, z_eq0, ec, c6', E, E2, y_ckd, y_ck2d, y_ond, y_onn, y_oI, y_oIx, y_oJ, y_oV, y_oVx, y_oR, y_oRn, y_oRx, y_b0, y_b1, y_bi, y_bid, y_wIK, y_wIL, y_wII, y_wIJ, y_wIR, y_wIN, y_wIw, y_sI, ↓reduceIte, Nat.reduceEqDiff, eq_self, true_or, or_true, false_or, or_false, and_true, true_and, false_and, and_false, not_true, not_false_eq_true, tf_T, tf_F, y_up1, y_up2, y_xx, y_nx, y_sJ, y_sR, Int32.reduceLT, y_nxK, y_nxL, y_nxR, y_sJK, y_sJL, y_sJR, y_sJN, y_sRK, y_sRL, y_sRN, Nat.add_zero, z_nat, z_lit, z_lit0, z_lit1, z_in0, z_in1, z_addl0, z_lt, z_ltl, z_llt, z_inj, z_injl, z_add, z_addl, z_ladd, z_mul, z_mull, z_lmul, z_neg, z_negl, z_in, z_inl, z_ltT, z_ltF, z_eqF, z_10, z_01, z_litne, z_ne0, z_0ne, z_ne1, z_1ne, z_lt64, z_02, z_03, z_04, z_05, z_12, z_13, z_14, z_15, z_20, z_21, z_23, z_24, z_25, z_30, z_31, z_32, z_34, z_35, z_40, z_41, z_42, z_43, z_45, z_50, z_51, z_52, z_53, z_54]
  · by_cases k2 : x = 1
    · rw [bnd1 k2] at e3
      subst k2
      simp (maxSteps := 2000000) (disch := omega) only [(fun d x0 x1 x2 x3 x4 x5 B i => bk_30_0 d x0 x1 x2 x3 x4 x5 (am_wI B i)), (fun d x0 x1 x2 x3 x4 x5 s0 s1 B i => bk_30_89 d x0 x1 x2 x3 x4 x5 s0 s1 (am_wI B i)), (fun d x0 x1 x2 x3 x4 x5 s0 s1 s2 s3 B i => bk_30_27 d x0 x1 x2 x3 x4 x5 s0 s1 s2 s3 (am_wI B i)), (fun d x0 x1 x2 x3 x4 x5 s0 s1 B i => bk_30_115 d x0 x1 x2 x3 x4 x5 s0 s1 (am_wI B i)), (fun d x0 x1 x2 x3 x4 x5 s0 s1 s2 B i => bk_30_67 d x0 x1 x2 x3 x4 x5 s0 s1 s2 (am_wI B i)), (fun d x0 x1 x2 x3 x4 x5 s0 s1 s2 s3 B i => bk_30_78 d x0 x1 x2 x3 x4 x5 s0 s1 s2 s3 (am_wI B i)), m_in, m_thr0, m_thr1 hM, hM, b.1, b.2, e.1, e.2, e2.1, e2.2, e3.1, e3.2, ec, c6', E, E2, y_ckd, y_ck2d, y_ond, y_onn, y_oI, y_oIx, y_oJ, y_oV, y_oVx, y_oR, y_oRn, y_oRx, y_b0, y_b1, y_bi, y_bid, y_wIK, y_wIL, y_wII, y_wIJ, y_wIR, y_wIN, y_wIw, y_sI, ↓reduceIte, Nat.reduceEqDiff, eq_self, true_or, or_true, false_or, or_false, and_true, true_and, false_and, and_false, not_true, not_false_eq_true, tf_T, tf_F, y_up1, y_up2, y_xx, y_nx, y_sJ, y_sR, Int32.reduceLT, y_nxK, y_nxL, y_nxR, y_sJK, y_sJL, y_sJR, y_sJN, y_sRK, y_sRL, y_sRN, Nat.add_zero, z_nat, z_lit, z_lit0, z_lit1, z_in0, z_in1, z_addl0, z_lt, z_ltl, z_llt, z_inj, z_injl, z_add, z_addl, z_ladd, z_mul, z_mull, z_lmul, z_neg, z_negl, z_in, z_inl, z_ltT, z_ltF, z_eqF, z_10, z_01, z_litne, z_ne0, z_0ne, z_ne1, z_1ne, z_lt64, z_02, z_03, z_04, z_05, z_12, z_13, z_14, z_15, z_20, z_21, z_23, z_24, z_25, z_30, z_31, z_32, z_34, z_35, z_40, z_41, z_42, z_43, z_45, z_50, z_51, z_52, z_53, z_54]
    · rw [bnd2 k2] at e3
      subst e3
      simp (maxSteps := 2000000) (disch := omega) only [(fun d x0 x1 x2 x3 x4 x5 B i => bk_30_0 d x0 x1 x2 x3 x4 x5 (am_wI B i)), (fun d x0 x1 x2 x3 x4 x5 s0 s1 B i => bk_30_89 d x0 x1 x2 x3 x4 x5 s0 s1 (am_wI B i)), (fun d x0 x1 x2 x3 x4 x5 s0 s1 s2 s3 B i => bk_30_27 d x0 x1 x2 x3 x4 x5 s0 s1 s2 s3 (am_wI B i)), (fun d x0 x1 x2 x3 x4 x5 s0 s1 B i => bk_30_115 d x0 x1 x2 x3 x4 x5 s0 s1 (am_wI B i)), (fun d x0 x1 x2 x3 x4 x5 s0 s1 s2 B i => bk_30_67 d x0 x1 x2 x3 x4 x5 s0 s1 s2 (am_wI B i)), (fun d x0 x1 x2 x3 x4 x5 s0 s1 s2 s3 B i => bk_30_78 d x0 x1 x2 x3 x4 x5 s0 s1 s2 s3 (am_wI B i)), m_in, m_thr0, m_thr1 hM, hM, a.1, a.2, k1, k2, b.1, b.2, e.1, e.2, e2.1, e2.2, z_eq0, ec, c6', E, E2, y_ckd, y_ck2d, y_ond, y_onn, y_oI, y_oIx, y_oJ, y_oV, y_oVx, y_oR, y_oRn, y_oRx, y_b0, y_b1, y_bi, y_bid, y_wIK, y_wIL, y_wII, y_wIJ, y_wIR, y_wIN, y_wIw, y_sI, ↓reduceIte, Nat.reduceEqDiff, eq_self, true_or, or_true, false_or, or_false, and_true, true_and, false_and, and_false, not_true, not_false_eq_true, tf_T, tf_F, y_up1, y_up2, y_xx, y_nx, y_sJ, y_sR, Int32.reduceLT, y_nxK, y_nxL, y_nxR, y_sJK, y_sJL, y_sJR, y_sJN, y_sRK, y_sRL, y_sRN, Nat.add_zero, z_nat, z_lit, z_lit0, z_lit1, z_in0, z_in1, z_addl0, z_lt, z_ltl, z_llt, z_inj, z_injl, z_add, z_addl, z_ladd, z_mul, z_mull, z_lmul, z_neg, z_negl, z_in, z_inl, z_ltT, z_ltF, z_eqF, z_10, z_01, z_litne, z_ne0, z_0ne, z_ne1, z_1ne, z_lt64, z_02, z_03, z_04, z_05, z_12, z_13, z_14, z_15, z_20, z_21, z_23, z_24, z_25, z_30, z_31, z_32, z_34, z_35, z_40, z_41, z_42, z_43, z_45, z_50, z_51, z_52, z_53, z_54]
theorem PcW_buy {c : Nat} (h : Wd w) (a : ¬ x < 0 ∧ ¬ 3 < x) (b : ¬ y < 0 ∧ ¬ 2 < y) (e : ¬ z < 5 ∧ ¬ 100 < z) (e2 : ¬ u < 1 ∧ ¬ 60 < u) (hc : w 460 = Int32.ofNat c) (c6 : c < 120) : Wd (pcw w c (npf x 1 z u v y 0 0 (-1) (w 0) (-1) 0)) := by
  have hz : ∃ m, z = Int32.ofNat m ∧ 5 ≤ m ∧ m ≤ 100 := by
    have z0 : ¬ z < 0 := fun q => e.1 (by
      rw [Int32.lt_iff_toInt_lt] at q ⊢
      have e1 : (0 : Int32).toInt = 0 := by decide
      have e2 : (5 : Int32).toInt = 5 := by decide
      omega)
    obtain ⟨m, rfl, hm⟩ := z_le 100 (by omega) z0 e.2
    refine ⟨m, rfl, ?_, hm⟩
    have q := e.1
    rw [show (5 : Int32) = Int32.ofNat 5 from rfl, z_lt (by omega) (by omega)] at q
    omega
  obtain ⟨m, rfl, m5, m1⟩ := hz
  have k0 := h.1.1
  have k02 := k0.2
  have c2 : cn (pcw w c (npf x 1 (Int32.ofNat m) u v y 0 0 (-1) (w 0) (-1) 0)) (461 + 18 * c + 2) = m := cn_of (pcw_at (by omega)) (by omega)
  have hlt : lnt (pcw w c (npf x 1 (Int32.ofNat m) u v y 0 0 (-1) (w 0) (-1) 0)) c ≤ 100 := by
    unfold lnt
    rw [c2]
    split <;> omega
  refine Wd_new h hc c6 ⟨?_, ?_, ?_, ?_, ?_, ?_, ?_, ?_, ?_, ?_, ?_, ?_, ?_⟩ ?_
  · rw [c2, pcw_at (by omega)]
    exact ⟨rfl, m5, by omega, fun _ => m1⟩
  · rw [pcw_0]
    exact z_rg a.1 a.2 (by decide)
  · rw [pcw_at (by omega)]
    show ¬ (1 : Int32) < 0 ∧ (1 : Int32) < 7
    decide
  · rw [pcw_at (by omega)]
    refine ⟨fun q => e2.1 ?_, (z_rg e2.1 e2.2 (by decide)).2⟩
    have q : u < 0 := q
    rw [Int32.lt_iff_toInt_lt] at q ⊢
    have e1 : (0 : Int32).toInt = 0 := by decide
    have e3 : (1 : Int32).toInt = 1 := by decide
    omega
  · rw [pcw_at (by omega)]
    exact z_rg b.1 b.2 (by decide)
  · rw [pcw_at (by omega), pcw_ne (by omega)]
    show ¬ (0 : Int32) < 0 ∧ ¬ w 0 < 0
    refine ⟨by decide, ?_⟩
    rw [k0.1, z_neg (by omega)]
    exact id
  · rw [pcw_at (by omega)]
    show ¬ (0 : Int32) < 0 ∧ (0 : Int32) < 101
    decide
  · rw [pcw_at (by omega)]
    exact Or.inl rfl
  · rw [pcw_at (by omega)]
    exact Or.inl rfl
  · rw [pcw_at (by omega)]
    exact fun q => absurd (show (1 : Int32) = 3 from q) (by decide)
  · rw [pcw_at (by omega)]
    exact Or.inl rfl
  · rw [pcw_at (by omega)]
    exact Or.inl rfl
  · rw [pcw_at (by omega)]
    exact Or.inl rfl
  · rw [lng_new hc c6]
    have := h.2.2.2.1.2
    rw [cn_of hc (by omega)] at this
    omega
theorem k_buy (h : Sim B i σ) (hs : Sc B i L j) (hO : am_K B 892 = 22 ∧ am_L B 892 = 1) : Stq B i d 604 j := by
  by_cases g : (¬ (i 0 (j + 1)) < 0 ∧ ¬ 3 < (i 0 (j + 1))) ∧ (¬ (i 0 (j + 2)) < 0 ∧ ¬ 2 < (i 0 (j + 2))) ∧ ((i 0 (j + 1)) = 3 → (i 0 (j + 2)) = 0) ∧ (¬ (i 0 (j + 3)) < 5 ∧ ¬ 100 < (i 0 (j + 3))) ∧ (¬ (i 0 (j + 4)) < 1 ∧ ¬ 60 < (i 0 (j + 4))) ∧ bnd (i 0 (j + 1)) (i 0 (j + 5))
  rotate_left
  · exact kx_5_2 h hs hO (f_buy_x0 (d := d + 48) h.1 g) fun B0 i0 h0 => m_buy_x0 (d := d + 49) h0 g
  obtain ⟨a, b, k, e, e2, e3⟩ := g
  have hc := h.2.2.1.1.2.2.1
  rcases z_cmp4 hc.2 with c4 | c4
  · exact kk_5 (σ' := ((pcw σ.1 cn σ.1 460 (npf (i 0 (j + 1)) 1 (i 0 (j + 3)) (i 0 (j + 4)) (i 0 (j + 5)) (i 0 (j + 2)) 0 0 (-1) (σ.1 0) (-1) 0)), σ.1, σ.2.2.1, true, σ.2.2.2.2)) h hs hO ⟨PcW_buy h.2.2.1 a b e e2 hc.1 c4, fun _ => h.2.2.1, h.2.2.2.2.1, h.2.2.2.2.2⟩ (f_buy (d := d + 48) h.1 h.2.2.1 a b k e e2 e3 hc.1 c4) fun B0 i0 h0 => m_buy (d := d + 49) h0 a b k e e2 e3 hc.1 c4
  · have ec : σ.1 460 = Int32.ofNat 120 := by rw [hc.1, c4]
    exact kx_5_3 h hs hO (f_buy_full (d := d + 48) h.1 a b k e e2 e3 ec) fun B0 i0 h0 => m_buy_full (d := d + 49) h0 a b k e e2 e3 ec
end NewPc
