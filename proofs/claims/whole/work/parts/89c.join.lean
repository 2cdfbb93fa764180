/-! MAKE: the class. Made by wip/whole/math/89c.py. -/
section Make2
variable {B B1 : am_A} {i i1 : Nat → Nat → Int32} {σ σ' : Sg} {w : Nat → Int32} {L j d b m n c s T p k : Nat} {x y z : Int32} {f : Nat → Nat}
theorem mn_self : mn x x = x := by
  unfold mn
  split <;> rfl
theorem z_l4 {a l : Int32} : a + l - 4 = a + (l - 4) := by rw [Int32.sub_eq_add_neg, Int32.sub_eq_add_neg, Int32.add_assoc]
theorem z_44 {l : Int32} : 4 + (l - 4) = l := by
  rw [Int32.sub_eq_add_neg, Int32.add_comm l, ← Int32.add_assoc, show (4 : Int32) + -4 = 0 from by decide, Int32.zero_add]
theorem mx_0 (h : ¬ x < 0) : mx 0 x = x := by
  unfold mx
  by_cases g : 0 < x
  · rw [if_pos g]
  · rw [if_neg g]
    rw [Int32.lt_iff_toInt_lt] at g h
    have k0 : (0 : Int32).toInt = 0 := by decide
    exact Int32.toInt_inj.mp (by omega)
theorem dyf_b {r : Nat} (h : ∀ q, q < r → ¬ bt2 T q) : ∀ k, k ≤ r → dyf w f T k x = x ∧ jl w f T k = 4 ∧ jt w f T k y = y ∧ rtf w f T k = 0
  | 0, _ => ⟨rfl, rfl, rfl, rfl⟩
  | k + 1, hk => by
    obtain ⟨h1, h2, h3, h4⟩ := dyf_b h k (by omega)
    rw [dyf_s, jl_s, jt_s, rtf_s, h1, h2, h3, h4]
    exact ⟨if_neg (h k (by omega)), if_neg (h k (by omega)), if_neg (h k (by omega)), if_neg (h k (by omega))⟩
/-- the new mast's cells behind some of the set -/
abbrev mdC (j : Nat → Nat → Int32) (q : Nat) (w : Nat → Int32) (T k : Nat) : Prop :=
  j q 0 = 2 ∧ j q 1 = w (461 + 18 * mf w (fb T) + 5) ∧ j q 2 = jl w (mf w) T k ∧ j q 3 = jt w (mf w) T k 60 ∧ j q 4 = 0 ∧ j q 5 = w (461 + 18 * mf w (fb T) + 9) ∧ j q 6 = hrt w (w (461 + 18 * mf w (fb T) + 9)) ∧ j q 7 = w (461 + 18 * mf w (fb T) + 10) ∧ j q 10 = dyf w (mf w) T k (w (461 + 18 * mf w (fb T) + 6)) ∧ j q 11 = rtf w (mf w) T k ∧ j q 12 = 0 ∧ j q 13 = 0 ∧ j q 14 = 0 ∧ j q 16 = -1 ∧ j q 17 = -1 ∧ j q 18 = 0
abbrev mdI (i1 j : Nat → Nat → Int32) (w : Nat → Int32) (T c k : Nat) : Prop :=
  (∀ q m, q ≠ 94 + 92 + c → (m = 9 → ∀ r, r < k → bt2 T r → q ≠ 94 + 92 + mf w r) → j q m = i1 q m) ∧ (∀ r, r < k → bt2 T r → j (94 + 92 + mf w r) 9 = 5) ∧ (fb T < k → mdC j (94 + 92 + c) w T k)
theorem c_begM {q p : Nat} (hq : am_K B q = 5) (hp : am_K B p = 5) (hne : p ≠ q) : ∃ j, am_fx am_P (d + 2) 243 0 [some (.ref 94), some (.ref q), some (.ref p)] [] (am_wI B i) = some (.inl none, am_wI B j) ∧ (∀ r m, r ≠ q → j r m = i r m) ∧ (j q 0 = 2 ∧ j q 1 = i p 1 ∧ j q 2 = i p 2 ∧ j q 3 = i p 3 ∧ j q 4 = 0 ∧ j q 5 = i p 5 ∧ j q 6 = i p 6 ∧ j q 7 = i p 7 ∧ j q 10 = i p 10 ∧ j q 11 = i p 11 ∧ j q 12 = 0 ∧ j q 13 = 0 ∧ j q 14 = 0 ∧ j q 16 = -1 ∧ j q 17 = -1 ∧ j q 18 = 0) := by
  obtain ⟨j, E, jf, ⟨g0, g1, g7, g5, g6, g8, g9, g10, g11, g12, g13, g14, g15, g16, g17, g18⟩, -⟩ := pc_begin (B := B) (i := i) (d := d) (q := q) (x := 2) (y := i p 1) (z := i p 7) hq
  have jp : j p = i p := jf p hne
  refine ⟨am_up2 (am_up2 (am_up2 (am_up2 (am_up2 (am_up2 (am_up2 j q 2 (i p 2)) q 3 (i p 3)) q 4 0) q 5 (i p 5)) q 6 (i p 6)) q 10 (i p 10)) q 11 (i p 11), ?_, fun r m hr => ?_, ?_⟩
  · rw [bk_243_0]
    simp (maxSteps := 1000000) (disch := omega) only [E, jp, hq, hp, (fun d B i => bk_243_54 d (am_wI B i)), pc_measure hq, pc_comeFrom hq, y_ckd, y_ck2d, y_ond, y_onn, y_oI, y_oIx, y_oJ, y_oV, y_oVx, y_oR, y_oRn, y_oRx, y_b0, y_b1, y_bi, y_bid, y_wIK, y_wIL, y_wII, y_wIJ, y_wIR, y_wIN, y_wIw, y_sI, ↓reduceIte, Nat.reduceEqDiff, eq_self, true_or, or_true, false_or, or_false, and_true, true_and, false_and, and_false, not_true, not_false_eq_true, tf_T, tf_F, y_up1, y_up2, y_xx, y_nx, y_sJ, y_sR, Int32.reduceLT, y_nxK, y_nxL, y_nxR, y_sJK, y_sJL, y_sJR, y_sJN, y_sRK, y_sRL, y_sRN, Nat.add_zero, z_nat, z_lit, z_lit0, z_lit1, z_in0, z_in1, z_addl0, z_lt, z_ltl, z_llt, z_inj, z_injl, z_add, z_addl, z_ladd, z_mul, z_mull, z_lmul, z_neg, z_negl, z_in, z_inl, z_ltT, z_ltF, z_eqF, z_10, z_01, z_litne, z_ne0, z_0ne, z_ne1, z_1ne, z_lt64, z_02, z_03, z_04, z_05, z_12, z_13, z_14, z_15, z_20, z_21, z_23, z_24, z_25, z_30, z_31, z_32, z_34, z_35, z_40, z_41, z_42, z_43, z_45, z_50, z_51, z_52, z_53, z_54]
  · simp (disch := omega) only [y_up2]
    rw [jf r hr]
  · simp (disch := omega) only [y_up1, y_up2, g0, g1, g7, g12, g13, g14, g16, g17, g18, and_self]
theorem c_join {c : Nat} (hY : Yd B 94) (hR : Rep B i1 94 w) (hW : Wd w) (hF : Fc B) (hc : w 460 = Int32.ofNat c) (c6 : c < 120) (hT : T < 2 ^ mc w) (h0 : 0 < T) (e7 : ∀ k, k < mc w → i1 76 k = Int32.ofNat (mf w k)) (hk : k < mc w) {j : Nat → Nat → Int32} (hI : mdI (am_up2 i1 94 5 (Int32.ofNat (c + 1))) j w T c k) : ∃ j', am_fx am_P (d + 3) 242 12 [some (.ref 94), some (.ref 76), some (.int (Int32.ofNat (mc w))), some (.int (Int32.ofNat T)), some (.ref (94 + 92 + c)), some (.int (if fb T < k then 0 else 1)), some (.int (Int32.ofNat k)), none] [] (am_wI B j) = am_fx am_P (d + 3) 242 12 [some (.ref 94), some (.ref 76), some (.int (Int32.ofNat (mc w))), some (.int (Int32.ofNat T)), some (.ref (94 + 92 + c)), some (.int (if fb T < k + 1 then 0 else 1)), some (.int (Int32.ofNat (k + 1))), none] [] (am_wI B j') ∧ mdI (am_up2 i1 94 5 (Int32.ofNat (c + 1))) j' w T c (k + 1) := by
  obtain ⟨m8, hm⟩ := mf_ok hW
  obtain ⟨p1, p2⟩ := p2_le m8
  have hcn := cn_of hc (by omega)
  obtain ⟨f1, f2, f3⟩ := fb_ok (c := mc w) (by omega) hT h0
  have hmk := (hm k hk).1
  have eb := zb_tsu T (by omega) k (by omega)
  obtain ⟨I1, I2, I3⟩ := hI
  have hk2 : Int32.ofNat k < Int32.ofNat (mc w) := by rw [z_lt (by omega) (by omega)]; exact hk
  have zk : Int32.ofNat k + 1 = Int32.ofNat (k + 1) := z_add k 1
  by_cases g : bt2 T k
  rotate_left
  · have ebn : ¬ (((Int32.ofNat T).toUInt32 >>> ((Int32.ofNat k).toUInt32 &&& Int32.toUInt32 31)).toInt32) &&& 1 = 1 := fun q => g (eb.mp q)
    have ek : (fb T < k + 1) = (fb T < k) := propext ⟨fun q => by
      rcases Nat.lt_or_ge (fb T) k with r | r
      · exact r
      · exact absurd f2 (by rw [show fb T = k by omega]; exact g), fun q => by omega⟩
    refine ⟨j, ?_, fun q m h1 h2 => I1 q m h1 fun e r hr hb => h2 e r (by omega) hb, fun r hr hb => ?_, fun q => ?_⟩
    · rw [bk_242_12, if_pos hk2, if_neg ebn, zk]
      simp only [ek]
    · rcases Nat.lt_or_ge r k with a | a
      · exact I2 r a hb
      · exact absurd hb (by rw [show r = k by omega]; exact g)
    · rw [ek] at q
      have := I3 q
      unfold mdC at *
      rw [jl_s, jt_s, dyf_s, rtf_s, show fjl w (mf w) T k _ = _ from if_neg g, show fjt w (mf w) T k _ = _ from if_neg g, show fdy w (mf w) T k _ = _ from if_neg g, show frt w (mf w) T k _ = _ from if_neg g]
      exact this
  have eb := eb.mpr g
  have e76 : j 76 k = Int32.ofNat (mf w k) := by rw [I1 76 k (by omega) (fun _ r hr hb => by omega), y_up2 (by omega)]; exact e7 k hk
  have jp : ∀ m, m ≠ 9 → j (94 + 92 + mf w k) m = i1 (94 + 92 + mf w k) m := fun m hm => by rw [I1 _ m (by omega) (fun e => absurd e hm), y_up2 (by omega)]
  obtain ⟨b0, b1, b2, b3, b4, b5, b6, b7, b8, b9, b10, b11, b12, b13, b14, b15, b16, b17, b18⟩ := hR.2.2.1.2 (mf w k) hmk (by omega)
  have kq : am_K B (94 + 92 + c) = 5 := by simp (disch := omega) only [hY]
  have kp : am_K B (94 + 92 + mf w k) = 5 := by simp (disch := omega) only [hY]
  have fin : ∀ j2 : Nat → Nat → Int32, (∀ r m, r ≠ 94 + 92 + c → j2 r m = j r m) → mdC j2 (94 + 92 + c) w T (k + 1) → mdI (am_up2 i1 94 5 (Int32.ofNat (c + 1))) (am_up2 j2 (94 + 92 + mf w k) 9 5) w T c (k + 1) := fun j2 hf hC => by
    refine ⟨fun q m h1 h2 => ?_, fun r hr hb => ?_, fun _ => ?_⟩
    · by_cases e : m = 9
      · have := h2 e k (by omega) g
        rw [y_up2 (by omega), hf q m h1]
        exact I1 q m h1 fun e r hr hb => h2 e r (by omega) hb
      · rw [y_up2 (by omega), hf q m h1]
        exact I1 q m h1 fun e2 => absurd e2 e
    · by_cases e : r = k
      · rw [e, y_up1 rfl rfl]
      · have h3 := mf_lt hW (show r < k by omega) hk
        rw [y_up2 (by omega), hf _ _ (by have := (hm r (by omega)).1; omega)]
        exact I2 r (by omega) hb
    · unfold mdC at *
      simp (disch := omega) only [y_up2]
      exact hC
  have k63 : ∀ j2, am_fx am_P (d + 3) 242 63 [some (.ref 94), some (.ref 76), some (.int (Int32.ofNat (mc w))), some (.int (Int32.ofNat T)), some (.ref (94 + 92 + c)), none, some (.int (Int32.ofNat k)), some (.ref (94 + 92 + mf w k))] [] (am_wI B j2) = am_fx am_P (d + 3) 242 12 [some (.ref 94), some (.ref 76), some (.int (Int32.ofNat (mc w))), some (.int (Int32.ofNat T)), some (.ref (94 + 92 + c)), some (.int 0), some (.int (Int32.ofNat (k + 1))), none] [] (am_wI B (am_up2 j2 (94 + 92 + mf w k) 9 5)) := fun j2 => by
    rw [bk_242_63, zk]
    simp (maxSteps := 1000000) (disch := omega) only [kp, y_ckd, y_ck2d, y_ond, y_onn, y_oI, y_oIx, y_oJ, y_oV, y_oVx, y_oR, y_oRn, y_oRx, y_b0, y_b1, y_bi, y_bid, y_wIK, y_wIL, y_wII, y_wIJ, y_wIR, y_wIN, y_wIw, y_sI, ↓reduceIte, Nat.reduceEqDiff, eq_self, true_or, or_true, false_or, or_false, and_true, true_and, false_and, and_false, not_true, not_false_eq_true, tf_T, tf_F, y_up1, y_up2, y_xx, y_nx, y_sJ, y_sR, Int32.reduceLT, y_nxK, y_nxL, y_nxR, y_sJK, y_sJL, y_sJR, y_sJN, y_sRK, y_sRL, y_sRN, Nat.add_zero, z_nat, z_lit, z_lit0, z_lit1, z_in0, z_in1, z_addl0, z_lt, z_ltl, z_llt, z_inj, z_injl, z_add, z_addl, z_ladd, z_mul, z_mull, z_lmul, z_neg, z_negl, z_in, z_inl, z_ltT, z_ltF, z_eqF, z_10, z_01, z_litne, z_ne0, z_0ne, z_ne1, z_1ne, z_lt64, z_02, z_03, z_04, z_05, z_12, z_13, z_14, z_15, z_20, z_21, z_23, z_24, z_25, z_30, z_31, z_32, z_34, z_35, z_40, z_41, z_42, z_43, z_45, z_50, z_51, z_52, z_53, z_54]
  have e1 : (if fb T < k + 1 then (0 : Int32) else 1) = 0 := by
    have : fb T ≤ k := by
      rcases Nat.lt_or_ge k (fb T) with q | q
      · exact absurd g (f3 k q)
      · exact q
    rw [if_pos (by omega)]
  rw [e1]
  by_cases gk : fb T < k
  · obtain ⟨c0, c1, c2, c3, c4, c5, c6', c7, c10, c11, c12, c13, c14, c16, c17, c18⟩ := I3 gk
    refine ⟨_, ?_, fin (am_up2 (am_up2 (am_up2 (am_up2 (am_up2 j (94 + 92 + c) 2 (jl w (mf w) T (k + 1))) (94 + 92 + c) 3 (jt w (mf w) T (k + 1) 60)) (94 + 92 + c) 4 0) (94 + 92 + c) 10 (dyf w (mf w) T (k + 1) (w (461 + 18 * mf w (fb T) + 6)))) (94 + 92 + c) 11 (rtf w (mf w) T (k + 1))) (fun r m hr => by simp (disch := omega) only [y_up2]) ?_⟩
    · rw [← k63, if_pos gk, bk_242_12]
      have v2 := (jp 2 (by omega)).trans b2
      have p3 := (jp 3 (by omega)).trans b3
      have p10 := (jp 10 (by omega)).trans b6
      have p11 := (jp 11 (by omega)).trans b7
      rw [jl_s, jt_s, dyf_s, rtf_s, show fjl w (mf w) T k _ = _ from if_pos g, show fjt w (mf w) T k _ = _ from if_pos g, show fdy w (mf w) T k _ = _ from if_pos g, show frt w (mf w) T k _ = _ from if_pos g]
      generalize jl w (mf w) T k = u1 at *
      generalize jt w (mf w) T k 60 = u2 at *
      generalize dyf w (mf w) T k (w (461 + 18 * mf w (fb T) + 6)) = u3 at *
      generalize rtf w (mf w) T k = u4 at *
      generalize mf w k = p at *
      generalize mc w = M at *
      generalize hq : 94 + 92 + c = q at *
      simp (maxSteps := 1000000) (disch := omega) only [hk2, eb, e76, v2, p3, p10, p11, c2, c3, c10, c11, kq, kp, (fun d x0 x1 x2 B i => bk_244_0 d x0 x1 x2 (am_wI B i)), (fun d B i => bk_244_57 d (am_wI B i)), pc_measure kq, c_min, c_max, z_l4, hF, hY, y_ckd, y_ck2d, y_ond, y_onn, y_oI, y_oIx, y_oJ, y_oV, y_oVx, y_oR, y_oRn, y_oRx, y_b0, y_b1, y_bi, y_bid, y_wIK, y_wIL, y_wII, y_wIJ, y_wIR, y_wIN, y_wIw, y_sI, ↓reduceIte, Nat.reduceEqDiff, eq_self, true_or, or_true, false_or, or_false, and_true, true_and, false_and, and_false, not_true, not_false_eq_true, tf_T, tf_F, y_up1, y_up2, y_xx, y_nx, y_sJ, y_sR, Int32.reduceLT, y_nxK, y_nxL, y_nxR, y_sJK, y_sJL, y_sJR, y_sJN, y_sRK, y_sRL, y_sRN, Nat.add_zero, z_nat, z_lit, z_lit0, z_lit1, z_in0, z_in1, z_addl0, z_lt, z_ltl, z_llt, z_inj, z_injl, z_add, z_addl, z_ladd, z_mul, z_mull, z_lmul, z_neg, z_negl, z_in, z_inl, z_ltT, z_ltF, z_eqF, z_10, z_01, z_litne, z_ne0, z_0ne, z_ne1, z_1ne, z_lt64, z_02, z_03, z_04, z_05, z_12, z_13, z_14, z_15, z_20, z_21, z_23, z_24, z_25, z_30, z_31, z_32, z_34, z_35, z_40, z_41, z_42, z_43, z_45, z_50, z_51, z_52, z_53, z_54]
    · unfold mdC
      simp (disch := omega) only [y_up1, y_up2, c0, c1, c5, c6', c7, c12, c13, c14, c16, c17, c18, and_self]
  · have ek : fb T = k := by
      rcases Nat.lt_or_ge k (fb T) with q | q
      · exact absurd g (f3 k q)
      · omega
    obtain ⟨j2, E2, f2', hc2⟩ := c_begM (B := B) (i := j) (d := d) (q := 94 + 92 + c) (p := 94 + 92 + mf w k) kq kp (by omega)
    refine ⟨_, ?_, fin j2 f2' ?_⟩
    · rw [← k63, if_neg gk, bk_242_12]
      generalize mf w k = p at *
      generalize mc w = M at *
      generalize hq : 94 + 92 + c = q at *
      simp (maxSteps := 1000000) (disch := omega) only [hk2, eb, e76, E2, hF, hY, y_ckd, y_ck2d, y_ond, y_onn, y_oI, y_oIx, y_oJ, y_oV, y_oVx, y_oR, y_oRn, y_oRx, y_b0, y_b1, y_bi, y_bid, y_wIK, y_wIL, y_wII, y_wIJ, y_wIR, y_wIN, y_wIw, y_sI, ↓reduceIte, Nat.reduceEqDiff, eq_self, true_or, or_true, false_or, or_false, and_true, true_and, false_and, and_false, not_true, not_false_eq_true, tf_T, tf_F, y_up1, y_up2, y_xx, y_nx, y_sJ, y_sR, Int32.reduceLT, y_nxK, y_nxL, y_nxR, y_sJK, y_sJL, y_sJR, y_sJN, y_sRK, y_sRL, y_sRN, Nat.add_zero, z_nat, z_lit, z_lit0, z_lit1, z_in0, z_in1, z_addl0, z_lt, z_ltl, z_llt, z_inj, z_injl, z_add, z_addl, z_ladd, z_mul, z_mull, z_lmul, z_neg, z_negl, z_in, z_inl, z_ltT, z_ltF, z_eqF, z_10, z_01, z_litne, z_ne0, z_0ne, z_ne1, z_1ne, z_lt64, z_02, z_03, z_04, z_05, z_12, z_13, z_14, z_15, z_20, z_21, z_23, z_24, z_25, z_30, z_31, z_32, z_34, z_35, z_40, z_41, z_42, z_43, z_45, z_50, z_51, z_52, z_53, z_54]
    · obtain ⟨c0, c1, c2, c3, c4, c5, c6', c7, c10, c11, c12, c13, c14, c16, c17, c18⟩ := hc2
      have hd := dyf_b (w := w) (f := mf w) (T := T) (x := w (461 + 18 * mf w k + 6)) (y := 60) f3 k (by omega)
      obtain ⟨hd1, hd2, hd3, hd4⟩ := hd
      have hx : ¬ w (461 + 18 * mf w k + 7) < 0 := (hW.2.2.2.1.1 (mf w k) hmk (by omega)).2.2.2.2.2.2.1.1
      have ht := mn_60 (t := w (461 + 18 * mf w k + 3)) (fun q => by
        have := (hm k hk).2.2.2.2
        rw [Int32.lt_iff_toInt_lt] at q this
        have k1 : (60 : Int32).toInt = 60 := by decide
        have k2 : (61 : Int32).toInt = 61 := by decide
        omega)
      unfold mdC
      rw [ek, jl_s, jt_s, dyf_s, rtf_s, show fjl w (mf w) T k _ = _ from if_pos g, show fjt w (mf w) T k _ = _ from if_pos g, show fdy w (mf w) T k _ = _ from if_pos g, show frt w (mf w) T k _ = _ from if_pos g, hd1, hd2, hd3, hd4, z_44, ht.1, mn_self, mx_0 hx]
      exact ⟨c0, c1.trans ((jp 1 (by omega)).trans b5), c2.trans ((jp 2 (by omega)).trans b2), c3.trans ((jp 3 (by omega)).trans b3), c4, c5.trans ((jp 5 (by omega)).trans b9), c6'.trans ((jp 6 (by omega)).trans b18), c7.trans ((jp 7 (by omega)).trans b10), c10.trans ((jp 10 (by omega)).trans b6), c11.trans ((jp 11 (by omega)).trans b7), c12, c13, c14, c16, c17, c18⟩
end Make2
