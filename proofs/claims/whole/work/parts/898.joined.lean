/-! MASTS: the best set. Made by wip/whole/math/898.py. -/
section Masts2
variable {B B1 : am_A} {i i1 : Nat → Nat → Int32} {σ σ' : Sg} {w : Nat → Int32} {L j d b m n c s T : Nat} {x y z : Int32} {f : Nat → Nat}
/-- how long, how thick the masts of a set are together -/
abbrev fjl (w : Nat → Int32) (f : Nat → Nat) (T k : Nat) (a : Int32) : Int32 := if bt2 T k then a + (w (461 + 18 * f k + 2) - 4) else a
def jl (w : Nat → Int32) (f : Nat → Nat) (T c : Nat) : Int32 := itr (fjl w f T) c 4
theorem jl_s : jl w f T (c + 1) = fjl w f T c (jl w f T c) := rfl
abbrev fjt (w : Nat → Int32) (f : Nat → Nat) (T k : Nat) (a : Int32) : Int32 := if bt2 T k then mn a (w (461 + 18 * f k + 3)) else a
def jt (w : Nat → Int32) (f : Nat → Nat) (T c : Nat) (a : Int32) : Int32 := itr (fjt w f T) c a
theorem jt_s : jt w f T (c + 1) x = fjt w f T c (jt w f T c x) := rfl
abbrev fjn (w : Nat → Int32) (f : Nat → Nat) (T k a : Nat) : Nat := if bt2 T k then a + (cn w (461 + 18 * f k + 2) - 4) else a
def jn (w : Nat → Int32) (f : Nat → Nat) (T c : Nat) : Nat := itr (fjn w f T) c 4
abbrev fsn (w : Nat → Int32) (f : Nat → Nat) (T k a : Nat) : Nat := if bt2 T k then a + cn w (461 + 18 * f k + 2) else a
def sN (w : Nat → Int32) (f : Nat → Nat) (T c : Nat) : Nat := itr (fsn w f T) c 0
theorem mn_60 {t : Int32} (h : ¬ 60 < t) : mn 60 t = t ∧ mn 1000 t = t := by
  rw [Int32.lt_iff_toInt_lt] at h
  have k1 : (60 : Int32).toInt = 60 := by decide
  have k2 : (1000 : Int32).toInt = 1000 := by decide
  refine ⟨?_, if_pos (by rw [Int32.lt_iff_toInt_lt]; omega)⟩
  by_cases g : t < 60
  · exact if_pos g
  · rw [show mn 60 t = 60 from if_neg g]
    rw [Int32.lt_iff_toInt_lt] at g
    exact Int32.toInt_inj.mp (by omega)
theorem jt_eq : ∀ c, (∀ k, k < c → ¬ 60 < w (461 + 18 * f k + 3)) → ((∃ k, k < c ∧ bt2 T k) → jt w f T c 60 = jt w f T c 1000) ∧ ((¬ ∃ k, k < c ∧ bt2 T k) → jt w f T c 60 = 60 ∧ jt w f T c 1000 = 1000)
  | 0, _ => ⟨fun ⟨k, h, _⟩ => absurd h (Nat.not_lt_zero k), fun _ => ⟨rfl, rfl⟩⟩
  | c + 1, h => by
    obtain ⟨h1, h2⟩ := jt_eq c fun k hk => h k (by omega)
    by_cases e : ∃ k, k < c ∧ bt2 T k
    · refine ⟨fun _ => by rw [jt_s, jt_s, h1 e], fun q => absurd ?_ q⟩
      obtain ⟨k, a, b⟩ := e
      exact ⟨k, by omega, b⟩
    · obtain ⟨e1, e2⟩ := h2 e
      rw [jt_s, jt_s, e1, e2]
      by_cases g : bt2 T c
      · obtain ⟨q1, q2⟩ := mn_60 (h c (by omega))
        rw [show fjt w f T c 60 = _ from if_pos g, show fjt w f T c 1000 = _ from if_pos g, q1, q2]
        exact ⟨fun _ => rfl, fun q => absurd ⟨c, by omega, g⟩ q⟩
      · rw [show fjt w f T c 60 = _ from if_neg g, show fjt w f T c 1000 = _ from if_neg g]
        refine ⟨fun ⟨k, a, b⟩ => absurd ?_ e, fun _ => ⟨rfl, rfl⟩⟩
        rcases Nat.lt_or_ge k c with q | q
        · exact ⟨k, q, b⟩
        · exact absurd b (by rw [show k = c by omega]; exact g)
theorem jl_n : ∀ c, (∀ k, k < c → w (461 + 18 * f k + 2) = Int32.ofNat (cn w (461 + 18 * f k + 2)) ∧ 5 ≤ cn w (461 + 18 * f k + 2)) → jl w f T c = Int32.ofNat (jn w f T c) ∧ 4 ≤ jn w f T c ∧ jn w f T c ≤ sN w f T c + 4 ∧ ((∃ k, k < c ∧ bt2 T k) → jn w f T c ≤ sN w f T c ∧ 5 ≤ jn w f T c)
  | 0, _ => ⟨rfl, Nat.le_refl _, by show 4 ≤ 0 + 4; omega, fun ⟨k, h, _⟩ => absurd h (Nat.not_lt_zero k)⟩
  | c + 1, h => by
    obtain ⟨h1, h2, h3, h4⟩ := jl_n c fun k hk => h k (by omega)
    obtain ⟨a1, a2⟩ := h c (by omega)
    rw [jl_s]
    by_cases g : bt2 T c
    · rw [show fjl w f T c (jl w f T c) = _ from if_pos g, show jn w f T (c + 1) = jn w f T c + (cn w (461 + 18 * f c + 2) - 4) from if_pos g, show sN w f T (c + 1) = sN w f T c + cn w (461 + 18 * f c + 2) from if_pos g, h1]
      refine ⟨?_, by omega, by omega, fun _ => by omega⟩
      rw [a1, show (4 : Int32) = Int32.ofNat 4 from rfl, z_sub (by omega), z_add]
    · rw [show fjl w f T c (jl w f T c) = _ from if_neg g, show jn w f T (c + 1) = jn w f T c from if_neg g, show sN w f T (c + 1) = sN w f T c from if_neg g]
      refine ⟨h1, h2, h3, fun ⟨k, a, q⟩ => h4 ⟨k, ?_, q⟩⟩
      rcases Nat.lt_or_ge k c with r | r
      · exact r
      · exact absurd q (by rw [show k = c by omega]; exact g)
abbrev lgf (w : Nat → Int32) (p a : Nat) : Nat := a + if w (461 + 18 * p) = 2 ∧ w (461 + 18 * p + 1) ≠ 5 then cn w (461 + 18 * p + 2) else 0
theorem sN_lng {w : Nat → Int32} {T : Nat} : ∀ n, sN w (mst w n).2 T (mst w n).1 ≤ itr (lgf w) n 0
  | 0 => Nat.le_refl _
  | n + 1 => by
    have ih := sN_lng (w := w) (T := T) n
    show _ ≤ lgf w n (itr (lgf w) n 0)
    rw [mst_s]
    unfold fms
    by_cases g : (mst w n).1 < 8 ∧ ism w n
    · rw [if_pos g]
      have h5 : w (461 + 18 * n + 1) ≠ 5 := by
        rcases g.2.2 with q | q <;> rw [q] <;> decide
      rw [show lgf w n (itr (lgf w) n 0) = itr (lgf w) n 0 + cn w (461 + 18 * n + 2) by show _ + (if _ then _ else _) = _; rw [if_pos ⟨g.2.1, h5⟩]]
      have e : sN w (fun j => if j = (mst w n).1 then n else (mst w n).2 j) T (mst w n).1 = sN w (mst w n).2 T (mst w n).1 := by
        refine itr_congr fun k hk a => ?_
        have e2 : (fun j => if j = (mst w n).1 then n else (mst w n).2 j) k = (mst w n).2 k := if_neg (show ¬ k = (mst w n).1 by omega)
        unfold fsn
        rw [e2]
      show fsn w (fun j => if j = (mst w n).1 then n else (mst w n).2 j) T (mst w n).1 (sN w (fun j => if j = (mst w n).1 then n else (mst w n).2 j) T (mst w n).1) ≤ _
      rw [e]
      have e2 : (fun j => if j = (mst w n).1 then n else (mst w n).2 j) (mst w n).1 = n := if_pos rfl
      unfold fsn
      rw [e2]
      split <;> omega
    · rw [if_neg g]
      exact Nat.le_trans ih (Nat.le_add_right _ _)
theorem mf_ok (hW : Wd w) : mc w ≤ 8 ∧ ∀ k, k < mc w → mf w k < cn w 460 ∧ ism w (mf w k) ∧ (w (461 + 18 * mf w k + 2) = Int32.ofNat (cn w (461 + 18 * mf w k + 2)) ∧ 5 ≤ cn w (461 + 18 * mf w k + 2)) ∧ (¬ w (461 + 18 * mf w k + 3) < 0 ∧ w (461 + 18 * mf w k + 3) < 61) := by
  have h120 := hW.1.2.2.1.2
  obtain ⟨h1, h2, -⟩ := mst_ok (w := w) (cn w 460)
  refine ⟨h1, fun k hk => ?_⟩
  obtain ⟨a1, a2⟩ := h2 k hk
  obtain ⟨⟨b1, b2, -⟩, -, -, b3, -⟩ := hW.2.2.2.1.1 (mf w k) a1 (by have : mf w k = (mst w (cn w 460)).2 k := rfl; omega)
  exact ⟨a1, a2, ⟨b1, b2⟩, b3⟩
theorem jl_ok (hW : Wd w) (hb : ∃ k, k < mc w ∧ bt2 T k) : ∃ l, jl w (mf w) T (mc w) = Int32.ofNat l ∧ 5 ≤ l ∧ l ≤ sN w (mf w) T (mc w) ∧ l ≤ 12000 := by
  obtain ⟨-, h2⟩ := mf_ok hW
  obtain ⟨h1, -, -, h4⟩ := jl_n (T := T) (mc w) fun k hk => (h2 k hk).2.2.1
  have h5 := sN_lng (w := w) (T := T) (cn w 460)
  have h6 := hW.2.2.2.1.2
  have h7 := hW.1.2.2.1.2
  obtain ⟨h8, h9⟩ := h4 hb
  have e : itr (lgf w) (cn w 460) 0 = lng w := rfl
  rw [e] at h5
  have h10 : sN w (mf w) T (mc w) ≤ lng w := h5
  exact ⟨_, h1, h9, h8, by omega⟩
theorem jt_ok (hW : Wd w) (hb : ∃ k, k < mc w ∧ bt2 T k) : jt w (mf w) T (mc w) 60 = jt w (mf w) T (mc w) 1000 := by
  obtain ⟨-, h2⟩ := mf_ok hW
  refine (jt_eq (mc w) fun k hk q => ?_).1 hb
  have := (h2 k hk).2.2.2.2
  rw [Int32.lt_iff_toInt_lt] at q this
  have k1 : (60 : Int32).toInt = 60 := by decide
  have k2 : (61 : Int32).toInt = 61 := by decide
  omega
theorem jt_v (hW : Wd w) : ∃ u, jt w (mf w) T (mc w) 60 = Int32.ofNat u ∧ u ≤ 60 := by
  obtain ⟨-, h2⟩ := mf_ok hW
  have : ∀ c, c ≤ mc w → ∃ u, jt w (mf w) T c 60 = Int32.ofNat u ∧ u ≤ 60 := by
    intro c
    induction c with
    | zero => exact fun _ => ⟨60, rfl, Nat.le_refl _⟩
    | succ c ih =>
      intro hc
      obtain ⟨u, e, hu⟩ := ih (by omega)
      rw [jt_s, e]
      unfold fjt
      by_cases g : bt2 T c
      · rw [if_pos g]
        obtain ⟨v, ev, hv⟩ := z_lk 61 (by omega) (h2 c (by omega)).2.2.2.1 (h2 c (by omega)).2.2.2.2
        rw [ev]
        unfold mn
        split
        · exact ⟨v, rfl, by omega⟩
        · exact ⟨u, rfl, hu⟩
      · rw [if_neg g]
        exact ⟨u, rfl, hu⟩
  exact this _ (Nat.le_refl _)
theorem c_wj (hF : Fc B) (hY : Yd B 94) (hR : Rep B i 94 w) (hW : Wd w) (hs : s < cn w 2621) (hn : n < cn w (2622 + 49 * s + 8)) (hT : T < 256) (e6 : i 71 6 = Int32.ofNat (mc w)) (e7 : ∀ k, k < mc w → i 76 k = Int32.ofNat (mf w k)) : am_fx am_P (d + 2) 280 0 [some (.ref 71), some (.ref 94), some (.ref (94 + 212 + 6 * s)), some (.int (Int32.ofNat n)), some (.int (Int32.ofNat T)), none, none, none, none] [] (am_wI B i) = some (.inl (some (.int (if en4 w s n (jl w (mf w) T (mc w)) (jt w (mf w) T (mc w) 60) 0 then ws4 w s n (jl w (mf w) T (mc w)) (jt w (mf w) T (mc w) 60) else -1))), am_wI B i) := by
  have h8 := hW.1.2.2.2.1.2
  have h120 := hW.1.2.2.1.2
  obtain ⟨m8, hm⟩ := mf_ok hW
  rw [bk_280_0]
  refine (lp_itr (fun k (_ : Unit) => am_fx am_P (d + 2) 280 10 [some (.ref 71), some (.ref 94), some (.ref (94 + 212 + 6 * s)), some (.int (Int32.ofNat n)), some (.int (Int32.ofNat T)), some (.int (jl w (mf w) T k)), some (.int (jt w (mf w) T k 60)), some (.int (Int32.ofNat k)), none] [] (am_wI B i)) (fun _ v => v) (mc w) (fun k v hk => ?_) ()).trans ?_
  · have e7 := e7 k hk
    have hmk := hm k hk
    obtain ⟨-, -, b2, b3, -⟩ := hR.2.2.1.2 (mf w k) hmk.1 (by omega)
    have eb := zb_tsu T hT k (by omega)
    rw [jl_s, jt_s, bk_280_10]
    unfold fjl fjt
    generalize jl w (mf w) T k = u1
    generalize jt w (mf w) T k 60 = u2
    generalize mf w k = p at *
    have hp := hmk.1
    by_cases g : bt2 T k
    · rw [if_pos g, if_pos g]
      have eb := eb.mpr g
      simp (maxSteps := 1000000) (disch := omega) only [e6, e7, eb, b2, b3, c_min, hF, hY, y_ckd, y_ck2d, y_ond, y_onn, y_oI, y_oIx, y_oJ, y_oV, y_oVx, y_oR, y_oRn, y_oRx, y_b0, y_b1, y_bi, y_bid, y_wIK, y_wIL, y_wII, y_wIJ, y_wIR, y_wIN, y_wIw, y_sI, ↓reduceIte, Nat.reduceEqDiff, eq_self, true_or, or_true, false_or, or_false, and_true, true_and, false_and, and_false, not_true, not_false_eq_true, tf_T, tf_F, y_up1, y_up2, y_xx, y_nx, y_sJ, y_sR, Int32.reduceLT, y_nxK, y_nxL, y_nxR, y_sJK, y_sJL, y_sJR, y_sJN, y_sRK, y_sRL, y_sRN, Nat.add_zero, z_nat, z_lit, z_lit0, z_lit1, z_in0, z_in1, z_addl0, z_lt, z_ltl, z_llt, z_inj, z_injl, z_add, z_addl, z_ladd, z_mul, z_mull, z_lmul, z_neg, z_negl, z_in, z_inl, z_ltT, z_ltF, z_eqF, z_10, z_01, z_litne, z_ne0, z_0ne, z_ne1, z_1ne, z_lt64, z_02, z_03, z_04, z_05, z_12, z_13, z_14, z_15, z_20, z_21, z_23, z_24, z_25, z_30, z_31, z_32, z_34, z_35, z_40, z_41, z_42, z_43, z_45, z_50, z_51, z_52, z_53, z_54]
    · rw [if_neg g, if_neg g]
      have eb : ¬ (((Int32.ofNat T).toUInt32 >>> ((Int32.ofNat k).toUInt32 &&& Int32.toUInt32 31)).toInt32) &&& 1 = 1 := fun q => g (eb.mp q)
      simp (maxSteps := 1000000) (disch := omega) only [e6, eb, hF, hY, y_ckd, y_ck2d, y_ond, y_onn, y_oI, y_oIx, y_oJ, y_oV, y_oVx, y_oR, y_oRn, y_oRx, y_b0, y_b1, y_bi, y_bid, y_wIK, y_wIL, y_wII, y_wIJ, y_wIR, y_wIN, y_wIw, y_sI, ↓reduceIte, Nat.reduceEqDiff, eq_self, true_or, or_true, false_or, or_false, and_true, true_and, false_and, and_false, not_true, not_false_eq_true, tf_T, tf_F, y_up1, y_up2, y_xx, y_nx, y_sJ, y_sR, Int32.reduceLT, y_nxK, y_nxL, y_nxR, y_sJK, y_sJL, y_sJR, y_sJN, y_sRK, y_sRL, y_sRN, Nat.add_zero, z_nat, z_lit, z_lit0, z_lit1, z_in0, z_in1, z_addl0, z_lt, z_ltl, z_llt, z_inj, z_injl, z_add, z_addl, z_ladd, z_mul, z_mull, z_lmul, z_neg, z_negl, z_in, z_inl, z_ltT, z_ltF, z_eqF, z_10, z_01, z_litne, z_ne0, z_0ne, z_ne1, z_1ne, z_lt64, z_02, z_03, z_04, z_05, z_12, z_13, z_14, z_15, z_20, z_21, z_23, z_24, z_25, z_30, z_31, z_32, z_34, z_35, z_40, z_41, z_42, z_43, z_45, z_50, z_51, z_52, z_53, z_54]
  · have ew := c_waste4 (B := B) (i := i) (b := 94) (d := d) (l := jl w (mf w) T (mc w)) (th := jt w (mf w) T (mc w) 60) (bd := 0) hY hR.2.2.2.1 hW hs hn
    rw [bk_280_10]
    generalize (if en4 w s n (jl w (mf w) T (mc w)) (jt w (mf w) T (mc w) 60) 0 then ws4 w s n (jl w (mf w) T (mc w)) (jt w (mf w) T (mc w) 60) else -1) = v at *
    generalize jl w (mf w) T (mc w) = u1 at *
    generalize jt w (mf w) T (mc w) 60 = u2 at *
    simp (maxSteps := 1000000) (disch := omega) only [e6, ew, hF, hY, y_ckd, y_ck2d, y_ond, y_onn, y_oI, y_oIx, y_oJ, y_oV, y_oVx, y_oR, y_oRn, y_oRx, y_b0, y_b1, y_bi, y_bid, y_wIK, y_wIL, y_wII, y_wIJ, y_wIR, y_wIN, y_wIw, y_sI, ↓reduceIte, Nat.reduceEqDiff, eq_self, true_or, or_true, false_or, or_false, and_true, true_and, false_and, and_false, not_true, not_false_eq_true, tf_T, tf_F, y_up1, y_up2, y_xx, y_nx, y_sJ, y_sR, Int32.reduceLT, y_nxK, y_nxL, y_nxR, y_sJK, y_sJL, y_sJR, y_sJN, y_sRK, y_sRL, y_sRN, Nat.add_zero, z_nat, z_lit, z_lit0, z_lit1, z_in0, z_in1, z_addl0, z_lt, z_ltl, z_llt, z_inj, z_injl, z_add, z_addl, z_ladd, z_mul, z_mull, z_lmul, z_neg, z_negl, z_in, z_inl, z_ltT, z_ltF, z_eqF, z_10, z_01, z_litne, z_ne0, z_0ne, z_ne1, z_1ne, z_lt64, z_02, z_03, z_04, z_05, z_12, z_13, z_14, z_15, z_20, z_21, z_23, z_24, z_25, z_30, z_31, z_32, z_34, z_35, z_40, z_41, z_42, z_43, z_45, z_50, z_51, z_52, z_53, z_54]
theorem m_joins (hM : Md B) (hw : ∀ z, z < 12042 → i 875 z = w z) (hW : Wd w) (hT : T < 256) (e3 : i 874 23 = Int32.ofNat (mc w)) (e7 : ∀ k, k < mc w → i 886 k = Int32.ofNat (mf w k)) : ∃ i', am_fx am_P (d + 2) 91 0 [some (.ref 874), some (.int (Int32.ofNat T)), none] [] (am_wI B i) = some (.inl none, am_wI B i') ∧ i' 874 24 = jl w (mf w) T (mc w) ∧ i' 874 25 = jt w (mf w) T (mc w) 1000 ∧ ∀ q k, (q = 874 → k ≠ 24 ∧ k ≠ 25) → i' q k = i q k := by
  have h120 := hW.1.2.2.1.2
  obtain ⟨m8, hm⟩ := mf_ok hW
  obtain ⟨j1, E, h1, h2, hf⟩ := lp_inv (fun k j => am_fx am_P (d + 2) 91 14 [some (.ref 874), some (.int (Int32.ofNat T)), some (.int (Int32.ofNat k))] [] (am_wI B j)) (fun k j => j 874 24 = jl w (mf w) T k ∧ j 874 25 = jt w (mf w) T k 1000 ∧ ∀ q k, (q = 874 → k ≠ 24 ∧ k ≠ 25) → j q k = i q k) (mc w) (fun k j hk hI => by
    obtain ⟨h1, h2, hf⟩ := hI
    have e3 := (hf 874 23 (by omega)).trans e3
    have e7 := (hf 886 k (by omega)).trans (e7 k hk)
    have hmk := (hm k hk).1
    have b2 : j 875 (461 + 18 * mf w k + 2) = w (461 + 18 * mf w k + 2) := (hf _ _ (by omega)).trans (hw _ (by omega))
    have b3 : j 875 (461 + 18 * mf w k + 3) = w (461 + 18 * mf w k + 3) := (hf _ _ (by omega)).trans (hw _ (by omega))
    have eb := zb_ts0 T hT k (by omega)
    rw [jl_s, jt_s]
    unfold fjl fjt
    generalize jl w (mf w) T k = u1 at *
    generalize jt w (mf w) T k 1000 = u2 at *
    generalize mf w k = p at *
    by_cases g : bt2 T k
    · rw [if_pos g, if_pos g]
      have eb : ¬ (Int32.ofNat T >>> (Int32.ofNat k &&& 31)) &&& 1 = 0 := fun q => (eb.mp q) g
      refine ⟨am_up2 (am_up2 j 874 24 (u1 + (w (461 + 18 * p + 2) - 4))) 874 25 (mn u2 (w (461 + 18 * p + 3))), ?_, by rw [y_up2 (by omega), y_up1 rfl rfl], y_up1 rfl rfl, fun q k hq => by rw [y_up2 (by omega), y_up2 (by omega)]; exact hf q k hq⟩
      rw [bk_91_14]
      simp (maxSteps := 1000000) (disch := omega) only [(fun d x0 x1 x2 B i => bk_24_0 d x0 x1 x2 (am_wI B i)), (fun d x0 x1 B i => bk_23_0 d x0 x1 (am_wI B i)), e3, e7, eb, b2, b3, h1, h2, c_min, hM, y_ckd, y_ck2d, y_ond, y_onn, y_oI, y_oIx, y_oJ, y_oV, y_oVx, y_oR, y_oRn, y_oRx, y_b0, y_b1, y_bi, y_bid, y_wIK, y_wIL, y_wII, y_wIJ, y_wIR, y_wIN, y_wIw, y_sI, ↓reduceIte, Nat.reduceEqDiff, eq_self, true_or, or_true, false_or, or_false, and_true, true_and, false_and, and_false, not_true, not_false_eq_true, tf_T, tf_F, y_up1, y_up2, y_xx, y_nx, y_sJ, y_sR, Int32.reduceLT, y_nxK, y_nxL, y_nxR, y_sJK, y_sJL, y_sJR, y_sJN, y_sRK, y_sRL, y_sRN, Nat.add_zero, z_nat, z_lit, z_lit0, z_lit1, z_in0, z_in1, z_addl0, z_lt, z_ltl, z_llt, z_inj, z_injl, z_add, z_addl, z_ladd, z_mul, z_mull, z_lmul, z_neg, z_negl, z_in, z_inl, z_ltT, z_ltF, z_eqF, z_10, z_01, z_litne, z_ne0, z_0ne, z_ne1, z_1ne, z_lt64, z_02, z_03, z_04, z_05, z_12, z_13, z_14, z_15, z_20, z_21, z_23, z_24, z_25, z_30, z_31, z_32, z_34, z_35, z_40, z_41, z_42, z_43, z_45, z_50, z_51, z_52, z_53, z_54]
    · rw [if_neg g, if_neg g]
      have eb := eb.mpr g
      refine ⟨j, ?_, h1, h2, hf⟩
      rw [bk_91_14]
      simp (maxSteps := 1000000) (disch := omega) only [e3, eb, hM, y_ckd, y_ck2d, y_ond, y_onn, y_oI, y_oIx, y_oJ, y_oV, y_oVx, y_oR, y_oRn, y_oRx, y_b0, y_b1, y_bi, y_bid, y_wIK, y_wIL, y_wII, y_wIJ, y_wIR, y_wIN, y_wIw, y_sI, ↓reduceIte, Nat.reduceEqDiff, eq_self, true_or, or_true, false_or, or_false, and_true, true_and, false_and, and_false, not_true, not_false_eq_true, tf_T, tf_F, y_up1, y_up2, y_xx, y_nx, y_sJ, y_sR, Int32.reduceLT, y_nxK, y_nxL, y_nxR, y_sJK, y_sJL, y_sJR, y_sJN, y_sRK, y_sRL, y_sRN, Nat.add_zero, z_nat, z_lit, z_lit0, z_lit1, z_in0, z_in1, z_addl0, z_lt, z_ltl, z_llt, z_inj, z_injl, z_add, z_addl, z_ladd, z_mul, z_mull, z_lmul, z_neg, z_negl, z_in, z_inl, z_ltT, z_ltF, z_eqF, z_10, z_01, z_litne, z_ne0, z_0ne, z_ne1, z_1ne, z_lt64, z_02, z_03, z_04, z_05, z_12, z_13, z_14, z_15, z_20, z_21, z_23, z_24, z_25, z_30, z_31, z_32, z_34, z_35, z_40, z_41, z_42, z_43, z_45, z_50, z_51, z_52, z_53, z_54]) (am_up2 (am_up2 i 874 24 4) 874 25 1000) ⟨by rw [y_up2 (by omega), y_up1 rfl rfl]; rfl, by rw [y_up1 rfl rfl]; rfl, fun q k hq => by rw [y_up2 (by omega), y_up2 (by omega)]⟩
  refine ⟨j1, ?_, h1, h2, hf⟩
  have e31 := (hf 874 23 (by omega)).trans e3
  rw [bk_91_0]
  simp (maxSteps := 1000000) (disch := omega) only [(fun d x0 x1 B i => bk_91_12 d x0 x1 (am_wI B i)), hM, y_ckd, y_ck2d, y_ond, y_onn, y_oI, y_oIx, y_oJ, y_oV, y_oVx, y_oR, y_oRn, y_oRx, y_b0, y_b1, y_bi, y_bid, y_wIK, y_wIL, y_wII, y_wIJ, y_wIR, y_wIN, y_wIw, y_sI, ↓reduceIte, Nat.reduceEqDiff, eq_self, true_or, or_true, false_or, or_false, and_true, true_and, false_and, and_false, not_true, not_false_eq_true, tf_T, tf_F, y_up1, y_up2, y_xx, y_nx, y_sJ, y_sR, Int32.reduceLT, y_nxK, y_nxL, y_nxR, y_sJK, y_sJL, y_sJR, y_sJN, y_sRK, y_sRL, y_sRN]
  refine E.trans ?_
  rw [bk_91_14]
  simp (maxSteps := 1000000) (disch := omega) only [e31, hM, y_ckd, y_ck2d, y_ond, y_onn, y_oI, y_oIx, y_oJ, y_oV, y_oVx, y_oR, y_oRn, y_oRx, y_b0, y_b1, y_bi, y_bid, y_wIK, y_wIL, y_wII, y_wIJ, y_wIR, y_wIN, y_wIw, y_sI, ↓reduceIte, Nat.reduceEqDiff, eq_self, true_or, or_true, false_or, or_false, and_true, true_and, false_and, and_false, not_true, not_false_eq_true, tf_T, tf_F, y_up1, y_up2, y_xx, y_nx, y_sJ, y_sR, Int32.reduceLT, y_nxK, y_nxL, y_nxR, y_sJK, y_sJL, y_sJR, y_sJN, y_sRK, y_sRL, y_sRN, Nat.add_zero, z_nat, z_lit, z_lit0, z_lit1, z_in0, z_in1, z_addl0, z_lt, z_ltl, z_llt, z_inj, z_injl, z_add, z_addl, z_ladd, z_mul, z_mull, z_lmul, z_neg, z_negl, z_in, z_inl, z_ltT, z_ltF, z_eqF, z_10, z_01, z_litne, z_ne0, z_0ne, z_ne1, z_1ne, z_lt64, z_02, z_03, z_04, z_05, z_12, z_13, z_14, z_15, z_20, z_21, z_23, z_24, z_25, z_30, z_31, z_32, z_34, z_35, z_40, z_41, z_42, z_43, z_45, z_50, z_51, z_52, z_53, z_54]
end Masts2
