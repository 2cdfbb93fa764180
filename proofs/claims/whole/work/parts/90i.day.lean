/-! A DAY: made by wip/whole/math/90i.py. -/
def dy1 (w : Nat → Int32) : Nat → Int32 := wu w 0 (w 0 + 1)
def dy2 (w : Nat → Int32) : Nat → Int32 := dyW (dy1 w) (cn w 460)
def dyt (w : Nat → Int32) : Option Nat := txi (dy2 w) (dy2 w 0) (cn (dy2 w) 3541)
def dy3 (w : Nat → Int32) : Nat → Int32 := itr (opS (dyt w)) (cn w 2621) (dy2 w)
/-- the world a day later -/
def dyZ (w : Nat → Int32) : Nat → Int32 := itr (gaS (dyt w)) (cn w 3019) (dy3 w)
section Day
variable {B : am_A} {i j : Nat → Nat → Int32} {w v : Nat → Int32} {d b q n p s k g : Nat} {x y z D : Int32} {t : Option Nat}
theorem Wd_chW (h : Wd w) : Wd (chW w x) := by
  have h4 := h.1.2.2.1
  have n4 := h4.2
  have hP : Wd (itr chS (cn w 460) (ch0 w x)).1 ∧ cn (itr chS (cn w 460) (ch0 w x)).1 460 = cn w 460 := by
    refine itr_inv (P := fun _ (a : (Nat → Int32) × Int32) => Wd a.1 ∧ cn a.1 460 = cn w 460) ⟨Wd_base h (fun k hk => ?_) fun z h1 h2 h3 => wu_ne (by omega), ?_⟩ fun k hk a ha => ?_
    · show ¬ wu w 3 (w 3 + x) (5 + k) < 0 ∧ wu w 3 (w 3 + x) (5 + k) < 61
      rw [wu_ne (by omega)]
      exact h.2.1 k hk
    · show cn (wu w 3 (w 3 + x)) 460 = _
      unfold cn
      rw [wu_ne (by omega)]
    · obtain ⟨a1, a2⟩ := ha
      unfold chS
      by_cases g : 0 < a.2 ∧ a.1 (461 + 18 * k) = 0 ∧ a.1 (461 + 18 * k + 1) = 2
      · rw [if_pos g]
        refine ⟨Wd_chp a1 (by omega) (by omega) g.2.2, ?_⟩
        show cn (wu a.1 (461 + 18 * k + 1) 4) 460 = _
        unfold cn at a2 ⊢
        rw [wu_ne (by omega)]
        exact a2
      · rw [if_neg g]
        exact ⟨a1, a2⟩
  exact hP.1
theorem Wd_gaS (h : Wd w) (hg : g < cn w 3019) (g8 : g < 8) : Wd (gaS t g w) := by
  unfold gaS
  have h21 := h.1.2.2.2.1
  have n21 := h21.2
  by_cases g0 : w (3020 + 2 * g + 1) < 0
  · rw [if_pos g0]
    exact h
  · rw [if_neg g0]
    obtain ⟨eg, hs⟩ := nn_of (h.2.2.2.2.2.1 g hg g8).2 h21.1 (by omega) (fun q => g0 (by rw [q]; decide))
    have hA := Wd_lwA (s := cn w (3020 + 2 * g + 1)) h hg g8 hs (by omega)
    unfold lwB
    cases t with
    | none => exact hA
    | some k =>
      dsimp only
      split
      · exact Wd_chW hA
      · exact hA
theorem gaS_cc (h : Wd w) (hg : g < cn w 3019) (g8 : g < 8) {z : Nat} (h3 : z ≠ 3) (hz : z < 461 ∨ z = 2621 ∨ 3014 ≤ z) : gaS t g w z = w z := by
  have h21 := h.1.2.2.2.1
  have n21 := h21.2
  refine gaS_ne h3 hz ?_ h.1.2.2.1.2
  by_cases g0 : w (3020 + 2 * g + 1) < 0
  · exact Or.inl g0
  · obtain ⟨eg, hs⟩ := nn_of (h.2.2.2.2.2.1 g hg g8).2 h21.1 (by omega) (fun q => g0 (by rw [q]; decide))
    exact Or.inr (by omega)
theorem m_gangsD (hM : Md B) (hw : ∀ z, z < 12042 → i 875 z = w z) (hW : Wd w) (ht : txi w (w 0) (cn w 3541) = t) : ∃ j, am_fx am_P (d + 5) 120 156 [some (.ref 874), some (.int 0), none] [] (am_wI B i) = some (.inl none, am_wI B j) ∧ (∀ z, z < 12042 → j 875 z = itr (gaS t) (cn w 3019) w z) ∧ ∀ q k, q ≠ 875 → q ≠ 880 → q ≠ 881 → q ≠ 882 → j q k = i q k := by
  have h19 := hW.1.2.2.2.2.2.1
  have n19 := h19.2
  obtain ⟨⟨v, j⟩, E, hv, hj, hWv, hT, c3, fo⟩ := lp_inv (fun k (a : (Nat → Int32) × (Nat → Nat → Int32)) => am_fx am_P (d + 5) 120 156 [some (.ref 874), some (.int (Int32.ofNat k)), none] [] (am_wI B a.2)) (fun k a => a.1 = itr (gaS t) k w ∧ (∀ z, z < 12042 → a.2 875 z = a.1 z) ∧ Wd a.1 ∧ txi a.1 (a.1 0) (cn a.1 3541) = t ∧ cn a.1 3019 = cn w 3019 ∧ ∀ q k, q ≠ 875 → q ≠ 880 → q ≠ 881 → q ≠ 882 → a.2 q k = i q k) (cn w 3019) (fun k a hk hI => by
    obtain ⟨v, j⟩ := a
    obtain ⟨hv, hj, hWv, hT, c3, fo⟩ := hI
    dsimp only at hv hj hWv hT c3 fo
    have hst : itr (gaS t) (k + 1) w = gaS t k v := by rw [hv]; rfl
    obtain ⟨j2, E2, hj2, f2⟩ := m_wk (t := t) (d := d) (g := k) hM hj hWv (by omega) hT
    refine ⟨(gaS t k v, j2), E2, hst.symm, hj2, Wd_gaS hWv (by omega) (by omega), (txi_S fun z hz => gaS_cc hWv (by omega) (by omega) (by omega) (by omega)).trans hT, ?_, fun q m h1 h2 h3 h4 => (f2 q m h1 h2 h3 h4).trans (fo q m h1 h2 h3 h4)⟩
    have eZ : gaS t k v 3019 = v 3019 := gaS_cc hWv (by omega) (by omega) (by omega) (by omega)
    show cn (gaS t k v) 3019 = _
    unfold cn at c3 ⊢
    rw [eZ]
    exact c3) (w, i) ⟨rfl, hw, hW, ht, rfl, fun _ _ _ _ _ _ => rfl⟩
  dsimp only at E hv hj hWv hT c3 fo
  have e19 : j 875 3019 = Int32.ofNat (cn w 3019) := ((hj 3019 (by omega)).trans hWv.1.2.2.2.2.2.1.1).trans (by rw [c3])
  rw [← hv]
  refine ⟨j, E.trans ?_, hj, fo⟩
  rw [bk_120_156]
  simp (disch := omega) only [e19, hM, y_ckd, y_ck2d, y_ond, y_onn, y_oI, y_oIx, y_oJ, y_oV, y_oVx, y_oR, y_oRn, y_oRx, y_b0, y_b1, y_bi, y_bid, y_wIK, y_wIL, y_wII, y_wIJ, y_wIR, y_wIN, y_wIw, y_sI, ↓reduceIte, Nat.reduceEqDiff, eq_self, true_or, or_true, false_or, or_false, and_true, true_and, false_and, and_false, not_true, not_false_eq_true, tf_T, tf_F, y_up1, y_up2, y_xx, y_nx, y_sJ, y_sR, Int32.reduceLT, y_nxK, y_nxL, y_nxR, y_sJK, y_sJL, y_sJR, y_sJN, y_sRK, y_sRL, y_sRN, Nat.add_zero, z_nat, z_lit, z_lit0, z_lit1, z_in0, z_in1, z_addl0, z_lt, z_ltl, z_llt, z_inj, z_injl, z_add, z_addl, z_ladd, z_mul, z_mull, z_lmul, z_neg, z_negl, z_in, z_inl, z_ltT, z_ltF, z_eqF, z_10, z_01, z_litne, z_ne0, z_0ne, z_ne1, z_1ne, z_lt64, z_02, z_03, z_04, z_05, z_12, z_13, z_14, z_15, z_20, z_21, z_23, z_24, z_25, z_30, z_31, z_32, z_34, z_35, z_40, z_41, z_42, z_43, z_45, z_50, z_51, z_52, z_53, z_54]
theorem dy1_ne {z : Nat} (h : z ≠ 0) : dy1 w z = w z := wu_ne h
theorem dy1_d (h : Wd w) (hd : cn w 0 < 4000) : dy1 w 0 = Int32.ofNat (cn w 0 + 1) := by
  show wu w 0 (w 0 + 1) 0 = _
  rw [wu_at rfl, h.1.1.1]
  exact z_add _ 1
theorem Wd_dy1 (h : Wd w) (hd : cn w 0 < 4000) : Wd (dy1 w) := by
  have e0 := dy1_d h hd
  have k0 := h.1.1
  obtain ⟨h1, h2, h3, h4, h5, h6, h7, h8, h9, h10, h11⟩ := h
  obtain ⟨b1, b2, b3, b4, b5, b6, b7, b8, b9, b10⟩ := h1
  have k : ∀ z, z ≠ 0 → dy1 w z = w z := fun z hz => wu_ne hz
  have c460 : cn (dy1 w) 460 = cn w 460 := by unfold cn; rw [k _ (by omega)]
  refine ⟨⟨⟨?_, ?_⟩, isc_fr b2 (k _ (by omega)), isc_fr b3 (k _ (by omega)), isc_fr b4 (k _ (by omega)), isc_fr b5 (k _ (by omega)), isc_fr b6 (k _ (by omega)), isc_fr b7 (k _ (by omega)), isc_fr b8 (k _ (by omega)), isc_fr b9 (k _ (by omega)), isc_fr b10 (k _ (by omega))⟩, WdR_fr h2 fun s hs => k s (by omega), WdT_fr h3 fun s hs => k s (by omega), ⟨fun p hp h120 => ?_, ?_⟩, WdS_fr h5 fun s hs => k s (by omega), WdG_fr h6 fun s hs => k s (by omega), WdE_fr h7 fun s hs => k s (by omega), WdM_fr h8 fun s hs => k s (by omega), WdX_fr h9 fun s hs => k s (by omega), WdZ_fr h10 fun s hs => k s (by omega), WdI_fr h11 fun s hs => k s (by omega)⟩
  · unfold cn
    rw [e0, z_nat (by omega)]
  · unfold cn
    rw [e0, z_nat (by omega)]
    omega
  · obtain ⟨a1, a2, a3, a4, a5, a6, a7, a8, a9, a10, a11, a12, a13⟩ := h4.1 p (by omega) h120
    have ec2 : cn (dy1 w) (461 + 18 * p + 2) = cn w (461 + 18 * p + 2) := by unfold cn; rw [k _ (by omega)]
    unfold PcW
    rw [ec2, k (461 + 18 * p) (by omega), k (461 + 18 * p + 1) (by omega), k (461 + 18 * p + 2) (by omega), k (461 + 18 * p + 3) (by omega), k (461 + 18 * p + 5) (by omega), k (461 + 18 * p + 6) (by omega), k (461 + 18 * p + 7) (by omega), k (461 + 18 * p + 9) (by omega), k (461 + 18 * p + 11) (by omega), k (461 + 18 * p + 13) (by omega), k (461 + 18 * p + 14) (by omega), k (461 + 18 * p + 16) (by omega), k 39 (by omega), k 2621 (by omega), e0]
    refine ⟨a1, a2, a3, a4, a5, ⟨a6.1, ?_⟩, a7, a8, a9, a10, a11, a12, a13⟩
    obtain ⟨y, hy, ey⟩ := z_of a6.1
    have a62 := a6.2
    rw [ey, k0.1, z_lt (by omega) hy] at a62
    rw [ey, z_lt (by omega) hy]
    omega
  · have el : lng (dy1 w) = lng w := by
      unfold lng
      rw [c460]
      refine itr_congr fun p hp a => ?_
      have ec2 : cn (dy1 w) (461 + 18 * p + 2) = cn w (461 + 18 * p + 2) := by unfold cn; rw [k _ (by omega)]
      rw [ec2, k (461 + 18 * p) (by omega), k (461 + 18 * p + 1) (by omega)]
    rw [el, c460]
    exact h4.2
theorem dy1_dry (h : Wd w) (hd : cn w 0 < 4000) (p : Nat) (hp : p < cn (dy1 w) 460) (h120 : p < 120) : dy1 w (461 + 18 * p + 6) < dy1 w 0 := by
  have c460 : cn (dy1 w) 460 = cn w 460 := by unfold cn; rw [dy1_ne (by omega)]
  have a6 := (h.2.2.2.1.1 p (by omega) h120).2.2.2.2.2.1
  have k0 := h.1.1
  rw [dy1_d h hd, dy1_ne (by omega)]
  obtain ⟨y, hy, ey⟩ := z_of a6.1
  have a62 := a6.2
  rw [ey, k0.1, z_lt (by omega) hy] at a62
  rw [ey, z_lt hy (by omega)]
  omega
theorem Wd_dy2 (h : Wd w) (hd : cn w 0 < 4000) : Wd (dy2 w) := by
  have c460 : cn (dy1 w) 460 = cn w 460 := by unfold cn; rw [dy1_ne (by omega)]
  exact Wd_dayP (Wd_dy1 h hd) (dy1_dry h hd) _ (by omega)
theorem dy2_ne {z : Nat} (h : z ≠ 0) (h2 : z < 461 ∨ 461 + 18 * cn w 460 ≤ z) : dy2 w z = w z := (dyW_out h2).trans (dy1_ne h)
theorem dyt_lt (h : Wd w) : ∀ k, dyt w = some k → k < cn (dy2 w) 3541 ∧ k < 10 := by
  intro k hk
  have h1 := txi_lt _ hk
  have n4 := h.1.2.2.1.2
  have e0 : dy2 w 3541 = w 3541 := dy2_ne (by omega) (by omega)
  have e : cn (dy2 w) 3541 = cn w 3541 := by unfold cn; rw [e0]
  have := h.1.2.2.2.2.2.2.2.2.2.2
  exact ⟨h1, by omega⟩
theorem opS_0 : ∀ n, itr (opS t) n w 0 = w 0
  | 0 => rfl
  | n + 1 => (opS_ne (by omega)).trans (opS_0 n)
theorem gaS_0 : ∀ n, itr (gaS t) n w 0 = w 0
  | 0 => rfl
  | n + 1 => by
    show gaS t n (itr (gaS t) n w) 0 = w 0
    refine Eq.trans ?_ (gaS_0 n)
    unfold gaS
    split
    · rfl
    · rw [lwB_ne (by omega) (Or.inl (by omega)), lwA_ne (by omega)]
theorem dyZ_d (h : Wd w) (hd : cn w 0 < 4000) : dyZ w 0 = Int32.ofNat (cn w 0 + 1) := by
  unfold dyZ dy3
  rw [gaS_0, opS_0]
  exact (dyW_out (by omega)).trans (dy1_d h hd)
end Day
