/-! THE PIECES' DAY: made by wip/whole/math/907.py. -/
/-- the world after a day of its first n pieces -/
def dyW (w : Nat → Int32) (n z : Nat) : Int32 := if 461 ≤ z ∧ z < 461 + 18 * n then (if (z - 461) % 18 = 1 then plZ w ((z - 461) / 18) else if (z - 461) % 18 = 6 then drZ w ((z - 461) / 18) else if (z - 461) % 18 = 7 then rtZ w ((z - 461) / 18) else if (z - 461) % 18 = 15 then byZ w ((z - 461) / 18) else w z) else w z
section DyW
variable {B : am_A} {i j : Nat → Nat → Int32} {w wt : Nat → Int32} {d b q n p : Nat} {fc : Fct} {x y z D : Int32}
theorem dyW_out {z : Nat} (h : z < 461 ∨ 461 + 18 * n ≤ z) : dyW w n z = w z := if_neg (by omega)
theorem dyW_pl (h : p < n) : dyW w n (461 + 18 * p + 1) = plZ w p := by
  unfold dyW
  rw [if_pos (by omega), if_pos (by omega), show (461 + 18 * p + 1 - 461) / 18 = p by omega]
theorem dyW_dr (h : p < n) : dyW w n (461 + 18 * p + 6) = drZ w p := by
  unfold dyW
  rw [if_pos (by omega), if_neg (by omega), if_pos (by omega), show (461 + 18 * p + 6 - 461) / 18 = p by omega]
theorem dyW_rt (h : p < n) : dyW w n (461 + 18 * p + 7) = rtZ w p := by
  unfold dyW
  rw [if_pos (by omega), if_neg (by omega), if_neg (by omega), if_pos (by omega), show (461 + 18 * p + 7 - 461) / 18 = p by omega]
theorem dyW_by (h : p < n) : dyW w n (461 + 18 * p + 15) = byZ w p := by
  unfold dyW
  rw [if_pos (by omega), if_neg (by omega), if_neg (by omega), if_neg (by omega), if_pos (by omega), show (461 + 18 * p + 15 - 461) / 18 = p by omega]
theorem dyW_oth {m : Nat} (h : m < 18) (h1 : m ≠ 1 ∧ m ≠ 6 ∧ m ≠ 7 ∧ m ≠ 15) : dyW w n (461 + 18 * p + m) = w (461 + 18 * p + m) := by
  unfold dyW
  by_cases g : 461 ≤ 461 + 18 * p + m ∧ 461 + 18 * p + m < 461 + 18 * n
  · rw [if_pos g, if_neg (by omega), if_neg (by omega), if_neg (by omega), if_neg (by omega)]
  · rw [if_neg g]
theorem dyW_ne {z : Nat} (h : z < 461 + 18 * n ∨ 461 + 18 * n + 18 ≤ z) : dyW w (n + 1) z = dyW w n z := by
  unfold dyW
  by_cases g : 461 ≤ z ∧ z < 461 + 18 * n
  · rw [if_pos g, if_pos (by omega)]
  · rw [if_neg g, if_neg (by omega)]
theorem plA_3 (h : plA w p = 3) : w (461 + 18 * p + 1) = 3 := by
  unfold plA at h
  by_cases g : w (461 + 18 * p + 1) = 0
  · rw [if_pos g] at h
    by_cases g2 : w 0 < w (461 + 18 * p + 17)
    · rw [if_pos g2] at h
      exact absurd h (by decide)
    · rw [if_neg g2] at h
      exact absurd h (by decide)
  · rw [if_neg g] at h
    exact h
theorem plA_0 (h : plA w p = 0) : w (461 + 18 * p + 1) = 0 := by
  unfold plA at h
  by_cases g : w (461 + 18 * p + 1) = 0
  · exact g
  · rw [if_neg g] at h
    exact h
theorem plA_of (h : ¬ w (461 + 18 * p + 1) = 0) : plA w p = w (461 + 18 * p + 1) := if_neg h
theorem plA_r (h : ¬ w (461 + 18 * p + 1) < 0 ∧ w (461 + 18 * p + 1) < 7) : ¬ plA w p < 0 ∧ plA w p < 7 := by
  unfold plA
  by_cases g : w (461 + 18 * p + 1) = 0
  · rw [if_pos g]
    by_cases g2 : w 0 < w (461 + 18 * p + 17)
    · rw [if_pos g2]
      decide
    · rw [if_neg g2]
      decide
  · rw [if_neg g]
    exact h
/-- what place a day leaves -/
theorem plZ_or : plZ w p = plA w p ∨ plZ w p = 6 ∧ ¬ plA w p < 1 ∧ ¬ 3 < plA w p ∧ ¬ plA w p = 3 := by
  unfold plZ plB
  by_cases g : agP w p = true
  · have g' := of_decide_eq_true g
    rw [if_pos g]
    by_cases g2 : rtP w p = 100
    · rw [if_pos g2]
      by_cases g3 : plA w p = 3
      · rw [if_pos g3]
        exact Or.inl g3.symm
      · rw [if_neg g3]
        exact Or.inr ⟨rfl, g'.2.1, g'.2.2, g3⟩
    · rw [if_neg g2]
      exact Or.inl rfl
  · rw [if_neg g]
    exact Or.inl rfl
theorem plZ_0 (h : plZ w p = 0) : w (461 + 18 * p + 1) = 0 := by
  rcases plZ_or (w := w) (p := p) with e | ⟨e, -, -, -⟩
  · exact plA_0 (e ▸ h)
  · rw [e] at h
    exact absurd h (by decide)
theorem plZ_3 (h : plZ w p = 3) : w (461 + 18 * p + 1) = 3 := by
  rcases plZ_or (w := w) (p := p) with e | ⟨e, -, -, -⟩
  · exact plA_3 (e ▸ h)
  · rw [e] at h
    exact absurd h (by decide)
theorem plZ_of3 (h : w (461 + 18 * p + 1) = 3) : plZ w p = 3 := by
  have e0 : plA w p = 3 := (plA_of (by rw [h]; decide)).trans h
  rcases plZ_or (w := w) (p := p) with e | ⟨-, -, -, e⟩
  · exact e.trans e0
  · exact absurd e0 e
theorem plZ_of5 (h : w (461 + 18 * p + 1) = 5) : plZ w p = 5 := by
  have e0 : plA w p = 5 := (plA_of (by rw [h]; decide)).trans h
  rcases plZ_or (w := w) (p := p) with e | ⟨-, -, e, -⟩
  · exact e.trans e0
  · rw [e0] at e
    exact absurd (by decide) e
theorem plZ_r (h : ¬ w (461 + 18 * p + 1) < 0 ∧ w (461 + 18 * p + 1) < 7) : ¬ plZ w p < 0 ∧ plZ w p < 7 := by
  rcases plZ_or (w := w) (p := p) with e | ⟨e, -, -, -⟩
  · rw [e]
    exact plA_r h
  · rw [e]
    decide
theorem hrt_r (hT : WdT w) (h39 : isc w 39 60) {t : Int32} (ht : t = -1 ∨ ¬ t < 0 ∧ t < w 39) : ∃ H, hrt w t = Int32.ofNat H ∧ H < 10 := by
  unfold hrt
  rcases ht with e | ⟨h0, h1⟩
  · rw [e, if_pos (by decide)]
    exact ⟨0, rfl, by omega⟩
  · rw [if_neg h0]
    have h2 := h39.2
    rw [h39.1] at h1
    obtain ⟨k, e, hk⟩ := z_lk _ (by omega) h0 h1
    have ek : t.toNatClampNeg = k := by rw [e]; exact z_nat (by omega)
    rw [ek, if_pos (by omega)]
    obtain ⟨-, -, -, -, r0, r1⟩ := hT.1 k hk (by omega)
    exact z_lk 10 (by omega) r0 r1
theorem rt_all : ∀ (R : Fin 101) (H : Fin 5) (e : Bool), (mn (Int32.ofNat H.val) (100 - Int32.ofNat R.val) = Int32.ofNat (min H.val (100 - R.val))) ∧ ¬ (mn 100 (Int32.ofNat R.val + Int32.ofNat (min H.val (100 - R.val)) + if e then 1 else 0)) < 0 ∧ mn 100 (Int32.ofNat R.val + Int32.ofNat (min H.val (100 - R.val)) + if e then 1 else 0) < 101 := by decide +kernel
theorem dRt_b : ∃ e : Bool, dRt x y z D = if e then 1 else 0 := by
  unfold dRt
  (repeat' split) <;> first | exact ⟨true, rfl⟩ | exact ⟨false, rfl⟩
theorem rtP_r (hT : WdT w) (h39 : isc w 39 60) (h9 : w (461 + 18 * p + 9) = -1 ∨ ¬ w (461 + 18 * p + 9) < 0 ∧ w (461 + 18 * p + 9) < w 39) (h7 : ¬ w (461 + 18 * p + 7) < 0 ∧ w (461 + 18 * p + 7) < 101) : ¬ rtP w p < 0 ∧ rtP w p < 101 := by
  obtain ⟨H, eH, hH⟩ := hrt_r hT h39 h9
  obtain ⟨R, eR, hR⟩ := z_lk 101 (by omega) h7.1 h7.2
  obtain ⟨e, ee⟩ := dRt_b (x := w 0) (y := plA w p) (z := w (461 + 18 * p + 5)) (D := drP w p)
  have e2 : Int32.ofNat H / 2 = Int32.ofNat (H / 2) := z_divn (a := H) (c := 2) (by omega) (by omega)
  unfold rtP heP
  rw [ee, eH, eR, e2]
  by_cases g : w 0 - w 0 / 40 * 40 = 0
  · rw [if_pos g]
    have h := rt_all ⟨R, hR⟩ ⟨H / 2, by omega⟩ e
    dsimp only at h
    rw [h.1]
    exact h.2
  · rw [if_neg g]
    have h := rt_all ⟨R, hR⟩ ⟨0, by omega⟩ e
    dsimp only at h
    rw [show min 0 (100 - R) = 0 by omega] at h
    exact h.2
theorem Rep_day1 (h : Rep B i b (dyW w n)) (hb : b + 260 ≤ 874) (hn : n < cn w 460) (h120 : n < 120) (hj : ∀ q k, q ≠ b + 92 + n → j q k = i q k) (hk : ∀ k, k ≠ 9 → k ≠ 10 → k ≠ 11 → k ≠ 12 → j (b + 92 + n) k = i (b + 92 + n) k) (h9 : j (b + 92 + n) 9 = plZ w n) (h10 : j (b + 92 + n) 10 = drZ w n) (h11 : j (b + 92 + n) 11 = rtZ w n) (h12 : j (b + 92 + n) 12 = byZ w n) : Rep B j b (dyW w (n + 1)) := by
  have e460 : cn (dyW w n) 460 = cn w 460 := by unfold cn; rw [dyW_out (by omega)]
  have hh : ∀ m t, hrt (dyW w m) t = hrt w t := fun m => hrt_fr fun t ht => dyW_out (by omega)
  obtain ⟨a0, a9, a2, a3, a4, a1, a10, a11, a14, a5, a7, a16, a17, a18, a15, a12, a13, a8, a6⟩ := h.2.2.1.2 n (by omega) h120
  have eo : ∀ m, m < 18 → dyW w n (461 + 18 * n + m) = w (461 + 18 * n + m) := fun m _ => dyW_out (by omega)
  have e0 := eo 0 (by omega)
  have en0 : dyW w (n + 1) (461 + 18 * n) = w (461 + 18 * n) := dyW_oth (m := 0) (by omega) (by omega)
  simp only [Nat.add_zero] at e0
  have en : ∀ m, m < 18 → m ≠ 1 ∧ m ≠ 6 ∧ m ≠ 7 ∧ m ≠ 15 → dyW w (n + 1) (461 + 18 * n + m) = w (461 + 18 * n + m) := fun m h1 h2 => dyW_oth h1 h2
  refine Rep_pc h hb h120 hj (fun z hz => dyW_ne hz) ⟨?_, ?_, ?_, ?_, ?_, ?_, ?_, ?_, ?_, ?_, ?_, ?_, ?_, ?_, ?_, ?_, ?_, ?_, ?_⟩
  · rw [hk _ (by omega) (by omega) (by omega) (by omega), a0, e0, en0]
  · rw [h9, dyW_pl (by omega)]
  · rw [hk _ (by omega) (by omega) (by omega) (by omega), a2, eo 2 (by omega), en 2 (by omega) (by omega)]
  · rw [hk _ (by omega) (by omega) (by omega) (by omega), a3, eo 3 (by omega), en 3 (by omega) (by omega)]
  · rw [hk _ (by omega) (by omega) (by omega) (by omega), a4, eo 4 (by omega), en 4 (by omega) (by omega)]
  · rw [hk _ (by omega) (by omega) (by omega) (by omega), a1, eo 5 (by omega), en 5 (by omega) (by omega)]
  · rw [h10, dyW_dr (by omega)]
  · rw [h11, dyW_rt (by omega)]
  · rw [hk _ (by omega) (by omega) (by omega) (by omega), a14, eo 8 (by omega), en 8 (by omega) (by omega)]
  · rw [hk _ (by omega) (by omega) (by omega) (by omega), a5, eo 9 (by omega), en 9 (by omega) (by omega)]
  · rw [hk _ (by omega) (by omega) (by omega) (by omega), a7, eo 10 (by omega), en 10 (by omega) (by omega)]
  · rw [hk _ (by omega) (by omega) (by omega) (by omega), a16, eo 11 (by omega), en 11 (by omega) (by omega)]
  · rw [hk _ (by omega) (by omega) (by omega) (by omega), a17, eo 12 (by omega), en 12 (by omega) (by omega)]
  · rw [hk _ (by omega) (by omega) (by omega) (by omega), a18, eo 13 (by omega), en 13 (by omega) (by omega)]
  · rw [hk _ (by omega) (by omega) (by omega) (by omega), a15, eo 14 (by omega), en 14 (by omega) (by omega)]
  · rw [h12, dyW_by (by omega)]
  · rw [hk _ (by omega) (by omega) (by omega) (by omega), a13, eo 16 (by omega), en 16 (by omega) (by omega)]
  · intro h0
    rw [dyW_pl (by omega)] at h0
    rw [hk _ (by omega) (by omega) (by omega) (by omega), a8 (by rw [eo 1 (by omega)]; exact plZ_0 h0), eo 17 (by omega), en 17 (by omega) (by omega)]
  · rw [hk _ (by omega) (by omega) (by omega) (by omega), a6, eo 9 (by omega), en 9 (by omega) (by omega), hh, hh]
theorem Wd_dayP (h : Wd w) (hd : ∀ p, p < cn w 460 → p < 120 → w (461 + 18 * p + 6) < w 0) : ∀ n, n ≤ cn w 460 → Wd (dyW w n) := by
  intro n
  induction n with
  | zero =>
    intro _
    have e : dyW w 0 = w := funext fun z => dyW_out (by omega)
    rw [e]
    exact h
  | succ n ih =>
    intro hn
    have ih' := ih (by omega)
    have h460 := h.1.2.2.1
    have k0 := h.1.1
    have n0 := k0.2
    have n4 := h460.2
    have e460 : cn (dyW w n) 460 = cn w 460 := by unfold cn; rw [dyW_out (by omega)]
    obtain ⟨a1, a2, a3, a4, a5, a6, a7, a8, a9, a10, a11, a12, a13⟩ := h.2.2.2.1.1 n (by omega) (by omega)
    have eo : ∀ m, m < 18 → dyW w n (461 + 18 * n + m) = w (461 + 18 * n + m) := fun m _ => dyW_out (by omega)
    have e0 := eo 0 (by omega)
    have en0 : dyW w (n + 1) (461 + 18 * n) = w (461 + 18 * n) := dyW_oth (m := 0) (by omega) (by omega)
    simp only [Nat.add_zero] at e0
    have en : ∀ m, m < 18 → m ≠ 1 ∧ m ≠ 6 ∧ m ≠ 7 ∧ m ≠ 15 → dyW w (n + 1) (461 + 18 * n + m) = w (461 + 18 * n + m) := fun m h1 h2 => dyW_oth h1 h2
    have eg : ∀ z, z < 461 ∨ 2621 ≤ z → dyW w (n + 1) z = w z := fun z hz => dyW_out (by omega)
    have ec2 : cn (dyW w (n + 1)) (461 + 18 * n + 2) = cn w (461 + 18 * n + 2) := by unfold cn; rw [en 2 (by omega) (by omega)]
    refine Wd_pc ih' (by omega) (by omega) (fun z hz => dyW_ne hz) ?_ ?_ ?_
    · unfold PcW
      rw [ec2, eg 0 (by omega), eg 39 (by omega), eg 2621 (by omega), en0, dyW_pl (by omega), en 2 (by omega) (by omega), en 3 (by omega) (by omega), en 5 (by omega) (by omega), dyW_dr (by omega), dyW_rt (by omega), en 9 (by omega) (by omega), en 11 (by omega) (by omega), en 13 (by omega) (by omega), en 14 (by omega) (by omega), en 16 (by omega) (by omega)]
      refine ⟨a1, a2, plZ_r a3, a4, a5, ?_, ?_, a8, a9, fun q => a10 (plZ_3 q), a11, a12, a13⟩
      · have hd' := hd n (by omega) (by omega)
        obtain ⟨y, hy, ey⟩ := z_of a6.1
        rw [ey, k0.1, z_lt hy (by omega)] at hd'
        unfold drZ drP
        rw [k0.1, ey]
        have z1 : Int32.ofNat y + 1 = Int32.ofNat (y + 1) := z_add y 1
        split
        · split
          · rw [z1, z_neg (by omega), z_lt (by omega) (by omega)]
            exact ⟨id, by omega⟩
          · rw [z_neg (by omega), z_lt (by omega) (by omega)]
            exact ⟨id, by omega⟩
        · rw [z_neg (by omega), z_lt (by omega) (by omega)]
          exact ⟨id, by omega⟩
      · unfold rtZ
        split
        · exact rtP_r h.2.2.1 h.1.2.1 a8 a7
        · exact a7
    · refine lnt_pl (by rw [en0, e0]) (by rw [en 2 (by omega) (by omega), eo 2 (by omega)]) ?_
      rw [eo 1 (by omega), dyW_pl (by omega)]
      by_cases g : w (461 + 18 * n + 1) = 5
      · exact Or.inr (plZ_of5 g)
      · exact Or.inl g
    · intro s m hs s8 hm m8 g e
      have hI := ih'.2.2.2.2.2.2.2.2.2.2 s hs s8 m hm m8 g (by omega)
      rw [e, eo 1 (by omega), eo 11 (by omega), eo 12 (by omega)] at hI
      rw [dyW_pl (by omega), en 11 (by omega) (by omega), en 12 (by omega) (by omega)]
      exact ⟨plZ_of3 hI.1, hI.2⟩
theorem c_pcs (hY : Yd B b) (hb : b + 260 ≤ 874) (h4 : isc w 460 120) (hR : Rep B i b w) : ∃ j, am_fx am_P (d + 3) 245 12 [some (.ref b), some (.int 0), none] [] (am_wI B i) = am_fx am_P (d + 3) 245 12 [some (.ref b), some (.int (Int32.ofNat (cn w 460))), none] [] (am_wI B j) ∧ Rep B j b (dyW w (cn w 460)) ∧ ∀ q k, (q < b + 92 ∨ b + 212 ≤ q) → j q k = i q k := by
  have n4 := h4.2
  refine lp_inv (fun k j => am_fx am_P (d + 3) 245 12 [some (.ref b), some (.int (Int32.ofNat k)), none] [] (am_wI B j)) (fun k j => Rep B j b (dyW w k) ∧ ∀ q m, (q < b + 92 ∨ b + 212 ≤ q) → j q m = i q m) (cn w 460) (fun k j hk hI => ?_) i ⟨?_, fun _ _ _ => rfl⟩
  · obtain ⟨hI, fo⟩ := hI
    have e460 : cn (dyW w k) 460 = cn w 460 := by unfold cn; rw [dyW_out (by omega)]
    have hP : PcR j (b + 92 + k) (dyW w k) (461 + 18 * k) := hI.2.2.1.2 k (by omega) (by omega)
    have hP' : PcR j (b + 92 + k) w (461 + 18 * k) := by
      have eo : ∀ m, m < 18 → dyW w k (461 + 18 * k + m) = w (461 + 18 * k + m) := fun m _ => dyW_out (by omega)
      have e0 := eo 0 (by omega)
      simp only [Nat.add_zero] at e0
      have hh : ∀ t, hrt (dyW w k) t = hrt w t := hrt_fr fun t ht => dyW_out (by omega)
      unfold PcR at hP ⊢
      rw [e0, eo 1 (by omega), eo 2 (by omega), eo 3 (by omega), eo 4 (by omega), eo 5 (by omega), eo 6 (by omega), eo 7 (by omega), eo 8 (by omega), eo 9 (by omega), eo 10 (by omega), eo 11 (by omega), eo 12 (by omega), eo 13 (by omega), eo 14 (by omega), eo 15 (by omega), eo 16 (by omega), eo 17 (by omega), hh] at hP
      exact hP
    obtain ⟨j2, E, b9, b10, b11, b12, f2, fo2⟩ := c_pday (B := B) (d := d) (i := j) (w := w) (q := b + 92 + k) (p := k) (by simp (disch := omega) only [hY]) hP'
    have h5 : j b 5 = Int32.ofNat (cn w 460) := (hI.2.2.1.1.trans (dyW_out (by omega))).trans h4.1
    have h0 : j b 0 = w 0 := hI.1.1.trans (dyW_out (by omega))
    refine ⟨j2, ?_, Rep_day1 hI hb hk (by omega) fo2 f2 b9 b10 b11 b12, fun q m hq => (fo2 _ _ (by omega)).trans (fo _ _ hq)⟩
    rw [bk_245_12]
    simp (disch := omega) only [h5, h0, E, hY, y_ckd, y_ck2d, y_ond, y_onn, y_oI, y_oIx, y_oJ, y_oV, y_oVx, y_oR, y_oRn, y_oRx, y_b0, y_b1, y_bi, y_bid, y_wIK, y_wIL, y_wII, y_wIJ, y_wIR, y_wIN, y_wIw, y_sI, ↓reduceIte, Nat.reduceEqDiff, eq_self, true_or, or_true, false_or, or_false, and_true, true_and, false_and, and_false, not_true, not_false_eq_true, tf_T, tf_F, y_up1, y_up2, y_xx, y_nx, y_sJ, y_sR, Int32.reduceLT, y_nxK, y_nxL, y_nxR, y_sJK, y_sJL, y_sJR, y_sJN, y_sRK, y_sRL, y_sRN, Nat.add_zero, z_nat, z_lit, z_lit0, z_lit1, z_in0, z_in1, z_addl0, z_lt, z_ltl, z_llt, z_inj, z_injl, z_add, z_addl, z_ladd, z_mul, z_mull, z_lmul, z_neg, z_negl, z_in, z_inl, z_ltT, z_ltF, z_eqF, z_10, z_01, z_litne, z_ne0, z_0ne, z_ne1, z_1ne, z_lt64, z_02, z_03, z_04, z_05, z_12, z_13, z_14, z_15, z_20, z_21, z_23, z_24, z_25, z_30, z_31, z_32, z_34, z_35, z_40, z_41, z_42, z_43, z_45, z_50, z_51, z_52, z_53, z_54]
  · have e : dyW w 0 = w := funext fun z => dyW_out (by omega)
    rw [e]
    exact hR
end DyW
