/-! THE START: the law begins. Made by wip/whole/math/970.py. -/
/-- the first state of both -/
def σ00 : Sg := (w00, w00, w00, false, false, 0, fun _ => 0, -1)
section Start
variable {B B1 : am_A} {i i1 : Nat → Nat → Int32} {d L b : Nat}
theorem w00_hi {l : Nat} (h : 11 ≤ l) : w00 l = 0 := by
  unfold w00
  rw [if_neg (by omega), if_neg (by omega), if_neg (by omega)]
theorem w00_r {k : Nat} (h : k < 6) : w00 (5 + k) = 10 := by
  unfold w00
  rw [if_neg (by omega), if_neg (by omega), if_pos (by omega)]
theorem cn00 {l : Nat} (h : 11 ≤ l) : cn w00 l = 0 := by
  unfold cn
  rw [w00_hi h]
  rfl
theorem isc00 {l M : Nat} (h : 11 ≤ l) : isc w00 l M := ⟨by rw [cn00 h, w00_hi h]; rfl, by rw [cn00 h]; exact Nat.zero_le M⟩
theorem Wd00 : Wd w00 := by
  have v : ∀ {l t : Nat} {P : Prop}, 11 ≤ l → t < cn w00 l → P := fun h q => by rw [cn00 h] at q; exact absurd q (Nat.not_lt_zero _)
  refine ⟨⟨⟨by decide, by decide⟩, isc00 (by omega), isc00 (by omega), isc00 (by omega), isc00 (by omega), isc00 (by omega), isc00 (by omega), isc00 (by omega), isc00 (by omega), isc00 (by omega)⟩, fun k hk => by rw [w00_r hk]; decide, ⟨fun t q => v (by omega) q, fun t _ _ => w00_hi (by omega)⟩, ⟨fun p q => v (by omega) q, ?_⟩, ⟨fun s q => v (by omega) q, fun s _ _ => ⟨w00_hi (by omega), w00_hi (by omega), w00_hi (by omega), w00_hi (by omega)⟩⟩, fun g q => v (by omega) q, fun k q => v (by omega) q, fun k q => v (by omega) q, fun t q => v (by omega) q, ⟨fun t q => v (by omega) q, fun s q => v (by omega) q, fun k q => v (by omega) q, fun r _ y _ => by rw [w00_hi (by omega)]; decide⟩, fun s q => v (by omega) q⟩
  unfold lng
  rw [cn00 (by omega)]
  exact Nat.zero_le _
theorem Rep00 (h : Yi i b) : Rep B i b w00 := by
  obtain ⟨h6, h9, hz, hr, h0⟩ := h
  have v : ∀ {l t : Nat} {P : Prop}, 11 ≤ l → t < cn w00 l → P := fun h q => by rw [cn00 h] at q; exact absurd q (Nat.not_lt_zero _)
  have z : ∀ q l k, b + 2 ≤ q → q < b + 260 → 11 ≤ k → i q l = w00 k := fun q l k h1 h2 h3 => (h0 q l h1 h2).trans (w00_hi h3).symm
  have y : ∀ l k, l ≠ 6 → l ≠ 9 → w00 k = 0 → i b l = w00 k := fun l k a c e => (hz l a c).trans e.symm
  exact ⟨⟨y 0 0 (by omega) (by omega) rfl, h6, h9, y 13 3 (by omega) (by omega) rfl, y 14 4 (by omega) (by omega) rfl, fun k hk => (hr k hk).trans (w00_r hk).symm, fun k hk => z _ _ _ (by omega) (by omega) (by omega), z _ _ _ (by omega) (by omega) (by omega), fun k hk => z _ _ _ (by omega) (by omega) (by omega)⟩, ⟨y 3 39 (by omega) (by omega) (w00_hi (by omega)), fun t q => v (by omega) q⟩, ⟨y 5 460 (by omega) (by omega) (w00_hi (by omega)), fun t q => v (by omega) q⟩, ⟨y 8 2621 (by omega) (by omega) (w00_hi (by omega)), fun t q => v (by omega) q⟩, ⟨y 12 3019 (by omega) (by omega) (w00_hi (by omega)), fun t q => v (by omega) q⟩, ⟨z _ _ _ (by omega) (by omega) (by omega), fun t q => v (by omega) q⟩, ⟨z _ _ _ (by omega) (by omega) (by omega), fun t q => v (by omega) q⟩, ⟨z _ _ _ (by omega) (by omega) (by omega), fun t q => v (by omega) q, fun r hr y hy => z _ _ _ (by omega) (by omega) (by omega)⟩, ⟨z _ _ _ (by omega) (by omega) (by omega), fun t q => v (by omega) q⟩⟩
theorem law_start (hN : am_N B = 64) (hL : am_K B 0 = 41 ∧ am_L B 0 = L ∧ L ≤ 3584) (h1 : am_K B 1 = 42 ∧ am_L B 1 = 8 ∧ ∀ k, k < 8 → am_J B 1 k = p120 k) (hX : Stx B i) : ∃ B' i', am_fx am_P (d + 3) 397 0 [some (.ref 0), none, none, none, none, none, none] [] (am_wI B i) = am_fx am_P (d + 3) 397 23 [some (.ref 0), some (.ref 64), some (.ref 874), some (.ref 892), some (.int (Int32.ofNat 0)), none, none] [] (am_wI B' i') ∧ LI B' i' σ00 L ∧ am_C B' = am_C B + 829 ∧ am_S B' = am_S B + 53527 := by
  obtain ⟨B1, i1, E1, ⟨N1, C1, S1⟩, O1, F1, ⟨Y1, Y2, Y3⟩, ⟨I1, I2, I3⟩, t2, tz⟩ := i_290 (B := am_nw B 1 0 7) (i := rI B i) (d := d) (by show am_N B + 1 = 65; omega) (by rw [← hN]; exact y_nwK0) (fun l => by rw [← hN]; exact congrFun (if_pos rfl) l)
  have c0 : am_C (am_nw B 1 0 7) = am_C B + 1 := rfl
  have s0 : am_S (am_nw B 1 0 7) = am_S B + 7 := rfl
  have z64 : ∀ l, i1 64 l = 0 := fun l => (O1.2.2 64 l (by omega)).trans (by rw [← hN]; exact congrFun (if_pos rfl) l)
  obtain ⟨B2, i2, E2, G2, ⟨m875, m876, m877, m878, m879, m880, m881, m882, m883, m884, m885, m886, m887, m888, m889, m890, m891⟩, v12⟩ := i_12a (B := am_nw B1 13 0 32) (i := rI B1 i1) (d := d + 2) (x := 874) (by rw [← N1]; exact y_nwK0) (by show 874 < am_N B1 + 1; omega)
  have n1 : am_N (am_nw B1 13 0 32) = 875 := by show am_N B1 + 1 = 875; omega
  have c1 : am_C (am_nw B1 13 0 32) = am_C B1 + 1 := rfl
  have s1 : am_S (am_nw B1 13 0 32) = am_S B1 + 32 := rfl
  rw [n1] at m875 m876 m877 m878 m879 m880 m881 m882 m883 m884 m885 m886 m887 m888 m889 m890 m891
  have k874 : am_K B2 874 = 13 := (G2.2.1 874 (by omega)).1.trans (by rw [← N1]; exact y_nwK0)
  have z874 : ∀ l, l ≠ 12 → i2 874 l = 0 := fun l hl => (G2.2.2.2.1 874 l (by omega) fun _ => by rw [List.mem_singleton]; exact hl).trans (by rw [← N1]; exact congrFun (if_pos rfl) l)
  have N2 : am_N B2 = 892 := by have := G2.1.1; omega
  obtain ⟨i3, E3, u3, f3⟩ := i_12b (B := B2) (i := i2) (d := d + 2) (x := 874) (n := 875) k874 m875.2.2 ⟨m875.1, m875.2.1⟩ (fun l => G2.2.2.2.2 875 l (by omega) (by omega))
  -- below 874 all is as the face left it
  have K2 : ∀ q, q < 874 → am_K B2 q = am_K B1 q ∧ am_L B2 q = am_L B1 q ∧ am_J B2 q = am_J B1 q := fun q hq => by
    obtain ⟨a1, a2, a3⟩ := G2.2.1 q (by omega)
    exact ⟨a1.trans (if_neg (by omega)), a2.trans (if_neg (by omega)), a3.trans (if_neg (by omega))⟩
  have R2 : ∀ q, q < 874 → am_R B2 q = am_R B1 q := fun q hq => funext fun l => (G2.2.2.1 q l (by omega) fun e => by omega).trans (congrFun (if_neg (by omega)) l)
  have I2' : ∀ q l, q < 874 → i3 q l = i1 q l := fun q l hq => (f3 q l (by omega)).trans ((G2.2.2.2.1 q l (by omega) fun e => by omega).trans (congrFun (if_neg (by omega)) l))
  have KF : ∀ q, q < 874 → am_K (am_nw B2 22 1 1) q = am_K B1 q ∧ am_L (am_nw B2 22 1 1) q = am_L B1 q ∧ am_R (am_nw B2 22 1 1) q = am_R B1 q := fun q hq => ⟨(if_neg (by omega)).trans (K2 q hq).1, (if_neg (by omega)).trans (K2 q hq).2.1, (if_neg (by omega)).trans (R2 q hq)⟩
  have KM : ∀ q, q < 892 → am_K (am_nw B2 22 1 1) q = am_K B2 q ∧ am_L (am_nw B2 22 1 1) q = am_L B2 q ∧ am_R (am_nw B2 22 1 1) q = am_R B2 q := fun q hq => ⟨if_neg (by omega), if_neg (by omega), if_neg (by omega)⟩
  have JF : ∀ q, q < 64 → am_J (am_nw B2 22 1 1) q = am_J B q := fun q hq => (if_neg (by omega)).trans ((K2 q (by omega)).2.2.trans ((O1.1 q (by omega)).2.2.trans (if_neg (by omega))))
  have K0 : ∀ q, q < 64 → am_K (am_nw B2 22 1 1) q = am_K B q ∧ am_L (am_nw B2 22 1 1) q = am_L B q := fun q hq => ⟨(KF q (by omega)).1.trans ((O1.1 q (by omega)).1.trans (if_neg (by omega))), (KF q (by omega)).2.1.trans ((O1.1 q (by omega)).2.1.trans (if_neg (by omega)))⟩
  have i4 : ∀ q l, q < 892 → rI B2 i3 q l = i3 q l := fun q l hq => congrFun (if_neg (by omega)) l
  have i0 : ∀ q l, q < 64 → rI B2 i3 q l = i q l := fun q l hq => (i4 q l (by omega)).trans ((I2' q l (by omega)).trans ((O1.2.2 q l (by omega)).trans (congrFun (if_neg (by omega)) l)))
  have k892 : am_K (am_nw B2 22 1 1) 892 = 22 ∧ am_L (am_nw B2 22 1 1) 892 = 1 := by rw [← N2]; exact ⟨y_nwK0, y_nwL0⟩
  have hFc : Fc (am_nw B2 22 1 1) := by
    have hF : Fcf (am_nw B2 22 1 1) := by
      have hK : ∀ q, q < 874 → am_K (am_nw B2 22 1 1) q = am_K B1 q := fun q hq => (KF q hq).1
      have hL' : ∀ q, q < 874 → am_L (am_nw B2 22 1 1) q = am_L B1 q := fun q hq => (KF q hq).2.1
      have hR : ∀ q, q < 874 → am_R (am_nw B2 22 1 1) q = am_R B1 q := fun q hq => (KF q hq).2.2
      unfold Fcf at F1 ⊢
      simp (contextual := true) (disch := omega) only [hK, hL', hR]
      exact F1
    obtain ⟨hp1, hp2, hp3, hp4, hp5, hp6, hp7, hp8, hp9, hp10, hp11, hp12, hp13, hp14, hp15, hp16, hp17, hp18, hp19, hp20, hp21, hp22, hp23, hp24⟩ := hF
    exact ⟨hp1, hp2, hp3, hp4, hp5, hp6, hp7, hp8, hp9, hp10, hp11, hp12, hp13, hp14, hp15, hp16, hp17, hp18, hp19, hp20, hp21, hp22, hp23, hp24, ⟨(K0 1 (by omega)).1.trans h1.1, (K0 1 (by omega)).2.trans h1.2.1⟩, k892⟩
  have yd : ∀ {b}, 64 < b → b + 260 ≤ 874 → Yd B1 b → Yd (am_nw B2 22 1 1) b := fun hb hb2 hy => Yd_cg (fun q h1 h2 => (KF q (by omega)).1) (fun q h1 h2 => (KF q (by omega)).2.1) (fun q h1 h2 => (KF q (by omega)).2.2) hy
  have yi : ∀ {b}, 64 < b → b + 260 ≤ 874 → Yi i1 b → Yi (rI B2 i3) b := fun hb hb2 hy => ⟨(i4 _ _ (by omega)).trans ((I2' _ _ (by omega)).trans hy.1), (i4 _ _ (by omega)).trans ((I2' _ _ (by omega)).trans hy.2.1), fun l h6 h9 => (i4 _ _ (by omega)).trans ((I2' _ _ (by omega)).trans (hy.2.2.1 l h6 h9)), fun k hk => (i4 _ _ (by omega)).trans ((I2' _ _ (by omega)).trans (hy.2.2.2.1 k hk)), fun q l h1 h2 => (i4 _ _ (by omega)).trans ((I2' _ _ (by omega)).trans (hy.2.2.2.2 q l h1 h2))⟩
  have hMd : Md (am_nw B2 22 1 1) := ⟨(KM 874 (by omega)).1.trans k874, (congrFun (KM 874 (by omega)).2.2 _).trans m875.2.2, (congrFun (KM 874 (by omega)).2.2 _).trans m876.2.2, (congrFun (KM 874 (by omega)).2.2 _).trans m877.2.2, (congrFun (KM 874 (by omega)).2.2 _).trans m878.2.2, (congrFun (KM 874 (by omega)).2.2 _).trans m879.2.2, (congrFun (KM 874 (by omega)).2.2 _).trans m880.2.2, (congrFun (KM 874 (by omega)).2.2 _).trans m881.2.2, (congrFun (KM 874 (by omega)).2.2 _).trans m882.2.2, (congrFun (KM 874 (by omega)).2.2 _).trans m883.2.2, (congrFun (KM 874 (by omega)).2.2 _).trans m884.2.2, (congrFun (KM 874 (by omega)).2.2 _).trans m885.2.2, (congrFun (KM 874 (by omega)).2.2 _).trans m886.2.2, (congrFun (KM 874 (by omega)).2.2 _).trans m887.2.2, (congrFun (KM 874 (by omega)).2.2 _).trans m888.2.2, (congrFun (KM 874 (by omega)).2.2 _).trans m889.2.2, (congrFun (KM 874 (by omega)).2.2 _).trans m890.2.2, (congrFun (KM 874 (by omega)).2.2 _).trans m891.2.2, ⟨(KM 875 (by omega)).1.trans m875.1, (KM 875 (by omega)).2.1.trans m875.2.1⟩, ⟨(KM 876 (by omega)).1.trans m876.1, (KM 876 (by omega)).2.1.trans m876.2.1⟩, ⟨(KM 877 (by omega)).1.trans m877.1, (KM 877 (by omega)).2.1.trans m877.2.1⟩, ⟨(KM 878 (by omega)).1.trans m878.1, (KM 878 (by omega)).2.1.trans m878.2.1⟩, ⟨(KM 879 (by omega)).1.trans m879.1, (KM 879 (by omega)).2.1.trans m879.2.1⟩, ⟨(KM 880 (by omega)).1.trans m880.1, (KM 880 (by omega)).2.1.trans m880.2.1⟩, ⟨(KM 881 (by omega)).1.trans m881.1, (KM 881 (by omega)).2.1.trans m881.2.1⟩, ⟨(KM 882 (by omega)).1.trans m882.1, (KM 882 (by omega)).2.1.trans m882.2.1⟩, ⟨(KM 883 (by omega)).1.trans m883.1, (KM 883 (by omega)).2.1.trans m883.2.1⟩, ⟨(KM 884 (by omega)).1.trans m884.1, (KM 884 (by omega)).2.1.trans m884.2.1⟩, ⟨(KM 885 (by omega)).1.trans m885.1, (KM 885 (by omega)).2.1.trans m885.2.1⟩, ⟨(KM 886 (by omega)).1.trans m886.1, (KM 886 (by omega)).2.1.trans m886.2.1⟩, ⟨(KM 887 (by omega)).1.trans m887.1, (KM 887 (by omega)).2.1.trans m887.2.1⟩, ⟨(KM 888 (by omega)).1.trans m888.1, (KM 888 (by omega)).2.1.trans m888.2.1⟩, ⟨(KM 889 (by omega)).1.trans m889.1, (KM 889 (by omega)).2.1.trans m889.2.1⟩, ⟨(KM 890 (by omega)).1.trans m890.1, (KM 890 (by omega)).2.1.trans m890.2.1⟩, ⟨(KM 891 (by omega)).1.trans m891.1, (KM 891 (by omega)).2.1.trans m891.2.1⟩⟩
  have n893 : 893 ≤ am_N (am_nw B2 22 1 1) := by show 893 ≤ am_N B2 + 1; omega
  refine ⟨am_nw B2 22 1 1, rI B2 i3, ?_, ⟨⟨⟨⟨hFc, yd (by omega) (by omega) Y1, yd (by omega) (by omega) Y2, yd (by omega) (by omega) Y3, n893⟩, Rep00 (yi (by omega) (by omega) I1), fun q => (nomatch q), fun q => (nomatch q), (i4 _ _ (by omega)).trans ((I2' _ _ (by omega)).trans (z64 5)), (i4 _ _ (by omega)).trans ((I2' _ _ (by omega)).trans (z64 6)), (i4 _ _ (by omega)).trans ((I2' _ _ (by omega)).trans (tz 1 (by omega))), fun k hk => absurd hk (Nat.not_lt_zero k), (i4 _ _ (by omega)).trans ((I2' _ _ (by omega)).trans t2)⟩, ⟨⟨hMd, n893⟩, fun s hs => (i4 _ _ (by omega)).trans (u3 s), fun q => (nomatch q), fun q => (nomatch q), (i4 _ _ (by omega)).trans ((f3 _ _ (by omega)).trans (z874 5 (by omega))), (i4 _ _ (by omega)).trans ((f3 _ _ (by omega)).trans (z874 4 (by omega))), (i4 _ _ (by omega)).trans ((f3 _ _ (by omega)).trans (z874 7 (by omega))), fun k hk => absurd hk (Nat.not_lt_zero k), (i4 _ _ (by omega)).trans ((f3 _ _ (by omega)).trans v12)⟩, Wd00, fun q => (nomatch q), fun q => (nomatch q), Nat.zero_le _, fun k hk => absurd hk (Nat.not_lt_zero k)⟩, ⟨(K0 0 (by omega)).1.trans hL.1, (K0 0 (by omega)).2.trans hL.2.1, hL.2.2⟩, k892, fun k hk => (congrFun (JF 1 (by omega)) k).trans (h1.2.2 k hk), fun q h1 h2 => ?_⟩, ?_, ?_⟩
  · have Q1 : am_fx am_P (d + 2) 290 0 [some (.ref (am_N (am_wI B i)))] [] (am_nw (am_wI B i) 1 0 7) = some (.inl none, am_wI B1 i1) := by
      rw [show am_N (am_wI B i) = 64 from hN]
      exact E1
    have Q2 : am_fx am_P (d + 2) 12 0 [some (.ref (am_N (am_wI B1 i1))), none] [] (am_nw (am_wI B1 i1) 13 0 32) = some (.inl none, am_wI B2 i3) := by
      rw [show am_N (am_wI B1 i1) = 874 from N1]
      exact E2.trans E3
    rw [show d + 3 = d + 2 + 1 by omega, bk_397_0]
    refine (y_ck y_nwK0).trans ?_
    rw [Q1, y_oV]
    refine (y_ck y_nwK0).trans ?_
    rw [Q2, y_oV, if_neg (by decide), show am_N (am_wI B i) = 64 from hN, show am_N (am_wI B1 i1) = 874 from N1, show am_N (am_wI B2 i3) = 892 from N2]
    rfl
  · obtain ⟨a1, a2, a3⟩ := hX q h1 h2
    exact ⟨(K0 q (by omega)).1.trans a1, (K0 q (by omega)).2.trans a2, fun k hk => (i0 q k (by omega)).trans (a3 k hk)⟩
  · show am_C B2 + 1 = _
    have := G2.1.2.1
    omega
  · show am_S B2 + 1 = _
    have := G2.1.2.2
    omega
/-- the law's answer -/
theorem law_all (hN : am_N B = 64) (hL : am_K B 0 = 41 ∧ am_L B 0 = L ∧ L ≤ 3584) (h1 : am_K B 1 = 42 ∧ am_L B 1 = 8 ∧ ∀ k, k < 8 → am_J B 1 k = p120 k) (hX : Stx B i) : ∃ B' i', am_fx am_P 200 397 0 [some (.ref 0), none, none, none, none, none, none] [] (am_wI B i) = some (.inl (some (.int 1)), am_wI B' i') ∧ am_C B' ≤ am_C B + 5949 ∧ am_S B' ≤ am_S B + 360727 := by
  obtain ⟨B1, i1, E, hI, c, s⟩ := law_start (d := 197) hN hL h1 hX
  obtain ⟨B2, i2, e2, c2, s2⟩ := law_go (d := 0) 512 B1 i1 σ00 0 (by have := hL.2.2; omega) (by omega) hI
  refine ⟨B2, i2, ?_, by omega, by omega⟩
  exact E.trans e2
end Start
