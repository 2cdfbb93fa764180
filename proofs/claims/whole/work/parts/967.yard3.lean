/-! THE START: ships. Made by wip/whole/math/967.py. -/
section Yard3
variable {B B1 : am_A} {i i1 : Nat → Nat → Int32} {d x r : Nat}
/-- a ship with its rows at n -/
def Shf (B : am_A) (n r t : Nat) : Prop := Rf B n r t 7 0 ∧ Rf B (n + 1) n 9 21 8 ∧ Rf B (n + 2) n 10 21 8 ∧ Rf B (n + 3) n 11 21 8 ∧ Rf B (n + 4) n 12 21 8 ∧ Rf B (n + 5) n 13 21 8
theorem i_ships (hK : am_K B x = 12) (hR : am_R B x 7 = some r) (hr : am_K B r = 28 ∧ am_L B r = 8) (hx : x < am_N B) (hr2 : r < am_N B) (hxr : x ≠ r) : ∃ B' i', am_fx am_P (d + 1) 235 183 [some (.ref x), some (.int (Int32.ofNat 0))] [] (am_wI B i) = some (.inl none, am_wI B' i') ∧ Nl r 8 (8 * 6) (8 * 54) B i B' i' ∧ ∀ t, t < 8 → Shf B' (am_N B + 6 * t) r t := by
  obtain ⟨⟨B', i'⟩, E, hN, hf⟩ := lp_inv (fun k (s : am_A × (Nat → Nat → Int32)) => am_fx am_P (d + 1) 235 183 [some (.ref x), some (.int (Int32.ofNat k))] [] (am_wI s.1 s.2)) (fun k s => Nl r k (k * 6) (k * 54) B i s.1 s.2 ∧ ∀ t, t < k → Shf s.1 (am_N B + 6 * t) r t) 8 (fun k s hk hI => by
    obtain ⟨B1, i1⟩ := s
    obtain ⟨hN, hf⟩ := hI
    dsimp only at hN hf
    have nN := hN.1.1
    have K1 : am_K B1 x = 12 := (hN.2.1 x hx).1.trans hK
    have R1 : am_R B1 x 7 = some r := (hN.2.2.1 x 7 hx fun e => absurd e hxr).trans hR
    have Kr : am_K B1 r = 28 := (hN.2.1 r hr2).1.trans hr.1
    have Lr : am_L B1 r = 8 := (hN.2.1 r hr2).2.1.trans hr.2
    have rN : r < am_N B1 := by omega
    have xN : x < am_N B1 := by omega
    obtain ⟨D, i2, E2, L2, R0, Ra, Rb, Rc, Rd⟩ := i_223 (d := d) (B := am_nw B1 7 0 14) (i := rI B1 i1) (x := am_N B1) y_nwK0 (Nat.lt_succ_self _)
    have n1 : am_N (am_nw B1 7 0 14) = am_N B1 + 1 := rfl
    rw [n1] at R0 Ra Rb Rc Rd
    obtain ⟨G, F⟩ := obj_nr2 (k := k) rN L2
    have KD : am_K D r = 28 := (L2.2.1 r (by omega)).1.trans ((y_nwK (Nat.ne_of_lt rN)).trans Kr)
    have LD : am_L D r = 8 := (L2.2.1 r (by omega)).2.1.trans ((y_nwL (Nat.ne_of_lt rN)).trans Lr)
    have KN : am_K D (am_N B1) = 7 := (L2.2.1 (am_N B1) (by omega)).1.trans y_nwK0
    refine ⟨(am_sR D r k (some (am_N B1)), i2), ?_, ?_, fun t ht => ?_⟩
    · have ek : Int32.ofNat k < 8 := by
        have e := z_ltl (a := k) (b := 8) (by omega) (by decide)
        exact (iff_of_eq e).mpr hk
      dsimp only
      have Q : am_fx am_P d 223 0 [some (.ref (am_N (am_wI B1 i1)))] [] (am_nw (am_wI B1 i1) 7 0 14) = some (.inl none, am_wI D i2) := E2
      rw [bk_235_183, if_pos ek]
      refine (y_ck ?_).trans ?_
      · exact K1
      rw [show am_R (am_wI B1 i1) x 7 = some r from R1, y_ond]
      refine (y_ck ?_).trans ?_
      · exact y_nwK0
      rw [Q, y_oV]
      refine (y_ck ?_).trans ?_
      · exact KD
      refine (y_ck ?_).trans ?_
      · exact KN
      rw [show am_L (am_wI D i2) r = 8 from LD, z_in (j := k) hk (by omega), z_nat (n := k) (by omega), show Int32.ofNat k + 1 = Int32.ofNat (k + 1) from (Int32.ofNat_add k 1).symm]
      rfl
    · have q := hN.step G hr2
      rw [show (k + 1) * 6 = k * 6 + (1 + 5) by omega, show (k + 1) * 54 = k * 54 + (14 + 40) by omega]
      exact q
    · dsimp only
      by_cases e : t = k
      · rw [e, show am_N B + 6 * k = am_N B1 by omega]
        exact ⟨F, R0.fld (by omega), Ra.fld (by omega), Rb.fld (by omega), Rc.fld (by omega), Rd.fld (by omega)⟩
      · obtain ⟨f0, f1, f2, f3, f4, f5⟩ := hf t (by omega)
        exact ⟨f0.mv G (by omega) rN (by rw [List.mem_singleton]; exact e), f1.mvo G (by omega) (by omega) (by omega), f2.mvo G (by omega) (by omega) (by omega), f3.mvo G (by omega) (by omega) (by omega), f4.mvo G (by omega) (by omega) (by omega), f5.mvo G (by omega) (by omega) (by omega)⟩) (B, i) ⟨Nl.rf, fun t ht => absurd ht (Nat.not_lt_zero t)⟩
  dsimp only at E hN hf
  refine ⟨B', i', ?_, hN, hf⟩
  refine E.trans ?_
  have ne : ¬ Int32.ofNat 8 < 8 := by decide
  rw [bk_235_183, if_neg ne]
/-- a part of the yard's constructor: the last row, and the roads -/
theorem i_235c (K0 : am_K B x = 12) (H0 : x < am_N B) {y : Nat} (hR : am_R B x 1 = some y) (hy : am_K B y = 21 ∧ am_L B y = 6) (hyN : y < am_N B) (hyx : y ≠ x) : ∃ B' i', am_fx am_P (d + 1) 235 110 [some (.ref x), none] [] (am_wI B i) = am_fx am_P (d + 1) 235 129 [some (.ref x), some (.int (Int32.ofNat 0))] [] (am_wI B' i') ∧ Nr x [19] [] 1 16 B i B' (am_up1 i' y (i y)) ∧ Rf B' (am_N B) x 19 21 16 ∧ ∀ k, k < 6 → i' y k = 10 := by
  obtain ⟨G, F⟩ := row_nr (B := B) (i := i) (x := x) (k := 19) (t := 21) (len := 16) H0
  have E1 : am_fx am_P (d + 1) 235 110 [some (.ref x), none] [] (am_wI B i) = am_fx am_P (d + 1) 235 118 [some (.ref x), none] [] (am_wI (rB B x 19 21 16) (rI B i)) := by
    rw [bk_235_110, if_neg (by decide)]
    refine (y_ck ?_).trans ?_
    · exact (y_nwK (n := (16 : Int32).toNatClampNeg) (sl := (16 : Int32).toNatClampNeg) (Nat.ne_of_lt H0)).trans K0
    · rfl
  generalize rB B x 19 21 16 = B1 at E1 G F
  generalize eI : rI B i = i1 at E1 G
  have K1 : am_K B1 x = 12 := (G.2.1 x H0).1.trans K0
  have R1 : am_R B1 x 1 = some y := (G.2.2.1 x 1 H0 fun _ => by decide).trans hR
  obtain ⟨j, E2, f0, f⟩ := c_fill (B := B1) (d := d) (i := i1) (q := y) (n := 6) (v := 10) ((G.2.1 y hyN).1.trans hy.1) ((G.2.1 y hyN).2.1.trans hy.2) (by omega)
  refine ⟨B1, j, ?_, ⟨G.1, G.2.1, G.2.2.1, fun q l hq h => ?_, fun q l h1 h2 => ?_⟩, F, f0⟩
  · rw [E1, bk_235_118]
    refine (y_ck ?_).trans ?_
    · exact K1
    rw [show am_R (am_wI B1 i1) x 1 = some y from R1, y_ond, E2, y_oV]
    rfl
  · by_cases e : q = y
    · rw [e]
      exact congrFun (y_u10 (f := j)) l
    · rw [show am_up1 j y (i y) q = j q from y_u1 e, f q l e]
      exact G.2.2.2.1 q l hq h
  · rw [show am_up1 j y (i y) q = j q from y_u1 (by omega), f q l (by omega)]
    exact G.2.2.2.2 q l h1 h2
end Yard3
