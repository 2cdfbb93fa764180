/-! THE START: a yard, trees, pieces, ships. Made by wip/whole/math/966.py. -/
/-- p cells more; the row r got its first k places -/
def Nl (r k p s : Nat) (B : am_A) (i : Nat → Nat → Int32) (B' : am_A) (i' : Nat → Nat → Int32) : Prop :=
  (am_N B' = am_N B + p ∧ am_C B' = am_C B + p ∧ am_S B' = am_S B + s) ∧ (∀ q, q < am_N B → am_K B' q = am_K B q ∧ am_L B' q = am_L B q ∧ am_J B' q = am_J B q) ∧ (∀ q l, q < am_N B → (q = r → k ≤ l) → am_R B' q l = am_R B q l) ∧ (∀ q l, q < am_N B → i' q l = i q l) ∧ ∀ q l, am_N B ≤ q → q < am_N B + p → i' q l = 0
section Yard2
variable {B B1 B2 : am_A} {i i1 i2 : Nat → Nat → Int32} {d x n k t len o p s sl r p1 s1 T : Nat} {ks js : List Nat}
theorem Nl.rf : Nl r 0 0 0 B i B i := ⟨⟨rfl, rfl, rfl⟩, fun _ _ => ⟨rfl, rfl, rfl⟩, fun _ _ _ _ => rfl, fun _ _ _ => rfl, fun q l h1 h2 => by omega⟩
theorem Nl.step (h1 : Nl r k p s B i B1 i1) (h2 : Nr r [k] [] p1 s1 B1 i1 B2 i2) (hr : r < am_N B) : Nl r (k + 1) (p + p1) (s + s1) B i B2 i2 := by
  obtain ⟨⟨a1, a2, a3⟩, a4, a5, a6, a7⟩ := h1
  obtain ⟨⟨b1, b2, b3⟩, b4, b5, b6, b7⟩ := h2
  refine ⟨⟨by omega, by omega, by omega⟩, fun q hq => ?_, fun q l hq h => ?_, fun q l hq => ?_, fun q l h1 h2 => ?_⟩
  · obtain ⟨c1, c2, c3⟩ := a4 q hq
    obtain ⟨d1, d2, d3⟩ := b4 q (by omega)
    exact ⟨d1.trans c1, d2.trans c2, d3.trans c3⟩
  · exact (b5 q l (by omega) fun e hm => by have := h e; have := List.mem_singleton.mp hm; omega).trans (a5 q l hq fun e => by have := h e; omega)
  · exact (b6 q l (by omega) fun _ hm => nomatch hm).trans (a6 q l hq)
  · by_cases g : q < am_N B1
    · exact (b6 q l g fun _ hm => nomatch hm).trans (a7 q l h1 (by omega))
    · exact b7 q l (by omega) (by omega)
theorem Rf.ml (h : Rf B n o k t len) {m : Nat} (hN : Nl r m p s B i B1 i1) (hn : n < am_N B) (ho : o < am_N B) (hx : o ≠ r) : Rf B1 n o k t len := ⟨(hN.2.1 n hn).1.trans h.1, (hN.2.1 n hn).2.1.trans h.2.1, (hN.2.2.1 o k ho fun e => absurd e hx).trans h.2.2⟩
/-- an object without parts into a row -/
theorem put_nr (hr : r < am_N B) : Nr r [k] [] 1 sl B i (am_sR (am_nw B t 0 sl) r k (some (am_N B))) (rI B i) ∧ Rf (am_sR (am_nw B t 0 sl) r k (some (am_N B))) (am_N B) r k t 0 := by
  have h := obj_nr2 (k := k) hr (Nr.rf (x := am_N B) (B := am_nw B t 0 sl) (i := rI B i))
  exact h
theorem i_trees (hK : am_K B x = 12) (hR : am_R B x 2 = some r) (hr : am_K B r = 26 ∧ am_L B r = 60) (hx : x < am_N B) (hr2 : r < am_N B) (hxr : x ≠ r) : ∃ B' i', am_fx am_P (d + 1) 235 129 [some (.ref x), some (.int (Int32.ofNat 0))] [] (am_wI B i) = am_fx am_P (d + 1) 235 156 [some (.ref x), some (.int (Int32.ofNat 0))] [] (am_wI B' i') ∧ Nl r 60 (60 * 1) (60 * 7) B i B' i' ∧ ∀ t, t < 60 → Rf B' (am_N B + t) r t 10 0 := by
  obtain ⟨⟨B', i'⟩, E, hN, hf⟩ := lp_inv (fun k (s : am_A × (Nat → Nat → Int32)) => am_fx am_P (d + 1) 235 129 [some (.ref x), some (.int (Int32.ofNat k))] [] (am_wI s.1 s.2)) (fun k s => Nl r k (k * 1) (k * 7) B i s.1 s.2 ∧ ∀ t, t < k → Rf s.1 (am_N B + t) r t 10 0) 60 (fun k s hk hI => by
    obtain ⟨B1, i1⟩ := s
    obtain ⟨hN, hf⟩ := hI
    dsimp only at hN hf
    have nN := hN.1.1
    have K1 : am_K B1 x = 12 := (hN.2.1 x hx).1.trans hK
    have R1 : am_R B1 x 2 = some r := (hN.2.2.1 x 2 hx fun e => absurd e hxr).trans hR
    have Kr : am_K B1 r = 26 := (hN.2.1 r hr2).1.trans hr.1
    have Lr : am_L B1 r = 60 := (hN.2.1 r hr2).2.1.trans hr.2
    have rN : r < am_N B1 := by omega
    have xN : x < am_N B1 := by omega
    obtain ⟨G, F⟩ := put_nr (B := B1) (i := i1) (k := k) (t := 10) (sl := 7) rN
    refine ⟨(am_sR (am_nw B1 10 0 7) r k (some (am_N B1)), rI B1 i1), ?_, ?_, fun t ht => ?_⟩
    · have ek : Int32.ofNat k < 60 := by
        have e := z_ltl (a := k) (b := 60) (by omega) (by decide)
        exact (iff_of_eq e).mpr hk
      dsimp only
      rw [bk_235_129, if_pos ek]
      refine (y_ck ?_).trans ?_
      · exact K1
      rw [show am_R (am_wI B1 i1) x 2 = some r from R1, y_ond]
      refine (y_ck ?_).trans ?_
      · exact y_nwK0
      rw [bk_182_0, y_oV]
      refine (y_ck ?_).trans ?_
      · exact (y_nwK (B := am_wI B1 i1) (n := 0) (sl := 7) (Nat.ne_of_lt rN)).trans Kr
      refine (y_ck ?_).trans ?_
      · exact y_nwK0
      rw [show am_L (am_nw (am_wI B1 i1) 10 0 7) r = 60 from (y_nwL (B := am_wI B1 i1) (t := 10) (n := 0) (sl := 7) (Nat.ne_of_lt rN)).trans Lr, z_in (j := k) hk (by omega), z_nat (n := k) (by omega), show Int32.ofNat k + 1 = Int32.ofNat (k + 1) from (Int32.ofNat_add k 1).symm]
      rfl
    · have q := hN.step G hr2
      rw [show (k + 1) * 1 = k * 1 + 1 by omega, show (k + 1) * 7 = k * 7 + 7 by omega]
      exact q
    · dsimp only
      by_cases e : t = k
      · rw [e, show am_N B + k = am_N B1 by omega]
        exact F
      · exact (hf t (by omega)).mv G (by omega) rN (by rw [List.mem_singleton]; exact e)) (B, i) ⟨Nl.rf, fun t ht => absurd ht (Nat.not_lt_zero t)⟩
  dsimp only at E hN hf
  refine ⟨B', i', ?_, hN, hf⟩
  refine E.trans ?_
  have ne : ¬ Int32.ofNat 60 < 60 := by decide
  rw [bk_235_129, if_neg ne]
  rfl
theorem i_pieces (hK : am_K B x = 12) (hR : am_R B x 4 = some r) (hr : am_K B r = 27 ∧ am_L B r = 120) (hx : x < am_N B) (hr2 : r < am_N B) (hxr : x ≠ r) : ∃ B' i', am_fx am_P (d + 1) 235 156 [some (.ref x), some (.int (Int32.ofNat 0))] [] (am_wI B i) = am_fx am_P (d + 1) 235 183 [some (.ref x), some (.int (Int32.ofNat 0))] [] (am_wI B' i') ∧ Nl r 120 (120 * 1) (120 * 19) B i B' i' ∧ ∀ t, t < 120 → Rf B' (am_N B + t) r t 5 0 := by
  obtain ⟨⟨B', i'⟩, E, hN, hf⟩ := lp_inv (fun k (s : am_A × (Nat → Nat → Int32)) => am_fx am_P (d + 1) 235 156 [some (.ref x), some (.int (Int32.ofNat k))] [] (am_wI s.1 s.2)) (fun k s => Nl r k (k * 1) (k * 19) B i s.1 s.2 ∧ ∀ t, t < k → Rf s.1 (am_N B + t) r t 5 0) 120 (fun k s hk hI => by
    obtain ⟨B1, i1⟩ := s
    obtain ⟨hN, hf⟩ := hI
    dsimp only at hN hf
    have nN := hN.1.1
    have K1 : am_K B1 x = 12 := (hN.2.1 x hx).1.trans hK
    have R1 : am_R B1 x 4 = some r := (hN.2.2.1 x 4 hx fun e => absurd e hxr).trans hR
    have Kr : am_K B1 r = 27 := (hN.2.1 r hr2).1.trans hr.1
    have Lr : am_L B1 r = 120 := (hN.2.1 r hr2).2.1.trans hr.2
    have rN : r < am_N B1 := by omega
    have xN : x < am_N B1 := by omega
    obtain ⟨G, F⟩ := put_nr (B := B1) (i := i1) (k := k) (t := 5) (sl := 19) rN
    refine ⟨(am_sR (am_nw B1 5 0 19) r k (some (am_N B1)), rI B1 i1), ?_, ?_, fun t ht => ?_⟩
    · have ek : Int32.ofNat k < 120 := by
        have e := z_ltl (a := k) (b := 120) (by omega) (by decide)
        exact (iff_of_eq e).mpr hk
      dsimp only
      rw [bk_235_156, if_pos ek]
      refine (y_ck ?_).trans ?_
      · exact K1
      rw [show am_R (am_wI B1 i1) x 4 = some r from R1, y_ond]
      refine (y_ck ?_).trans ?_
      · exact y_nwK0
      rw [bk_152_0, y_oV]
      refine (y_ck ?_).trans ?_
      · exact (y_nwK (B := am_wI B1 i1) (n := 0) (sl := 19) (Nat.ne_of_lt rN)).trans Kr
      refine (y_ck ?_).trans ?_
      · exact y_nwK0
      rw [show am_L (am_nw (am_wI B1 i1) 5 0 19) r = 120 from (y_nwL (B := am_wI B1 i1) (t := 5) (n := 0) (sl := 19) (Nat.ne_of_lt rN)).trans Lr, z_in (j := k) hk (by omega), z_nat (n := k) (by omega), show Int32.ofNat k + 1 = Int32.ofNat (k + 1) from (Int32.ofNat_add k 1).symm]
      rfl
    · have q := hN.step G hr2
      rw [show (k + 1) * 1 = k * 1 + 1 by omega, show (k + 1) * 19 = k * 19 + 19 by omega]
      exact q
    · dsimp only
      by_cases e : t = k
      · rw [e, show am_N B + k = am_N B1 by omega]
        exact F
      · exact (hf t (by omega)).mv G (by omega) rN (by rw [List.mem_singleton]; exact e)) (B, i) ⟨Nl.rf, fun t ht => absurd ht (Nat.not_lt_zero t)⟩
  dsimp only at E hN hf
  refine ⟨B', i', ?_, hN, hf⟩
  refine E.trans ?_
  have ne : ¬ Int32.ofNat 120 < 120 := by decide
  rw [bk_235_156, if_neg ne]
  rfl
end Yard2
