/-! WARRANT. Made by wip/whole/math/951.py. -/
section KWar
variable {B : am_A} {i : Nat → Nat → Int32} {σ : Sg} {L j d : Nat}
theorem SW_sgt {w' : Nat → Int32} {f : Int32} (h : SW σ) (hw : Wd w') : SW (sgt σ w' f) := ⟨hw, h.2.1, h.2.2.1, Nat.zero_le _, fun k hk => absurd hk (Nat.not_lt_zero k)⟩
theorem k_warrant (h : Sim B i σ) (hs : Sc B i L j) (hO : am_K B 892 = 22 ∧ am_L B 892 = 1) (hX : Stx B i) : Stq B i d 931 j := by
  have hS := h.2.2
  by_cases g : i 0 (j + 1) < σ.1 0 ∨ 4000 < i 0 (j + 1)
  · exact zkx_10_2 h hs hO hX (SW_sgt hS hS.1) (f_warr_x (d := d + 48) h.1 g) fun B0 i0 h0 _ _ => m_warr_x (d := d + 49) h0 g
  cases ht : txtS (nyb σ) σ.2.2.2.2.2.1 (fun z => i 875 z) with
  | inl f => exact zkx_10_2 h hs hO hX (SW_sgt hS hS.1) (f_warr_f (d := d + 48) h.1 hS hX g ht) fun B0 i0 h0 hu hX0 => m_warr_f (d := d + 49) h0 hS hX0 hu g ht
  | inr r =>
    by_cases g10 : cn σ.1 3541 < 10
    · refine zkk_10 h hs hO hX (SW_sgt hS (Wd_text hS.1 g10 (TxW_new ?_ ht hS.2.2.2.1 wtx_0 fun z h1 h2 => wtx_z h1 h2))) (f_warr (d := d + 48) h.1 hS hX g ht g10) fun B0 i0 h0 hu hX0 => m_warr (d := d + 49) h0 hS hX0 hu g ht g10
      obtain ⟨g1, g2⟩ := not_or.mp g
      have c0 := hS.1.1.1
      have w0 : (σ.1 0).toInt = ((cn σ.1 0 : Nat) : Int) := by
        have l0 := c0.2
        rw [c0.1, Int32.toInt_ofNat_of_lt (by omega)]
      rw [Int32.lt_iff_toInt_lt] at g1 g2
      have z0 : (0 : Int32).toInt = 0 := by decide
      have z4 : (4000 : Int32).toInt = 4000 := by decide
      have z1 : (4001 : Int32).toInt = 4001 := by decide
      constructor
      · rw [Int32.lt_iff_toInt_lt]
        omega
      · rw [Int32.lt_iff_toInt_lt]
        omega
    · exact zkx_10_3 h hs hO hX (SW_sgt hS hS.1) (f_warr_3 (d := d + 48) h.1 hS hX g ht g10) fun B0 i0 h0 hu hX0 => m_warr_3 (d := d + 49) h0 hS hX0 hu g ht g10
end KWar
