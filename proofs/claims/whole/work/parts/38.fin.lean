/-! THE ENDS OF A CALL OF THE LAW -/
/-- one call of the law, from its place pc in the law's body back to the loop -/
def Stq (B : am_A) (i : Nat → Nat → Int32) (d pc j : Nat) : Prop := ∃ (B' : am_A) (i' : Nat → Nat → Int32) (σ' : Sg), am_fx am_P (d + 200) 397 pc [some (.ref 0), some (.ref 64), some (.ref 874), some (.ref 892), some (.int (Int32.ofNat j)), none, none] [] (am_wI B i) = am_fx am_P (d + 200) 397 3646 [some (.ref 0), some (.ref 64), some (.ref 874), some (.ref 892), some (.int (Int32.ofNat j)), none, none] [] (am_wI B' i') ∧ Sim B' i' σ' ∧ Kp B i B' i'
section Fin
variable {B : am_A} {i : Nat → Nat → Int32} {σ : Sg}
/-- nothing but what was thrown, what is reckoned with, and the longs has changed -/
theorem fin_0 {B' : am_A} {i' : Nat → Nat → Int32} (h : Sim B i σ) (hL : Le B B') (hR : am_R B' 102 = am_R B 102 ∧ am_R B' 362 = am_R B 362 ∧ am_R B' 622 = am_R B 622) (hC : am_C B' ≤ am_C B + 10) (hS : am_S B' ≤ am_S B + 600) (hi : ∀ q k, (q < 67 ∨ 94 ≤ q) → (q = 65 → k = 1 ∨ k = 2) → (q = 101 → k ≠ 3) → q ≠ 104 → q ≠ 115 → q ≠ 125 → (q = 874 → k = 4 ∨ k = 5 ∨ k = 7 ∨ k = 12) → (q < 879 ∨ 893 ≤ q) → i' q k = i q k) : Sim B' i' σ ∧ Kp B i B' i' := by
  obtain ⟨h1, h2, h3⟩ := h
  refine ⟨⟨CR_fr h1 hL hR (fun q k a1 a2 a3 a4 a5 a6 a7 => hi q k a2 a3 a4 a5 a6 a7 (by omega) (by omega)) (fun q a1 a2 => ?_), MR_fr h2 hL (fun q k hq => hi q k (by omega) (by omega) (by omega) (by omega) (by omega) (by omega) (by omega) (by omega)), h3⟩, hL, hC, hS, fun q hq => ?_⟩
  · funext k
    exact hi q k (by omega) (by omega) (by omega) (by omega) (by omega) (by omega) (by omega) (by omega)
  · funext k
    exact hi q k (by omega) (by omega) (by omega) (by omega) (by omega) (by omega) (by omega) (by omega)
theorem fin_x {c : Int32} (h : Sim B i σ) : Sim (am_nx (am_xx B 1 6)) (am_up2 (am_up2 i 874 0 0) 874 0 c) σ ∧ Kp B i (am_nx (am_xx B 1 6)) (am_up2 (am_up2 i 874 0 0) 874 0 c) :=
  fin_0 h (Le.tr Le.xx Le.nx) ⟨rfl, rfl, rfl⟩ (Nat.add_le_add_left (by omega) _) (Nat.add_le_add_left (by omega) _) fun q k _ _ _ _ _ _ h7 _ => by rw [y_up2 (by omega), y_up2 (by omega)]
theorem fin_s (h : Sim B i σ) : Sim B (am_up2 i 874 0 0) σ ∧ Kp B i B (am_up2 i 874 0 0) :=
  fin_0 h (Le.rf B) ⟨rfl, rfl, rfl⟩ (Nat.le_add_right _ _) (Nat.le_add_right _ _) fun q k _ _ _ _ _ _ h7 _ => by rw [y_up2 (by omega)]
theorem fin_J {v : Int64} (h : Sim B i σ) : Sim (am_sJ B 892 0 v) (am_up2 i 874 0 0) σ ∧ Kp B i (am_sJ B 892 0 v) (am_up2 i 874 0 0) :=
  fin_0 h Le.sJ ⟨rfl, rfl, rfl⟩ (Nat.le_add_right _ _) (Nat.le_add_right _ _) fun q k _ _ _ _ _ _ h7 _ => by rw [y_up2 (by omega)]
/-- the world has changed, and the yard of today with it -/
theorem fin_w {B' : am_A} {i' : Nat → Nat → Int32} {w' : Nat → Int32} (h : Sim B i σ) (hL : Le B B') (hR : am_R B' 102 = am_R B 102 ∧ am_R B' 362 = am_R B 362 ∧ am_R B' 622 = am_R B 622) (hC : am_C B' ≤ am_C B + 10) (hS : am_S B' ≤ am_S B + 600) (hr : Rep B' i' 94 w') (hw : Wd w') (hm : ∀ s, s < 12042 → i' 875 s = w' s)
    (hi : ∀ q k, (q < 67 ∨ 354 ≤ q) → (q = 65 → k = 1 ∨ k = 2) → (q = 874 → k = 4 ∨ k = 5 ∨ k = 7 ∨ k = 12) → q ≠ 875 → (q < 879 ∨ 893 ≤ q) → i' q k = i q k) : Sim B' i' (w', σ.2) ∧ Kp B i B' i' := by
  obtain ⟨h1, h2, h3⟩ := h
  refine ⟨⟨CR_now h1 hL hr hR.2 (fun q k a1 a2 => hi q k (by omega) (by omega) (by omega) (by omega) (by omega)) (fun q a1 a2 => ?_), MR_now h2 hL hm (fun q k hq => hi q k (by omega) (by omega) (by omega) (by omega) (by omega)), SW_now h3 hw⟩, hL, hC, hS, fun q hq => ?_⟩
  · funext k
    exact hi q k (by omega) (by omega) (by omega) (by omega) (by omega)
  · funext k
    exact hi q k (by omega) (by omega) (by omega) (by omega) (by omega)
end Fin
