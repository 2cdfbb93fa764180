/-! WHAT THE CLASS AND THE MODEL HAVE TO DO WITH ONE STATE -/
abbrev Sg : Type := (Nat → Int32) × (Nat → Int32) × (Nat → Int32) × Bool × Bool × Nat × (Nat → Int32) × Int32
abbrev TpC (i : Nat → Nat → Int32) (t : Nat × (Nat → Int32) × Int32) : Prop := i 65 1 = Int32.ofNat t.1 ∧ (∀ k, k < t.1 → i 66 k = t.2.1 k &&& 255) ∧ i 65 2 = t.2.2
abbrev TpM (i : Nat → Nat → Int32) (t : Nat × (Nat → Int32) × Int32) : Prop := i 874 7 = Int32.ofNat t.1 ∧ (∀ k, k < t.1 → i 878 k = t.2.1 k) ∧ i 874 12 = t.2.2
def CR (B : am_A) (i : Nat → Nat → Int32) (σ : Sg) : Prop :=
  (Fc B ∧ Yd B 94 ∧ Yd B 354 ∧ Yd B 614 ∧ 893 ≤ am_N B) ∧ Rep B i 94 σ.1 ∧ (σ.2.2.2.1 = true → Rep B i 354 σ.2.1) ∧ (σ.2.2.2.2.1 = true → Rep B i 614 σ.2.2.1) ∧ i 64 5 = tf (σ.2.2.2.1 = true) ∧ i 64 6 = tf (σ.2.2.2.2.1 = true) ∧ TpC i σ.2.2.2.2.2
def MR (B : am_A) (i : Nat → Nat → Int32) (σ : Sg) : Prop :=
  (Md B ∧ 893 ≤ am_N B) ∧ (∀ s, s < 12042 → i 875 s = σ.1 s) ∧ (σ.2.2.2.1 = true → ∀ s, s < 12042 → i 877 s = σ.2.1 s) ∧ (σ.2.2.2.2.1 = true → ∀ s, s < 12042 → i 876 s = σ.2.2.1 s) ∧ i 874 5 = tf (σ.2.2.2.1 = true) ∧ i 874 4 = tf (σ.2.2.2.2.1 = true) ∧ TpM i σ.2.2.2.2.2
def SW (σ : Sg) : Prop := Wd σ.1 ∧ (σ.2.2.2.1 = true → Wd σ.2.1) ∧ (σ.2.2.2.2.1 = true → Wd σ.2.2.1) ∧ σ.2.2.2.2.2.1 ≤ 400 ∧ ∀ k, k < σ.2.2.2.2.2.1 → ¬ σ.2.2.2.2.2.2.1 k < -128 ∧ σ.2.2.2.2.2.2.1 k < 128
set_option maxHeartbeats 2000000 in
theorem Fc_le {B B' : am_A} (h : Le B B') (hN : 893 ≤ am_N B) (hF : Fc B) : Fc B' := by
  have hK : ∀ q, q < 893 → am_K B' q = am_K B q := fun q hq => h.K (by omega)
  have hL : ∀ q, q < 893 → am_L B' q = am_L B q := fun q hq => h.L (by omega)
  have hR : ∀ q, q < 893 → q ≠ 102 → q ≠ 362 → q ≠ 622 → am_R B' q = am_R B q := fun q hq => h.R (by omega)
  unfold Fc at hF ⊢
  simp (disch := omega) only [hK, hL, hR]
  refine ⟨hF.1, hF.2.1, hF.2.2.1, hF.2.2.2.1, hF.2.2.2.2.1, hF.2.2.2.2.2.1, hF.2.2.2.2.2.2.1, hF.2.2.2.2.2.2.2.1, ?_⟩
  have hF := hF.2.2.2.2.2.2.2.2
  refine ⟨hF.1, hF.2.1, hF.2.2.1, hF.2.2.2.1, hF.2.2.2.2.1, hF.2.2.2.2.2.1, hF.2.2.2.2.2.2.1, hF.2.2.2.2.2.2.2.1, hF.2.2.2.2.2.2.2.2.1, fun j hj => ?_, fun j hj => ?_, ?_⟩
  · rw [hK _ (by omega)]
    exact hF.2.2.2.2.2.2.2.2.2.1 j hj
  · rw [hL _ (by omega)]
    exact hF.2.2.2.2.2.2.2.2.2.2.1 j hj
  · exact hF.2.2.2.2.2.2.2.2.2.2.2
set_option maxHeartbeats 2000000 in
theorem Md_le {B B' : am_A} (h : Le B B') (hN : 893 ≤ am_N B) (hF : Md B) : Md B' := by
  have hK : ∀ q, q < 893 → am_K B' q = am_K B q := fun q hq => h.K (by omega)
  have hL : ∀ q, q < 893 → am_L B' q = am_L B q := fun q hq => h.L (by omega)
  have hR : ∀ q, q < 893 → q ≠ 102 → q ≠ 362 → q ≠ 622 → am_R B' q = am_R B q := fun q hq => h.R (by omega)
  unfold Md at hF ⊢
  simp (disch := omega) only [hK, hL, hR]
  exact hF
set_option maxHeartbeats 4000000 in
theorem Yd_le {B B' : am_A} {b : Nat} (h : Le B B') (hN : 893 ≤ am_N B) (hb : b = 94 ∨ b = 354 ∨ b = 614) (hF : Yd B b) : Yd B' b := by
  have hK : ∀ q, q < 893 → am_K B' q = am_K B q := fun q hq => h.K (by omega)
  have hL : ∀ q, q < 893 → am_L B' q = am_L B q := fun q hq => h.L (by omega)
  have hR : ∀ q, q < 893 → q ≠ 102 → q ≠ 362 → q ≠ 622 → am_R B' q = am_R B q := fun q hq => h.R (by omega)
  unfold Yd at hF ⊢
  simp (contextual := true) (disch := omega) only [hK, hL, hR]
  exact hF
/-- a yard that nobody touched holds what it held (its rows for reckoning may change) -/
theorem Rep_fr {B B' : am_A} {i i' : Nat → Nat → Int32} {b : Nat} {w w' : Nat → Int32} (h : Rep B i b w) (hL : Le B B') (hR : am_R B' (b + 8) = am_R B (b + 8)) (hi : ∀ q k, b ≤ q → q < b + 260 → (q = b + 7 → k ≠ 3) → q ≠ b + 10 → q ≠ b + 21 → q ≠ b + 31 → i' q k = i q k) (hT : ∀ q, 893 ≤ q → q < am_N B → i' q = i q) (hw : ∀ s, s < 12042 → w' s = w s) : Rep B' i' b w' := by
  obtain ⟨h1, h2, h3, h4, h5, h6, h7, h8, h9⟩ := h
  have hi2 : ∀ q k, b ≤ q ∧ q < b + 260 ∧ (q = b + 7 → k ≠ 3) ∧ q ≠ b + 10 ∧ q ≠ b + 21 ∧ q ≠ b + 31 → i' q k = i q k := fun q k hq => hi q k hq.1 hq.2.1 hq.2.2.1 hq.2.2.2.1 hq.2.2.2.2.1 hq.2.2.2.2.2
  exact ⟨RB_fr h1 (fun q k hq => hi2 q k (by omega)) fun s hs => hw s (by omega), RT_fr h2 (fun q k hq => hi2 q k (by omega)) fun s hs => hw s (by omega), RP_fr h3 (fun q k hq => hi2 q k (by omega)) (fun s hs => hw s (by omega)) fun t ht => hw _ (by omega), RS_fr h4 (fun q k hq => hi2 q k (by omega)) fun s hs => hw s (by omega), RG_fr h5 (fun q k hq => hi2 q k (by omega)) fun s hs => hw s (by omega), RE_fr h6 (fun q k hq => hi2 q k (by omega)) fun s hs => hw s (by omega), RM_fr h7 (fun q k hq => hi2 q k (by omega)) fun s hs => hw s (by omega), RC_fr h8 (fun q k hq => hi2 q k (by omega)) fun s hs => hw s (by omega), RX_fr h9 hL hR (fun q k hq => hi2 q k (by omega)) hT fun s hs => hw s (by omega)⟩
/-- of the class's half: nothing of it was touched -/
theorem CR_fr {B B' : am_A} {i i' : Nat → Nat → Int32} {σ : Sg} (h : CR B i σ) (hL : Le B B') (hR : am_R B' 102 = am_R B 102 ∧ am_R B' 362 = am_R B 362 ∧ am_R B' 622 = am_R B 622) (hi : ∀ q k, q < 874 → (q < 67 ∨ 94 ≤ q) → (q = 65 → k = 1 ∨ k = 2) → (q = 101 → k ≠ 3) → q ≠ 104 → q ≠ 115 → q ≠ 125 → i' q k = i q k) (hT : ∀ q, 893 ≤ q → q < am_N B → i' q = i q) : CR B' i' σ := by
  obtain ⟨⟨h1, h2, h3, h4, hN⟩, h5, h6, h7, h8, h9, h10, h11, h12⟩ := h
  refine ⟨⟨Fc_le hL hN h1, Yd_le hL hN (by omega) h2, Yd_le hL hN (by omega) h3, Yd_le hL hN (by omega) h4, Nat.le_trans hN hL.1⟩, ?_, fun q => ?_, fun q => ?_, ?_, ?_, ?_, fun k hk => ?_, ?_⟩
  · exact Rep_fr h5 hL hR.1 (fun q k _ _ _ _ _ _ => hi q k (by omega) (by omega) (by omega) (by omega) (by omega) (by omega) (by omega)) hT fun _ _ => rfl
  · exact Rep_fr (h6 q) hL hR.2.1 (fun q k _ _ _ _ _ _ => hi q k (by omega) (by omega) (by omega) (by omega) (by omega) (by omega) (by omega)) hT fun _ _ => rfl
  · exact Rep_fr (h7 q) hL hR.2.2 (fun q k _ _ _ _ _ _ => hi q k (by omega) (by omega) (by omega) (by omega) (by omega) (by omega) (by omega)) hT fun _ _ => rfl
  all_goals rw [hi _ _ (by omega) (by omega) (by omega) (by omega) (by omega) (by omega) (by omega)]
  · exact h8
  · exact h9
  · exact h10
  · exact h11 k hk
  · exact h12
/-- of the model's half: nothing of it was touched -/
theorem MR_fr {B B' : am_A} {i i' : Nat → Nat → Int32} {σ : Sg} (h : MR B i σ) (hL : Le B B') (hi : ∀ q k, (875 ≤ q ∧ q < 879) ∨ (q = 874 ∧ (k = 4 ∨ k = 5 ∨ k = 7 ∨ k = 12)) → i' q k = i q k) : MR B' i' σ := by
  obtain ⟨⟨h1, hN⟩, h2, h3, h4, h5, h6, h7, h8, h9⟩ := h
  refine ⟨⟨Md_le hL hN h1, Nat.le_trans hN hL.1⟩, fun s hs => ?_, fun q s hs => ?_, fun q s hs => ?_, ?_, ?_, ?_, fun k hk => ?_, ?_⟩
  all_goals rw [hi _ _ (by omega)]
  · exact h2 s hs
  · exact h3 q s hs
  · exact h4 q s hs
  · exact h5
  · exact h6
  · exact h7
  · exact h8 k hk
  · exact h9
theorem CR_now {B B' : am_A} {i i' : Nat → Nat → Int32} {σ : Sg} {w' : Nat → Int32} (h : CR B i σ) (hL : Le B B') (hR : Rep B' i' 94 w') (hR8 : am_R B' 362 = am_R B 362 ∧ am_R B' 622 = am_R B 622) (hi : ∀ q k, q < 874 → q = 64 ∨ (q = 65 ∧ (k = 1 ∨ k = 2)) ∨ q = 66 ∨ 354 ≤ q → i' q k = i q k) (hT : ∀ q, 893 ≤ q → q < am_N B → i' q = i q) : CR B' i' (w', σ.2) := by
  obtain ⟨⟨h1, h2, h3, h4, hN⟩, h5, h6, h7, h8, h9, h10, h11, h12⟩ := h
  refine ⟨⟨Fc_le hL hN h1, Yd_le hL hN (by omega) h2, Yd_le hL hN (by omega) h3, Yd_le hL hN (by omega) h4, Nat.le_trans hN hL.1⟩, hR, fun q => ?_, fun q => ?_, ?_, ?_, ?_, fun k hk => ?_, ?_⟩
  · exact Rep_fr (h6 q) hL hR8.1 (fun q k _ _ _ _ _ _ => hi q k (by omega) (by omega)) hT fun _ _ => rfl
  · exact Rep_fr (h7 q) hL hR8.2 (fun q k _ _ _ _ _ _ => hi q k (by omega) (by omega)) hT fun _ _ => rfl
  all_goals rw [hi _ _ (by omega) (by omega)]
  · exact h8
  · exact h9
  · exact h10
  · exact h11 k hk
  · exact h12
theorem MR_now {B B' : am_A} {i i' : Nat → Nat → Int32} {σ : Sg} {w' : Nat → Int32} (h : MR B i σ) (hL : Le B B') (hw : ∀ s, s < 12042 → i' 875 s = w' s) (hi : ∀ q k, (876 ≤ q ∧ q < 879) ∨ (q = 874 ∧ (k = 4 ∨ k = 5 ∨ k = 7 ∨ k = 12)) → i' q k = i q k) : MR B' i' (w', σ.2) := by
  obtain ⟨⟨h1, hN⟩, h2, h3, h4, h5, h6, h7, h8, h9⟩ := h
  refine ⟨⟨Md_le hL hN h1, Nat.le_trans hN hL.1⟩, hw, fun q s hs => ?_, fun q s hs => ?_, ?_, ?_, ?_, fun k hk => ?_, ?_⟩
  all_goals rw [hi _ _ (by omega)]
  · exact h3 q s hs
  · exact h4 q s hs
  · exact h5
  · exact h6
  · exact h7
  · exact h8 k hk
  · exact h9
theorem SW_now {σ : Sg} {w' : Nat → Int32} (h : SW σ) (hw : Wd w') : SW (w', σ.2) := ⟨hw, h.2⟩
/-- both at once -/
def Sim (B : am_A) (i : Nat → Nat → Int32) (σ : Sg) : Prop := CR B i σ ∧ MR B i σ ∧ SW σ
/-- what a call of the law leaves -/
def Kp (B : am_A) (i : Nat → Nat → Int32) (B' : am_A) (i' : Nat → Nat → Int32) : Prop := Le B B' ∧ am_C B' ≤ am_C B + 10 ∧ am_S B' ≤ am_S B + 600 ∧ ∀ q, q < 64 → i' q = i q
