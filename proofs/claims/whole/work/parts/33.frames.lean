/-! FRAMES: a part of a yard stays, where neither its cells nor its places were touched -/
section Frames
variable {B B' : am_A} {i i' : Nat → Nat → Int32} {b : Nat} {w w' : Nat → Int32}
theorem RB_fr (h : RB i b w) (hi : ∀ q k, (q = b ∧ (k = 0 ∨ k = 6 ∨ k = 9 ∨ k = 13 ∨ k = 14)) ∨ q = b + 1 ∨ q = b + 13 ∨ (q = b + 11 ∧ k = 1) ∨ q = b + 12 → i' q k = i q k) (hw : ∀ s, s < 39 ∨ (3014 ≤ s ∧ s < 3019) → w' s = w s) : RB i' b w' := by
  obtain ⟨a1, a2, a3, a4, a5, a6, a7, a8, a9⟩ := h
  refine ⟨?_, ?_, ?_, ?_, ?_, fun k hk => ?_, fun k hk => ?_, ?_, fun k hk => ?_⟩ <;> rw [hi _ _ (by omega), hw _ (by omega)]
  · exact a1
  · exact a2
  · exact a3
  · exact a4
  · exact a5
  · exact a6 k hk
  · exact a7 k hk
  · exact a8
  · exact a9 k hk
theorem RT_fr (h : RT i b w) (hi : ∀ q k, (q = b ∧ k = 3) ∨ (b + 32 ≤ q ∧ q < b + 92) → i' q k = i q k) (hw : ∀ s, 39 ≤ s ∧ s < 460 → w' s = w s) : RT i' b w' := by
  refine ⟨by rw [hi _ _ (by omega), hw _ (by omega)]; exact h.1, fun t ht h6 => ?_⟩
  have ht2 : t < cn w 39 := by unfold cn at ht ⊢; rw [hw 39 (by omega)] at ht; exact ht
  obtain ⟨a1, a2, a3, a4, a5, a6, a7⟩ := h.2 t ht2 h6
  refine ⟨?_, ?_, ?_, ?_, ?_, ?_, ?_⟩ <;> rw [hi _ _ (by omega), hw _ (by omega)] <;> assumption
theorem hrt_fr (hw : ∀ t, t < 60 → w' (40 + 7 * t + 5) = w (40 + 7 * t + 5)) (t : Int32) : hrt w' t = hrt w t := by
  unfold hrt
  split
  · rfl
  · split
    · rename_i h
      exact hw _ h
    · rfl
theorem RP_fr (h : RP i b w) (hi : ∀ q k, (q = b ∧ k = 5) ∨ (b + 92 ≤ q ∧ q < b + 212) → i' q k = i q k) (hw : ∀ s, 460 ≤ s ∧ s < 2621 → w' s = w s) (hh : ∀ t, t < 60 → w' (40 + 7 * t + 5) = w (40 + 7 * t + 5)) : RP i' b w' := by
  refine ⟨by rw [hi _ _ (by omega), hw _ (by omega)]; exact h.1, fun p hp h6 => ?_⟩
  have hp2 : p < cn w 460 := by unfold cn at hp ⊢; rw [hw 460 (by omega)] at hp; exact hp
  obtain ⟨a1, a2, a3, a4, a5, a6, a7, a8, a9, a10, a11, a12, a13, a14, a15, a16, a17, a18, a19⟩ := h.2 p hp2 h6
  refine ⟨?_, ?_, ?_, ?_, ?_, ?_, ?_, ?_, ?_, ?_, ?_, ?_, ?_, ?_, ?_, ?_, ?_, fun e => ?_, ?_⟩
  all_goals try (rw [hi _ _ (by omega), hw _ (by omega)]; assumption)
  · rw [hi _ _ (by omega), hw _ (by omega)]
    exact a18 (by rw [hw _ (by omega)] at e; exact e)
  · rw [hi _ _ (by omega), hw _ (by omega), hrt_fr hh]
    exact a19
theorem NdR_fr {q n o : Nat} (h : NdR i q n w o) (hi : ∀ x k, q < x ∧ x < q + 6 → i' x k = i x k) (hw : ∀ s, o ≤ s ∧ s < o + 5 → w' s = w s) : NdR i' q n w' o := by
  obtain ⟨a1, a2, a3, a4, a5⟩ := h
  refine ⟨?_, ?_, ?_, ?_, ?_⟩ <;> rw [hi _ _ (by omega), hw _ (by omega)] <;> assumption
theorem ShR_fr {q o : Nat} (h : ShR i q w o) (hi : ∀ x k, q ≤ x ∧ x < q + 6 → i' x k = i x k) (hw : ∀ s, o ≤ s ∧ s < o + 49 → w' s = w s) : ShR i' q w' o := by
  obtain ⟨a1, a2, a3, a4, a5, a6, a7, a8, a9, a10⟩ := h
  refine ⟨?_, ?_, ?_, ?_, ?_, ?_, ?_, ?_, ?_, fun n hn h8 => ?_⟩
  all_goals try (rw [hi _ _ (by omega), hw _ (by omega)]; assumption)
  have hn2 : n < cn w (o + 8) := by unfold cn at hn ⊢; rw [hw _ (by omega)] at hn; exact hn
  exact NdR_fr (a10 n hn2 h8) (fun x k hx => hi x k (by omega)) fun s hs => hw s (by omega)
theorem RS_fr (h : RS i b w) (hi : ∀ q k, (q = b ∧ k = 8) ∨ (b + 212 ≤ q ∧ q < b + 260) → i' q k = i q k) (hw : ∀ s, 2621 ≤ s ∧ s < 3014 → w' s = w s) : RS i' b w' := by
  refine ⟨by rw [hi _ _ (by omega), hw _ (by omega)]; exact h.1, fun s hs h6 => ?_⟩
  have hs2 : s < cn w 2621 := by unfold cn at hs ⊢; rw [hw 2621 (by omega)] at hs; exact hs
  exact ShR_fr (h.2 s hs2 h6) (fun x k hx => hi x k (by omega)) fun z hz => hw z (by omega)
theorem RG_fr (h : RG i b w) (hi : ∀ q k, (q = b ∧ k = 12) ∨ q = b + 5 ∨ q = b + 6 → i' q k = i q k) (hw : ∀ s, 3019 ≤ s ∧ s < 3036 → w' s = w s) : RG i' b w' := by
  refine ⟨by rw [hi _ _ (by omega), hw _ (by omega)]; exact h.1, fun t ht h6 => ?_⟩
  have ht2 : t < cn w 3019 := by unfold cn at ht ⊢; rw [hw 3019 (by omega)] at ht; exact ht
  obtain ⟨a1, a2⟩ := h.2 t ht2 h6
  refine ⟨?_, ?_⟩ <;> rw [hi _ _ (by omega), hw _ (by omega)] <;> assumption
theorem RE_fr (h : RE i b w) (hi : ∀ q k, (q = b + 14 ∧ k = 4) ∨ (b + 15 ≤ q ∧ q < b + 19) → i' q k = i q k) (hw : ∀ s, 3036 ≤ s ∧ s < 3437 → w' s = w s) : RE i' b w' := by
  refine ⟨by rw [hi _ _ (by omega), hw _ (by omega)]; exact h.1, fun t ht h6 => ?_⟩
  have ht2 : t < cn w 3036 := by unfold cn at ht ⊢; rw [hw 3036 (by omega)] at ht; exact ht
  obtain ⟨a1, a2, a3, a4⟩ := h.2 t ht2 h6
  refine ⟨?_, ?_, ?_, ?_⟩ <;> rw [hi _ _ (by omega), hw _ (by omega)] <;> assumption
theorem RM_fr (h : RM i b w) (hi : ∀ q k, (q = b + 14 ∧ k = 7) ∨ q = b + 19 ∨ q = b + 20 → i' q k = i q k) (hw : ∀ s, 3437 ≤ s ∧ s < 3478 → w' s = w s) : RM i' b w' := by
  refine ⟨by rw [hi _ _ (by omega), hw _ (by omega)]; exact h.1, fun t ht h6 => ?_⟩
  have ht2 : t < cn w 3437 := by unfold cn at ht ⊢; rw [hw 3437 (by omega)] at ht; exact ht
  obtain ⟨a1, a2⟩ := h.2 t ht2 h6
  refine ⟨?_, ?_⟩ <;> rw [hi _ _ (by omega), hw _ (by omega)] <;> assumption
theorem RC_fr (h : RC i b w) (hi : ∀ q k, (q = b + 22 ∧ k = 4) ∨ (b + 23 ≤ q ∧ q < b + 27) ∨ (b + 28 ≤ q ∧ q < b + 31) → i' q k = i q k) (hw : ∀ s, 3478 ≤ s ∧ s < 3541 → w' s = w s) : RC i' b w' := by
  refine ⟨by rw [hi _ _ (by omega), hw _ (by omega)]; exact h.1, fun t ht h6 => ?_, fun r hr y hy => ?_⟩
  · have ht2 : t < cn w 3478 := by unfold cn at ht ⊢; rw [hw 3478 (by omega)] at ht; exact ht
    obtain ⟨a1, a2, a3, a4⟩ := h.2.1 t ht2 h6
    refine ⟨?_, ?_, ?_, ?_⟩ <;> rw [hi _ _ (by omega), hw _ (by omega)] <;> assumption
  · rw [hi _ _ (by omega), hw _ (by omega)]
    exact h.2.2 r hr y hy
theorem TxR_fr {q o : Nat} (h : TxR B i q w o) (hL : Le B B') (hi : ∀ x, 893 ≤ x → x < am_N B → i' x = i x) (hw : ∀ s, o ≤ s ∧ s < o + 850 → w' s = w s) (hc : cn w (o + 1) ≤ 12) (hl : am_L B (q + 4) ≤ 400) : TxR B' i' q w' o := by
  obtain ⟨b1, b2, b3, b4, b5, b6, b7, b8, b9, b10⟩ := h
  have hcn : cn w' (o + 1) = cn w (o + 1) := by unfold cn; rw [hw _ (by omega)]
  refine ⟨b1, by have := hL.1; omega, ?_, ?_, ?_, ?_, ?_, ?_, fun n hn h12 => ?_, fun k hk h4 => ?_⟩
  · rw [hL.K (by omega), hL.R (by omega) (by omega) (by omega) (by omega)]
    exact b3
  · rw [hi _ (by omega) (by omega), hw _ (by omega)]
    exact b4
  · rw [hL.K (by omega), hL.L (by omega), hcn]
    exact b5
  · rw [hL.K (by omega), hL.L (by omega), hcn]
    exact b6
  · rw [hL.K (by omega), hL.L (by omega), hcn]
    exact b7
  · rw [hL.K (by omega)]
    exact b8
  · rw [hcn] at hn
    obtain ⟨c1, c2, c3, c4⟩ := b9 n hn h12
    rw [hi (q + 1) (by omega) (by omega), hi (q + 2) (by omega) (by omega), hi (q + 3) (by omega) (by omega), hL.L (by omega), hw (o + 2 + 4 * n) (by omega), hw (o + 2 + 4 * n + 1) (by omega), hw (o + 2 + 4 * n + 3) (by omega)]
    refine ⟨c1, c2, c3, ?_⟩
    unfold cn at c4 ⊢
    rw [hw (o + 2 + 4 * n + 3) (by omega)]
    exact c4
  · rw [hL.L (by omega)] at hk
    rw [hi (q + 4) (by omega) (by omega), hw (o + 50 + 2 * k) (by omega), hw (o + 50 + 2 * k + 1) (by omega)]
    exact b10 k hk h4
theorem RX_fr (h : RX B i b w) (hL : Le B B') (hR : am_R B' (b + 8) = am_R B (b + 8)) (hi : ∀ q k, (q = b + 7 ∧ k = 2) ∨ q = b + 9 → i' q k = i q k) (hT : ∀ x, 893 ≤ x → x < am_N B → i' x = i x) (hw : ∀ s, 3541 ≤ s ∧ s < 12042 → w' s = w s) : RX B' i' b w' := by
  refine ⟨by rw [hi _ _ (by omega), hw _ (by omega)]; exact h.1, fun t ht h6 => ?_⟩
  have ht2 : t < cn w 3541 := by unfold cn at ht ⊢; rw [hw 3541 (by omega)] at ht; exact ht
  obtain ⟨a1, q, a2, a3, a4, a5⟩ := h.2 t ht2 h6
  exact ⟨by rw [hi _ _ (by omega), hw _ (by omega)]; exact a1, q, by rw [hR]; exact a2, by unfold cn at a3 ⊢; rw [hw _ (by omega)]; exact a3, by rw [hL.L (by have := a5.2.1; omega)]; exact a4, TxR_fr a5 hL hT (fun s hs => hw s (by omega)) a3 a4⟩
end Frames
