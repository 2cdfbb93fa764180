/-! REP AND WD BY WHAT CHANGES: made by wip/whole/math/gen_shapes.py. -/
theorem Rep_base {B B' : am_A} {i i' : Nat → Nat → Int32} {b : Nat} {w w' : Nat → Int32} (h : Rep B i b w) (hL : Le B B') (hb : b + 260 ≤ 874) (hR : am_R B' (b + 8) = am_R B (b + 8)) (nRB : RB i' b w') (hi : ∀ q k, b ≤ q → (q = b → k ≠ 0 ∧ k ≠ 6 ∧ k ≠ 9 ∧ k ≠ 13 ∧ k ≠ 14) → q ≠ b + 1 → q ≠ b + 13 → q ≠ b + 11 → q ≠ b + 12 → (q < b + 260) → i' q k = i q k) (hT : ∀ q, 893 ≤ q → q < am_N B → i' q = i q) (hw : ∀ s, s < 12042 → 39 ≤ s → (s < 3014 ∨ 3019 ≤ s) → w' s = w s) : Rep B' i' b w' := by
  obtain ⟨h1, h2, h3, h4, h5, h6, h7, h8, h9⟩ := h
  exact ⟨nRB,
    RT_fr h2 (fun q k hq => hi q k (by omega) (by omega) (by omega) (by omega) (by omega) (by omega) (by omega)) fun s hs => hw s (by omega) (by omega) (by omega),
    RP_fr h3 (fun q k hq => hi q k (by omega) (by omega) (by omega) (by omega) (by omega) (by omega) (by omega)) (fun s hs => hw s (by omega) (by omega) (by omega)) fun t ht => hw _ (by omega) (by omega) (by omega),
    RS_fr h4 (fun q k hq => hi q k (by omega) (by omega) (by omega) (by omega) (by omega) (by omega) (by omega)) fun s hs => hw s (by omega) (by omega) (by omega),
    RG_fr h5 (fun q k hq => hi q k (by omega) (by omega) (by omega) (by omega) (by omega) (by omega) (by omega)) fun s hs => hw s (by omega) (by omega) (by omega),
    RE_fr h6 (fun q k hq => hi q k (by omega) (by omega) (by omega) (by omega) (by omega) (by omega) (by omega)) fun s hs => hw s (by omega) (by omega) (by omega),
    RM_fr h7 (fun q k hq => hi q k (by omega) (by omega) (by omega) (by omega) (by omega) (by omega) (by omega)) fun s hs => hw s (by omega) (by omega) (by omega),
    RC_fr h8 (fun q k hq => hi q k (by omega) (by omega) (by omega) (by omega) (by omega) (by omega) (by omega)) fun s hs => hw s (by omega) (by omega) (by omega),
    RX_fr h9 hL hR (fun q k hq => hi q k (by omega) (by omega) (by omega) (by omega) (by omega) (by omega) (by omega)) hT fun s hs => hw s (by omega) (by omega) (by omega)⟩
theorem Rep_tree {B B' : am_A} {i i' : Nat → Nat → Int32} {b : Nat} {w w' : Nat → Int32} (hh : ∀ t, t < 60 → w' (40 + 7 * t + 5) = w (40 + 7 * t + 5)) (h : Rep B i b w) (hL : Le B B') (hb : b + 260 ≤ 874) (hR : am_R B' (b + 8) = am_R B (b + 8)) (nRT : RT i' b w') (hi : ∀ q k, b ≤ q → (q = b → k ≠ 3) → (q < b + 32 ∨ b + 92 ≤ q) → (q < b + 260) → i' q k = i q k) (hT : ∀ q, 893 ≤ q → q < am_N B → i' q = i q) (hw : ∀ s, s < 12042 → (s < 39 ∨ 460 ≤ s) → w' s = w s) : Rep B' i' b w' := by
  obtain ⟨h1, h2, h3, h4, h5, h6, h7, h8, h9⟩ := h
  exact ⟨RB_fr h1 (fun q k hq => hi q k (by omega) (by omega) (by omega) (by omega)) fun s hs => hw s (by omega) (by omega),
    nRT,
    RP_fr h3 (fun q k hq => hi q k (by omega) (by omega) (by omega) (by omega)) (fun s hs => hw s (by omega) (by omega)) fun t ht => hh t ht,
    RS_fr h4 (fun q k hq => hi q k (by omega) (by omega) (by omega) (by omega)) fun s hs => hw s (by omega) (by omega),
    RG_fr h5 (fun q k hq => hi q k (by omega) (by omega) (by omega) (by omega)) fun s hs => hw s (by omega) (by omega),
    RE_fr h6 (fun q k hq => hi q k (by omega) (by omega) (by omega) (by omega)) fun s hs => hw s (by omega) (by omega),
    RM_fr h7 (fun q k hq => hi q k (by omega) (by omega) (by omega) (by omega)) fun s hs => hw s (by omega) (by omega),
    RC_fr h8 (fun q k hq => hi q k (by omega) (by omega) (by omega) (by omega)) fun s hs => hw s (by omega) (by omega),
    RX_fr h9 hL hR (fun q k hq => hi q k (by omega) (by omega) (by omega) (by omega)) hT fun s hs => hw s (by omega) (by omega)⟩
theorem Rep_treeN {B B' : am_A} {i i' : Nat → Nat → Int32} {b : Nat} {w w' : Nat → Int32} (h : Rep B i b w) (hL : Le B B') (hb : b + 260 ≤ 874) (hR : am_R B' (b + 8) = am_R B (b + 8)) (nRT : RT i' b w') (nRP : RP i' b w') (hi : ∀ q k, b ≤ q → (q = b → k ≠ 3) → (q < b + 32 ∨ b + 92 ≤ q) → (q < b + 260) → i' q k = i q k) (hT : ∀ q, 893 ≤ q → q < am_N B → i' q = i q) (hw : ∀ s, s < 12042 → (s < 39 ∨ 460 ≤ s) → w' s = w s) : Rep B' i' b w' := by
  obtain ⟨h1, h2, h3, h4, h5, h6, h7, h8, h9⟩ := h
  exact ⟨RB_fr h1 (fun q k hq => hi q k (by omega) (by omega) (by omega) (by omega)) fun s hs => hw s (by omega) (by omega),
    nRT,
    nRP,
    RS_fr h4 (fun q k hq => hi q k (by omega) (by omega) (by omega) (by omega)) fun s hs => hw s (by omega) (by omega),
    RG_fr h5 (fun q k hq => hi q k (by omega) (by omega) (by omega) (by omega)) fun s hs => hw s (by omega) (by omega),
    RE_fr h6 (fun q k hq => hi q k (by omega) (by omega) (by omega) (by omega)) fun s hs => hw s (by omega) (by omega),
    RM_fr h7 (fun q k hq => hi q k (by omega) (by omega) (by omega) (by omega)) fun s hs => hw s (by omega) (by omega),
    RC_fr h8 (fun q k hq => hi q k (by omega) (by omega) (by omega) (by omega)) fun s hs => hw s (by omega) (by omega),
    RX_fr h9 hL hR (fun q k hq => hi q k (by omega) (by omega) (by omega) (by omega)) hT fun s hs => hw s (by omega) (by omega)⟩
theorem Rep_piece {B B' : am_A} {i i' : Nat → Nat → Int32} {b : Nat} {w w' : Nat → Int32} (h : Rep B i b w) (hL : Le B B') (hb : b + 260 ≤ 874) (hR : am_R B' (b + 8) = am_R B (b + 8)) (nRP : RP i' b w') (hi : ∀ q k, b ≤ q → (q = b → k ≠ 5) → (q < b + 92 ∨ b + 212 ≤ q) → (q < b + 260) → i' q k = i q k) (hT : ∀ q, 893 ≤ q → q < am_N B → i' q = i q) (hw : ∀ s, s < 12042 → (s < 460 ∨ 2621 ≤ s) → w' s = w s) : Rep B' i' b w' := by
  obtain ⟨h1, h2, h3, h4, h5, h6, h7, h8, h9⟩ := h
  exact ⟨RB_fr h1 (fun q k hq => hi q k (by omega) (by omega) (by omega) (by omega)) fun s hs => hw s (by omega) (by omega),
    RT_fr h2 (fun q k hq => hi q k (by omega) (by omega) (by omega) (by omega)) fun s hs => hw s (by omega) (by omega),
    nRP,
    RS_fr h4 (fun q k hq => hi q k (by omega) (by omega) (by omega) (by omega)) fun s hs => hw s (by omega) (by omega),
    RG_fr h5 (fun q k hq => hi q k (by omega) (by omega) (by omega) (by omega)) fun s hs => hw s (by omega) (by omega),
    RE_fr h6 (fun q k hq => hi q k (by omega) (by omega) (by omega) (by omega)) fun s hs => hw s (by omega) (by omega),
    RM_fr h7 (fun q k hq => hi q k (by omega) (by omega) (by omega) (by omega)) fun s hs => hw s (by omega) (by omega),
    RC_fr h8 (fun q k hq => hi q k (by omega) (by omega) (by omega) (by omega)) fun s hs => hw s (by omega) (by omega),
    RX_fr h9 hL hR (fun q k hq => hi q k (by omega) (by omega) (by omega) (by omega)) hT fun s hs => hw s (by omega) (by omega)⟩
theorem Rep_ship {B B' : am_A} {i i' : Nat → Nat → Int32} {b : Nat} {w w' : Nat → Int32} (h : Rep B i b w) (hL : Le B B') (hb : b + 260 ≤ 874) (hR : am_R B' (b + 8) = am_R B (b + 8)) (nRS : RS i' b w') (hi : ∀ q k, b ≤ q → (q = b → k ≠ 8) → (q < b + 212) → (q < b + 260) → i' q k = i q k) (hT : ∀ q, 893 ≤ q → q < am_N B → i' q = i q) (hw : ∀ s, s < 12042 → (s < 2621 ∨ 3014 ≤ s) → w' s = w s) : Rep B' i' b w' := by
  obtain ⟨h1, h2, h3, h4, h5, h6, h7, h8, h9⟩ := h
  exact ⟨RB_fr h1 (fun q k hq => hi q k (by omega) (by omega) (by omega) (by omega)) fun s hs => hw s (by omega) (by omega),
    RT_fr h2 (fun q k hq => hi q k (by omega) (by omega) (by omega) (by omega)) fun s hs => hw s (by omega) (by omega),
    RP_fr h3 (fun q k hq => hi q k (by omega) (by omega) (by omega) (by omega)) (fun s hs => hw s (by omega) (by omega)) fun t ht => hw _ (by omega) (by omega),
    nRS,
    RG_fr h5 (fun q k hq => hi q k (by omega) (by omega) (by omega) (by omega)) fun s hs => hw s (by omega) (by omega),
    RE_fr h6 (fun q k hq => hi q k (by omega) (by omega) (by omega) (by omega)) fun s hs => hw s (by omega) (by omega),
    RM_fr h7 (fun q k hq => hi q k (by omega) (by omega) (by omega) (by omega)) fun s hs => hw s (by omega) (by omega),
    RC_fr h8 (fun q k hq => hi q k (by omega) (by omega) (by omega) (by omega)) fun s hs => hw s (by omega) (by omega),
    RX_fr h9 hL hR (fun q k hq => hi q k (by omega) (by omega) (by omega) (by omega)) hT fun s hs => hw s (by omega) (by omega)⟩
theorem Rep_gang {B B' : am_A} {i i' : Nat → Nat → Int32} {b : Nat} {w w' : Nat → Int32} (h : Rep B i b w) (hL : Le B B') (hb : b + 260 ≤ 874) (hR : am_R B' (b + 8) = am_R B (b + 8)) (nRG : RG i' b w') (hi : ∀ q k, b ≤ q → (q = b → k ≠ 12) → q ≠ b + 5 → q ≠ b + 6 → (q < b + 260) → i' q k = i q k) (hT : ∀ q, 893 ≤ q → q < am_N B → i' q = i q) (hw : ∀ s, s < 12042 → (s < 3019 ∨ 3036 ≤ s) → w' s = w s) : Rep B' i' b w' := by
  obtain ⟨h1, h2, h3, h4, h5, h6, h7, h8, h9⟩ := h
  exact ⟨RB_fr h1 (fun q k hq => hi q k (by omega) (by omega) (by omega) (by omega) (by omega)) fun s hs => hw s (by omega) (by omega),
    RT_fr h2 (fun q k hq => hi q k (by omega) (by omega) (by omega) (by omega) (by omega)) fun s hs => hw s (by omega) (by omega),
    RP_fr h3 (fun q k hq => hi q k (by omega) (by omega) (by omega) (by omega) (by omega)) (fun s hs => hw s (by omega) (by omega)) fun t ht => hw _ (by omega) (by omega),
    RS_fr h4 (fun q k hq => hi q k (by omega) (by omega) (by omega) (by omega) (by omega)) fun s hs => hw s (by omega) (by omega),
    nRG,
    RE_fr h6 (fun q k hq => hi q k (by omega) (by omega) (by omega) (by omega) (by omega)) fun s hs => hw s (by omega) (by omega),
    RM_fr h7 (fun q k hq => hi q k (by omega) (by omega) (by omega) (by omega) (by omega)) fun s hs => hw s (by omega) (by omega),
    RC_fr h8 (fun q k hq => hi q k (by omega) (by omega) (by omega) (by omega) (by omega)) fun s hs => hw s (by omega) (by omega),
    RX_fr h9 hL hR (fun q k hq => hi q k (by omega) (by omega) (by omega) (by omega) (by omega)) hT fun s hs => hw s (by omega) (by omega)⟩
theorem Rep_entry {B B' : am_A} {i i' : Nat → Nat → Int32} {b : Nat} {w w' : Nat → Int32} (h : Rep B i b w) (hL : Le B B') (hb : b + 260 ≤ 874) (hR : am_R B' (b + 8) = am_R B (b + 8)) (nRE : RE i' b w') (hi : ∀ q k, b ≤ q → (q = b + 14 → k ≠ 4) → (q < b + 15 ∨ b + 19 ≤ q) → (q < b + 260) → i' q k = i q k) (hT : ∀ q, 893 ≤ q → q < am_N B → i' q = i q) (hw : ∀ s, s < 12042 → (s < 3036 ∨ 3437 ≤ s) → w' s = w s) : Rep B' i' b w' := by
  obtain ⟨h1, h2, h3, h4, h5, h6, h7, h8, h9⟩ := h
  exact ⟨RB_fr h1 (fun q k hq => hi q k (by omega) (by omega) (by omega) (by omega)) fun s hs => hw s (by omega) (by omega),
    RT_fr h2 (fun q k hq => hi q k (by omega) (by omega) (by omega) (by omega)) fun s hs => hw s (by omega) (by omega),
    RP_fr h3 (fun q k hq => hi q k (by omega) (by omega) (by omega) (by omega)) (fun s hs => hw s (by omega) (by omega)) fun t ht => hw _ (by omega) (by omega),
    RS_fr h4 (fun q k hq => hi q k (by omega) (by omega) (by omega) (by omega)) fun s hs => hw s (by omega) (by omega),
    RG_fr h5 (fun q k hq => hi q k (by omega) (by omega) (by omega) (by omega)) fun s hs => hw s (by omega) (by omega),
    nRE,
    RM_fr h7 (fun q k hq => hi q k (by omega) (by omega) (by omega) (by omega)) fun s hs => hw s (by omega) (by omega),
    RC_fr h8 (fun q k hq => hi q k (by omega) (by omega) (by omega) (by omega)) fun s hs => hw s (by omega) (by omega),
    RX_fr h9 hL hR (fun q k hq => hi q k (by omega) (by omega) (by omega) (by omega)) hT fun s hs => hw s (by omega) (by omega)⟩
theorem Rep_muster {B B' : am_A} {i i' : Nat → Nat → Int32} {b : Nat} {w w' : Nat → Int32} (h : Rep B i b w) (hL : Le B B') (hb : b + 260 ≤ 874) (hR : am_R B' (b + 8) = am_R B (b + 8)) (nRM : RM i' b w') (hi : ∀ q k, b ≤ q → (q = b + 14 → k ≠ 7) → q ≠ b + 19 → q ≠ b + 20 → (q < b + 260) → i' q k = i q k) (hT : ∀ q, 893 ≤ q → q < am_N B → i' q = i q) (hw : ∀ s, s < 12042 → (s < 3437 ∨ 3478 ≤ s) → w' s = w s) : Rep B' i' b w' := by
  obtain ⟨h1, h2, h3, h4, h5, h6, h7, h8, h9⟩ := h
  exact ⟨RB_fr h1 (fun q k hq => hi q k (by omega) (by omega) (by omega) (by omega) (by omega)) fun s hs => hw s (by omega) (by omega),
    RT_fr h2 (fun q k hq => hi q k (by omega) (by omega) (by omega) (by omega) (by omega)) fun s hs => hw s (by omega) (by omega),
    RP_fr h3 (fun q k hq => hi q k (by omega) (by omega) (by omega) (by omega) (by omega)) (fun s hs => hw s (by omega) (by omega)) fun t ht => hw _ (by omega) (by omega),
    RS_fr h4 (fun q k hq => hi q k (by omega) (by omega) (by omega) (by omega) (by omega)) fun s hs => hw s (by omega) (by omega),
    RG_fr h5 (fun q k hq => hi q k (by omega) (by omega) (by omega) (by omega) (by omega)) fun s hs => hw s (by omega) (by omega),
    RE_fr h6 (fun q k hq => hi q k (by omega) (by omega) (by omega) (by omega) (by omega)) fun s hs => hw s (by omega) (by omega),
    nRM,
    RC_fr h8 (fun q k hq => hi q k (by omega) (by omega) (by omega) (by omega) (by omega)) fun s hs => hw s (by omega) (by omega),
    RX_fr h9 hL hR (fun q k hq => hi q k (by omega) (by omega) (by omega) (by omega) (by omega)) hT fun s hs => hw s (by omega) (by omega)⟩
theorem Rep_plan {B B' : am_A} {i i' : Nat → Nat → Int32} {b : Nat} {w w' : Nat → Int32} (h : Rep B i b w) (hL : Le B B') (hb : b + 260 ≤ 874) (hR : am_R B' (b + 8) = am_R B (b + 8)) (nRC : RC i' b w') (hi : ∀ q k, b ≤ q → (q < b + 22 ∨ b + 31 ≤ q) → (q < b + 260) → i' q k = i q k) (hT : ∀ q, 893 ≤ q → q < am_N B → i' q = i q) (hw : ∀ s, s < 12042 → (s < 3478 ∨ 3541 ≤ s) → w' s = w s) : Rep B' i' b w' := by
  obtain ⟨h1, h2, h3, h4, h5, h6, h7, h8, h9⟩ := h
  exact ⟨RB_fr h1 (fun q k hq => hi q k (by omega) (by omega) (by omega)) fun s hs => hw s (by omega) (by omega),
    RT_fr h2 (fun q k hq => hi q k (by omega) (by omega) (by omega)) fun s hs => hw s (by omega) (by omega),
    RP_fr h3 (fun q k hq => hi q k (by omega) (by omega) (by omega)) (fun s hs => hw s (by omega) (by omega)) fun t ht => hw _ (by omega) (by omega),
    RS_fr h4 (fun q k hq => hi q k (by omega) (by omega) (by omega)) fun s hs => hw s (by omega) (by omega),
    RG_fr h5 (fun q k hq => hi q k (by omega) (by omega) (by omega)) fun s hs => hw s (by omega) (by omega),
    RE_fr h6 (fun q k hq => hi q k (by omega) (by omega) (by omega)) fun s hs => hw s (by omega) (by omega),
    RM_fr h7 (fun q k hq => hi q k (by omega) (by omega) (by omega)) fun s hs => hw s (by omega) (by omega),
    nRC,
    RX_fr h9 hL hR (fun q k hq => hi q k (by omega) (by omega) (by omega)) hT fun s hs => hw s (by omega) (by omega)⟩
theorem Wd_base {w w' : Nat → Int32} (h : Wd w) (nR : WdR w') (hw : ∀ s, s < 12042 → s = 0 ∨ 39 ≤ s → (s < 3015 ∨ 3019 ≤ s) → w' s = w s) : Wd w' := by
  obtain ⟨h1, h2, h3, h4, h5, h6, h7, h8, h9, h10, h11⟩ := h
  have k : ∀ s, s = 0 ∨ (39 ≤ s ∧ s < 3015) ∨ (3019 ≤ s ∧ s < 12042) → w' s = w s := fun s hs => hw s (by omega) (by omega) (by omega)
  exact ⟨WdC_fr h1 fun s hs => k s (by omega), nR, WdT_fr h3 fun s hs => k s (by omega), WdP_fr h4 h1.2.2.1.2 fun s hs => k s (by omega), WdS_fr h5 fun s hs => k s (by omega), WdG_fr h6 fun s hs => k s (by omega), WdE_fr h7 fun s hs => k s (by omega), WdM_fr h8 fun s hs => k s (by omega), WdX_fr h9 fun s hs => k s (by omega), WdZ_fr h10 fun s hs => k s (by omega), WdI_fr h11 fun s hs => k s (by omega)⟩
theorem Wd_tree {w w' : Nat → Int32} (h : Wd w) (nWdC : WdC w') (nWdT : WdT w') (nWdZ : WdZ w') (nP : WdP w') (hw : ∀ s, s < 12042 → (s < 39 ∨ 460 ≤ s) → w' s = w s) : Wd w' := by
  obtain ⟨h1, h2, h3, h4, h5, h6, h7, h8, h9, h10, h11⟩ := h
  exact ⟨nWdC, WdR_fr h2 fun s hs => hw s (by omega) (by omega), nWdT, nP, WdS_fr h5 fun s hs => hw s (by omega) (by omega), WdG_fr h6 fun s hs => hw s (by omega) (by omega), WdE_fr h7 fun s hs => hw s (by omega) (by omega), WdM_fr h8 fun s hs => hw s (by omega) (by omega), WdX_fr h9 fun s hs => hw s (by omega) (by omega), nWdZ, WdI_fr h11 fun s hs => hw s (by omega) (by omega)⟩
theorem Wd_treeF {w w' : Nat → Int32} (h : Wd w) (nWdT : WdT w') (nWdZ : WdZ w') (hw : ∀ s, s < 12042 → (s < 40 ∨ 460 ≤ s) → w' s = w s) : Wd w' := by
  obtain ⟨h1, h2, h3, h4, h5, h6, h7, h8, h9, h10, h11⟩ := h
  exact ⟨WdC_fr h1 fun s hs => hw s (by omega) (by omega), WdR_fr h2 fun s hs => hw s (by omega) (by omega), nWdT, WdP_fr h4 h1.2.2.1.2 fun s hs => hw s (by omega) (by omega), WdS_fr h5 fun s hs => hw s (by omega) (by omega), WdG_fr h6 fun s hs => hw s (by omega) (by omega), WdE_fr h7 fun s hs => hw s (by omega) (by omega), WdM_fr h8 fun s hs => hw s (by omega) (by omega), WdX_fr h9 fun s hs => hw s (by omega) (by omega), nWdZ, WdI_fr h11 fun s hs => hw s (by omega) (by omega)⟩
theorem Wd_piece {w w' : Nat → Int32} (h : Wd w) (nWdP : WdP w') (nWdI : WdI w') (hw : ∀ s, s < 12042 → (s < 461 ∨ 2621 ≤ s) → w' s = w s) : Wd w' := by
  obtain ⟨h1, h2, h3, h4, h5, h6, h7, h8, h9, h10, h11⟩ := h
  exact ⟨WdC_fr h1 fun s hs => hw s (by omega) (by omega), WdR_fr h2 fun s hs => hw s (by omega) (by omega), WdT_fr h3 fun s hs => hw s (by omega) (by omega), nWdP, WdS_fr h5 fun s hs => hw s (by omega) (by omega), WdG_fr h6 fun s hs => hw s (by omega) (by omega), WdE_fr h7 fun s hs => hw s (by omega) (by omega), WdM_fr h8 fun s hs => hw s (by omega) (by omega), WdX_fr h9 fun s hs => hw s (by omega) (by omega), WdZ_fr h10 fun s hs => hw s (by omega) (by omega), nWdI⟩
theorem Wd_ship {w w' : Nat → Int32} (h : Wd w) (nWdS : WdS w') (nWdZ : WdZ w') (nWdI : WdI w') (hw : ∀ s, s < 12042 → (s < 2622 ∨ 3014 ≤ s) → w' s = w s) : Wd w' := by
  obtain ⟨h1, h2, h3, h4, h5, h6, h7, h8, h9, h10, h11⟩ := h
  exact ⟨WdC_fr h1 fun s hs => hw s (by omega) (by omega), WdR_fr h2 fun s hs => hw s (by omega) (by omega), WdT_fr h3 fun s hs => hw s (by omega) (by omega), WdP_fr h4 h1.2.2.1.2 fun s hs => hw s (by omega) (by omega), nWdS, WdG_fr h6 fun s hs => hw s (by omega) (by omega), WdE_fr h7 fun s hs => hw s (by omega) (by omega), WdM_fr h8 fun s hs => hw s (by omega) (by omega), WdX_fr h9 fun s hs => hw s (by omega) (by omega), nWdZ, nWdI⟩
