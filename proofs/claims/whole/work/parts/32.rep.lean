/-! THE STATE BOTH MEAN: a world (a number for each place, as the model numbers them), and how a yard at b holds it. -/
def wu (w : Nat → Int32) (s : Nat) (v : Int32) : Nat → Int32 := fun j => if j = s then v else w j
theorem wu_at {w : Nat → Int32} {s j : Nat} {v : Int32} (h : j = s) : wu w s v j = v := if_pos h
theorem wu_ne {w : Nat → Int32} {s j : Nat} {v : Int32} (h : j ≠ s) : wu w s v j = w j := if_neg h
/-- a number that counts -/
def cn (w : Nat → Int32) (s : Nat) : Nat := (w s).toNatClampNeg
abbrev isc (w : Nat → Int32) (s M : Nat) : Prop := w s = Int32.ofNat (cn w s) ∧ cn w s ≤ M
abbrev TrR (i : Nat → Nat → Int32) (q : Nat) (w : Nat → Int32) (o : Nat) : Prop :=
  i q 0 = w o ∧ i q 1 = w (o + 1) ∧ i q 2 = w (o + 2) ∧ i q 3 = w (o + 3) ∧ i q 4 = w (o + 4) ∧ i q 5 = w (o + 5) ∧ i q 6 = w (o + 6)
/-- of its heart: what its tree has -/
def hrt (w : Nat → Int32) (t : Int32) : Int32 := if t < 0 then 0 else if t.toNatClampNeg < 60 then w (40 + 7 * t.toNatClampNeg + 5) else 0
abbrev PcR (i : Nat → Nat → Int32) (q : Nat) (w : Nat → Int32) (o : Nat) : Prop :=
  i q 0 = w o ∧ i q 9 = w (o + 1) ∧ i q 2 = w (o + 2) ∧ i q 3 = w (o + 3) ∧ i q 4 = w (o + 4) ∧ i q 1 = w (o + 5) ∧ i q 10 = w (o + 6) ∧ i q 11 = w (o + 7) ∧ i q 14 = w (o + 8) ∧ i q 5 = w (o + 9) ∧ i q 7 = w (o + 10) ∧ i q 16 = w (o + 11) ∧ i q 17 = w (o + 12) ∧ i q 18 = w (o + 13) ∧ i q 15 = w (o + 14) ∧ i q 12 = w (o + 15) ∧ i q 13 = w (o + 16) ∧
  (w (o + 1) = 0 → i q 8 = w (o + 17)) ∧ i q 6 = hrt w (w (o + 9))
abbrev NdR (i : Nat → Nat → Int32) (q n : Nat) (w : Nat → Int32) (o : Nat) : Prop :=
  i (q + 1) n = w o ∧ i (q + 2) n = w (o + 1) ∧ i (q + 3) n = w (o + 2) ∧ i (q + 4) n = w (o + 3) ∧ i (q + 5) n = w (o + 4)
abbrev ShR (i : Nat → Nat → Int32) (q : Nat) (w : Nat → Int32) (o : Nat) : Prop :=
  i q 3 = w o ∧ i q 1 = w (o + 1) ∧ i q 0 = w (o + 2) ∧ i q 2 = w (o + 3) ∧ i q 4 = w (o + 4) ∧ i q 5 = w (o + 5) ∧ i q 6 = w (o + 6) ∧ i q 7 = w (o + 7) ∧ i q 8 = w (o + 8) ∧ ∀ n, n < cn w (o + 8) → n < 8 → NdR i q n w (o + 9 + 5 * n)
/-- day, room, slips, chips, openings, roads, tides, docks -/
abbrev RB (i : Nat → Nat → Int32) (b : Nat) (w : Nat → Int32) : Prop :=
  i b 0 = w 0 ∧ i b 6 = w 1 ∧ i b 9 = w 2 ∧ i b 13 = w 3 ∧ i b 14 = w 4 ∧ (∀ k, k < 6 → i (b + 1) k = w (5 + k)) ∧ (∀ k, k < 28 → i (b + 13) k = w (11 + k)) ∧ i (b + 11) 1 = w 3014 ∧ ∀ k, k < 4 → i (b + 12) k = w (3015 + k)
abbrev RT (i : Nat → Nat → Int32) (b : Nat) (w : Nat → Int32) : Prop := i b 3 = w 39 ∧ ∀ t, t < cn w 39 → t < 60 → TrR i (b + 32 + t) w (40 + 7 * t)
abbrev RP (i : Nat → Nat → Int32) (b : Nat) (w : Nat → Int32) : Prop := i b 5 = w 460 ∧ ∀ p, p < cn w 460 → p < 120 → PcR i (b + 92 + p) w (461 + 18 * p)
abbrev RS (i : Nat → Nat → Int32) (b : Nat) (w : Nat → Int32) : Prop := i b 8 = w 2621 ∧ ∀ s, s < cn w 2621 → s < 8 → ShR i (b + 212 + 6 * s) w (2622 + 49 * s)
abbrev RG (i : Nat → Nat → Int32) (b : Nat) (w : Nat → Int32) : Prop := i b 12 = w 3019 ∧ ∀ g, g < cn w 3019 → g < 8 → i (b + 5) g = w (3020 + 2 * g) ∧ i (b + 6) g = w (3020 + 2 * g + 1)
abbrev RE (i : Nat → Nat → Int32) (b : Nat) (w : Nat → Int32) : Prop := i (b + 14) 4 = w 3036 ∧ ∀ k, k < cn w 3036 → k < 100 → i (b + 15) k = w (3037 + 4 * k) ∧ i (b + 16) k = w (3037 + 4 * k + 1) ∧ i (b + 17) k = w (3037 + 4 * k + 2) ∧ i (b + 18) k = w (3037 + 4 * k + 3)
abbrev RM (i : Nat → Nat → Int32) (b : Nat) (w : Nat → Int32) : Prop := i (b + 14) 7 = w 3437 ∧ ∀ k, k < cn w 3437 → k < 20 → i (b + 19) k = w (3438 + 2 * k) ∧ i (b + 20) k = w (3438 + 2 * k + 1)
abbrev RC (i : Nat → Nat → Int32) (b : Nat) (w : Nat → Int32) : Prop := i (b + 22) 4 = w 3478 ∧ (∀ k, k < cn w 3478 → k < 8 → i (b + 23) k = w (3479 + 4 * k) ∧ i (b + 24) k = w (3479 + 4 * k + 1) ∧ i (b + 25) k = w (3479 + 4 * k + 2) ∧ i (b + 26) k = w (3479 + 4 * k + 3)) ∧ ∀ r, r < 3 → ∀ y, y < 10 → i (b + 28 + r) y = w (3511 + 10 * r + y)
/-- a step of a condition, as the class writes it -/
def enc (st th : Int32) : Int32 :=
  if st < 5 then st <<< 3 else if st < 200 then ((1 : Int32) ||| (st - 100) <<< (3 : Int32)) ||| th <<< (6 : Int32) else if st < 300 then ((2 : Int32) ||| (st - 200) <<< (3 : Int32)) ||| th <<< (6 : Int32) else if st = 300 then 3 else if st = 301 then 4 else 5
/-- a text: the object q with its rows behind it -/
abbrev TxR (B : am_A) (i : Nat → Nat → Int32) (q : Nat) (w : Nat → Int32) (o : Nat) : Prop :=
  893 ≤ q ∧ q + 5 ≤ am_N B ∧ (am_K B q = 9 ∧ am_R B q 1 = some (q + 1) ∧ am_R B q 2 = some (q + 2) ∧ am_R B q 3 = some (q + 3) ∧ am_R B q 4 = some (q + 4)) ∧ i q 0 = w (o + 1) ∧
  (am_K B (q + 1) = 21 ∧ am_L B (q + 1) = cn w (o + 1)) ∧ (am_K B (q + 2) = 21 ∧ am_L B (q + 2) = cn w (o + 1)) ∧ (am_K B (q + 3) = 21 ∧ am_L B (q + 3) = cn w (o + 1)) ∧ am_K B (q + 4) = 21 ∧
  (∀ n, n < cn w (o + 1) → n < 12 → i (q + 1) n = w (o + 2 + 4 * n) ∧ i (q + 2) n = w (o + 2 + 4 * n + 1) ∧ i (q + 3) n = w (o + 2 + 4 * n + 3) ∧ cn w (o + 2 + 4 * n + 3) ≤ am_L B (q + 4)) ∧
  ∀ k, k < am_L B (q + 4) → k < 400 → i (q + 4) k = enc (w (o + 50 + 2 * k)) (w (o + 50 + 2 * k + 1))
abbrev RX (B : am_A) (i : Nat → Nat → Int32) (b : Nat) (w : Nat → Int32) : Prop := i (b + 7) 2 = w 3541 ∧ ∀ t, t < cn w 3541 → t < 10 → i (b + 9) t = w (3542 + 850 * t) ∧ ∃ q, am_R B (b + 8) t = some q ∧ cn w (3542 + 850 * t + 1) ≤ 12 ∧ am_L B (q + 4) ≤ 400 ∧ TxR B i q w (3542 + 850 * t)
def Rep (B : am_A) (i : Nat → Nat → Int32) (b : Nat) (w : Nat → Int32) : Prop := RB i b w ∧ RT i b w ∧ RP i b w ∧ RS i b w ∧ RG i b w ∧ RE i b w ∧ RM i b w ∧ RC i b w ∧ RX B i b w
/-- what is always so of a world -/
abbrev TrW (w : Nat → Int32) (o : Nat) : Prop := (¬ w o < 0 ∧ w o < 6) ∧ (¬ w (o + 1) < 0 ∧ w (o + 1) < 3) ∧ (¬ w (o + 3) < 0 ∧ w (o + 3) < 61) ∧ (w (o + 6) = 0 ∨ w (o + 6) = 1) ∧ (¬ w (o + 5) < 0 ∧ w (o + 5) < 10)
/-- how long all masts are together that are not used up -/
def lng (w : Nat → Int32) : Nat := itr (fun p a => a + if w (461 + 18 * p) = 2 ∧ w (461 + 18 * p + 1) ≠ 5 then cn w (461 + 18 * p + 2) else 0) (cn w 460) 0
abbrev PcW (w : Nat → Int32) (o : Nat) : Prop :=
  (w (o + 2) = Int32.ofNat (cn w (o + 2)) ∧ 5 ≤ cn w (o + 2) ∧ cn w (o + 2) ≤ 12000 ∧ (w o ≠ 2 → cn w (o + 2) ≤ 100)) ∧
  (¬ w o < 0 ∧ w o < 4) ∧ (¬ w (o + 1) < 0 ∧ w (o + 1) < 7) ∧ (¬ w (o + 3) < 0 ∧ w (o + 3) < 61) ∧ (¬ w (o + 5) < 0 ∧ w (o + 5) < 3) ∧ (¬ w (o + 6) < 0 ∧ ¬ w 0 < w (o + 6)) ∧ (¬ w (o + 7) < 0 ∧ w (o + 7) < 101) ∧
  (w (o + 9) = -1 ∨ ¬ w (o + 9) < 0 ∧ w (o + 9) < w 39) ∧ (w (o + 11) = -1 ∨ ¬ w (o + 11) < 0 ∧ w (o + 11) < w 2621) ∧ (w (o + 1) = 3 → w (o + 11) ≠ -1) ∧
  (w (o + 13) = 0 ∨ w (o + 13) = 1) ∧ (w (o + 14) = -1 ∨ ¬ w (o + 14) < 0 ∧ w (o + 14) < 4001) ∧ (w (o + 16) = 0 ∨ w (o + 16) = 1)
abbrev ShW (w : Nat → Int32) (o : Nat) : Prop :=
  (¬ w o < 0 ∧ w o < 6) ∧ (¬ w (o + 1) < 0 ∧ w (o + 1) < 5001) ∧ (w (o + 3) = 0 ∨ w (o + 3) = 1) ∧ (w o = 3 → ¬ w (o + 4) < 0 ∧ w (o + 4) < w 3014) ∧ (w o ≠ 3 → w (o + 4) = -1) ∧ (w (o + 6) = 0 ∨ w (o + 6) = 1) ∧ (¬ w (o + 7) < 0 ∧ w (o + 7) < 2000000001) ∧ isc w (o + 8) 8 ∧
  ∀ n, n < cn w (o + 8) → n < 8 → (¬ w (o + 9 + 5 * n) < 0 ∧ w (o + 9 + 5 * n) < 4) ∧ (w (o + 9 + 5 * n + 4) = -1 ∨ ¬ w (o + 9 + 5 * n + 4) < 0 ∧ w (o + 9 + 5 * n + 4) < w 460)
/-- how deep the answers stand before each step of a condition: never none where one is asked, never many -/
abbrev TxD (w : Nat → Int32) (o a e : Nat) : Prop := a ≤ e ∧ e ≤ 400 ∧ ∃ dp : Nat → Nat, dp a = 0 ∧ (a < e → dp e = 1) ∧ ∀ i, a ≤ i → i < e → dp i ≤ 16 ∧ dp (i + 1) ≤ 16 ∧ ¬ w (o + 50 + 2 * i) < 0 ∧ w (o + 50 + 2 * i) < 303 ∧
  (w (o + 50 + 2 * i) < 300 → (w (o + 50 + 2 * i) < 5 ∨ (¬ w (o + 50 + 2 * i) < 100 ∧ w (o + 50 + 2 * i) < 106) ∨ (¬ w (o + 50 + 2 * i) < 200 ∧ w (o + 50 + 2 * i) < 206)) ∧ ¬ w (o + 50 + 2 * i + 1) < 0 ∧ w (o + 50 + 2 * i + 1) < 100000 ∧ dp (i + 1) = dp i + 1) ∧
  (w (o + 50 + 2 * i) = 300 → 1 ≤ dp i ∧ dp (i + 1) = dp i) ∧ (¬ w (o + 50 + 2 * i) < 301 → 2 ≤ dp i ∧ dp (i + 1) + 1 = dp i)
abbrev TxW (w : Nat → Int32) (o : Nat) : Prop := (¬ w o < 0 ∧ w o < 4001) ∧ isc w (o + 1) 12 ∧ ∀ n, n < cn w (o + 1) → (¬ w (o + 2 + 4 * n) < 0 ∧ w (o + 2 + 4 * n) < 4) ∧ (¬ w (o + 2 + 4 * n + 1) < 0 ∧ w (o + 2 + 4 * n + 1) < 100000) ∧
  (w (o + 2 + 4 * n + 2) = Int32.ofNat (cn w (o + 2 + 4 * n + 2)) ∧ w (o + 2 + 4 * n + 3) = Int32.ofNat (cn w (o + 2 + 4 * n + 3))) ∧ cn w (o + 2 + 4 * n + 2) = (if n = 0 then 0 else cn w (o + 2 + 4 * (n - 1) + 3)) ∧ TxD w o (cn w (o + 2 + 4 * n + 2)) (cn w (o + 2 + 4 * n + 3))
abbrev WdC (w : Nat → Int32) : Prop := isc w 0 4000 ∧ isc w 39 60 ∧ isc w 460 120 ∧ isc w 2621 8 ∧ isc w 3014 4 ∧ isc w 3019 8 ∧ isc w 3036 100 ∧ isc w 3437 20 ∧ isc w 3478 8 ∧ isc w 3541 10
abbrev WdR (w : Nat → Int32) : Prop := ∀ k, k < 6 → ¬ w (5 + k) < 0 ∧ w (5 + k) < 61
abbrev WdT (w : Nat → Int32) : Prop := (∀ t, t < cn w 39 → t < 60 → TrW w (40 + 7 * t)) ∧ ∀ t, cn w 39 ≤ t → t < 60 → w (40 + 7 * t + 6) = 0
abbrev WdP (w : Nat → Int32) : Prop := (∀ p, p < cn w 460 → p < 120 → PcW w (461 + 18 * p)) ∧ lng w ≤ 100 * cn w 460
abbrev WdS (w : Nat → Int32) : Prop := (∀ s, s < cn w 2621 → s < 8 → ShW w (2622 + 49 * s)) ∧ ∀ s, cn w 2621 ≤ s → s < 8 → w (2622 + 49 * s) = 0 ∧ w (2622 + 49 * s + 6) = 0 ∧ w (2622 + 49 * s + 7) = 0 ∧ w (2622 + 49 * s + 8) = 0
abbrev WdG (w : Nat → Int32) : Prop := ∀ g, g < cn w 3019 → g < 8 → (¬ w (3020 + 2 * g) < 1 ∧ w (3020 + 2 * g) < 41) ∧ (w (3020 + 2 * g + 1) = -1 ∨ ¬ w (3020 + 2 * g + 1) < 0 ∧ w (3020 + 2 * g + 1) < w 2621)
abbrev WdE (w : Nat → Int32) : Prop := ∀ k, k < cn w 3036 → k < 100 → ¬ w (3037 + 4 * k + 3) < 0 ∧ w (3037 + 4 * k + 3) < 10
abbrev WdM (w : Nat → Int32) : Prop := ∀ k, k < cn w 3437 → k < 20 → ¬ w (3438 + 2 * k) < 0 ∧ w (3438 + 2 * k) < 4001
abbrev WdX (w : Nat → Int32) : Prop := ∀ t, t < cn w 3541 → t < 10 → TxW w (3542 + 850 * t)
/-- and of trees, needs and the plan: their sizes -/
abbrev WdZ (w : Nat → Int32) : Prop :=
  (∀ t, t < cn w 39 → t < 60 → (¬ w (40 + 7 * t + 2) < 5 ∧ w (40 + 7 * t + 2) < 101) ∧ ¬ w (40 + 7 * t + 3) < 5 ∧ ¬ w (40 + 7 * t + 4) < -9 ∧ w (40 + 7 * t + 4) < 10) ∧
  (∀ s, s < cn w 2621 → s < 8 → ∀ n, n < cn w (2622 + 49 * s + 8) → n < 8 → (¬ w (2622 + 49 * s + 9 + 5 * n + 1) < 1 ∧ w (2622 + 49 * s + 9 + 5 * n + 1) < 301) ∧ ¬ w (2622 + 49 * s + 9 + 5 * n + 2) < 1 ∧ w (2622 + 49 * s + 9 + 5 * n + 2) < 61) ∧
  (∀ k, k < cn w 3478 → k < 8 → (¬ w (3479 + 4 * k) < 0 ∧ w (3479 + 4 * k) < 100001) ∧ (¬ w (3479 + 4 * k + 1) < 0 ∧ w (3479 + 4 * k + 1) < 10) ∧ (¬ w (3479 + 4 * k + 2) < 0 ∧ w (3479 + 4 * k + 2) < 10) ∧ ¬ w (3479 + 4 * k + 3) < 0 ∧ w (3479 + 4 * k + 3) < 10) ∧
  ∀ r, r < 3 → ∀ y, y < 10 → ¬ w (3511 + 10 * r + y) < 0 ∧ w (3511 + 10 * r + y) < 100001
/-- and what fits a need lies in that ship, for that need -/
abbrev WdI (w : Nat → Int32) : Prop := ∀ s, s < cn w 2621 → s < 8 → ∀ n, n < cn w (2622 + 49 * s + 8) → n < 8 → ¬ w (2622 + 49 * s + 9 + 5 * n + 4) = -1 → cn w (2622 + 49 * s + 9 + 5 * n + 4) < 120 → w (461 + 18 * cn w (2622 + 49 * s + 9 + 5 * n + 4) + 1) = 3 ∧ w (461 + 18 * cn w (2622 + 49 * s + 9 + 5 * n + 4) + 11) = Int32.ofNat s ∧ w (461 + 18 * cn w (2622 + 49 * s + 9 + 5 * n + 4) + 12) = Int32.ofNat n
def Wd (w : Nat → Int32) : Prop := WdC w ∧ WdR w ∧ WdT w ∧ WdP w ∧ WdS w ∧ WdG w ∧ WdE w ∧ WdM w ∧ WdX w ∧ WdZ w ∧ WdI w
section WdFrames
variable {w w' : Nat → Int32}
theorem isc_fr {s M : Nat} (h : isc w s M) (e : w' s = w s) : isc w' s M := by
  unfold isc cn at *
  rw [e]
  exact h
theorem WdC_fr (h : WdC w) (hw : ∀ s, s = 0 ∨ s = 39 ∨ s = 460 ∨ s = 2621 ∨ s = 3014 ∨ s = 3019 ∨ s = 3036 ∨ s = 3437 ∨ s = 3478 ∨ s = 3541 → w' s = w s) : WdC w' := by
  obtain ⟨a1, a2, a3, a4, a5, a6, a7, a8, a9, a10⟩ := h
  exact ⟨isc_fr a1 (hw _ (by omega)), isc_fr a2 (hw _ (by omega)), isc_fr a3 (hw _ (by omega)), isc_fr a4 (hw _ (by omega)), isc_fr a5 (hw _ (by omega)), isc_fr a6 (hw _ (by omega)), isc_fr a7 (hw _ (by omega)), isc_fr a8 (hw _ (by omega)), isc_fr a9 (hw _ (by omega)), isc_fr a10 (hw _ (by omega))⟩
theorem WdR_fr (h : WdR w) (hw : ∀ s, 5 ≤ s ∧ s < 11 → w' s = w s) : WdR w' := by
  intro k hk
  rw [hw _ (by omega)]
  exact h k hk
theorem WdT_fr (h : WdT w) (hw : ∀ s, 39 ≤ s ∧ s < 460 → w' s = w s) : WdT w' := by
  have e : cn w' 39 = cn w 39 := by unfold cn; rw [hw 39 (by omega)]
  refine ⟨fun t ht h6 => ?_, fun t ht h6 => ?_⟩
  · have := h.1 t (by omega) h6
    unfold TrW at *
    rw [hw _ (by omega), hw _ (by omega), hw _ (by omega), hw _ (by omega), hw _ (by omega)]
    exact this
  · rw [hw _ (by omega)]
    exact h.2 t (by omega) h6
theorem lng_fr (hw : ∀ s, 460 ≤ s ∧ s < 2621 → w' s = w s) (hc : cn w 460 ≤ 120) : lng w' = lng w := by
  have e : cn w' 460 = cn w 460 := by unfold cn; rw [hw 460 (by omega)]
  unfold lng
  rw [e]
  refine itr_congr fun k hk a => ?_
  unfold cn at *
  rw [hw _ (by omega), hw _ (by omega), hw _ (by omega)]
theorem PcW_fr {o : Nat} (h : PcW w o) (hw : ∀ s, s = 0 ∨ s = 39 ∨ s = 2621 ∨ (o ≤ s ∧ s < o + 18) → w' s = w s) : PcW w' o := by
  have e2 : cn w' (o + 2) = cn w (o + 2) := by unfold cn; rw [hw _ (by omega)]
  unfold PcW at *
  rw [e2, hw 0 (by omega), hw 39 (by omega), hw 2621 (by omega), hw o (by omega), hw (o + 1) (by omega), hw (o + 2) (by omega), hw (o + 3) (by omega), hw (o + 5) (by omega), hw (o + 6) (by omega), hw (o + 7) (by omega), hw (o + 9) (by omega), hw (o + 11) (by omega), hw (o + 13) (by omega), hw (o + 14) (by omega), hw (o + 16) (by omega)]
  exact h
theorem WdP_fr (h : WdP w) (hc : cn w 460 ≤ 120) (hw : ∀ s, s = 0 ∨ s = 39 ∨ s = 2621 ∨ (460 ≤ s ∧ s < 2621) → w' s = w s) : WdP w' := by
  have e : cn w' 460 = cn w 460 := by unfold cn; rw [hw 460 (by omega)]
  refine ⟨fun p hp h6 => PcW_fr (h.1 p (by omega) h6) fun s hs => hw s (by omega), ?_⟩
  rw [lng_fr (fun s hs => hw s (by omega)) hc, e]
  exact h.2
theorem ShW_fr {o : Nat} (h : ShW w o) (hw : ∀ s, s = 3014 ∨ s = 460 ∨ (o ≤ s ∧ s < o + 49) → w' s = w s) : ShW w' o := by
  obtain ⟨a1, a2, a3, a4, a5, a6, a7, a8, a9⟩ := h
  have e8 : cn w' (o + 8) = cn w (o + 8) := by unfold cn; rw [hw _ (by omega)]
  refine ⟨?_, ?_, ?_, ?_, ?_, ?_, ?_, isc_fr a8 (hw _ (by omega)), fun n hn h8 => ?_⟩
  · rw [hw o (by omega)]
    exact a1
  · rw [hw _ (by omega)]
    exact a2
  · rw [hw _ (by omega)]
    exact a3
  · rw [hw o (by omega), hw (o + 4) (by omega), hw 3014 (by omega)]
    exact a4
  · rw [hw o (by omega), hw (o + 4) (by omega)]
    exact a5
  · rw [hw _ (by omega)]
    exact a6
  · rw [hw _ (by omega)]
    exact a7
  · rw [hw (o + 9 + 5 * n) (by omega), hw (o + 9 + 5 * n + 4) (by omega), hw 460 (by omega)]
    exact a9 n (by omega) h8
theorem WdS_fr (h : WdS w) (hw : ∀ s, s = 3014 ∨ s = 460 ∨ (2621 ≤ s ∧ s < 3014) → w' s = w s) : WdS w' := by
  have e : cn w' 2621 = cn w 2621 := by unfold cn; rw [hw 2621 (by omega)]
  refine ⟨fun s hs h6 => ShW_fr (h.1 s (by omega) h6) fun z hz => hw z (by omega), fun s hs h6 => ?_⟩
  rw [hw _ (by omega), hw _ (by omega), hw _ (by omega), hw _ (by omega)]
  exact h.2 s (by omega) h6
theorem WdG_fr (h : WdG w) (hw : ∀ s, s = 2621 ∨ (3019 ≤ s ∧ s < 3036) → w' s = w s) : WdG w' := by
  intro g hg h8
  have e : cn w' 3019 = cn w 3019 := by unfold cn; rw [hw 3019 (by omega)]
  rw [hw (3020 + 2 * g) (by omega), hw (3020 + 2 * g + 1) (by omega), hw 2621 (by omega)]
  exact h g (by omega) h8
theorem WdE_fr (h : WdE w) (hw : ∀ s, 3036 ≤ s ∧ s < 3437 → w' s = w s) : WdE w' := by
  intro g hg h8
  have e : cn w' 3036 = cn w 3036 := by unfold cn; rw [hw 3036 (by omega)]
  rw [hw _ (by omega)]
  exact h g (by omega) h8
theorem WdM_fr (h : WdM w) (hw : ∀ s, 3437 ≤ s ∧ s < 3478 → w' s = w s) : WdM w' := by
  intro g hg h8
  have e : cn w' 3437 = cn w 3437 := by unfold cn; rw [hw 3437 (by omega)]
  rw [hw _ (by omega)]
  exact h g (by omega) h8
theorem TxD_fr {o a e : Nat} (h : TxD w o a e) (hw : ∀ s, o ≤ s ∧ s < o + 850 → w' s = w s) : TxD w' o a e := by
  obtain ⟨h1, h2, dp, h3, h4, h5⟩ := h
  refine ⟨h1, h2, dp, h3, h4, fun i ha he => ?_⟩
  have := h5 i ha he
  rw [hw (o + 50 + 2 * i) (by omega), hw (o + 50 + 2 * i + 1) (by omega)]
  exact this
theorem TxW_fr {o : Nat} (h : TxW w o) (hw : ∀ s, o ≤ s ∧ s < o + 850 → w' s = w s) : TxW w' o := by
  obtain ⟨a1, a2, a3⟩ := h
  have h12 := a2.2
  have e1 : cn w' (o + 1) = cn w (o + 1) := by unfold cn; rw [hw _ (by omega)]
  refine ⟨by rw [hw o (by omega)]; exact a1, isc_fr a2 (hw _ (by omega)), fun n hn => ?_⟩
  have hn : n < cn w (o + 1) := by omega
  obtain ⟨b1, b2, b3, b4, b5⟩ := a3 n hn
  have e3 : cn w' (o + 2 + 4 * n + 2) = cn w (o + 2 + 4 * n + 2) := by unfold cn; rw [hw _ (by omega)]
  have e4 : cn w' (o + 2 + 4 * n + 3) = cn w (o + 2 + 4 * n + 3) := by unfold cn; rw [hw _ (by omega)]
  have e5 : cn w' (o + 2 + 4 * (n - 1) + 3) = cn w (o + 2 + 4 * (n - 1) + 3) := by unfold cn; rw [hw _ (by omega)]
  rw [e3, e4, e5, hw (o + 2 + 4 * n) (by omega), hw (o + 2 + 4 * n + 1) (by omega), hw (o + 2 + 4 * n + 2) (by omega), hw (o + 2 + 4 * n + 3) (by omega)]
  exact ⟨b1, b2, b3, b4, TxD_fr b5 hw⟩
theorem WdX_fr (h : WdX w) (hw : ∀ s, 3541 ≤ s ∧ s < 12042 → w' s = w s) : WdX w' := by
  intro t ht h8
  have e : cn w' 3541 = cn w 3541 := by unfold cn; rw [hw 3541 (by omega)]
  exact TxW_fr (h t (by omega) h8) fun s hs => hw s (by omega)
theorem WdZ_fr (h : WdZ w) (hw : ∀ s, (39 ≤ s ∧ s < 460) ∨ (2621 ≤ s ∧ s < 3014) ∨ (3478 ≤ s ∧ s < 3541) → w' s = w s) : WdZ w' := by
  obtain ⟨h1, h2, h3, h4⟩ := h
  have e1 : cn w' 39 = cn w 39 := by unfold cn; rw [hw 39 (by omega)]
  have e2 : cn w' 2621 = cn w 2621 := by unfold cn; rw [hw 2621 (by omega)]
  have e3 : cn w' 3478 = cn w 3478 := by unfold cn; rw [hw 3478 (by omega)]
  refine ⟨fun t ht h6 => ?_, fun s hs h8 n hn hn8 => ?_, fun k hk h8 => ?_, fun r hr y hy => ?_⟩
  · rw [hw (40 + 7 * t + 2) (by omega), hw (40 + 7 * t + 3) (by omega), hw (40 + 7 * t + 4) (by omega)]
    exact h1 t (by omega) h6
  · have e8 : cn w' (2622 + 49 * s + 8) = cn w (2622 + 49 * s + 8) := by unfold cn; rw [hw _ (by omega)]
    rw [hw (2622 + 49 * s + 9 + 5 * n + 1) (by omega), hw (2622 + 49 * s + 9 + 5 * n + 2) (by omega)]
    exact h2 s (by omega) h8 n (by omega) hn8
  · rw [hw (3479 + 4 * k) (by omega), hw (3479 + 4 * k + 1) (by omega), hw (3479 + 4 * k + 2) (by omega), hw (3479 + 4 * k + 3) (by omega)]
    exact h3 k (by omega) h8
  · rw [hw (3511 + 10 * r + y) (by omega)]
    exact h4 r hr y hy
theorem WdI_fx (h : WdI w) (e21 : w' 2621 = w 2621) (eP : ∀ z, 461 ≤ z → z < 2621 → w' z = w z) (e8 : ∀ s, s < 8 → w' (2622 + 49 * s + 8) = w (2622 + 49 * s + 8)) (en : ∀ s n, s < 8 → n < 8 → w' (2622 + 49 * s + 9 + 5 * n + 4) = w (2622 + 49 * s + 9 + 5 * n + 4)) : WdI w' := by
  intro s hs s8 n hn n8 g hp
  have c21 : cn w' 2621 = cn w 2621 := by unfold cn; rw [e21]
  have c8 : cn w' (2622 + 49 * s + 8) = cn w (2622 + 49 * s + 8) := by unfold cn; rw [e8 s s8]
  have c4 : cn w' (2622 + 49 * s + 9 + 5 * n + 4) = cn w (2622 + 49 * s + 9 + 5 * n + 4) := by unfold cn; rw [en s n s8 n8]
  rw [c4] at hp ⊢
  rw [en s n s8 n8] at g
  rw [eP _ (by omega) (by omega), eP _ (by omega) (by omega), eP _ (by omega) (by omega)]
  exact h s (by omega) s8 n (by omega) n8 g hp
theorem WdI_fr (h : WdI w) (hw : ∀ s, 461 ≤ s ∧ s < 3014 → w' s = w s) : WdI w' :=
  WdI_fx h (hw _ (by omega)) (fun z a b => hw z (by omega)) (fun s hs => hw _ (by omega)) fun s n hs hn => hw _ (by omega)
end WdFrames
