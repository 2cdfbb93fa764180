/-! ONE SHIP, ONE PIECE CHANGES -/
section OneChanges
variable {B : am_A} {i i' : Nat → Nat → Int32} {w w' : Nat → Int32} {b s p : Nat}
theorem Rep_sh (h : Rep B i b w) (hb : b + 260 ≤ 874) (h8 : s < 8) (hi : ∀ q k, (q < b + 212 + 6 * s ∨ b + 212 + 6 * s + 6 ≤ q) → i' q k = i q k) (hw : ∀ z, (z < 2622 + 49 * s ∨ 2622 + 49 * s + 49 ≤ z) → w' z = w z) (n : ShR i' (b + 212 + 6 * s) w' (2622 + 49 * s)) : Rep B i' b w' := by
  refine Rep_ship h (Le.rf B) hb rfl ⟨?_, fun t ht t8 => ?_⟩ (fun q k h1 h2 h3 h4 => hi q k (by omega)) (fun q h1 _ => funext fun k => hi q k (by omega)) fun z h1 h2 => hw z (by omega)
  · rw [hi _ _ (by omega), hw _ (by omega)]
    exact h.2.2.2.1.1
  · by_cases e : t = s
    · subst e
      exact n
    · have e21 : cn w' 2621 = cn w 2621 := by unfold cn; rw [hw _ (by omega)]
      exact ShR_fr (h.2.2.2.1.2 t (by omega) t8) (fun x k hx => hi x k (by omega)) fun z hz => hw z (by omega)
theorem Wd_sh (h : Wd w) (hs : s < cn w 2621) (h8 : s < 8) (hw : ∀ z, (z < 2622 + 49 * s ∨ 2622 + 49 * s + 49 ≤ z) → w' z = w z) (n : ShW w' (2622 + 49 * s)) (nz : ∀ n, n < cn w' (2622 + 49 * s + 8) → n < 8 → (¬ w' (2622 + 49 * s + 9 + 5 * n + 1) < 1 ∧ w' (2622 + 49 * s + 9 + 5 * n + 1) < 301) ∧ ¬ w' (2622 + 49 * s + 9 + 5 * n + 2) < 1 ∧ w' (2622 + 49 * s + 9 + 5 * n + 2) < 61) (nI : WdI w') : Wd w' := by
  have e21 : cn w' 2621 = cn w 2621 := by unfold cn; rw [hw _ (by omega)]
  have e39 : cn w' 39 = cn w 39 := by unfold cn; rw [hw _ (by omega)]
  have e34 : cn w' 3478 = cn w 3478 := by unfold cn; rw [hw _ (by omega)]
  have hS := h.2.2.2.2.1
  obtain ⟨z1, z2, z3, z4⟩ := h.2.2.2.2.2.2.2.2.2.1
  refine Wd_ship h ⟨fun t ht t8 => ?_, fun t ht t8 => ?_⟩ ⟨fun t ht t6 => ?_, fun t ht t8 m hm m8 => ?_, fun k hk k8 => ?_, fun r hr y hy => ?_⟩ nI fun z h1 h2 => hw z (by omega)
  · by_cases e : t = s
    · subst e
      exact n
    · exact ShW_fr (hS.1 t (by omega) t8) fun z hz => hw z (by omega)
  · rw [hw _ (by omega), hw _ (by omega), hw _ (by omega), hw _ (by omega)]
    exact hS.2 t (by omega) t8
  · rw [hw (40 + 7 * t + 2) (by omega), hw (40 + 7 * t + 3) (by omega), hw (40 + 7 * t + 4) (by omega)]
    exact z1 t (by omega) t6
  · by_cases e : t = s
    · subst e
      exact nz m hm m8
    · have e8 : cn w' (2622 + 49 * t + 8) = cn w (2622 + 49 * t + 8) := by unfold cn; rw [hw _ (by omega)]
      rw [hw (2622 + 49 * t + 9 + 5 * m + 1) (by omega), hw (2622 + 49 * t + 9 + 5 * m + 2) (by omega)]
      exact z2 t (by omega) t8 m (by omega) m8
  · rw [hw (3479 + 4 * k) (by omega), hw (3479 + 4 * k + 1) (by omega), hw (3479 + 4 * k + 2) (by omega), hw (3479 + 4 * k + 3) (by omega)]
    exact z3 k (by omega) k8
  · rw [hw (3511 + 10 * r + y) (by omega)]
    exact z4 r hr y hy
/-- where only what is told of the ship itself changes -/
theorem ShR_8 {q o : Nat} (h : ShR i q w o) (hi : ∀ x k, q < x ∧ x < q + 6 → i' x k = i x k) (hw : ∀ z, o + 8 ≤ z ∧ z < o + 49 → w' z = w z) (h0 : i' q 3 = w' o) (h1 : i' q 1 = w' (o + 1)) (h2 : i' q 0 = w' (o + 2)) (h3 : i' q 2 = w' (o + 3)) (h4 : i' q 4 = w' (o + 4)) (h5 : i' q 5 = w' (o + 5)) (h6 : i' q 6 = w' (o + 6)) (h7 : i' q 7 = w' (o + 7)) (h8 : i' q 8 = w' (o + 8)) : ShR i' q w' o := by
  refine ⟨h0, h1, h2, h3, h4, h5, h6, h7, h8, fun n hn n8 => ?_⟩
  have e8 : cn w' (o + 8) = cn w (o + 8) := by unfold cn; rw [hw _ (by omega)]
  exact NdR_fr (h.2.2.2.2.2.2.2.2.2 n (by omega) n8) (fun x k hx => hi x k (by omega)) fun z hz => hw z (by omega)
theorem Wd_sh8 (h : Wd w) (hs : s < cn w 2621) (h8 : s < 8) (hw : ∀ z, (z < 2622 + 49 * s ∨ 2622 + 49 * s + 8 ≤ z) → w' z = w z) (n0 : ¬ w' (2622 + 49 * s) < 0 ∧ w' (2622 + 49 * s) < 6) (n1 : ¬ w' (2622 + 49 * s + 1) < 0 ∧ w' (2622 + 49 * s + 1) < 5001) (n3 : w' (2622 + 49 * s + 3) = 0 ∨ w' (2622 + 49 * s + 3) = 1) (n4 : w' (2622 + 49 * s) = 3 → ¬ w' (2622 + 49 * s + 4) < 0 ∧ w' (2622 + 49 * s + 4) < w 3014) (n5 : w' (2622 + 49 * s) ≠ 3 → w' (2622 + 49 * s + 4) = -1) (n6 : w' (2622 + 49 * s + 6) = 0 ∨ w' (2622 + 49 * s + 6) = 1) (n7 : ¬ w' (2622 + 49 * s + 7) < 0 ∧ w' (2622 + 49 * s + 7) < 2000000001) : Wd w' := by
  have e8 : cn w' (2622 + 49 * s + 8) = cn w (2622 + 49 * s + 8) := by unfold cn; rw [hw _ (by omega)]
  obtain ⟨-, -, -, -, -, -, -, a8, a9⟩ := h.2.2.2.2.1.1 s hs h8
  refine Wd_sh h hs h8 (fun z hz => hw z (by omega)) ⟨n0, n1, n3, by rw [hw 3014 (by omega)]; exact n4, n5, n6, n7, isc_fr a8 (hw _ (by omega)), fun m hm m8 => ?_⟩ (fun m hm m8 => ?_) (WdI_fx h.2.2.2.2.2.2.2.2.2.2 (hw _ (by omega)) (fun z a b => hw z (by omega)) (fun t ht => hw _ (by rcases Nat.lt_trichotomy t s with c | c | c <;> omega)) fun t n ht hn => hw _ (by rcases Nat.lt_trichotomy t s with c | c | c <;> omega))
  · rw [hw (2622 + 49 * s + 9 + 5 * m) (by omega), hw (2622 + 49 * s + 9 + 5 * m + 4) (by omega), hw 460 (by omega)]
    exact a9 m (by omega) m8
  · rw [hw (2622 + 49 * s + 9 + 5 * m + 1) (by omega), hw (2622 + 49 * s + 9 + 5 * m + 2) (by omega)]
    exact h.2.2.2.2.2.2.2.2.2.1.2.1 s hs h8 m (by omega) m8
/-- where only what a need is fit by changes -/
theorem ShR_n {q o n : Nat} {v : Int32} (h : ShR i q w o) (n8 : n < 8) : ShR (am_up2 i (q + 5) n v) q (wu w (o + 9 + 5 * n + 4) v) o := by
  obtain ⟨a1, a2, a3, a4, a5, a6, a7, a8, a9, a10⟩ := h
  refine ⟨?_, ?_, ?_, ?_, ?_, ?_, ?_, ?_, ?_, fun m hm m8 => ?_⟩
  all_goals try (rw [y_up2 (by omega), wu_ne (by omega)]; assumption)
  have e8 : cn (wu w (o + 9 + 5 * n + 4) v) (o + 8) = cn w (o + 8) := by unfold cn; rw [wu_ne (by omega)]
  obtain ⟨b1, b2, b3, b4, b5⟩ := a10 m (by omega) m8
  refine ⟨?_, ?_, ?_, ?_, ?_⟩
  all_goals try (rw [y_up2 (by omega), wu_ne (by omega)]; assumption)
  by_cases e : m = n
  · rw [y_up1 rfl e, wu_at (by omega)]
  · rw [y_up2 (by omega), wu_ne (by omega)]
    exact b5
theorem Wd_shn {n : Nat} {v : Int32} (h : Wd w) (hs : s < cn w 2621) (h8 : s < 8) (n8 : n < 8) (hv : v = -1 ∨ ¬ v < 0 ∧ v < w 460) (nI : WdI (wu w (2622 + 49 * s + 9 + 5 * n + 4) v)) : Wd (wu w (2622 + 49 * s + 9 + 5 * n + 4) v) := by
  obtain ⟨a1, a2, a3, a4, a5, a6, a7, a8, a9⟩ := h.2.2.2.2.1.1 s hs h8
  have e8 : cn (wu w (2622 + 49 * s + 9 + 5 * n + 4) v) (2622 + 49 * s + 8) = cn w (2622 + 49 * s + 8) := by unfold cn; rw [wu_ne (by omega)]
  refine Wd_sh h hs h8 (fun z hz => wu_ne (by omega)) ⟨?_, ?_, ?_, ?_, ?_, ?_, ?_, isc_fr a8 (wu_ne (by omega)), fun m hm m8 => ⟨?_, ?_⟩⟩ (fun m hm m8 => ?_) nI
  all_goals try (simp (disch := omega) only [wu_ne]; assumption)
  · rw [wu_ne (by omega)]
    exact (a9 m (by omega) m8).1
  · by_cases e : m = n
    · rw [wu_at (by omega), wu_ne (by omega)]
      exact hv
    · rw [wu_ne (by omega), wu_ne (by omega)]
      exact (a9 m (by omega) m8).2
  · rw [wu_ne (by omega), wu_ne (by omega)]
    exact h.2.2.2.2.2.2.2.2.2.1.2.1 s hs h8 m (by omega) m8
theorem Rep_pc (h : Rep B i b w) (hb : b + 260 ≤ 874) (h120 : p < 120) (hi : ∀ q k, q ≠ b + 92 + p → i' q k = i q k) (hw : ∀ z, (z < 461 + 18 * p ∨ 461 + 18 * p + 18 ≤ z) → w' z = w z) (n : PcR i' (b + 92 + p) w' (461 + 18 * p)) : Rep B i' b w' := by
  have hh : ∀ t, hrt w' t = hrt w t := hrt_fr fun t ht => hw _ (by omega)
  refine Rep_piece h (Le.rf B) hb rfl ⟨?_, fun t ht t8 => ?_⟩ (fun q k h1 h2 h3 h4 => hi q k (by omega)) (fun q h1 _ => funext fun k => hi q k (by omega)) fun z h1 h2 => hw z (by omega)
  · rw [hi _ _ (by omega), hw _ (by omega)]
    exact h.2.2.1.1
  · by_cases e : t = p
    · subst e
      exact n
    · have e21 : cn w' 460 = cn w 460 := by unfold cn; rw [hw _ (by omega)]
      obtain ⟨a1, a2, a3, a4, a5, a6, a7, a8, a9, a10, a11, a12, a13, a14, a15, a16, a17, a18, a19⟩ := h.2.2.1.2 t (by omega) t8
      refine ⟨?_, ?_, ?_, ?_, ?_, ?_, ?_, ?_, ?_, ?_, ?_, ?_, ?_, ?_, ?_, ?_, ?_, fun e => ?_, ?_⟩
      all_goals try (rw [hi _ _ (by omega), hw _ (by omega)]; assumption)
      · rw [hi _ _ (by omega), hw _ (by omega)]
        exact a18 (by rw [hw _ (by omega)] at e; exact e)
      · rw [hi _ _ (by omega), hw _ (by omega), hh]
        exact a19
/-- how much one piece counts for the masts' length -/
def lnt (w : Nat → Int32) (p : Nat) : Nat := if w (461 + 18 * p) = 2 ∧ w (461 + 18 * p + 1) ≠ 5 then cn w (461 + 18 * p + 2) else 0
theorem lng_lnt : lng w = itr (fun p a => a + lnt w p) (cn w 460) 0 := rfl
theorem itr_mono {f g : Nat → Nat} {n : Nat} (h : ∀ k, k < n → f k ≤ g k) : itr (fun p a => a + f p) n 0 ≤ itr (fun p a => a + g p) n 0 := by
  induction n with
  | zero => exact Nat.le_refl _
  | succ n ih => exact Nat.add_le_add (ih fun k hk => h k (by omega)) (h n (by omega))
theorem lng_mono (e : cn w' 460 = cn w 460) (h : ∀ p, p < cn w 460 → lnt w' p ≤ lnt w p) : lng w' ≤ lng w := by
  rw [lng_lnt, lng_lnt, e]
  exact itr_mono h
/-- one piece changes: if it fits a need, it still says so -/
theorem WdI_pc (h : WdI w) (hw : ∀ z, (z < 461 + 18 * p ∨ 461 + 18 * p + 18 ≤ z) → w' z = w z) (h120 : p < 120) (hk : ∀ s n, s < cn w 2621 → s < 8 → n < cn w (2622 + 49 * s + 8) → n < 8 → ¬ w (2622 + 49 * s + 9 + 5 * n + 4) = -1 → cn w (2622 + 49 * s + 9 + 5 * n + 4) = p → w' (461 + 18 * p + 1) = 3 ∧ w' (461 + 18 * p + 11) = Int32.ofNat s ∧ w' (461 + 18 * p + 12) = Int32.ofNat n) : WdI w' := by
  intro s hs s8 n hn n8 g hp
  have c21 : cn w' 2621 = cn w 2621 := by unfold cn; rw [hw _ (by omega)]
  have c8 : cn w' (2622 + 49 * s + 8) = cn w (2622 + 49 * s + 8) := by unfold cn; rw [hw _ (by omega)]
  have c4 : cn w' (2622 + 49 * s + 9 + 5 * n + 4) = cn w (2622 + 49 * s + 9 + 5 * n + 4) := by unfold cn; rw [hw _ (by omega)]
  rw [c4] at hp ⊢
  rw [hw _ (by omega)] at g
  by_cases e : cn w (2622 + 49 * s + 9 + 5 * n + 4) = p
  · have := hk s n (by omega) s8 (by omega) n8 g e
    rw [e]
    exact this
  · rw [hw _ (by omega), hw _ (by omega), hw _ (by omega)]
    exact h s (by omega) s8 n (by omega) n8 g hp
/-- a piece that is in no ship fits no need -/
theorem WdI_no (h : WdI w) (h120 : p < 120) (hp : ¬ w (461 + 18 * p + 1) = 3) {P : Prop} (s n : Nat) (hs : s < cn w 2621) (s8 : s < 8) (hn : n < cn w (2622 + 49 * s + 8)) (n8 : n < 8) (g : ¬ w (2622 + 49 * s + 9 + 5 * n + 4) = -1) (e : cn w (2622 + 49 * s + 9 + 5 * n + 4) = p) : P := by
  have := (h s hs s8 n hn n8 g (by omega)).1
  rw [e] at this
  exact absurd this hp
theorem WdI_clr {s n : Nat} (h : WdI w) : WdI (wu w (2622 + 49 * s + 9 + 5 * n + 4) (-1)) := by
  intro t ht t8 m hm m8 g hp
  by_cases e : 2622 + 49 * t + 9 + 5 * m + 4 = 2622 + 49 * s + 9 + 5 * n + 4
  · exact absurd (wu_at e) g
  · have k : ∀ z, z ≠ 2622 + 49 * s + 9 + 5 * n + 4 → wu w (2622 + 49 * s + 9 + 5 * n + 4) (-1) z = w z := fun z hz => wu_ne hz
    have c4 : cn (wu w (2622 + 49 * s + 9 + 5 * n + 4) (-1)) (2622 + 49 * t + 9 + 5 * m + 4) = cn w (2622 + 49 * t + 9 + 5 * m + 4) := by unfold cn; rw [k _ e]
    have c21 : cn (wu w (2622 + 49 * s + 9 + 5 * n + 4) (-1)) 2621 = cn w 2621 := by unfold cn; rw [k _ (by omega)]
    by_cases e8 : 2622 + 49 * t + 8 = 2622 + 49 * s + 9 + 5 * n + 4
    · exfalso
      unfold cn at hm
      rw [wu_at e8] at hm
      exact absurd hm (Nat.not_lt_zero m)
    · have c8 : cn (wu w (2622 + 49 * s + 9 + 5 * n + 4) (-1)) (2622 + 49 * t + 8) = cn w (2622 + 49 * t + 8) := by unfold cn; rw [k _ e8]
      rw [c4] at hp ⊢
      rw [k _ e] at g
      rw [k _ (by omega), k _ (by omega), k _ (by omega)]
      exact h t (by omega) t8 m (by omega) m8 g hp
theorem Wd_pc (h : Wd w) (hp : p < cn w 460) (h120 : p < 120) (hw : ∀ z, (z < 461 + 18 * p ∨ 461 + 18 * p + 18 ≤ z) → w' z = w z) (n : PcW w' (461 + 18 * p)) (hl : lnt w' p ≤ lnt w p) (hk : ∀ s n, s < cn w 2621 → s < 8 → n < cn w (2622 + 49 * s + 8) → n < 8 → ¬ w (2622 + 49 * s + 9 + 5 * n + 4) = -1 → cn w (2622 + 49 * s + 9 + 5 * n + 4) = p → w' (461 + 18 * p + 1) = 3 ∧ w' (461 + 18 * p + 11) = Int32.ofNat s ∧ w' (461 + 18 * p + 12) = Int32.ofNat n) : Wd w' := by
  have e21 : cn w' 460 = cn w 460 := by unfold cn; rw [hw _ (by omega)]
  refine Wd_piece h ⟨fun t ht t8 => ?_, ?_⟩ (WdI_pc h.2.2.2.2.2.2.2.2.2.2 hw h120 hk) fun z h1 h2 => hw z (by omega)
  · by_cases e : t = p
    · subst e
      exact n
    · exact PcW_fr (h.2.2.2.1.1 t (by omega) t8) fun z hz => hw z (by omega)
  · rw [e21]
    refine Nat.le_trans (lng_mono e21 fun t ht => ?_) h.2.2.2.1.2
    by_cases e : t = p
    · subst e
      exact hl
    · have h120 := h.1.2.2.1.2
      unfold lnt cn
      rw [hw (461 + 18 * t) (by omega), hw (461 + 18 * t + 1) (by omega), hw (461 + 18 * t + 2) (by omega)]
      exact Nat.le_refl _
end OneChanges
