/-! EVERY ROW IS RIGHT -/
theorem rk_all : ∀ (q : Nat) (r : List am_M), am_nth tm_all q = some r → rb_l (20 * q) r = true := by
  intro q r h
  match q with
  | 0 => cases h; exact rk_0
  | 1 => cases h; exact rk_1
  | 2 => cases h; exact rk_2
  | 3 => cases h; exact rk_3
  | 4 => cases h; exact rk_4
  | 5 => cases h; exact rk_5
  | 6 => cases h; exact rk_6
  | 7 => cases h; exact rk_7
  | 8 => cases h; exact rk_8
  | 9 => cases h; exact rk_9
  | 10 => cases h; exact rk_10
  | 11 => cases h; exact rk_11
  | 12 => cases h; exact rk_12
  | 13 => cases h; exact rk_13
  | 14 => cases h; exact rk_14
  | 15 => cases h; exact rk_15
  | 16 => cases h; exact rk_16
  | 17 => cases h; exact rk_17
  | 18 => cases h; exact rk_18
  | 19 => cases h; exact rk_19
  | q + 20 => exact absurd h (by simp [tm_all, am_nth])
theorem rows_0 (m pc : Nat) (w : am_row) (h : am_code am_P m pc = some w) : so_ok sq_0 m pc w := by
  unfold am_code at h
  split at h
  · cases h
  · rename_i M hM
    unfold am_P at hM
    split at hM
    · cases hM
    · rename_i r hr
      have h1 := rk_all _ r hr
      obtain ⟨ho, ht⟩ := rb_l_at r (20 * (m / 20)) (m % 20) M h1 hM
      rw [Nat.div_add_mod m 20] at ho ht
      split at h
      · cases h
      · rename_i rr hrr
        split at h
        · rename_i x hx
          cases h
          have h2 := rb_t_at M.1 0 (pc / 16) (pc % 16) rr w ht hrr hx
          rw [Nat.zero_add, Nat.div_add_mod pc 16] at h2
          exact rb_ok ho h2
        · cases h
theorem hx_Z {X : Nat × va_G × (Nat → ClassId) × am_A × (Nat → Nat) × (Nat → Nat)} {own : String} (l1 : List ExceptionTableEntry) : ∀ (l2 : List (Nat × Nat × Nat × Nat)), so_hx sq_0 own l1 l2 → so_hx (sq_Z X) own l1 l2 := by
  induction l1 with
  | nil =>
    intro l2 h
    cases l2 with
    | nil => exact True.intro
    | cons y ys => exact h
  | cons z zs ih =>
    intro l2 h
    cases l2 with
    | nil => exact h
    | cons y ys =>
      obtain ⟨h1, h2, h3, h4, h5, h6, h7, h8, h9⟩ := h
      exact ⟨h1, h2, h3, h4, h5, h6, h7, h8, ih ys h9⟩
theorem my_Z {X : Nat × va_G × (Nat → ClassId) × am_A × (Nat → Nat) × (Nat → Nat)} {y : Nat} (h : so_my sq_0 y) : so_my (sq_Z X) y := by
  obtain ⟨h1, h2⟩ := h
  refine ⟨h1, ?_⟩
  rcases h2 with ⟨q1, q2⟩ | ⟨hh, q1, q2, q3, q4⟩
  · exact Or.inl ⟨q1, q2⟩
  · exact Or.inr ⟨hh, q1, q2, hx_Z _ _ q3, q4⟩
theorem iv_Z {X : Nat × va_G × (Nat → ClassId) × am_A × (Nat → Nat) × (Nat → Nat)} {own : String} {idx k y n z : Nat} (h : so_iv sq_0 own idx k y n z) : so_iv (sq_Z X) own idx k y n z := by
  obtain ⟨h1, h2⟩ := h
  exact ⟨my_Z h1, h2⟩
theorem rows_ok (X : Nat × va_G × (Nat → ClassId) × am_A × (Nat → Nat) × (Nat → Nat)) (m pc : Nat) (w : am_row) (h : am_code (zP (sq_Z X)) m pc = some w) : so_ok (sq_Z X) m pc w := by
  have h0 := rows_0 m pc w h
  clear h
  obtain ⟨i, len, a, b, c, e, v0, u0, ts, d1, d2⟩ := w
  cases i
  case invokevirtual idx =>
    obtain ⟨hd, hl, h1⟩ := h0
    exact ⟨hd, hl, Or.imp (fun q => ⟨q.1, iv_Z q.2⟩) (fun q => q) h1⟩
  case invokestatic idx =>
    obtain ⟨hd, hl, h1⟩ := h0
    exact ⟨hd, hl, Or.imp (fun q => ⟨q.1, iv_Z q.2⟩) (fun q => q) h1⟩
  case invokespecial idx =>
    obtain ⟨hd, hl, h1⟩ := h0
    exact ⟨hd, hl, Or.imp (fun q => ⟨q.1, iv_Z q.2⟩) (fun q => q) h1⟩
  all_goals exact h0
