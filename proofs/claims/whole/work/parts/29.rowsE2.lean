/-! EVERY ROW IS RIGHT, the last methods; the law's own by eight chunks at a time -/
def rb_g (m : Nat) (t : List (List (Option am_row))) : Nat → Nat → Bool
  | _, 0 => true
  | k, n + 1 => (match am_nth t k with
    | some r => decide (r.length ≤ 16) && rb_r m (16 * k) r
    | none => true) && rb_g m t (k + 1) n
theorem rb_g_at {m : Nat} {t : List (List (Option am_row))} (n : Nat) : ∀ (k : Nat), rb_g m t k n = true → ∀ (i : Nat) (r : List (Option am_row)), k ≤ i → i < k + n → am_nth t i = some r → (decide (r.length ≤ 16) && rb_r m (16 * i) r) = true := by
  induction n with
  | zero => intro k _ i r h1 h2; omega
  | succ n ih =>
    intro k h i r h1 h2 hr
    unfold rb_g at h
    rw [Bool.and_eq_true] at h
    rcases Nat.eq_or_lt_of_le h1 with h3 | h3
    · have h4 := h.1
      rw [h3, hr] at h4
      exact h4
    · exact ih (k + 1) h.2 i r h3 (by omega) hr
theorem rb_t_of {m : Nat} (t : List (List (Option am_row))) : ∀ (k : Nat), (∀ (i : Nat) (r : List (Option am_row)), am_nth t i = some r → (decide (r.length ≤ 16) && rb_r m (16 * (k + i)) r) = true) → rb_t m k t = true := by
  induction t with
  | nil => intro k _; rfl
  | cons x t ih =>
    intro k h
    have h0 := h 0 x rfl
    unfold rb_t
    rw [Bool.and_eq_true] at h0
    rw [Bool.and_eq_true, Bool.and_eq_true]
    refine ⟨h0.1, h0.2, ih (k + 1) fun i r hi => ?_⟩
    have h1 := h (i + 1) r hi
    rwa [show k + (i + 1) = k + 1 + i by omega] at h1
theorem rb_l_app (a b : List am_M) : ∀ (m : Nat), rb_l m a = true → rb_l (m + a.length) b = true → rb_l m (a ++ b) = true := by
  induction a with
  | nil => intro m _ h; exact h
  | cons x a ih =>
    intro m h1 h2
    rw [List.cons_append]
    unfold rb_l at h1 ⊢
    rw [Bool.and_eq_true, Bool.and_eq_true] at h1
    rw [Bool.and_eq_true, Bool.and_eq_true]
    rw [List.length_cons, show m + (a.length + 1) = m + 1 + a.length by omega] at h2
    exact ⟨h1.1, h1.2.1, ih (m + 1) h1.2.2 h2⟩
theorem rb_nth_lt {α : Type} (l : List α) : ∀ (i : Nat) (x : α), am_nth l i = some x → i < l.length := by
  induction l with
  | nil => intro i x h; cases h
  | cons y l ih =>
    intro i x h
    cases i with
    | zero => exact Nat.succ_pos _
    | succ i => exact Nat.succ_lt_succ (ih i x h)
theorem rg_0 : rb_g 397 tb_397 0 8 = true := by decide +kernel
theorem rg_8 : rb_g 397 tb_397 8 8 = true := by decide +kernel
theorem rg_16 : rb_g 397 tb_397 16 8 = true := by decide +kernel
theorem rg_24 : rb_g 397 tb_397 24 8 = true := by decide +kernel
theorem rg_32 : rb_g 397 tb_397 32 8 = true := by decide +kernel
theorem rg_40 : rb_g 397 tb_397 40 8 = true := by decide +kernel
theorem rg_48 : rb_g 397 tb_397 48 8 = true := by decide +kernel
theorem rg_56 : rb_g 397 tb_397 56 8 = true := by decide +kernel
theorem rg_64 : rb_g 397 tb_397 64 4 = true := by decide +kernel
theorem rg_68 : rb_g 397 tb_397 68 4 = true := by decide +kernel
theorem rg_72 : rb_g 397 tb_397 72 4 = true := by decide +kernel
theorem rg_76 : rb_g 397 tb_397 76 4 = true := by decide +kernel
theorem rg_80 : rb_g 397 tb_397 80 4 = true := by decide +kernel
theorem rg_84 : rb_g 397 tb_397 84 4 = true := by decide +kernel
theorem rg_88 : rb_g 397 tb_397 88 4 = true := by decide +kernel
theorem rg_92 : rb_g 397 tb_397 92 4 = true := by decide +kernel
theorem rg_96 : rb_g 397 tb_397 96 4 = true := by decide +kernel
theorem rg_100 : rb_g 397 tb_397 100 4 = true := by decide +kernel
theorem rg_104 : rb_g 397 tb_397 104 4 = true := by decide +kernel
theorem rg_108 : rb_g 397 tb_397 108 4 = true := by decide +kernel
