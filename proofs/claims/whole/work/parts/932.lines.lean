/-! TEXTS ON THE TAPE: what the lines are. Made by wip/whole/math/932.py. -/
def lnsS (N : Nat → Nat) (L : Nat) : Nat → Nat → PS → Nat ⊕ (Nat × PS)
  | 0, _, st => .inl (tb N L st.1)
  | m + 1, n, st => match lnS N L n st with
    | .inl f => .inl f
    | .inr s1 => if ¬ tb N L s1.1 < L then .inr (n + 1, s1) else if N (tb N L s1.1) = 59 then lnsS N L m (n + 1) (tb N L s1.1 + 1, s1.2) else .inl (tb N L s1.1)
/-- what the tape says -/
def txtS (N : Nat → Nat) (L : Nat) (u : Nat → Int32) : Nat ⊕ (Nat × PS) := if tb N L 0 < L then lnsS N L 12 0 (tb N L 0, 0, u) else .inr (0, (tb N L 0, 0, u))
/-- a line as it is written down -/
def LnO (u : Nat → Int32) (n s e : Nat) : Prop := ∃ v y, v < 4 ∧ y < 100000 ∧ u (12044 + 4 * n) = Int32.ofNat v ∧ u (12044 + 4 * n + 1) = Int32.ofNat y ∧ u (12044 + 4 * n + 2) = Int32.ofNat s ∧ u (12044 + 4 * n + 3) = Int32.ofNat e ∧ (s = e ∨ (s < e ∧ CE u s e 15))
section Lines
variable {N : Nat → Nat} {d D L H p b e q n s f c v y m : Nat} {u u' : Nat → Int32} {st s1 : PS} {a : Nat × Nat} {r : Nat × PS}

theorem LnO_fr (h : LnO u n s e) (h12 : n < 12) (hu : ∀ z, 12044 + 4 * n ≤ z → (z < 12044 + 4 * n + 4 ∨ (12092 + 2 * s ≤ z ∧ z < 12092 + 2 * e)) → u' z = u z) : LnO u' n s e := by
  obtain ⟨v, y, h1, h2, h3, h4, h5, h6, h7⟩ := h
  refine ⟨v, y, h1, h2, (hu _ (by omega) (by omega)).trans h3, (hu _ (by omega) (by omega)).trans h4, (hu _ (by omega) (by omega)).trans h5, (hu _ (by omega) (by omega)).trans h6, h7.imp id fun q => ⟨q.1, CE_fr q.2 (fun z z1 z2 => hu z (by omega) (by omega)) (Nat.le_refl _)⟩⟩
theorem ln_pr (h1 : st.1 ≤ L) (h2 : st.2.1 ≤ st.1) (h12 : n < 12) (h : lnS N L n st = .inr s1) : (st.1 < s1.1 ∧ s1.1 ≤ L) ∧ (st.2.1 ≤ s1.2.1 ∧ s1.2.1 ≤ s1.1) ∧ (∀ z, (z < 12044 + 4 * n ∨ (12044 + 4 * n + 4 ≤ z ∧ z < 12092 + 2 * st.2.1) ∨ (12092 ≤ z ∧ 12092 + 2 * s1.2.1 ≤ z)) → s1.2.2 z = st.2.2 z) ∧ LnO s1.2.2 n st.2.1 s1.2.1 := by
  obtain ⟨t1, t2⟩ := tb_bnd (N := N) h1
  unfold lnS at h
  cases hw : wix N (tb N L st.1) (lw N L (tb N L st.1)) [10, 11, 12, 13] 0 with
  | none => rw [hw] at h; exact nomatch h
  | some v =>
    rw [hw] at h
    dsimp only at h
    obtain ⟨a1, a2, a3⟩ := wix_lt (by decide) hw t2
    have a3 : v < 4 := a3
    cases hv : valS N L v (lw N L (tb N L st.1)) with
    | inl f => rw [hv] at h; exact nomatch h
    | inr a =>
      rw [hv] at h
      dsimp only at h
      obtain ⟨v1, v2, v3⟩ := valS_ok hv a2 a3
      obtain ⟨t3, t4⟩ := tb_bnd (N := N) v2
      have base : ∀ p, a.2 ≤ p → p ≤ L → s1 = (p, st.2.1, lin st.2.2 n v a.1 st.2.1) → (st.1 < s1.1 ∧ s1.1 ≤ L) ∧ (st.2.1 ≤ s1.2.1 ∧ s1.2.1 ≤ s1.1) ∧ (∀ z, (z < 12044 + 4 * n ∨ (12044 + 4 * n + 4 ≤ z ∧ z < 12092 + 2 * st.2.1) ∨ (12092 ≤ z ∧ 12092 + 2 * s1.2.1 ≤ z)) → s1.2.2 z = st.2.2 z) ∧ LnO s1.2.2 n st.2.1 s1.2.1 := by
        rintro p p1 p2 rfl
        dsimp only
        exact ⟨⟨by omega, p2⟩, ⟨Nat.le_refl _, by omega⟩, fun z hz => lin_ne (by omega), v, a.1, a3, v3, lin_0, lin_1, lin_2, lin_3, Or.inl rfl⟩
      unfold ifS at h
      split at h
      · exact base _ (Nat.le_refl _) v2 (Sum.inr.inj h).symm
      · split at h
        · next gi =>
          obtain ⟨i1, i2, -⟩ := isw_lt gi (by decide) t4
          obtain ⟨sa, ha, hb⟩ := bnP_in h
          obtain ⟨b1, b2, b3, b4, b5, b6⟩ := cndS_pr (atm_pr 6) (by omega) _ sa i2 ha
          dsimp only at b2 b3 b4 b5 b6
          have e := (Sum.inr.inj hb).symm
          subst e
          have u6 : ∀ z, z ≠ 12044 + 4 * n + 3 → (lnd n sa).2.2 z = sa.2.2 z := fun z hz => wu_ne hz
          have u5 : ∀ z, z < 12092 → sa.2.2 z = lin st.2.2 n v a.1 st.2.1 z := fun z hz => b5 z (by omega)
          refine ⟨⟨by show st.1 < sa.1; omega, b1⟩, ⟨by show st.2.1 ≤ sa.2.1; omega, by show sa.2.1 ≤ sa.1; omega⟩, fun z hz => ?_, v, a.1, a3, v3, (u6 _ (by omega)).trans ((u5 _ (by omega)).trans lin_0), (u6 _ (by omega)).trans ((u5 _ (by omega)).trans lin_1), (u6 _ (by omega)).trans ((u5 _ (by omega)).trans lin_2), wu_at rfl, Or.inr ⟨b3, ?_⟩⟩
          · have hz : (z < 12044 + 4 * n ∨ (12044 + 4 * n + 4 ≤ z ∧ z < 12092 + 2 * st.2.1) ∨ (12092 ≤ z ∧ 12092 + 2 * sa.2.1 ≤ z)) := hz
            rw [u6 z (by omega), b5 z (by omega), lin_ne (by omega)]
          · show CE (wu sa.2.2 (12044 + 4 * n + 3) (Int32.ofNat sa.2.1)) st.2.1 sa.2.1 15
            exact CE_fr b6 (fun z z1 z2 => wu_ne (by omega)) (by omega)
        · exact base _ t3 t4 (Sum.inr.inj h).symm
theorem lns_pr (m : Nat) : ∀ (n : Nat) (st : PS) (e : Nat → Nat), n + m = 12 → st.1 ≤ L → st.2.1 ≤ st.1 → e n = st.2.1 → (∀ k, k < n → e k ≤ e (k + 1) ∧ e (k + 1) ≤ st.2.1 ∧ LnO st.2.2 k (e k) (e (k + 1))) → lnsS N L m n st = .inr r → ∃ e' : Nat → Nat, (∀ k, k ≤ n → e' k = e k) ∧ e' r.1 = r.2.2.1 ∧ (n ≤ r.1 ∧ r.1 ≤ 12) ∧ r.2.2.1 ≤ L ∧ ∀ k, k < r.1 → e' k ≤ e' (k + 1) ∧ e' (k + 1) ≤ r.2.2.1 ∧ LnO r.2.2.2 k (e' k) (e' (k + 1)) := by
  induction m with
  | zero => exact fun n st e _ _ _ _ _ h => nomatch h
  | succ m ih =>
    intro n st e hn h1 h2 he hL h
    unfold lnsS at h
    cases hl : lnS N L n st with
    | inl f => rw [hl] at h; exact nomatch h
    | inr s1 =>
      rw [hl] at h
      dsimp only at h
      obtain ⟨⟨a1, a2⟩, ⟨a3, a4⟩, a5, a6⟩ := ln_pr h1 h2 (by omega) hl
      have hL2 : ∀ k, k < n + 1 → (fun k => if k = n + 1 then s1.2.1 else e k) k ≤ (fun k => if k = n + 1 then s1.2.1 else e k) (k + 1) ∧ (fun k => if k = n + 1 then s1.2.1 else e k) (k + 1) ≤ s1.2.1 ∧ LnO s1.2.2 k ((fun k => if k = n + 1 then s1.2.1 else e k) k) ((fun k => if k = n + 1 then s1.2.1 else e k) (k + 1)) := by
        intro k hk
        dsimp only
        rw [if_neg (by omega)]
        by_cases q : k = n
        · subst q
          rw [if_pos rfl, he]
          exact ⟨a3, Nat.le_refl _, a6⟩
        · obtain ⟨c1, c2, c3⟩ := hL k (by omega)
          rw [if_neg (by omega)]
          exact ⟨c1, by omega, LnO_fr c3 (by omega) fun z z1 z2 => a5 z (by omega)⟩
      split at h
      · have := Sum.inr.inj h
        subst this
        exact ⟨fun k => if k = n + 1 then s1.2.1 else e k, fun k hk => if_neg (by omega), if_pos rfl, ⟨by omega, by omega⟩, by show s1.2.1 ≤ L; omega, hL2⟩
      · next g0 =>
        split at h
        · have g0 : tb N L s1.1 < L := Classical.not_not.mp g0
          have t1 : s1.1 ≤ tb N L s1.1 := rn_ge
          obtain ⟨e', c1, c2, c3, c4, c5⟩ := ih (n + 1) (tb N L s1.1 + 1, s1.2) (fun k => if k = n + 1 then s1.2.1 else e k) (by omega) (by show tb N L s1.1 + 1 ≤ L; omega) (by show s1.2.1 ≤ tb N L s1.1 + 1; omega) (if_pos rfl) hL2 h
          exact ⟨e', fun k hk => (c1 k (by omega)).trans (if_neg (by omega)), c2, ⟨by omega, c3.2⟩, c4, c5⟩
        · exact nomatch h
/-- the ends of the lines of a text -/
theorem txt_pr (h : txtS N L u = .inr r) : ∃ e : Nat → Nat, e 0 = 0 ∧ e r.1 = r.2.2.1 ∧ r.1 ≤ 12 ∧ r.2.2.1 ≤ L ∧ ∀ k, k < r.1 → e k ≤ e (k + 1) ∧ e (k + 1) ≤ r.2.2.1 ∧ LnO r.2.2.2 k (e k) (e (k + 1)) := by
  unfold txtS at h
  split at h
  · next g =>
    obtain ⟨e', c1, c2, c3, c4, c5⟩ := lns_pr (r := r) 12 0 (tb N L 0, 0, u) (fun _ => 0) (by omega) (Nat.le_of_lt g) (Nat.zero_le _) rfl (fun k hk => absurd hk (Nat.not_lt_zero _)) h
    exact ⟨e', c1 0 (Nat.le_refl _), c2, c3.2, c4, c5⟩
  · have := Sum.inr.inj h
    subst this
    exact ⟨fun _ => 0, rfl, rfl, by show 0 ≤ 12; omega, Nat.zero_le _, fun k hk => absurd hk (Nat.not_lt_zero _)⟩
end Lines
