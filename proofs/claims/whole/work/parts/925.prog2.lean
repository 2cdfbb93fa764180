/-! TEXTS ON THE TAPE: what a condition is read to, the loops. Made by wip/whole/math/925.py. -/
section Prog2
variable {N : Nat → Nat} {L H K b e p s a c m k n r : Nat} {u v : Nat → Int32} {st s0 s1 s2 : PS} {A : PS → PR}
theorem Pr_le (h : Pr L H A) (hK : H ≤ K) : Pr L K A := fun st s1 hp e => by
  obtain ⟨a1, a2, a3, a4, a5, a6⟩ := h st s1 hp e
  exact ⟨a1, a2, a3, a4, a5, CE_fr a6 (fun _ _ _ => rfl) hK⟩
theorem atL_pr {A C : Option (PS → PR)} (hA : ∀ A', A = some A' → Pr L K A') (hC : ∀ C', C = some C' → Pr L K C') (h1 : 1 ≤ K) : Pr L K (atL N L A C) := by
  intro st s1 hp h
  obtain ⟨t1, t2⟩ := tb_bnd (N := N) hp
  unfold atL at h
  split at h
  · next g =>
    cases C with
    | none => exact nomatch h
    | some C =>
      dsimp only at h
      cases e : C (tb N L st.1 + 1, st.2) with
      | inl f => rw [e] at h; exact nomatch h
      | inr s2 =>
        obtain ⟨a1, a2, a3, a4, a5, a6⟩ := hC C rfl _ s2 (by show tb N L st.1 + 1 ≤ L; omega) e
        rw [e] at h
        unfold brkS at h
        dsimp only at h a2 a4
        split at h
        · next g2 =>
          have := Sum.inr.inj h
          subst this
          obtain ⟨t3, t4⟩ := tb_bnd (N := N) a1
          exact ⟨g2.1, by show st.1 < tb N L s2.1 + 1; omega, a3, by show s2.2.1 + st.1 ≤ tb N L s2.1 + 1 + st.2.1; omega, a5, a6⟩
        · exact nomatch h
  · split at h
    · next g =>
      cases A with
      | none => exact nomatch h
      | some A =>
        dsimp only at h
        obtain ⟨l1, l2, l3⟩ := isw_lt g (by decide) t2
        have l4 : (sx 5).length = 3 := rfl
        cases e : A (lw N L (tb N L st.1), st.2) with
        | inl f => rw [e] at h; exact nomatch h
        | inr s2 =>
          obtain ⟨a1, a2, a3, a4, a5, a6⟩ := hA A rfl _ s2 l2 e
          rw [e] at h
          have := Sum.inr.inj h
          subst this
          dsimp only at a2 a3 a4 a5 a6
          refine ⟨a1, by show st.1 < s2.1; omega, by show st.2.1 < s2.2.1 + 1; omega, by show s2.2.1 + 1 + st.1 ≤ s2.1 + st.2.1; omega, fun z hz => ?_, ?_⟩
          · exact (emt_ne (by have : z < 12092 + 2 * st.2.1 ∨ 12092 + 2 * (s2.2.1 + 1) ≤ z := hz; omega)).trans (a5 z (by have : z < 12092 + 2 * st.2.1 ∨ 12092 + 2 * (s2.2.1 + 1) ≤ z := hz; omega))
          · exact CE_not (CE_fr a6 (fun z z1 z2 => emt_ne (Or.inl z2)) (Nat.le_refl _)) (by omega) emt_0 h1
    · obtain ⟨a1, a2, a3, a4, a5, a6⟩ := simS_pr t2 t1 h
      exact ⟨a1, a2, a3, a4, a5, CE_fr a6 (fun _ _ _ => rfl) h1⟩
theorem lpS_pr {op : Int32} {q : Nat} (hA : Pr L H A) (hop : op = 301 ∨ op = 302) (hq : 1 < (sx q).length) (h1 : 1 ≤ H) (n : Nat) : ∀ st s1, Pg L (H + 1) s0 st → lpS N L op q A n st = .inr s1 → Pg L (H + 1) s0 s1 := by
  have fin : ∀ st, Pg L (H + 1) s0 st → Pg L (H + 1) s0 (tb N L st.1, st.2) := fun st hst => by
    obtain ⟨a1, a2, a3, a4, a5, a6⟩ := hst
    obtain ⟨t1, t2⟩ := tb_bnd (N := N) a1
    exact ⟨t2, by show s0.1 < tb N L st.1; omega, a3, by show st.2.1 + s0.1 ≤ tb N L st.1 + s0.2.1; omega, a5, a6⟩
  induction n with
  | zero =>
    intro st s1 hst h
    have := Sum.inr.inj h
    subst this
    exact fin st hst
  | succ n ih =>
    intro st s1 hst h
    unfold lpS at h
    split at h
    · next g =>
      obtain ⟨a1, a2, a3, a4, a5, a6⟩ := hst
      obtain ⟨t1, t2⟩ := tb_bnd (N := N) a1
      obtain ⟨l1, l2, l3⟩ := isw_lt g (by omega) t2
      cases e : A (lw N L (tb N L st.1), st.2) with
      | inl f => rw [e] at h; exact nomatch h
      | inr s2 =>
        rw [e] at h
        obtain ⟨b1, b2, b3, b4, b5, b6⟩ := hA _ s2 l2 e
        dsimp only at b2 b3 b4 b5 b6
        refine ih (pem s2 op 0) s1 ⟨b1, by show s0.1 < s2.1; omega, by show s0.2.1 < s2.2.1 + 1; omega, by show s2.2.1 + 1 + s0.1 ≤ s2.1 + s0.2.1; omega, fun z hz => ?_, ?_⟩ h
        · have hz : z < 12092 + 2 * s0.2.1 ∨ 12092 + 2 * (s2.2.1 + 1) ≤ z := hz
          exact (emt_ne (by omega)).trans ((b5 z (by omega)).trans (a5 z (by omega)))
        · have e2 := CE_two (x := op) (u := emt s2.2.2 s2.2.1 op 0) (CE_fr a6 (fun z z1 z2 => (emt_ne (by omega)).trans (b5 z (by omega))) (Nat.le_refl _)) (CE_fr b6 (fun z z1 z2 => emt_ne (Or.inl z2)) (Nat.le_refl _)) (by omega) (by omega) hop emt_0 (by omega)
          rw [Nat.max_self] at e2
          exact e2
    · have := Sum.inr.inj h
      subst this
      exact fin st hst
theorem bnP_in {x : PR} {f : PS → PR} (h : bnP x f = .inr s1) : ∃ s2, x = .inr s2 ∧ f s2 = .inr s1 := by
  cases x with
  | inl e => exact nomatch h
  | inr s2 => exact ⟨s2, rfl, h⟩
theorem allS_pr (hA : Pr L H A) (h1 : 1 ≤ H) : Pr L (H + 1) (allS N L A) := by
  intro st s1 hp h
  obtain ⟨s2, e2, h⟩ := bnP_in h
  exact lpS_pr hA (Or.inl rfl) (by decide) h1 400 s2 s1 (Pr_le hA (Nat.le_succ _) st s2 hp e2) h
theorem cndS_pr (hA : Pr L H A) (h1 : 1 ≤ H) : Pr L (H + 2) (cndS N L A) := by
  intro st s1 hp h
  obtain ⟨s2, e2, h⟩ := bnP_in h
  have hB := allS_pr (N := N) hA h1
  exact lpS_pr hB (Or.inr rfl) (by decide) (by omega) 400 s2 s1 (Pr_le hB (Nat.le_succ _) st s2 hp e2) h
theorem atm_pr : ∀ r, Pr L (2 * r + 1) (atm N L r)
  | 0 => atL_pr (fun _ q => nomatch q) (fun _ q => nomatch q) (by omega)
  | r + 1 => atL_pr (fun A' q => by rw [← Option.some.inj q]; exact Pr_le (atm_pr r) (by omega)) (fun C' q => by rw [← Option.some.inj q]; exact Pr_le (cndS_pr (atm_pr r) (by omega)) (by omega)) (by omega)
end Prog2
