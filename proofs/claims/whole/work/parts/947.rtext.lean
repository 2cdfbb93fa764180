/-! TEXTS ON THE TAPE: where a fault lies; the class reads. Made by wip/whole/math/947.py. -/
def Fb (L : Nat) (A : PS → PR) : Prop := ∀ st f, st.1 ≤ L → A st = .inl f → f ≤ L
section Fault
variable {N : Nat → Nat} {L H K b e p s a c m k n r f v : Nat} {u : Nat → Int32} {st s0 s1 s2 : PS} {A : PS → PR}
theorem facS_fb (hb : b < L) (h : facS N L k m b st = .inl f) : f ≤ L := by
  unfold facS at h
  split at h
  · rw [← Sum.inl.inj h]
    exact rn_le (by omega)
  · exact nomatch h
theorem simS_fb (hb : b ≤ L) (h : simS N L b st = .inl f) : f ≤ L := by
  unfold simS at h
  split at h
  · exact nomatch h
  · unfold fctS at h
    split at h
    · rw [← Sum.inl.inj h]
      exact hb
    · next q hq =>
      obtain ⟨a1, a2, a3⟩ := wix_lt (by decide) hq hb
      split at h
      · next g => exact facS_fb g.1 h
      · split at h
        · next g => exact facS_fb g.1 h
        · rw [← Sum.inl.inj h]
          exact rn_le a2
theorem atL_fb {A C : Option (PS → PR)} (hA : ∀ A', A = some A' → Fb L A') (hC : ∀ C', C = some C' → Fb L C' ∧ Pr L K C') : Fb L (atL N L A C) := by
  intro st f hp h
  obtain ⟨t1, t2⟩ := tb_bnd (N := N) hp
  unfold atL at h
  split at h
  · next g =>
    cases C with
    | none => rw [← Sum.inl.inj h]; exact t2
    | some C =>
      dsimp only at h
      obtain ⟨c1, c2⟩ := hC C rfl
      cases e : C (tb N L st.1 + 1, st.2) with
      | inl f' =>
        rw [e] at h
        rw [← Sum.inl.inj h]
        exact c1 _ _ (by show tb N L st.1 + 1 ≤ L; omega) e
      | inr sa =>
        rw [e] at h
        obtain ⟨b1, -⟩ := c2 _ sa (by show tb N L st.1 + 1 ≤ L; omega) e
        unfold brkS at h
        dsimp only at h
        split at h
        · exact nomatch h
        · rw [← Sum.inl.inj h]
          exact rn_le b1
  · split at h
    · next g =>
      cases A with
      | none => rw [← Sum.inl.inj h]; exact t2
      | some A =>
        dsimp only at h
        obtain ⟨l1, l2, -⟩ := isw_lt g (by decide) t2
        cases e : A (lw N L (tb N L st.1), st.2) with
        | inl f' =>
          rw [e] at h
          rw [← Sum.inl.inj h]
          exact hA A rfl _ _ l2 e
        | inr sa => rw [e] at h; exact nomatch h
    · exact simS_fb t2 h
theorem lpS_fb {op : Int32} {q : Nat} (hA : Fb L A) (hP : Pr L H A) (hq : 0 < (sx q).length) (n : Nat) : Fb L (lpS N L op q A n) := by
  induction n with
  | zero => exact fun st f hp h => nomatch h
  | succ n ih =>
    intro st f hp h
    unfold lpS at h
    split at h
    · next g =>
      obtain ⟨l1, l2, -⟩ := isw_lt g hq (rn_le hp)
      cases e : A (lw N L (tb N L st.1), st.2) with
      | inl f' =>
        rw [e] at h
        rw [← Sum.inl.inj h]
        exact hA _ _ l2 e
      | inr sa =>
        rw [e] at h
        obtain ⟨b1, -⟩ := hP _ sa l2 e
        exact ih (pem sa op 0) f b1 h
    · exact nomatch h
theorem bnP_fb {B : PS → PR} (hA : Fb L A) (hP : Pr L H A) (hB : Fb L B) : Fb L (fun st => bnP (A st) B) := by
  intro st f hp h
  cases e : A st with
  | inl f' =>
    dsimp only at h
    rw [e] at h
    rw [← Sum.inl.inj h]
    exact hA _ _ hp e
  | inr sa =>
    dsimp only at h
    rw [e] at h
    obtain ⟨b1, -⟩ := hP _ sa hp e
    exact hB sa f b1 h
theorem cnd_fb (hA : Fb L A) (hP : Pr L H A) (h1 : 1 ≤ H) : Fb L (cndS N L A) := by
  have hB : Fb L (allS N L A) := bnP_fb hA hP (lpS_fb hA hP (by decide) 400)
  exact bnP_fb hB (allS_pr hP h1) (lpS_fb hB (allS_pr hP h1) (by decide) 400)
theorem atm_fb : ∀ r, Fb L (atm N L r)
  | 0 => atL_fb (K := 1) (fun _ q => nomatch q) (fun _ q => nomatch q)
  | r + 1 => atL_fb (K := 2 * r + 1 + 2) (fun A' q => by rw [← Option.some.inj q]; exact atm_fb r) (fun C' q => by rw [← Option.some.inj q]; exact ⟨cnd_fb (atm_fb r) (atm_pr r) (by omega), cndS_pr (atm_pr r) (by omega)⟩)
theorem lnS_fb (h12 : n < 12) : Fb L (lnS N L n) := by
  intro st f hp h
  obtain ⟨t1, t2⟩ := tb_bnd (N := N) hp
  unfold lnS at h
  cases hw : wix N (tb N L st.1) (lw N L (tb N L st.1)) [10, 11, 12, 13] 0 with
  | none =>
    rw [hw] at h
    rw [← Sum.inl.inj h]
    exact t2
  | some v =>
    rw [hw] at h
    dsimp only at h
    obtain ⟨a1, a2, a3⟩ := wix_lt (by decide) hw t2
    have a3 : v < 4 := a3
    cases hv : valS N L v (lw N L (tb N L st.1)) with
    | inl f' =>
      rw [hv] at h
      have e := Sum.inl.inj h
      unfold valS at hv
      split at hv
      · split at hv
        · rw [← e, ← Sum.inl.inj hv]
          exact rn_le a2
        · exact nomatch hv
      · split at hv
        · rw [← e, ← Sum.inl.inj hv]
          exact rn_le a2
        · exact nomatch hv
    | inr a =>
      rw [hv] at h
      dsimp only at h
      obtain ⟨v1, v2, v3⟩ := valS_ok hv a2 a3
      unfold ifS at h
      split at h
      · exact nomatch h
      · split at h
        · next gi =>
          obtain ⟨i1, i2, -⟩ := isw_lt gi (by decide) (rn_le v2)
          cases e : cndS N L (atm N L 6) (lw N L (tb N L a.2), st.2.1, lin st.2.2 n v a.1 st.2.1) with
          | inl f' =>
            rw [e] at h
            rw [← Sum.inl.inj h]
            exact cnd_fb (atm_fb 6) (atm_pr 6) (by omega) _ _ i2 e
          | inr sa => rw [e] at h; exact nomatch h
        · exact nomatch h
theorem lns_fb (m : Nat) : ∀ (n : Nat) (st : PS), n + m = 12 → st.1 ≤ L → st.2.1 ≤ st.1 → lnsS N L m n st = .inl f → f ≤ L := by
  induction m with
  | zero =>
    intro n st _ h1 _ h
    rw [← Sum.inl.inj h]
    exact rn_le h1
  | succ m ih =>
    intro n st hn h1 h2 h
    unfold lnsS at h
    cases hl : lnS N L n st with
    | inl f' =>
      rw [hl] at h
      rw [← Sum.inl.inj h]
      exact lnS_fb (by omega) _ _ h1 hl
    | inr s1 =>
      rw [hl] at h
      dsimp only at h
      obtain ⟨⟨a1, a2⟩, ⟨a3, a4⟩, -, -⟩ := ln_pr h1 h2 (by omega) hl
      obtain ⟨t1, t2⟩ := tb_bnd (N := N) a2
      split at h
      · exact nomatch h
      · next g0 =>
        have g0 : tb N L s1.1 < L := Classical.not_not.mp g0
        split at h
        · exact ih (n + 1) (tb N L s1.1 + 1, s1.2) (by omega) (by show tb N L s1.1 + 1 ≤ L; omega) (by show s1.2.1 ≤ tb N L s1.1 + 1; omega) h
        · rw [← Sum.inl.inj h]
          exact t2
theorem txt_fb (h : txtS N L u = .inl f) : f ≤ L := by
  unfold txtS at h
  split at h
  · next g => exact lns_fb 12 0 (tb N L 0, 0, u) (by omega) (Nat.le_of_lt g) (Nat.zero_le _) h
  · exact nomatch h
end Fault
/-- what reading a text does to the class's heap -/
def RO (B : am_A) (i : Nat → Nat → Int32) (x : am_X) : Nat ⊕ (Nat × PS) → Prop
  | .inl f => ∃ j, x = some (.inl (some .null), am_wI B j) ∧ (j 65 1 = 0 ∧ j 65 2 = Int32.ofNat f) ∧ ∀ q k, (q < 65 ∨ q = 66 ∨ 71 ≤ q) → j q k = i q k
  | .inr r => ∃ B1 j, x = some (.inl (some (.ref (am_N B))), am_wI B1 j) ∧ (j 65 1 = 0 ∧ j 65 2 = -1) ∧ (∀ q k, q < am_N B → (q < 65 ∨ q = 66 ∨ 71 ≤ q) → j q k = i q k) ∧ (am_N B1 = am_N B + 5 ∧ am_C B1 = am_C B + 5 ∧ am_S B1 ≤ am_S B + 450 ∧ ∀ q, q < am_N B → am_J B1 q = am_J B q ∧ am_K B1 q = am_K B q ∧ am_L B1 q = am_L B q ∧ am_R B1 q = am_R B q) ∧ TxR B1 j (am_N B) (wu r.2.2.2 12043 (Int32.ofNat r.1)) 12042 ∧ am_L B1 (am_N B + 4) ≤ 400
theorem c_text {B : am_A} {i : Nat → Nat → Int32} {N : Nat → Nat} {L d : Nat} {u : Nat → Int32} (hF : Fc B) (hX : Stx B i) (hc : CT N L i) (hN : 893 ≤ am_N B) : RO B i (am_fx am_P (d + 30) 200 0 [some (.ref 65), none, none] [] (am_wI B i)) (txtS N L u) := by
  have l400 := hc.2.1
  obtain ⟨j0, w0, f0, R⟩ := c_read (d := d) (u := u) hF hX hc
  rw [show d + 29 + 1 = d + 30 by omega] at R
  cases hr : txtS N L u with
  | inl f =>
    rw [hr] at R
    obtain ⟨j1, E1, a2, f1⟩ := R
    have fl := txt_fb hr
    have fa := f0.tr f1
    refine ⟨am_up2 j1 65 1 0, ?_, ⟨y_up1 rfl rfl, (y_up2 (by omega)).trans a2⟩, fun q k hq => (y_up2 (by omega)).trans (fa q k (by omega) (by omega) (by omega) (by omega) (by omega))⟩
    rw [E1]
    exact c_bad94 (d := d + 29) hF (by rw [a2]; exact nom1 (by omega))
  | inr r =>
    rw [hr] at R
    obtain ⟨j1, E1, a2, S1, L1, f1⟩ := R
    obtain ⟨e, e0, e1, r12, rL, ek⟩ := txt_pr hr
    have fa := f0.tr f1
    obtain ⟨B1, j2, E2, ⟨n1, n2, n3, n4, n5⟩, T, l4⟩ := c_made (d := d + 28) (n := r.1) (s := r.2.2.1) (u := r.2.2.2) hF hN (a2.trans w0) L1 S1 r12 (by omega) (fun k hk => ⟨e (k + 1), (ek k hk).2.1, by obtain ⟨v, y, -, -, -, -, -, h6, -⟩ := (ek k hk).2.2; exact h6⟩)
    refine ⟨B1, j2, ?_, ⟨(n5 _ _ (by omega)).trans (y_up1 rfl rfl), (n5 _ _ (by omega)).trans ((y_up2 (by omega)).trans (a2.trans w0))⟩, fun q k h1 h2 => (n5 q k h1).trans ((y_up2 (by omega)).trans (fa q k (by omega) (by omega) (by omega) (by omega) (by omega))), ⟨n1, n2, n3, n4⟩, T, l4⟩
    rw [E1]
    exact E2
