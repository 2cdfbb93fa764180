/-! TEXTS ON THE TAPE: what a condition is read to. Made by wip/whole/math/924.py. -/
/-- a step of a condition, from one height to the next -/
def stO (u : Nat → Int32) (i x y : Nat) : Prop := ¬ u (12092 + 2 * i) < 0 ∧ u (12092 + 2 * i) < 303 ∧
  (u (12092 + 2 * i) < 300 → (u (12092 + 2 * i) < 5 ∨ (¬ u (12092 + 2 * i) < 100 ∧ u (12092 + 2 * i) < 106) ∨ (¬ u (12092 + 2 * i) < 200 ∧ u (12092 + 2 * i) < 206)) ∧ ¬ u (12092 + 2 * i + 1) < 0 ∧ u (12092 + 2 * i + 1) < 100000 ∧ y = x + 1) ∧
  (u (12092 + 2 * i) = 300 → 1 ≤ x ∧ y = x) ∧ (¬ u (12092 + 2 * i) < 301 → 2 ≤ x ∧ y + 1 = x)
/-- the steps from a to e put one answer on the heap of answers, and need room for H -/
def CE (u : Nat → Int32) (a e H : Nat) : Prop := ∃ dp : Nat → Nat, dp a = 0 ∧ dp e = 1 ∧ ∀ i, a ≤ i → i < e → dp i ≤ H ∧ dp (i + 1) ≤ H ∧ stO u i (dp i) (dp (i + 1))
def Pg (L H : Nat) (st s1 : PS) : Prop := s1.1 ≤ L ∧ st.1 < s1.1 ∧ st.2.1 < s1.2.1 ∧ s1.2.1 + st.1 ≤ s1.1 + st.2.1 ∧ (∀ z, (z < 12092 + 2 * st.2.1 ∨ 12092 + 2 * s1.2.1 ≤ z) → s1.2.2 z = st.2.2 z) ∧ CE s1.2.2 st.2.1 s1.2.1 H
def Pr (L H : Nat) (A : PS → PR) : Prop := ∀ st s1, st.1 ≤ L → A st = .inr s1 → Pg L H st s1
section Prog
variable {N : Nat → Nat} {L H K b e p s a c m k n : Nat} {u v : Nat → Int32} {st s0 s1 s2 : PS} {A : PS → PR}
theorem stO_fr {x y : Nat} (h : stO u k x y) (h0 : v (12092 + 2 * k) = u (12092 + 2 * k)) (h1 : v (12092 + 2 * k + 1) = u (12092 + 2 * k + 1)) : stO v k x y := by
  unfold stO at h ⊢
  rw [h0, h1]
  exact h
theorem stO_up {x y : Nat} (h : stO u k x y) : stO u k (x + 1) (y + 1) := by
  obtain ⟨a1, a2, a3, a4, a5⟩ := h
  exact ⟨a1, a2, fun q => ⟨(a3 q).1, (a3 q).2.1, (a3 q).2.2.1, by rw [(a3 q).2.2.2]⟩, fun q => ⟨by omega, by rw [(a4 q).2]⟩, fun q => ⟨by have := (a5 q).1; omega, by have := (a5 q).2; omega⟩⟩
theorem CE_fr (h : CE u a e H) (hv : ∀ z, 12092 + 2 * a ≤ z → z < 12092 + 2 * e → v z = u z) (hH : H ≤ K) : CE v a e K := by
  obtain ⟨dp, d0, d1, d⟩ := h
  exact ⟨dp, d0, d1, fun i h1 h2 => ⟨Nat.le_trans (d i h1 h2).1 hH, Nat.le_trans (d i h1 h2).2.1 hH, stO_fr (d i h1 h2).2.2 (hv _ (by omega) (by omega)) (hv _ (by omega) (by omega))⟩⟩
theorem CE_one {x y : Int32} (h : x < 300 ∧ ¬ x < 0 ∧ (x < 5 ∨ (¬ x < 100 ∧ x < 106) ∨ (¬ x < 200 ∧ x < 206)) ∧ ¬ y < 0 ∧ y < 100000) (h0 : u (12092 + 2 * a) = x) (h1 : u (12092 + 2 * a + 1) = y) : CE u a (a + 1) 1 := by
  refine ⟨fun i => i - a, Nat.sub_self a, by dsimp only; omega, fun i i1 i2 => ?_⟩
  have e : i = a := by omega
  subst e
  dsimp only
  rw [show i - i = 0 by omega, show i + 1 - i = 1 by omega]
  refine ⟨Nat.zero_le 1, Nat.le_refl 1, ?_⟩
  unfold stO
  rw [h0, h1]
  obtain ⟨b1, b2, b3, b4, b5⟩ := h
  refine ⟨b2, ?_, fun _ => ⟨b3, b4, b5, rfl⟩, fun q => absurd b1 (by rw [q]; decide), fun q => absurd (Int32.lt_trans b1 (by decide)) q⟩
  exact Int32.lt_trans b1 (by decide)
theorem CE_not (h : CE u a e H) (hae : a ≤ e) (h0 : u (12092 + 2 * e) = 300) (hH : 1 ≤ H) : CE u a (e + 1) H := by
  obtain ⟨dp, d0, d1, d⟩ := h
  refine ⟨fun i => if i ≤ e then dp i else 1, by dsimp only; rw [if_pos hae]; exact d0, by dsimp only; rw [if_neg (by omega)], fun i i1 i2 => ?_⟩
  dsimp only
  rw [if_pos (show i ≤ e by omega)]
  by_cases q : i = e
  · subst q
    rw [if_neg (by omega), d1]
    refine ⟨hH, hH, ?_⟩
    unfold stO
    rw [h0]
    exact ⟨by decide, by decide, fun q => absurd q (by decide), fun _ => ⟨Nat.le_refl 1, rfl⟩, fun q => absurd q (by decide)⟩
  · rw [if_pos (show i + 1 ≤ e by omega)]
    exact d i i1 (by omega)
theorem CE_two {x : Int32} (h1 : CE u a m H) (h2 : CE u m e K) (ham : a ≤ m) (hme : m ≤ e) (hx : x = 301 ∨ x = 302) (h0 : u (12092 + 2 * e) = x) (hK : 2 ≤ K + 1) : CE u a (e + 1) (max H (K + 1)) := by
  obtain ⟨dp, d0, d1, d⟩ := h1
  obtain ⟨ep, e0, e1, ed⟩ := h2
  refine ⟨fun i => if i < m then dp i else if i ≤ e then ep i + 1 else 1, ?_, by dsimp only; rw [if_neg (by omega), if_neg (by omega)], fun i i1 i2 => ?_⟩
  · dsimp only
    by_cases q : a < m
    · rw [if_pos q]
      exact d0
    · have : a = m := by omega
      subst this
      rw [d0] at d1
      exact absurd d1 (by decide)
  · dsimp only
    by_cases q : i < m
    · obtain ⟨a1, a2, a3⟩ := d i i1 q
      rw [if_pos q]
      by_cases q2 : i + 1 < m
      · rw [if_pos q2]
        exact ⟨by omega, by omega, a3⟩
      · have : i + 1 = m := by omega
        rw [if_neg q2, if_pos (by omega), this, e0]
        rw [this, d1] at a3
        exact ⟨by omega, by omega, a3⟩
    · rw [if_neg q, if_neg (by omega : ¬ i + 1 < m), if_pos (show i ≤ e by omega)]
      by_cases q2 : i + 1 ≤ e
      · obtain ⟨a1, a2, a3⟩ := ed i (by omega) (by omega)
        rw [if_pos q2]
        exact ⟨by omega, by omega, stO_up a3⟩
      · have : i = e := by omega
        subst this
        rw [if_neg q2, e1]
        refine ⟨by omega, by omega, ?_⟩
        unfold stO
        rw [h0]
        rcases hx with rfl | rfl
        · exact ⟨by decide, by decide, fun q => absurd q (by decide), fun q => absurd q (by decide), fun _ => ⟨Nat.le_refl 2, rfl⟩⟩
        · exact ⟨by decide, by decide, fun q => absurd q (by decide), fun q => absurd q (by decide), fun _ => ⟨Nat.le_refl 2, rfl⟩⟩
theorem emt_0 {x y : Int32} : emt u s x y (12092 + 2 * s) = x := by
  unfold emt
  rw [wu_ne (by omega), wu_at rfl]
theorem emt_1 {x y : Int32} : emt u s x y (12092 + 2 * s + 1) = y := wu_at rfl
theorem emt_ne {x y : Int32} {z : Nat} (h : z < 12092 + 2 * s ∨ 12092 + 2 * (s + 1) ≤ z) : emt u s x y z = u z := by
  unfold emt
  rw [wu_ne (by omega), wu_ne (by omega)]
/-- the places that words leave -/
theorem tb_bnd (h : p ≤ L) : p ≤ tb N L p ∧ tb N L p ≤ L := ⟨rn_ge, rn_le h⟩
theorem isw_lt {q : Nat} (h : isw N b (lw N L b) (sx q)) (h0 : 0 < (sx q).length) (hb : b ≤ L) : b < lw N L b ∧ lw N L b ≤ L ∧ b + (sx q).length = lw N L b := by
  have := h.1
  have l := rn_le (N := N) (lo := 97) (hi := 122) hb
  exact ⟨by omega, l, by omega⟩
theorem wix_in : ∀ (qs : List Nat) (j : Nat), wix N b e qs j = some k → ∃ q, q ∈ qs ∧ isw N b e (sx q) ∧ j ≤ k ∧ k < j + qs.length := by
  intro qs
  induction qs with
  | nil => exact fun j h => nomatch h
  | cons w r ih =>
    intro j h
    by_cases g : isw N b e (sx w)
    · rw [show wix N b e (w :: r) j = some j from if_pos g] at h
      have : j = k := Option.some.inj h
      exact ⟨w, List.mem_cons_self, g, by omega, by rw [List.length_cons]; omega⟩
    · rw [show wix N b e (w :: r) j = wix N b e r (j + 1) from if_neg g] at h
      obtain ⟨q, h1, h2, h3, h4⟩ := ih (j + 1) h
      exact ⟨q, List.mem_cons_of_mem _ h1, h2, by omega, by rw [List.length_cons]; omega⟩
theorem wix_lt {qs : List Nat} (hs : ∀ q, q ∈ qs → 0 < (sx q).length) (h : wix N b (lw N L b) qs 0 = some k) (hb : b ≤ L) : b < lw N L b ∧ lw N L b ≤ L ∧ k < qs.length := by
  obtain ⟨q, h1, h2, -, h4⟩ := wix_in qs 0 h
  obtain ⟨a1, a2, -⟩ := isw_lt h2 (hs q h1) hb
  exact ⟨a1, a2, by omega⟩
theorem num_ok (h : num N L b m = some k) (hb : b ≤ L) : b < rn N L 48 57 b ∧ rn N L 48 57 b ≤ L ∧ k ≤ m := by
  unfold num at h
  split at h
  · exact nomatch h
  · have := Option.some.inj h
    have g1 := rn_ge (N := N) (L := L) (lo := 48) (hi := 57) (b := b)
    exact ⟨by omega, rn_le hb, by omega⟩
theorem facS_pr (hk : k = 100 ∨ k = 200) (hf : m < 6) (hb : b < L) (hp : st.1 < b) (h : facS N L k m b st = .inr s1) : Pg L 1 st s1 := by
  unfold facS at h
  obtain ⟨t1, t2⟩ := tb_bnd (N := N) (L := L) (p := b + 1) (by omega)
  split at h
  · exact nomatch h
  · next v hv =>
    obtain ⟨n1, n2, n3⟩ := num_ok hv t2
    have := Sum.inr.inj h
    subst this
    refine ⟨n2, by show st.1 < rn N L 48 57 (tb N L (b + 1)); omega, Nat.lt_succ_self _, by show st.2.1 + 1 + st.1 ≤ rn N L 48 57 (tb N L (b + 1)) + st.2.1; omega, fun z hz => emt_ne hz, CE_one (x := Int32.ofNat (k + m)) (y := Int32.ofNat v) ?_ emt_0 emt_1⟩
    have e1 : Int32.ofNat (k + m) < 300 := by rw [z_ltl (by omega) (by decide)]; omega
    refine ⟨e1, by rw [z_neg (by omega)]; exact id, ?_, by rw [z_neg (by omega)]; exact id, by rw [z_ltl (by omega) (by decide)]; omega⟩
    rcases hk with rfl | rfl
    · exact Or.inr (Or.inl ⟨by rw [z_ltl (by omega) (by decide)]; omega, by rw [z_ltl (by omega) (by decide)]; omega⟩)
    · exact Or.inr (Or.inr ⟨by rw [z_ltl (by omega) (by decide)]; omega, by rw [z_ltl (by omega) (by decide)]; omega⟩)
theorem simS_pr (hb : b ≤ L) (hp : st.1 ≤ b) (h : simS N L b st = .inr s1) : Pg L 1 st s1 := by
  unfold simS at h
  split at h
  · next t ht =>
    obtain ⟨a1, a2, a3⟩ := wix_lt (by decide) ht hb
    have a3 : t < 5 := a3
    have := Sum.inr.inj h
    subst this
    refine ⟨a2, by show st.1 < lw N L b; omega, Nat.lt_succ_self _, by show st.2.1 + 1 + st.1 ≤ lw N L b + st.2.1; omega, fun z hz => emt_ne hz, CE_one (x := Int32.ofNat t) (y := 0) ?_ emt_0 emt_1⟩
    exact ⟨by rw [z_ltl (by omega) (by decide)]; omega, by rw [z_neg (by omega)]; exact id, Or.inl (by rw [z_ltl (by omega) (by decide)]; omega), by decide, by decide⟩
  · unfold fctS at h
    split at h
    · exact nomatch h
    · next f hf =>
      obtain ⟨a1, a2, a3⟩ := wix_lt (by decide) hf hb
      have a3 : f < 6 := a3
      obtain ⟨t1, t2⟩ := tb_bnd (N := N) (L := L) (p := lw N L b) a2
      split at h
      · next g => exact facS_pr (Or.inl rfl) a3 g.1 (by omega) h
      · split at h
        · next g => exact facS_pr (Or.inr rfl) a3 g.1 (by omega) h
        · exact nomatch h
end Prog
