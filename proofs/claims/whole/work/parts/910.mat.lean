/-! WHO CAN HAVE WHAT: made by wip/whole/math/910.py. -/
/-- no more boxes than that -/
theorem pig (N : Nat) : ∀ f : Nat → Nat, (∀ a, a ≤ N → f a < N) → (∀ a b, a ≤ N → b ≤ N → f a = f b → a = b) → False := by
  induction N with
  | zero => exact fun f h _ => Nat.not_lt_zero _ (h 0 (Nat.le_refl 0))
  | succ N ih =>
    intro f h inj
    have hne : ∀ a, a ≤ N → f a ≠ f (N + 1) := fun a ha q => by
      have := inj a (N + 1) (by omega) (by omega) q
      omega
    refine ih (fun a => if f a = N then f (N + 1) else f a) (fun a ha => ?_) (fun a b ha hb e => ?_)
    · have h1 := h a (by omega)
      have h2 := h (N + 1) (by omega)
      have h3 := hne a ha
      split <;> omega
    · have h1 := hne a ha
      have h2 := hne b hb
      by_cases ea : f a = N
      · rw [if_pos ea] at e
        by_cases eb : f b = N
        · exact inj a b (by omega) (by omega) (ea.trans eb.symm)
        · rw [if_neg eb] at e
          exact absurd e.symm h2
      · rw [if_neg ea] at e
        by_cases eb : f b = N
        · rw [if_pos eb] at e
          exact absurd e h1
        · rw [if_neg eb] at e
          exact inj a b (by omega) (by omega) e
/-- each need of S has a slot of its own; no slot holds another need -/
def mat (E : Nat → Nat → Prop) (n : Nat) (S : Nat → Prop) (h : Nat → Option Nat) : Prop :=
  (∀ k u, k < n → h k = some u → S u ∧ E u k) ∧ (∀ k l u, k < n → l < n → h k = some u → h l = some u → k = l) ∧ ∀ u, S u → ∃ k, k < n ∧ h k = some u
/-- the needs of S can all be met -/
def okS (E : Nat → Nat → Prop) (n : Nat) (S : Nat → Prop) : Prop := ∃ f : Nat → Nat, (∀ u, S u → f u < n ∧ E u (f u)) ∧ ∀ u v, S u → S v → f u = f v → u = v
def hup (h : Nat → Option Nat) (k : Nat) (x : Option Nat) : Nat → Option Nat := fun l => if l = k then x else h l
section Mat
variable {E : Nat → Nat → Prop} {n N u0 k l p : Nat} {S T R V : Nat → Prop} {h h' : Nat → Option Nat} {x : Option Nat}
theorem hup_at : hup h k x k = x := if_pos rfl
theorem hup_ne (q : l ≠ k) : hup h k x l = h l := if_neg q
theorem mat_ok (m : mat E n S h) : okS E n S := by
  obtain ⟨m1, m2, m3⟩ := m
  refine ⟨fun u => (List.range n).findIdx (fun k => h k == some u), fun u hu => ?_, fun u v hu hv e => ?_⟩
  · obtain ⟨k, hk, ek⟩ := m3 u hu
    have hl : (List.range n).findIdx (fun k => h k == some u) < (List.range n).length := List.findIdx_lt_length_of_exists ⟨k, List.mem_range.mpr hk, by rw [ek]; exact beq_self_eq_true _⟩
    have hg := List.findIdx_getElem (w := hl)
    rw [List.length_range] at hl
    rw [List.getElem_range] at hg
    exact ⟨hl, (m1 _ u hl (eq_of_beq hg)).2⟩
  · obtain ⟨k, hk, ek⟩ := m3 u hu
    obtain ⟨k2, hk2, ek2⟩ := m3 v hv
    have hl : (List.range n).findIdx (fun k => h k == some u) < (List.range n).length := List.findIdx_lt_length_of_exists ⟨k, List.mem_range.mpr hk, by rw [ek]; exact beq_self_eq_true _⟩
    have hg := List.findIdx_getElem (w := hl)
    have hl2 : (List.range n).findIdx (fun k => h k == some v) < (List.range n).length := List.findIdx_lt_length_of_exists ⟨k2, List.mem_range.mpr hk2, by rw [ek2]; exact beq_self_eq_true _⟩
    have hg2 := List.findIdx_getElem (w := hl2)
    rw [List.getElem_range] at hg hg2
    dsimp only at e
    have a1 := eq_of_beq hg
    have a2 := eq_of_beq hg2
    rw [e] at a1
    exact Option.some.inj (a1.symm.trans a2)
/-- where all that can be reached is held by what is reached, there is one need too many -/
theorem hall (m : mat E n S h) (hN : ∀ u, S u ∨ u = u0 → u < N) (h0 : ¬ S u0) (r0 : R u0) (rS : ∀ u, R u → S u ∨ u = u0) (rV : ∀ u k, R u → k < n → E u k → V k) (vR : ∀ k, k < n → V k → ∃ u, h k = some u ∧ R u) : ¬ okS E n (fun u => S u ∨ u = u0) := by
  rintro ⟨f, f1, f2⟩
  obtain ⟨m1, m2, m3⟩ := m
  have hg : ∃ g : Nat → Nat, ∀ u, R u → h (f u) = some (g u) ∧ R (g u) ∧ S (g u) := by
    refine ⟨fun u => (h (f u)).getD 0, fun u hu => ?_⟩
    obtain ⟨a, b⟩ := f1 u (rS u hu)
    obtain ⟨v, ev, rv⟩ := vR (f u) a (rV u (f u) hu a b)
    dsimp only
    rw [ev]
    exact ⟨rfl, rv, (m1 _ _ a ev).1⟩
  obtain ⟨g, hg⟩ := hg
  have ginj : ∀ u v, R u → R v → g u = g v → u = v := by
    intro u v hu hv e
    have a := (hg u hu).1
    have b := (hg v hv).1
    rw [e] at a
    exact f2 u v (rS u hu) (rS v hv) (m2 _ _ _ (f1 u (rS u hu)).1 (f1 v (rS v hv)).1 a b)
  have hR : ∀ a, R (itr (fun _ u => g u) a u0) := by
    intro a
    induction a with
    | zero => exact r0
    | succ a ih => exact (hg _ ih).2.1
  have hne : ∀ a, itr (fun _ u => g u) (a + 1) u0 ≠ u0 := fun a q => h0 (q ▸ (hg _ (hR a)).2.2)
  refine pig N (fun a => itr (fun _ u => g u) a u0) (fun a _ => hN _ (rS _ (hR a))) fun a b ha hb e => ?_
  have hinj : ∀ a b, itr (fun _ u => g u) a u0 = itr (fun _ u => g u) b u0 → a = b := by
    intro a
    induction a with
    | zero =>
      intro b e
      cases b with
      | zero => rfl
      | succ b => exact absurd e.symm (hne b)
    | succ a ih =>
      intro b e
      cases b with
      | zero => exact absurd e (hne a)
      | succ b => exact congrArg (· + 1) (ih b (ginj _ _ (hR a) (hR b) e))
  exact hinj a b e
/-- a free slot takes the need that was missing -/
theorem mat_fill (m : mat E n S h) (hk : k < n) (e : h k = none) (hE : E u0 k) (h0 : ¬ S u0) : mat E n (fun u => S u ∨ u = u0) (hup h k (some u0)) := by
  obtain ⟨m1, m2, m3⟩ := m
  refine ⟨fun a u ha ea => ?_, fun a b u ha hb ea eb => ?_, fun u hu => ?_⟩
  · by_cases q : a = k
    · subst q
      rw [hup_at] at ea
      obtain rfl := Option.some.inj ea
      exact ⟨Or.inr rfl, hE⟩
    · rw [hup_ne q] at ea
      obtain ⟨c, d⟩ := m1 a u ha ea
      exact ⟨Or.inl c, d⟩
  · by_cases q : a = k
    · by_cases q2 : b = k
      · exact q.trans q2.symm
      · subst q
        rw [hup_at] at ea
        rw [hup_ne q2] at eb
        obtain rfl := Option.some.inj ea
        exact absurd (m1 b _ hb eb).1 h0
    · rw [hup_ne q] at ea
      by_cases q2 : b = k
      · subst q2
        rw [hup_at] at eb
        obtain rfl := Option.some.inj eb
        exact absurd (m1 a _ ha ea).1 h0
      · rw [hup_ne q2] at eb
        exact m2 a b u ha hb ea eb
  · rcases hu with hu | rfl
    · obtain ⟨a, ha, ea⟩ := m3 u hu
      refine ⟨a, ha, ?_⟩
      rw [hup_ne (fun q => by rw [q, e] at ea; exact nomatch ea)]
      exact ea
    · exact ⟨k, hk, hup_at⟩
/-- a need moves from its slot to a free one -/
theorem mat_move (m : mat E n S h) (hk : k < n) (hl : l < n) (e : h k = none) (el : h l = some p) (hE : E p k) : mat E n S (hup (hup h k (some p)) l none) := by
  obtain ⟨m1, m2, m3⟩ := m
  have kl : k ≠ l := fun q => by rw [q, el] at e; exact nomatch e
  have hv : ∀ a u, a < n → hup (hup h k (some p)) l none a = some u → (a = k ∧ u = p) ∨ (a ≠ k ∧ a ≠ l ∧ h a = some u) := by
    intro a u ha ea
    by_cases q : a = l
    · subst q
      rw [hup_at] at ea
      exact nomatch ea
    · rw [hup_ne q] at ea
      by_cases q2 : a = k
      · subst q2
        rw [hup_at] at ea
        exact Or.inl ⟨rfl, (Option.some.inj ea).symm⟩
      · rw [hup_ne q2] at ea
        exact Or.inr ⟨q2, q, ea⟩
  refine ⟨fun a u ha ea => ?_, fun a b u ha hb ea eb => ?_, fun u hu => ?_⟩
  · rcases hv a u ha ea with ⟨rfl, rfl⟩ | ⟨-, -, q⟩
    · exact ⟨(m1 l u hl el).1, hE⟩
    · exact m1 a u ha q
  · rcases hv a u ha ea with ⟨rfl, rfl⟩ | ⟨-, q1, q⟩
    · rcases hv b u hb eb with ⟨rfl, -⟩ | ⟨-, p1, p2⟩
      · rfl
      · exact absurd (m2 b l u hb hl p2 el) p1
    · rcases hv b u hb eb with ⟨rfl, rfl⟩ | ⟨-, -, p2⟩
      · exact absurd (m2 a l u ha hl q el) q1
      · exact m2 a b u ha hb q p2
  · obtain ⟨a, ha, ea⟩ := m3 u hu
    by_cases q : a = l
    · subst q
      rw [el] at ea
      obtain rfl := Option.some.inj ea
      exact ⟨k, hk, by rw [hup_ne kl, hup_at]⟩
    · refine ⟨a, ha, ?_⟩
      rw [hup_ne q, hup_ne (fun q2 => by rw [q2, e] at ea; exact nomatch ea)]
      exact ea
theorem okS_mono (hST : ∀ u, S u → T u) (q : okS E n T) : okS E n S := by
  obtain ⟨f, f1, f2⟩ := q
  exact ⟨f, fun u hu => f1 u (hST u hu), fun u v hu hv => f2 u v (hST u hu) (hST v hv)⟩
theorem okS_cong (hST : ∀ u, S u ↔ T u) : okS E n S ↔ okS E n T := ⟨okS_mono fun u hu => (hST u).mpr hu, okS_mono fun u hu => (hST u).mp hu⟩
end Mat
