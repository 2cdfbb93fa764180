/-! WAR: which sets of ships, the mathematics. Made by wip/whole/math/91b.py. -/
def cntb (f : Nat → Bool) (n : Nat) : Nat := itr (fun k a => if f k = true then a + 1 else a) n 0
/-- at least as good: more ships, or as many and a number no greater -/
def geq (b a : Nat) : Prop := pcn a < pcn b ∨ (pcn a = pcn b ∧ b ≤ a)
/-- what the ships below s that are added need -/
def gnd (w : Nat → Int32) (g : Nat → Bool) (s u : Nat) : Prop := u / 8 < s ∧ g (u / 8) = true ∧ wf1 w (u / 8) = true ∧ u % 8 < nnd w (u / 8)
def VGa (w : Nat → Int32) (g : Nat → Bool) (s : Nat) : Prop := (∀ k, k < s → wf2 w k = true → g k = true) ∧ ∀ k, k < s → g k = true → wf1 w k = true ∨ wf2 w k = true
/-- a set of ships that can float -/
def VG (w : Nat → Int32) (g : Nat → Bool) : Prop := VGa w g (cn w 2621) ∧ okS (eP w) (pls w).1 (gnd w g (cn w 2621))
def gup (g : Nat → Bool) (s : Nat) (b : Bool) : Nat → Bool := fun k => if k = s then b else g k
def agr (g g' : Nat → Bool) (s : Nat) : Prop := ∀ k, k < s → g' k = g k
def DOr (w : Nat → Int32) (s : Nat) (g : Nat → Bool) (b b' : Nat) : Prop := b' = b ∨ ∃ g', VG w g' ∧ agr g g' s ∧ b' = cst g' (cn w 2621)
/-- what deciding the ships from s makes of the best b -/
def DO (w : Nat → Int32) (s : Nat) (g : Nat → Bool) (b b' : Nat) : Prop := DOr w s g b b' ∧ geq b' b ∧ ∀ g', VG w g' → agr g g' s → geq b' (cst g' (cn w 2621))
/-- the same, of those with the ship s alone -/
def DT (w : Nat → Int32) (s : Nat) (g : Nat → Bool) (b b' : Nat) : Prop := DOr w s g b b' ∧ geq b' b ∧ ∀ g', VG w g' → agr g g' s → g' s = true → geq b' (cst g' (cn w 2621))
section DecM
variable {w : Nat → Int32} {n k s b b1 b2 a c : Nat} {f g g' fa fb : Nat → Bool} {h : Nat → Option Nat}
theorem geq_r : geq b b := Or.inr ⟨rfl, Nat.le_refl b⟩
theorem geq_t (h1 : geq b a) (h2 : geq a c) : geq b c := by
  unfold geq at h1 h2 ⊢
  omega
theorem geq_a (h1 : geq b a) (h2 : geq a b) : b = a := by
  unfold geq at h1 h2
  omega
theorem bt2_cst : bt2 (cst f n) k ↔ k < n ∧ f k = true := by
  induction n with
  | zero =>
    constructor
    · intro q
      exact absurd q (by show ¬ 0 / 2 ^ k % 2 = 1; rw [Nat.zero_div]; decide)
    · exact fun q => absurd q.1 (Nat.not_lt_zero _)
  | succ n ih =>
    have lt := cst_lt (f := f) (n := n)
    by_cases kn : k = n
    · subst kn
      have hn := cst_no (f := f) (n := k)
      by_cases g : f k = true
      · rw [cst_s, if_pos g]
        refine ⟨fun _ => ⟨by omega, g⟩, fun _ => ?_⟩
        show (cst f k + 2 ^ k) / 2 ^ k % 2 = 1
        rw [Nat.add_div_right _ (Nat.two_pow_pos k), Nat.div_eq_of_lt lt]
      · rw [cst_s, if_neg g]
        exact ⟨fun q => absurd q hn, fun q => absurd q.2 g⟩
    · have e : bt2 (cst f (n + 1)) k ↔ bt2 (cst f n) k := by
        by_cases g : f n = true
        rotate_left
        · rw [cst_s, if_neg g]
        rw [cst_s, if_pos g]
        show (cst f n + 2 ^ n) / 2 ^ k % 2 = 1 ↔ cst f n / 2 ^ k % 2 = 1
        by_cases kl : k < n
        · rw [show 2 ^ n = 2 ^ k * (2 * 2 ^ (n - k - 1)) by rw [← Nat.mul_assoc, ← Nat.pow_succ, ← Nat.pow_add]; congr 1; omega, Nat.add_mul_div_left _ _ (Nat.two_pow_pos k)]
          generalize cst f n / 2 ^ k = Q
          generalize 2 ^ (n - k - 1) = R
          omega
        · have p : 2 ^ (n + 1) ≤ 2 ^ k := Nat.pow_le_pow_right (by omega) (by omega)
          rw [Nat.pow_succ] at p
          have e1 : (cst f n + 2 ^ n) / 2 ^ k = 0 := Nat.div_eq_of_lt (by omega)
          have e2 : cst f n / 2 ^ k = 0 := Nat.div_eq_of_lt (by omega)
          rw [e1, e2]
      rw [e, ih]
      exact ⟨fun q => ⟨by omega, q.2⟩, fun q => ⟨by omega, q.2⟩⟩
theorem cntb_s : cntb f (n + 1) = if f n = true then cntb f n + 1 else cntb f n := rfl
theorem pcn_cst (hn : n ≤ 8) : pcn (cst f n) = cntb f n := by
  have : ∀ m, m ≤ 8 → itr (fun k a => if bt2 (cst f n) k then a + 1 else a) m 0 = cntb f (min m n) := by
    intro m
    induction m with
    | zero => intro _; rw [Nat.zero_min]; rfl
    | succ m ih =>
      intro hm
      show (if bt2 (cst f n) m then itr _ m 0 + 1 else itr _ m 0) = _
      rw [ih (by omega)]
      by_cases q : m < n
      · rw [show min (m + 1) n = m + 1 by omega, show min m n = m by omega, cntb_s]
        by_cases r : f m = true
        · rw [if_pos r, if_pos (bt2_cst.mpr ⟨q, r⟩)]
        · rw [if_neg r, if_neg fun x => r (bt2_cst.mp x).2]
      · rw [show min (m + 1) n = n by omega, show min m n = n by omega, if_neg fun x => q (bt2_cst.mp x).1]
  have e := this 8 (Nat.le_refl 8)
  rw [show min 8 n = n by omega] at e
  exact e
theorem cst_agr (h : agr f g n) : cst g n = cst f n ∧ cntb g n = cntb f n := by
  induction n with
  | zero => exact ⟨rfl, rfl⟩
  | succ n ih =>
    obtain ⟨e1, e2⟩ := ih fun k hk => h k (by omega)
    rw [cst_s, cst_s, cntb_s, cntb_s, e1, e2, h n (by omega)]
    exact ⟨rfl, rfl⟩
theorem cst_add (h : ∀ k, k < n → (f k = (fa k || fb k)) ∧ (fa k = true → fb k = true → False)) : cst f n = cst fa n + cst fb n ∧ cntb f n = cntb fa n + cntb fb n ∧ Int32.ofNat (cst fa n) ||| Int32.ofNat (cst fb n) = Int32.ofNat (cst f n) ∨ 8 < n := by
  by_cases n8 : 8 < n
  · exact Or.inr n8
  refine Or.inl ?_
  induction n with
  | zero => exact ⟨rfl, rfl, Int32.or_zero⟩
  | succ n ih =>
    obtain ⟨e1, e2, e3⟩ := ih (fun k hk => h k (by omega)) (by omega)
    obtain ⟨a1, a2⟩ := h n (by omega)
    have o1 := cst_or (f := fa) (show n < 8 by omega)
    have o2 := cst_or (f := fb) (show n < 8 by omega)
    have o3 := cst_or (f := f) (show n < 8 by omega)
    refine ⟨?_, ?_, ?_⟩
    · rw [cst_s, cst_s, cst_s, e1, a1]
      cases p : fa n <;> cases q : fb n
      · simp only [Bool.or_self, Bool.false_eq_true, if_false]
      · simp only [Bool.false_or, Bool.false_eq_true, if_false, if_true]; omega
      · simp only [Bool.or_false, Bool.false_eq_true, if_false, if_true]; omega
      · exact (a2 p q).elim
    · rw [cntb_s, cntb_s, cntb_s, e2, a1]
      cases p : fa n <;> cases q : fb n
      · simp only [Bool.or_self, Bool.false_eq_true, if_false]
      · simp only [Bool.false_or, Bool.false_eq_true, if_false, if_true]; omega
      · simp only [Bool.or_false, Bool.false_eq_true, if_false, if_true]; omega
      · exact (a2 p q).elim
    · rw [← o1, ← o2, ← o3, ← e3, a1]
      cases p : fa n <;> cases q : fb n
      · simp only [Bool.or_self, Bool.false_eq_true, if_false, Int32.or_zero]
      · simp only [Bool.false_or, Bool.false_eq_true, if_false, if_true, Int32.or_zero, Int32.or_assoc]
      · simp only [Bool.or_false, Bool.false_eq_true, if_false, if_true, Int32.or_zero]
        rw [Int32.or_assoc, Int32.or_comm ((1 : Int32) <<< (Int32.ofNat n &&& 31)), ← Int32.or_assoc]
      · exact (a2 p q).elim
theorem gup_at {x : Bool} : gup g s x s = x := if_pos rfl
theorem gup_ne {x : Bool} (q : k ≠ s) : gup g s x k = g k := if_neg q
theorem gup_agr {x : Bool} : agr g (gup g s x) s := fun k hk => gup_ne (by omega)
theorem agr_up {x : Bool} (h : agr g g' s) (e : g' s = x) : agr (gup g s x) g' (s + 1) := fun k hk => by
  by_cases q : k = s
  · rw [q, gup_at, e]
  · rw [gup_ne q]
    exact h k (by omega)
theorem agr_dn {x : Bool} (h : agr (gup g s x) g' (s + 1)) : agr g g' s := fun k hk => (h k (by omega)).trans (gup_ne (by omega))
theorem cst_up1 (hs : s < 8) : Int32.ofNat (cst g s) ||| (1 <<< (Int32.ofNat s &&& 31)) = Int32.ofNat (cst (gup g s true) (s + 1)) := by
  have o := cst_or (f := gup g s true) hs
  rw [if_pos gup_at, (cst_agr (gup_agr (g := g) (s := s) (x := true))).1] at o
  exact o
theorem cst_up0 : cst (gup g s false) (s + 1) = cst g s := by
  rw [cst_s, if_neg (by rw [gup_at]; decide), (cst_agr (gup_agr (g := g) (s := s) (x := false))).1]
theorem cnt_le (hn : s + k = n) (h : agr g g' s) : cntb g' n ≤ cntb g s + k := by
  subst hn
  induction k with
  | zero => exact Nat.le_of_eq (cst_agr h).2
  | succ k ih =>
    rw [← Nat.add_assoc, cntb_s]
    split <;> omega
theorem DO_leaf (hn : s = cn w 2621) (hV : VGa w g s) (hm : mat (eP w) (pls w).1 (gnd w g s) h) : DO w s g b (if pcn b < pcn (cst g s) ∨ (pcn (cst g s) = pcn b ∧ cst g s < b) then cst g s else b) := by
  subst hn
  have V : VG w g := ⟨hV, mat_ok hm⟩
  refine ⟨?_, ?_, fun g' hg ha => ?_⟩
  · split
    · exact Or.inr ⟨g, V, fun _ _ => rfl, rfl⟩
    · exact Or.inl rfl
  · unfold geq
    split <;> omega
  · rw [(cst_agr ha).1]
    unfold geq
    split <;> omega
theorem DO_2 (h : DT w s g b b1) (h2 : wf2 w s = true) (hs : s < cn w 2621) : DO w s g b b1 :=
  ⟨h.1, h.2.1, fun g' hg ha => h.2.2 g' hg ha (hg.1.1 s hs h2)⟩
theorem DO_cut (h : DT w s g b b1) (hs : s < cn w 2621) (n8 : cn w 2621 ≤ 8) (hc : pcn (cst g s) + cn w 2621 - s - 1 < pcn b1) : DO w s g b b1 := by
  refine ⟨h.1, h.2.1, fun g' hg ha => ?_⟩
  by_cases q : g' s = true
  · exact h.2.2 g' hg ha q
  refine Or.inl ?_
  have e := cnt_le (k := cn w 2621 - s - 1) (n := cn w 2621) (by omega) (agr_up ha (Bool.not_eq_true _ ▸ q : g' s = false))
  rw [pcn_cst n8]
  rw [cntb_s, if_neg (by rw [gup_at]; decide), (cst_agr (gup_agr (g := g) (s := s) (x := false))).2] at e
  rw [pcn_cst (by omega)] at hc
  omega
theorem DO_both (h : DT w s g b b1) (h2 : DO w (s + 1) (gup g s false) b1 b2) : DO w s g b b2 := by
  refine ⟨?_, geq_t h2.2.1 h.2.1, fun g' hg ha => ?_⟩
  · rcases h2.1 with q | ⟨g', V, A, E⟩
    · rw [q]
      exact h.1
    · exact Or.inr ⟨g', V, agr_dn A, E⟩
  · by_cases q : g' s = true
    · exact geq_t h2.2.1 (h.2.2 g' hg ha q)
    · exact h2.2.2 g' hg (agr_up ha (Bool.not_eq_true _ ▸ q))
theorem DT_1 (h : DO w (s + 1) (gup g s true) b b1) : DT w s g b b1 := by
  refine ⟨?_, h.2.1, fun g' hg ha q => h.2.2 g' hg (agr_up ha q)⟩
  rcases h.1 with q | ⟨g', V, A, E⟩
  · exact Or.inl q
  · exact Or.inr ⟨g', V, agr_dn A, E⟩
theorem DT_no (hs : s < cn w 2621) (hno : ¬ okS (eP w) (pls w).1 (gnd w (gup g s true) (s + 1))) : DT w s g b b := by
  refine ⟨Or.inl rfl, geq_r, fun g' hg ha q => absurd (okS_mono (fun u hu => ?_) hg.2) hno⟩
  obtain ⟨u1, u2, u3, u4⟩ := hu
  exact ⟨by omega, (agr_up ha q _ u1).trans u2, u3, u4⟩
theorem DT_oth (hs : s < cn w 2621) (h1 : ¬ wf1 w s = true) (h2 : ¬ wf2 w s = true) : DT w s g b b :=
  ⟨Or.inl rfl, geq_r, fun g' hg ha q => ((hg.1.2 s hs q).elim (fun x => absurd x h1) fun x => absurd x h2)⟩
end DecM
