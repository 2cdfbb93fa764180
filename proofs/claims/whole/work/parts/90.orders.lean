/-! DOCKS: orders of ships, by the first or by the last. Made by wip/whole/math/90.py. -/
section Orders
variable {w : Nat → Int32} {L j d b m n c s T k K x y f S part : Nat} {p : Nat → Bool}
/-- the first day from f on, 300 at most, on which it may; 301: none -/
def w1 (p : Nat → Bool) (f : Nat) : Nat := match fst0 (fun k => p (f + k)) (301 - f) with
  | some k => f + k
  | none => 301
theorem w1_sp : w1 p f = 301 ∨ (f ≤ w1 p f ∧ w1 p f ≤ 300 ∧ p (w1 p f) = true) := by
  unfold w1
  cases e : fst0 (fun k => p (f + k)) (301 - f) with
  | none => exact Or.inl rfl
  | some k =>
    obtain ⟨h1, h2, -⟩ := fst0_some.mp e
    exact Or.inr ⟨Nat.le_add_right _ _, by show f + k ≤ 300; omega, h2⟩
theorem w1_le (h1 : f ≤ y) (h2 : y ≤ 300) (h3 : p y = true) : w1 p f ≤ y := by
  unfold w1
  cases e : fst0 (fun k => p (f + k)) (301 - f) with
  | none =>
    have := fst0_none.mp e (y - f) (by omega)
    rw [show f + (y - f) = y by omega, h3] at this
    cases this
  | some k =>
    obtain ⟨-, -, h4⟩ := fst0_some.mp e
    show f + k ≤ y
    rcases Nat.lt_or_ge y (f + k) with q | q
    · have := h4 (y - f) (by omega)
      rw [show f + (y - f) = y by omega, h3] at this
      cases this
    · exact q
theorem w1_301 : w1 p f ≤ 301 := by rcases w1_sp (p := p) (f := f) with e | e <;> omega
theorem w1_mono (h : f ≤ x) : w1 p f ≤ w1 p x := by
  rcases w1_sp (p := p) (f := x) with e | ⟨a, c, g⟩
  · rw [e]
    exact w1_301
  · exact w1_le (Nat.le_trans h a) c g
theorem w1_big (h : 300 < f) : w1 p f = 301 := by
  rcases w1_sp (p := p) (f := f) with e | ⟨a, c, g⟩
  · exact e
  · omega
/-- in on a day, so many days in, out on a day -/
def oud (p : Nat → Bool) (st f : Nat) : Nat := if 300 < w1 p f + st then 301 else w1 p (w1 p f + st)
theorem oud_301 {st : Nat} : oud p st f ≤ 301 := by
  unfold oud
  split
  · exact Nat.le_refl _
  · exact w1_301
theorem oud_mono {st : Nat} (h : f ≤ x) : oud p st f ≤ oud p st x := by
  have h1 := w1_mono (p := p) h
  unfold oud
  by_cases g : 300 < w1 p x + st
  · rw [if_pos g]
    exact oud_301
  · rw [if_neg g, if_neg (by omega)]
    exact w1_mono (by omega)
theorem oud_top {st : Nat} (h : 300 < f) : oud p st f = 301 := by
  unfold oud
  rw [w1_big h, if_pos (by omega)]
theorem per_n (hp : ∀ y, p (y + 28) = p y) : ∀ t, p (y + 28 * t) = p y
  | 0 => rfl
  | t + 1 => by rw [show y + 28 * (t + 1) = y + 28 * t + 28 by omega, hp]; exact per_n hp t
/-- the class looks 28 days ahead -/
def fd (p : Nat → Bool) (x : Nat) : Option Nat := fst0 (fun n => p (x + n)) 28
def cpo (x : Nat) : Option Nat → Nat
  | some n => min 301 (x + n)
  | none => 301
theorem w1_fd (hp : ∀ y, p (y + 28) = p y) : w1 p (min 301 x) = cpo x (fd p x) := by
  by_cases g : 300 < x
  · rw [w1_big (by omega)]
    unfold cpo
    split
    · omega
    · rfl
  rw [show min 301 x = x by omega]
  unfold fd
  cases e : fst0 (fun n => p (x + n)) 28 with
  | none =>
    show w1 p x = 301
    rcases w1_sp (p := p) (f := x) with q | ⟨a, c, q⟩
    · exact q
    · have := fst0_none.mp e ((w1 p x - x) % 28) (Nat.mod_lt _ (by omega))
      have h2 := per_n (y := x + (w1 p x - x) % 28) hp ((w1 p x - x) / 28)
      have h3 := Nat.div_add_mod (w1 p x - x) 28
      rw [show x + (w1 p x - x) % 28 + 28 * ((w1 p x - x) / 28) = w1 p x by omega, q] at h2
      rw [← h2] at this
      cases this
  | some n =>
    obtain ⟨h1, h2, h3⟩ := fst0_some.mp e
    show w1 p x = min 301 (x + n)
    have key : ∀ y, x ≤ y → y < x + n → p y = false := fun y a c => by
      have := h3 (y - x) (by omega)
      rw [show x + (y - x) = y by omega] at this
      exact this
    rcases w1_sp (p := p) (f := x) with q | ⟨a, c, q⟩
    · by_cases r : x + n ≤ 300
      · have := w1_le (p := p) (f := x) (y := x + n) (by omega) r h2
        omega
      · omega
    · by_cases r : w1 p x < x + n
      · have := key _ a r
        rw [q] at this
        cases this
      · have := w1_le (p := p) (f := x) (y := x + n) (by omega) (by omega) h2
        omega
def dyo (p : Nat → Bool) (st x : Nat) : Option Nat := match fd p x with
  | none => none
  | some n => match fd p (x + n + st) with
    | none => none
    | some r => some (x + n + st + r)
def cpn : Option Nat → Nat
  | some y => min 301 y
  | none => 301
theorem oud_fd {st : Nat} (hp : ∀ y, p (y + 28) = p y) : oud p st (min 301 x) = cpn (dyo p st x) := by
  have h1 := w1_fd (x := x) hp
  unfold dyo
  cases e : fd p x with
  | none =>
    rw [e] at h1
    unfold oud
    rw [show w1 p (min 301 x) = 301 from h1, if_pos (by omega)]
    rfl
  | some n =>
    rw [e] at h1
    have h1 : w1 p (min 301 x) = min 301 (x + n) := h1
    have h2 := w1_fd (x := x + n + st) hp
    have h3 : oud p st (min 301 x) = w1 p (min 301 (x + n + st)) := by
      unfold oud
      rw [h1]
      by_cases q : 300 < min 301 (x + n) + st
      · rw [if_pos q, w1_big (by omega)]
      · rw [if_neg q]
        exact congrArg (w1 p) (by omega)
    rw [h3, h2]
    dsimp only
    cases e2 : fd p (x + n + st) with
    | none => rfl
    | some r => rfl
theorem dyo_le {st : Nat} (h : dyo p st x = some y) : x ≤ y ∧ y ≤ x + 54 + st := by
  unfold dyo at h
  cases e : fd p x with
  | none => rw [e] at h; cases h
  | some n =>
    rw [e] at h
    have h1 := (fst0_some.mp e).1
    dsimp only at h
    cases e2 : fd p (x + n + st) with
    | none => rw [e2] at h; cases h
    | some r =>
      rw [e2] at h
      have h2 := (fst0_some.mp e2).1
      have h : some (x + n + st + r) = some y := h
      injection h with h
      omega
/-- the least over the ships of a set -/
def mnS (S : Nat) (h : Nat → Nat) : Nat := itr (fun s a => if bt2 S s then min a (h s) else a) 8 301
theorem le_mnS_n {x S : Nat} {h : Nat → Nat} : ∀ n, x ≤ itr (fun s a => if bt2 S s then min a (h s) else a) n 301 ↔ x ≤ 301 ∧ ∀ s, s < n → bt2 S s → x ≤ h s
  | 0 => ⟨fun q => ⟨q, fun s hs => absurd hs (Nat.not_lt_zero s)⟩, fun q => q.1⟩
  | n + 1 => by
    have ih := le_mnS_n (x := x) (S := S) (h := h) n
    show x ≤ (if bt2 S n then min _ (h n) else _) ↔ _
    by_cases g : bt2 S n
    · rw [if_pos g, Nat.le_min, ih]
      refine ⟨fun ⟨⟨a, c⟩, e⟩ => ⟨a, fun s hs hb => ?_⟩, fun ⟨a, c⟩ => ⟨⟨a, fun s hs hb => c s (by omega) hb⟩, c n (by omega) g⟩⟩
      by_cases q : s = n
      · rw [q]
        exact e
      · exact c s (by omega) hb
    · rw [if_neg g, ih]
      refine ⟨fun ⟨a, c⟩ => ⟨a, fun s hs hb => ?_⟩, fun ⟨a, c⟩ => ⟨a, fun s hs hb => c s (by omega) hb⟩⟩
      by_cases q : s = n
      · exact absurd (q ▸ hb) g
      · exact c s (by omega) hb
theorem le_mnS {h : Nat → Nat} : x ≤ mnS S h ↔ x ≤ 301 ∧ ∀ s, s < 8 → bt2 S s → x ≤ h s := le_mnS_n 8
theorem eq_of_le {a c : Nat} (h : ∀ x, x ≤ a ↔ x ≤ c) : a = c := Nat.le_antisymm ((h a).mp (Nat.le_refl a)) ((h c).mpr (Nat.le_refl c))
theorem mnS_301 {h : Nat → Nat} : mnS S h ≤ 301 := (le_mnS.mp (Nat.le_refl _)).1
theorem mnS_congr {h h2 : Nat → Nat} (e : ∀ s, s < 8 → bt2 S s → h s = h2 s) : mnS S h = mnS S h2 := eq_of_le fun x => by
  rw [le_mnS, le_mnS]
  exact ⟨fun ⟨a, c⟩ => ⟨a, fun s hs hb => by rw [← e s hs hb]; exact c s hs hb⟩, fun ⟨a, c⟩ => ⟨a, fun s hs hb => by rw [e s hs hb]; exact c s hs hb⟩⟩
theorem min_mono {g : Nat → Nat} (hg : ∀ a c, a ≤ c → g a ≤ g c) {a c : Nat} : g (min a c) = min (g a) (g c) := by
  rcases Nat.le_total a c with q | q
  · rw [Nat.min_eq_left q, Nat.min_eq_left (hg a c q)]
  · rw [Nat.min_eq_right q, Nat.min_eq_right (hg c a q)]
theorem g_mnS {S : Nat} {g h : Nat → Nat} (hg : ∀ a c, a ≤ c → g a ≤ g c) (h301 : g 301 = 301) : ∀ n, g (itr (fun s a => if bt2 S s then min a (h s) else a) n 301) = itr (fun s a => if bt2 S s then min a (g (h s)) else a) n 301
  | 0 => h301
  | n + 1 => by
    have ih := g_mnS (S := S) (h := h) hg h301 n
    show g (if bt2 S n then min _ (h n) else _) = if bt2 S n then min _ (g (h n)) else _
    by_cases q : bt2 S n
    · rw [if_pos q, if_pos q, min_mono hg, ih]
    · rw [if_neg q, if_neg q, ih]
def Fo (G : Nat → Nat → Nat) : Nat → Nat → Nat → Nat
  | 0, _, f => f
  | k + 1, S, f => mnS S fun s => Fo G k (S - 2 ^ s) (G s f)
def Ba (G : Nat → Nat → Nat) : Nat → Nat → Nat → Nat
  | 0, _, f => f
  | k + 1, S, f => mnS S fun s => G s (Ba G k (S - 2 ^ s) f)
theorem pcn_sub : ∀ S, S < 256 → ∀ s, s < 8 → bt2 S s → pcn (S - 2 ^ s) + 1 = pcn S := by decide +kernel
theorem bt_sub0 : ∀ S, S < 256 → ∀ s, s < 8 → ∀ t, t < 8 → (bt2 S s → decide (bt2 (S - 2 ^ s) t) = (!decide (t = s) && decide (bt2 S t))) := by decide +kernel
theorem bt_sub (S : Nat) (hS : S < 256) (s : Nat) (hs : s < 8) (hb : bt2 S s) (t : Nat) (ht : t < 8) : bt2 (S - 2 ^ s) t ↔ t ≠ s ∧ bt2 S t := by
  have := bt_sub0 S hS s hs t ht hb
  constructor
  · intro q
    rw [decide_eq_true q] at this
    have := (Bool.and_eq_true _ _).mp this.symm
    exact ⟨fun e => by rw [decide_eq_true e] at this; exact absurd this.1 (by decide), of_decide_eq_true this.2⟩
  · rintro ⟨q1, q2⟩
    rw [decide_eq_false q1, decide_eq_true q2] at this
    exact of_decide_eq_true this
theorem sub_lt {S s : Nat} (h : S < 256) : S - 2 ^ s < 256 := Nat.lt_of_le_of_lt (Nat.sub_le _ _) h
theorem FB {G : Nat → Nat → Nat} (hg : ∀ s a c, a ≤ c → G s a ≤ G s c) (h301 : ∀ s, G s 301 = 301) : ∀ k S f, S < 256 → pcn S = k → Fo G k S f = Ba G k S f
  | 0, _, _, _, _ => rfl
  | 1, _, _, _, _ => rfl
  | k + 2, S, f, hS, hk => by
    have ih1 := FB hg h301 (k + 1)
    have ih0 := FB hg h301 k
    have hp : ∀ s, s < 8 → bt2 S s → pcn (S - 2 ^ s) = k + 1 := fun s hs hb => by have := pcn_sub S hS s hs hb; omega
    have a1 : Fo G (k + 2) S f = mnS S fun s => mnS (S - 2 ^ s) fun t => G t (Fo G k (S - 2 ^ s - 2 ^ t) (G s f)) := by
      refine mnS_congr fun s hs hb => ?_
      rw [ih1 _ _ (sub_lt hS) (hp s hs hb)]
      refine mnS_congr fun t ht ht2 => ?_
      have := pcn_sub _ (sub_lt (s := s) hS) t ht ht2
      rw [ih0 _ _ (sub_lt (sub_lt hS)) (by have := hp s hs hb; omega)]
    have a2 : Ba G (k + 2) S f = mnS S fun t => mnS (S - 2 ^ t) fun s => G t (Fo G k (S - 2 ^ t - 2 ^ s) (G s f)) := by
      refine mnS_congr fun t ht hb => ?_
      rw [← ih1 _ _ (sub_lt hS) (hp t ht hb)]
      exact g_mnS (hg t) (h301 t) 8
    rw [a1, a2]
    refine eq_of_le fun x => ?_
    rw [le_mnS, le_mnS]
    constructor
    · rintro ⟨h1, h2⟩
      refine ⟨h1, fun t ht tb => le_mnS.mpr ⟨h1, fun s hs sb => ?_⟩⟩
      obtain ⟨q1, q2⟩ := (bt_sub S hS t ht tb s hs).mp sb
      have := (le_mnS.mp (h2 s hs q2)).2 t ht ((bt_sub S hS s hs q2 t ht).mpr ⟨Ne.symm q1, tb⟩)
      rw [Nat.sub_right_comm]
      exact this
    · rintro ⟨h1, h2⟩
      refine ⟨h1, fun s hs sb => le_mnS.mpr ⟨h1, fun t ht tb => ?_⟩⟩
      obtain ⟨q1, q2⟩ := (bt_sub S hS s hs sb t ht).mp tb
      have := (le_mnS.mp (h2 t ht q2)).2 s hs ((bt_sub S hS t ht q2 s hs).mpr ⟨Ne.symm q1, sb⟩)
      rw [Nat.sub_right_comm]
      exact this
/-- a part of a set: the ships whose places are in it -/
def rkS (S s : Nat) : Nat := itr (fun t a => if bt2 S t then a + 1 else a) s 0
def exS (S part : Nat) : Nat := itr (fun s a => if bt2 S s ∧ bt2 part (rkS S s) then a + 2 ^ s else a) 8 0
theorem rkS_4 : ∀ S, S < 256 → pcn S ≤ 4 → ∀ s, s < 9 → rkS S s ≤ 4 := by decide +kernel
theorem exS_lt : ∀ S, S < 256 → ∀ part, part < 16 → exS S part < 256 := by decide +kernel
theorem exS_bt : ∀ S, S < 256 → pcn S ≤ 4 → ∀ part, part < 16 → ∀ s, s < 8 → (bt2 (exS S part) s ↔ bt2 S s ∧ bt2 part (rkS S s)) := by decide +kernel
theorem exS_sub0 : ∀ S, S < 256 → ∀ part, part < 16 → ∀ s, s < 8 → (pcn S ≤ 4 ∧ bt2 S s ∧ bt2 part (rkS S s) → exS S (part - 2 ^ rkS S s) = exS S part - 2 ^ s) := by decide +kernel
theorem exS_sub (S : Nat) (hS : S < 256) (h4 : pcn S ≤ 4) (part : Nat) (hp : part < 16) (s : Nat) (hs : s < 8) (hb : bt2 S s) (hr : bt2 part (rkS S s)) : exS S (part - 2 ^ rkS S s) = exS S part - 2 ^ s := exS_sub0 S hS part hp s hs ⟨h4, hb, hr⟩
theorem exS_pcn : ∀ S, S < 256 → pcn S ≤ 4 → ∀ part, part < 2 ^ pcn S → pcn (exS S part) = pcn part := by decide +kernel
theorem exS_all : ∀ S, S < 256 → pcn S ≤ 4 → exS S (2 ^ pcn S - 1) = S := by decide +kernel
theorem pcn_sub4 : ∀ part, part < 16 → ∀ r, r < 5 → bt2 part r → pcn (part - 2 ^ r) + 1 = pcn part := by decide +kernel
end Orders
