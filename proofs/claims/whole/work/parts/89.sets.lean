/-! THE LEAST WASTE: sets of needs, and what a piece may do for them. Made by wip/whole/math/89.py. -/
section Sets
variable {w : Nat → Int32} {L j d b m n T : Nat} {x y z : Int32}
/-- set T has need n -/
abbrev bt2 (T n : Nat) : Prop := T / 2 ^ n % 2 = 1
theorem zb_clr : ∀ T, T < 256 → ∀ n, n < 8 → Int32.ofNat T &&& ((1 <<< (Int32.ofNat n &&& 31)) ^^^ (-1)) = Int32.ofNat (if bt2 T n then T - 2 ^ n else T) := by decide +kernel
theorem zb_set : ∀ T, T < 256 → ∀ n, n < 8 → ¬ bt2 T n → Int32.ofNat T ||| (1 <<< (Int32.ofNat n &&& 31)) = Int32.ofNat (T + 2 ^ n) := by decide +kernel
theorem zb_tst : ∀ T, T < 256 → ∀ n, n < 8 → ((Int32.ofNat T >>> (Int32.ofNat n &&& 31)) &&& 1 = 1 ↔ bt2 T n) := by decide +kernel
theorem nb_ge : ∀ T, T < 256 → ∀ n, n < 8 → bt2 T n → 2 ^ n ≤ T ∧ ¬ bt2 (T - 2 ^ n) n := by decide +kernel
theorem nb_set : ∀ T, T < 256 → ∀ n, n < 8 → ¬ bt2 T n → bt2 (T + 2 ^ n) n := by decide +kernel
theorem nb_up : ∀ m, m < 9 → ∀ n, n < m → ∀ T, T < 2 ^ m → ¬ bt2 T n → T + 2 ^ n < 2 ^ m := by decide +kernel
theorem p2_lt {a b : Nat} (h : a < b) : 2 ^ a < 2 ^ b := Nat.pow_lt_pow_right (by omega) h
theorem p2_pos {a : Nat} : 0 < 2 ^ a := Nat.two_pow_pos a
/-- costs and ranks of sets; what one more need by this piece makes of a set's -/
abbrev Cs : Type := (Nat → Int32) × (Nat → Int64)
abbrev btr (c : Int32) (r : Int64) (a : Int32 × Int64) : Prop := a.1 = -1 ∨ c < a.1 ∨ (c = a.1 ∧ r < a.2)
abbrev imp1 (wd : Nat → Int32) (rk : Nat → Int64) (S : Cs) (T n : Nat) (a : Int32 × Int64) : Int32 × Int64 :=
  if btr (S.1 (T - 2 ^ n) + wd n) (S.2 (T - 2 ^ n) + rk n) a then (S.1 (T - 2 ^ n) + wd n, S.2 (T - 2 ^ n) + rk n) else a
abbrev imp (wd : Nat → Int32) (rk : Nat → Int64) (S : Cs) (T n : Nat) (a : Int32 × Int64) : Int32 × Int64 :=
  if bt2 T n ∧ ¬ wd n = -1 ∧ ¬ S.1 (T - 2 ^ n) = -1 then imp1 wd rk S T n a else a
def nwp (wd : Nat → Int32) (rk : Nat → Int64) (S : Cs) (T n : Nat) : Int32 × Int64 := itr (imp wd rk S T) n (S.1 T, S.2 T)
theorem nwp_s {wd : Nat → Int32} {rk : Nat → Int64} {S : Cs} : nwp wd rk S T (n + 1) = imp wd rk S T n (nwp wd rk S T n) := rfl
theorem nwp_0 {wd : Nat → Int32} {rk : Nat → Int64} {S : Cs} : nwp wd rk S T 0 = (S.1 T, S.2 T) := rfl
def nwc (wd : Nat → Int32) (rk : Nat → Int64) (m : Nat) (S : Cs) : Cs := (fun T => (nwp wd rk S T m).1, fun T => (nwp wd rk S T m).2)
/-- behind some steps in the model's order: sets ahead of s are through, of s the needs below j -/
abbrev impQ (wd : Nat → Int32) (rk : Nat → Int64) (S : Cs) (s j T n : Nat) (a : Int32 × Int64) : Int32 × Int64 :=
  if bt2 T n ∧ (s < T - 2 ^ n ∨ (s = T - 2 ^ n ∧ n < j)) then imp wd rk S T n a else a
def nwq (wd : Nat → Int32) (rk : Nat → Int64) (S : Cs) (s j T m : Nat) : Int32 × Int64 := itr (impQ wd rk S s j T) m (S.1 T, S.2 T)
section Q
variable {wd : Nat → Int32} {rk : Nat → Int64} {S : Cs} {s : Nat}
theorem itr_stop {α : Type} {f : Nat → α → α} {a : α} {n : Nat} : ∀ m, n ≤ m → (∀ k, n ≤ k → k < m → ∀ a, f k a = a) → itr f m a = itr f n a
  | 0, h, _ => by rw [show n = 0 by omega]
  | m + 1, h, hf => by
    by_cases e : n = m + 1
    · rw [e]
    · show f m (itr f m a) = _
      rw [hf m (by omega) (by omega)]
      exact itr_stop m (by omega) fun k h1 h2 => hf k h1 (by omega)
/-- nothing yet where T is not above s -/
theorem nwq_low (h : T ≤ s) (hT : T < 256) (hm : m ≤ 8) : nwq wd rk S s j T m = (S.1 T, S.2 T) := by
  refine (itr_stop (n := 0) m (by omega) fun k _ hk a => if_neg fun q => ?_)
  have := (nb_ge T hT k (by omega) q.1).1
  have := p2_pos (a := k)
  omega
/-- all sets of which s is behind -/
theorem nwq_end (hT : T < 256) (hm : m ≤ 8) : nwq wd rk S 0 m T m = nwp wd rk S T m := by
  refine itr_congr fun k hk a => ?_
  unfold impQ
  by_cases g : bt2 T k
  · have := (nb_ge T hT k (by omega) g).1
    rw [if_pos ⟨g, by omega⟩]
  · rw [if_neg fun q => g q.1]
    exact (if_neg fun q => g q.1).symm
theorem nwq_next (hT : T < 256) (hm : m ≤ 8) : nwq wd rk S (s + 1) m T m = nwq wd rk S s 0 T m := by
  refine itr_congr fun k hk a => ?_
  unfold impQ
  by_cases g : bt2 T k ∧ s < T - 2 ^ k
  · rw [if_pos ⟨g.1, by omega⟩, if_pos ⟨g.1, by omega⟩]
  · rw [if_neg fun q => g ⟨q.1, by omega⟩, if_neg fun q => g ⟨q.1, by omega⟩]
theorem nwq_top (hT : T < 2 ^ m) (hm : m ≤ 8) : nwq wd rk S (2 ^ m) 0 T m = (S.1 T, S.2 T) := nwq_low (by omega) (by have := Nat.pow_le_pow_right (n := 2) (by omega) hm; omega) hm
/-- need j for the set s: only the set with both changes -/
theorem nwq_other (hs : s < 256) (hT : T < 256) (hm : m ≤ 8) (h : ¬ (¬ bt2 s j ∧ T = s + 2 ^ j)) : nwq wd rk S s (j + 1) T m = nwq wd rk S s j T m := by
  refine itr_congr fun k hk a => ?_
  unfold impQ
  by_cases g : bt2 T k
  · by_cases e : s = T - 2 ^ k ∧ k = j
    · obtain ⟨e1, rfl⟩ := e
      obtain ⟨q1, q2⟩ := nb_ge T hT k (by omega) g
      exact absurd ⟨by rw [e1]; exact q2, by omega⟩ h
    · by_cases c : s < T - 2 ^ k ∨ (s = T - 2 ^ k ∧ k < j)
      · rw [if_pos ⟨g, by omega⟩, if_pos ⟨g, c⟩]
      · rw [if_neg fun q => c (by omega), if_neg fun q => c q.2]
  · rw [if_neg fun q => g q.1, if_neg fun q => g q.1]
theorem nwq_hit (hs : s < 256) (hm : m ≤ 8) (hj : j < m) (hT : s + 2 ^ j < 256) (h : ¬ bt2 s j) : nwq wd rk S s (j + 1) (s + 2 ^ j) m = imp wd rk S (s + 2 ^ j) j (nwq wd rk S s j (s + 2 ^ j) m) := by
  have hb := nb_set s hs j (by omega) h
  have low : ∀ k, k < j → bt2 (s + 2 ^ j) k → s < s + 2 ^ j - 2 ^ k := fun k hk _ => by
    have := p2_lt hk
    omega
  have hgh : ∀ k, j < k → bt2 (s + 2 ^ j) k → k < 8 → s + 2 ^ j - 2 ^ k < s := fun k hk hb2 k8 => by
    have := p2_lt hk
    have := (nb_ge _ hT k k8 hb2).1
    omega
  have e1 : nwq wd rk S s (j + 1) (s + 2 ^ j) m = nwq wd rk S s (j + 1) (s + 2 ^ j) (j + 1) := itr_stop m (by omega) fun k h1 h2 a => if_neg fun q => by
    have := hgh k (by omega) q.1 (by omega)
    omega
  have e2 : nwq wd rk S s j (s + 2 ^ j) m = nwq wd rk S s j (s + 2 ^ j) j := itr_stop m (by omega) fun k h1 h2 a => if_neg fun q => by
    rcases Nat.lt_or_ge j k with c | c
    · have := hgh k c q.1 (by omega)
      omega
    · have : k = j := by omega
      subst this
      omega
  have e3 : nwq wd rk S s (j + 1) (s + 2 ^ j) j = nwq wd rk S s j (s + 2 ^ j) j := by
    refine itr_congr fun k hk a => ?_
    unfold impQ
    by_cases g : bt2 (s + 2 ^ j) k
    · have := low k hk g
      rw [if_pos ⟨g, Or.inl this⟩, if_pos ⟨g, Or.inl this⟩]
    · rw [if_neg fun q => g q.1, if_neg fun q => g q.1]
  rw [e1, e2, ← e3]
  exact if_pos ⟨hb, Or.inr ⟨by omega, by omega⟩⟩
end Q
/-- costs are none or small -/
def Csm (S : Cs) (m : Nat) : Prop := ∀ T, T < 2 ^ m → S.1 T = -1 ∨ ∃ v, S.1 T = Int32.ofNat v ∧ v ≤ 13000 * T
theorem nm1 {v : Nat} (h : v < 2147483648) : ¬ Int32.ofNat v = -1 := z_nm1 h
theorem nwp_sm {wd : Nat → Int32} {rk : Nat → Int64} {S : Cs} {m : Nat} (m8 : m ≤ 8) (hS : Csm S m) (hd : ∀ n, n < m → wd n = -1 ∨ ∃ v, wd n = Int32.ofNat v ∧ v ≤ 13000) (hT : T < 2 ^ m) : ∀ n, n ≤ m → (nwp wd rk S T n).1 = -1 ∨ ∃ v, (nwp wd rk S T n).1 = Int32.ofNat v ∧ v ≤ 13000 * T
  | 0, _ => hS T hT
  | n + 1, hn => by
    have ih := nwp_sm (wd := wd) (rk := rk) m8 hS hd hT n (by omega)
    have p8 := Nat.pow_le_pow_right (n := 2) (by omega) m8
    rw [nwp_s]
    unfold imp imp1
    by_cases g : bt2 T n ∧ ¬ wd n = -1 ∧ ¬ S.1 (T - 2 ^ n) = -1
    · rw [if_pos g]
      by_cases q : btr (S.1 (T - 2 ^ n) + wd n) (S.2 (T - 2 ^ n) + rk n) (nwp wd rk S T n)
      · rw [if_pos q]
        obtain ⟨u, e, hu⟩ := (hd n (by omega)).resolve_left g.2.1
        obtain ⟨v, e2, hv⟩ := (hS (T - 2 ^ n) (Nat.lt_of_le_of_lt (Nat.sub_le _ _) hT)).resolve_left g.2.2
        refine Or.inr ⟨v + u, by rw [e, e2, z_add], ?_⟩
        have := (nb_ge T (by omega) n (by omega) g.1).1
        have := p2_pos (a := n)
        omega
      · rw [if_neg q]
        exact ih
    · rw [if_neg g]
      exact ih
theorem nwc_sm {wd : Nat → Int32} {rk : Nat → Int64} {S : Cs} {m : Nat} (m8 : m ≤ 8) (hS : Csm S m) (hd : ∀ n, n < m → wd n = -1 ∨ ∃ v, wd n = Int32.ofNat v ∧ v ≤ 13000) : Csm (nwc wd rk m S) m := fun T hT => nwp_sm m8 hS hd hT m (Nat.le_refl _)
theorem sm_neg {c : Int32} {K : Nat} (h : c = -1 ∨ ∃ v, c = Int32.ofNat v ∧ v ≤ K) (hK : K < 2147483648) : (c < 0) = (c = -1) := by
  rcases h with h | ⟨v, h, hv⟩
  · rw [h]
    decide
  · rw [h, z_neg (by omega)]
    exact (eq_false (z_nm1 (by omega))).symm
end Sets
