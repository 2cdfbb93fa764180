/-! WHERE THINGS LIE: the yard at b, the model, the face; all but ints stays as it is made. -/
/-- a yard's cells: its kinds, lengths, references -/
abbrev Yd (A : am_A) (b : Nat) : Prop :=
  am_K A b = 12 ∧ am_R A b 1 = some (b + 1) ∧ am_R A b 2 = some (b + 2) ∧ am_R A b 4 = some (b + 3) ∧ am_R A b 7 = some (b + 4) ∧ am_R A b 10 = some (b + 5) ∧ am_R A b 11 = some (b + 6) ∧ am_R A b 15 = some (b + 7) ∧ am_R A b 16 = some (b + 11) ∧ am_R A b 17 = some (b + 14) ∧ am_R A b 18 = some (b + 22) ∧ am_R A b 19 = some (b + 31) ∧
  (am_K A (b + 1) = 21 ∧ am_L A (b + 1) = 6) ∧ (am_K A (b + 2) = 26 ∧ am_L A (b + 2) = 60) ∧ (am_K A (b + 3) = 27 ∧ am_L A (b + 3) = 120) ∧ (am_K A (b + 4) = 28 ∧ am_L A (b + 4) = 8) ∧ (am_K A (b + 5) = 21 ∧ am_L A (b + 5) = 8) ∧ (am_K A (b + 6) = 21 ∧ am_L A (b + 6) = 8) ∧
  (am_K A (b + 7) = 11 ∧ am_R A (b + 7) 0 = some (b + 8) ∧ am_R A (b + 7) 1 = some (b + 9) ∧ am_R A (b + 7) 4 = some (b + 10)) ∧ (am_K A (b + 8) = 29 ∧ am_L A (b + 8) = 10) ∧ (am_K A (b + 9) = 21 ∧ am_L A (b + 9) = 10) ∧ (am_K A (b + 10) = 21 ∧ am_L A (b + 10) = 6) ∧
  (am_K A (b + 11) = 4 ∧ am_R A (b + 11) 0 = some (b + 12) ∧ am_R A (b + 11) 2 = some (b + 13)) ∧ (am_K A (b + 12) = 21 ∧ am_L A (b + 12) = 4) ∧ (am_K A (b + 13) = 21 ∧ am_L A (b + 13) = 28) ∧
  (am_K A (b + 14) = 2 ∧ am_R A (b + 14) 0 = some (b + 15) ∧ am_R A (b + 14) 1 = some (b + 16) ∧ am_R A (b + 14) 2 = some (b + 17) ∧ am_R A (b + 14) 3 = some (b + 18) ∧ am_R A (b + 14) 5 = some (b + 19) ∧ am_R A (b + 14) 6 = some (b + 20) ∧ am_R A (b + 14) 8 = some (b + 21)) ∧
  (am_K A (b + 15) = 21 ∧ am_L A (b + 15) = 100) ∧ (am_K A (b + 16) = 21 ∧ am_L A (b + 16) = 100) ∧ (am_K A (b + 17) = 21 ∧ am_L A (b + 17) = 100) ∧ (am_K A (b + 18) = 21 ∧ am_L A (b + 18) = 100) ∧ (am_K A (b + 19) = 21 ∧ am_L A (b + 19) = 20) ∧ (am_K A (b + 20) = 21 ∧ am_L A (b + 20) = 20) ∧ (am_K A (b + 21) = 21 ∧ am_L A (b + 21) = 10) ∧
  (am_K A (b + 22) = 6 ∧ am_R A (b + 22) 0 = some (b + 23) ∧ am_R A (b + 22) 1 = some (b + 24) ∧ am_R A (b + 22) 2 = some (b + 25) ∧ am_R A (b + 22) 3 = some (b + 26) ∧ am_R A (b + 22) 5 = some (b + 27)) ∧
  (am_K A (b + 23) = 21 ∧ am_L A (b + 23) = 8) ∧ (am_K A (b + 24) = 21 ∧ am_L A (b + 24) = 8) ∧ (am_K A (b + 25) = 21 ∧ am_L A (b + 25) = 8) ∧ (am_K A (b + 26) = 21 ∧ am_L A (b + 26) = 8) ∧ (am_K A (b + 27) = 25 ∧ am_L A (b + 27) = 3) ∧ (am_K A (b + 31) = 21 ∧ am_L A (b + 31) = 16) ∧
  (∀ j, j < 3 → am_R A (b + 27) j = some (b + 28 + j)) ∧ (∀ j, j < 3 → am_K A (b + 28 + j) = 21) ∧ (∀ j, j < 3 → am_L A (b + 28 + j) = 10) ∧
  (∀ t, t < 60 → am_R A (b + 2) t = some (b + 32 + t)) ∧ (∀ t, t < 60 → am_K A (b + 32 + t) = 10) ∧
  (∀ p, p < 120 → am_R A (b + 3) p = some (b + 92 + p)) ∧ (∀ p, p < 120 → am_K A (b + 92 + p) = 5) ∧
  (∀ s, s < 8 → am_R A (b + 4) s = some (b + 212 + 6 * s)) ∧ (∀ s, s < 8 → am_K A (b + 212 + 6 * s) = 7) ∧
  (∀ s, s < 8 → am_R A (b + 212 + 6 * s) 9 = some (b + 212 + 6 * s + 1)) ∧ (∀ s, s < 8 → am_R A (b + 212 + 6 * s) 10 = some (b + 212 + 6 * s + 2)) ∧ (∀ s, s < 8 → am_R A (b + 212 + 6 * s) 11 = some (b + 212 + 6 * s + 3)) ∧ (∀ s, s < 8 → am_R A (b + 212 + 6 * s) 12 = some (b + 212 + 6 * s + 4)) ∧ (∀ s, s < 8 → am_R A (b + 212 + 6 * s) 13 = some (b + 212 + 6 * s + 5)) ∧
  (∀ s, s < 8 → am_K A (b + 212 + 6 * s + 1) = 21 ∧ am_L A (b + 212 + 6 * s + 1) = 8) ∧ (∀ s, s < 8 → am_K A (b + 212 + 6 * s + 2) = 21 ∧ am_L A (b + 212 + 6 * s + 2) = 8) ∧ (∀ s, s < 8 → am_K A (b + 212 + 6 * s + 3) = 21 ∧ am_L A (b + 212 + 6 * s + 3) = 8) ∧ (∀ s, s < 8 → am_K A (b + 212 + 6 * s + 4) = 21 ∧ am_L A (b + 212 + 6 * s + 4) = 8) ∧ (∀ s, s < 8 → am_K A (b + 212 + 6 * s + 5) = 21 ∧ am_L A (b + 212 + 6 * s + 5) = 8)
/-- the model's cells -/
abbrev Md (A : am_A) : Prop :=
  am_K A 874 = 13 ∧ am_R A 874 1 = some 875 ∧ am_R A 874 2 = some 876 ∧ am_R A 874 3 = some 877 ∧ am_R A 874 6 = some 878 ∧ am_R A 874 13 = some 879 ∧ am_R A 874 15 = some 880 ∧ am_R A 874 16 = some 881 ∧ am_R A 874 17 = some 882 ∧ am_R A 874 18 = some 883 ∧ am_R A 874 19 = some 884 ∧ am_R A 874 20 = some 885 ∧ am_R A 874 22 = some 886 ∧ am_R A 874 27 = some 887 ∧ am_R A 874 28 = some 888 ∧ am_R A 874 29 = some 889 ∧ am_R A 874 30 = some 890 ∧ am_R A 874 31 = some 891 ∧
  (am_K A 875 = 21 ∧ am_L A 875 = 12892) ∧ (am_K A 876 = 21 ∧ am_L A 876 = 12042) ∧ (am_K A 877 = 21 ∧ am_L A 877 = 12042) ∧ (am_K A 878 = 23 ∧ am_L A 878 = 400) ∧ (am_K A 879 = 21 ∧ am_L A 879 = 5) ∧ (am_K A 880 = 24 ∧ am_L A 880 = 5) ∧ (am_K A 881 = 21 ∧ am_L A 881 = 6) ∧ (am_K A 882 = 24 ∧ am_L A 882 = 400) ∧ (am_K A 883 = 21 ∧ am_L A 883 = 256) ∧ (am_K A 884 = 22 ∧ am_L A 884 = 256) ∧ (am_K A 885 = 21 ∧ am_L A 885 = 8) ∧ (am_K A 886 = 21 ∧ am_L A 886 = 8) ∧ (am_K A 887 = 21 ∧ am_L A 887 = 4) ∧ (am_K A 888 = 21 ∧ am_L A 888 = 4) ∧ (am_K A 889 = 21 ∧ am_L A 889 = 120) ∧ (am_K A 890 = 24 ∧ am_L A 890 = 120) ∧ (am_K A 891 = 21 ∧ am_L A 891 = 10)
/-- the face's, its tape's and finder's cells -/
abbrev Fc (A : am_A) : Prop :=
  (am_K A 64 = 1 ∧ am_R A 64 0 = some 65 ∧ am_R A 64 1 = some 71 ∧ am_R A 64 2 = some 94 ∧ am_R A 64 3 = some 354 ∧ am_R A 64 4 = some 614) ∧
  (am_K A 65 = 8 ∧ am_R A 65 0 = some 66 ∧ am_R A 65 8 = some 67 ∧ am_R A 65 9 = some 68 ∧ am_R A 65 10 = some 69 ∧ am_R A 65 12 = some 70) ∧ (am_K A 66 = 21 ∧ am_L A 66 = 400) ∧ (am_K A 67 = 21 ∧ am_L A 67 = 12) ∧ (am_K A 68 = 21 ∧ am_L A 68 = 12) ∧ (am_K A 69 = 21 ∧ am_L A 69 = 12) ∧ (am_K A 70 = 21 ∧ am_L A 70 = 400) ∧
  (am_K A 71 = 3 ∧ am_R A 71 0 = some 72 ∧ am_R A 71 2 = some 73 ∧ am_R A 71 3 = some 74 ∧ am_R A 71 4 = some 75 ∧ am_R A 71 5 = some 76 ∧ am_R A 71 7 = some 77 ∧ am_R A 71 8 = some 78 ∧ am_R A 71 9 = some 79 ∧ am_R A 71 10 = some 89 ∧ am_R A 71 12 = some 90 ∧ am_R A 71 13 = some 91 ∧ am_R A 71 14 = some 92 ∧ am_R A 71 15 = some 93) ∧
  (am_K A 72 = 21 ∧ am_L A 72 = 8) ∧ (am_K A 73 = 21 ∧ am_L A 73 = 8) ∧ (am_K A 74 = 21 ∧ am_L A 74 = 256) ∧ (am_K A 75 = 22 ∧ am_L A 75 = 256) ∧ (am_K A 76 = 21 ∧ am_L A 76 = 8) ∧ (am_K A 77 = 21 ∧ am_L A 77 = 4) ∧ (am_K A 78 = 21 ∧ am_L A 78 = 4) ∧ (am_K A 79 = 25 ∧ am_L A 79 = 9) ∧ (∀ j, j < 9 → am_R A 79 j = some (80 + j)) ∧ (∀ j, j < 9 → am_K A (80 + j) = 21) ∧ (∀ j, j < 9 → am_L A (80 + j) = 120) ∧ (am_K A 89 = 21 ∧ am_L A 89 = 120) ∧ (am_K A 90 = 21 ∧ am_L A 90 = 120) ∧ (am_K A 91 = 21 ∧ am_L A 91 = 120) ∧ (am_K A 92 = 21 ∧ am_L A 92 = 64) ∧ (am_K A 93 = 21 ∧ am_L A 93 = 64) ∧
  (am_K A 1 = 42 ∧ am_L A 1 = 8) ∧ (am_K A 892 = 22 ∧ am_L A 892 = 1)
/-- what was made stays as it is, but the texts' rows; the fixed longs too -/
def Le (B B' : am_A) : Prop := am_N B ≤ am_N B' ∧ (∀ q, q < am_N B → am_K B' q = am_K B q ∧ am_L B' q = am_L B q ∧ (q ≠ 102 → q ≠ 362 → q ≠ 622 → am_R B' q = am_R B q)) ∧ am_J B' 1 = am_J B 1
theorem Le.rf (B : am_A) : Le B B := ⟨Nat.le_refl _, fun _ _ => ⟨rfl, rfl, fun _ _ _ => rfl⟩, rfl⟩
theorem Le.tr {B C D : am_A} (h : Le B C) (k : Le C D) : Le B D := ⟨Nat.le_trans h.1 k.1, fun q hq => by
  obtain ⟨a1, a2, a3⟩ := h.2.1 q hq
  obtain ⟨b1, b2, b3⟩ := k.2.1 q (Nat.lt_of_lt_of_le hq h.1)
  exact ⟨b1.trans a1, b2.trans a2, fun x y z => (b3 x y z).trans (a3 x y z)⟩, k.2.2.trans h.2.2⟩
theorem Le.xx {B : am_A} {c s : Nat} : Le B (am_xx B c s) := Le.rf B
theorem Le.sJg {B : am_A} {a k : Nat} {v : Int64} (ha : 1 ≠ a) : Le B (am_sJ B a k v) := ⟨Nat.le_refl _, fun _ _ => ⟨rfl, rfl, fun _ _ _ => rfl⟩, y_upr ha⟩
theorem Le.sJ {B : am_A} {k : Nat} {v : Int64} : Le B (am_sJ B 892 k v) := Le.sJg (by omega)
theorem Le.nx {B : am_A} : Le B (am_nx B) := ⟨Nat.le_succ _, fun q hq => ⟨by show am_up1 _ _ _ q = _; exact if_neg (Nat.ne_of_lt hq), rfl, fun _ _ _ => rfl⟩, rfl⟩
theorem Le.K {B B' : am_A} (h : Le B B') {q : Nat} (hq : q < am_N B) : am_K B' q = am_K B q := (h.2.1 q hq).1
theorem Le.L {B B' : am_A} (h : Le B B') {q : Nat} (hq : q < am_N B) : am_L B' q = am_L B q := (h.2.1 q hq).2.1
theorem Le.R {B B' : am_A} (h : Le B B') {q : Nat} (hq : q < am_N B) (h1 : q ≠ 102) (h2 : q ≠ 362) (h3 : q ≠ 622) : am_R B' q = am_R B q := (h.2.1 q hq).2.2 h1 h2 h3
