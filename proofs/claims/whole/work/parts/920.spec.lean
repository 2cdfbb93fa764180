/-! TEXTS ON THE TAPE: bytes, words, numbers; what a text says. Made by wip/whole/math/920.py. -/
/-- the letters of the constants -/
def sx : Nat → List Nat
  | 2 => [102, 105, 116, 32, 99, 104, 105, 112, 32, 111, 119, 101, 32, 108, 111, 111, 107]
  | 3 => [112, 108, 97, 110, 107, 32, 107, 110, 101, 101, 32, 109, 97, 115, 116, 32, 114, 111, 112, 101]
  | 4 => [105, 102]
  | 5 => [110, 111, 116]
  | 6 => [111, 97, 107, 32, 101, 108, 109, 32, 102, 105, 114, 32, 104, 105, 114, 101, 100, 32, 115, 101, 101, 110]
  | 7 => [100, 114, 121, 32, 114, 111, 116, 32, 116, 104, 105, 99, 107, 32, 108, 111, 110, 103, 32, 97, 103, 101, 32, 103, 97, 110, 103, 115]
  | 8 => [97, 110, 100]
  | 9 => [111, 114]
  | 10 => [102, 105, 116]
  | 11 => [99, 104, 105, 112]
  | 12 => [111, 119, 101]
  | 13 => [108, 111, 111, 107]
  | 14 => [112, 108, 97, 110, 107]
  | 15 => [107, 110, 101, 101]
  | 16 => [109, 97, 115, 116]
  | 17 => [114, 111, 112, 101]
  | 18 => [111, 97, 107]
  | 19 => [101, 108, 109]
  | 20 => [102, 105, 114]
  | 21 => [104, 105, 114, 101, 100]
  | 22 => [115, 101, 101, 110]
  | 23 => [100, 114, 121]
  | 24 => [114, 111, 116]
  | 25 => [116, 104, 105, 99, 107]
  | 26 => [108, 111, 110, 103]
  | 27 => [97, 103, 101]
  | 28 => [103, 97, 110, 103, 115]
  | _ => []
def Stx (B : am_A) (i : Nat → Nat → Int32) : Prop := ∀ q, 2 ≤ q → q ≤ 28 → am_K B q = 43 ∧ am_L B q = (sx q).length ∧ ∀ k, k < (sx q).length → i q k = Int32.ofNat ((sx q).getD k 0)
/-- a byte as a number -/
def nby (x : Int32) : Nat := (x &&& 255).toNatClampNeg
/-- where a run of such bytes ends -/
def rnF (N : Nat → Nat) (L lo hi : Nat) : Nat → Nat → Nat
  | 0, b => b
  | m + 1, b => if b < L ∧ lo ≤ N b ∧ N b ≤ hi then rnF N L lo hi m (b + 1) else b
def rn (N : Nat → Nat) (L lo hi b : Nat) : Nat := rnF N L lo hi (L - b) b
/-- the word from b to e is this one -/
abbrev isw (N : Nat → Nat) (b e : Nat) (s : List Nat) : Prop := e - b = s.length ∧ ∀ m, m < s.length → N (b + m) = s.getD m 0
def wix (N : Nat → Nat) (b e : Nat) : List Nat → Nat → Option Nat
  | [], _ => none
  | q :: r, j => if isw N b e (sx q) then some j else wix N b e r (j + 1)
/-- the number that the first digits spell -/
def dgv (N : Nat → Nat) (b : Nat) : Nat → Nat
  | 0 => 0
  | k + 1 => 10 * dgv N b k + (N (b + k) - 48)
def num (N : Nat → Nat) (L b hi : Nat) : Option Nat := if rn N L 48 57 b = b ∨ 5 < rn N L 48 57 b - b ∨ hi < dgv N b (rn N L 48 57 b - b) then none else some (dgv N b (rn N L 48 57 b - b))
/-- a place on the tape, the steps so far, the model's row -/
abbrev PS := Nat × Nat × (Nat → Int32)
abbrev PR := Nat ⊕ PS
def emt (u : Nat → Int32) (s : Nat) (a c : Int32) : Nat → Int32 := wu (wu u (12092 + 2 * s) a) (12092 + 2 * s + 1) c
def pem (st : PS) (a c : Int32) : PS := (st.1, st.2.1 + 1, emt st.2.2 st.2.1 a c)
section Spec
variable (N : Nat → Nat) (L : Nat)
abbrev tb (p : Nat) : Nat := rn N L 32 32 p
abbrev lw (p : Nat) : Nat := rn N L 97 122 p
def facS (k f : Nat) (b : Nat) (st : PS) : PR := match num N L (tb N L (b + 1)) 99999 with
  | none => .inl (tb N L (b + 1))
  | some v => .inr (pem (rn N L 48 57 (tb N L (b + 1)), st.2) (Int32.ofNat (k + f)) (Int32.ofNat v))
def fctS (b : Nat) (st : PS) : PR := match wix N b (lw N L b) [23, 24, 25, 26, 27, 28] 0 with
  | none => .inl b
  | some f => if tb N L (lw N L b) < L ∧ N (tb N L (lw N L b)) = 60 then facS N L 100 f (tb N L (lw N L b)) st else if tb N L (lw N L b) < L ∧ N (tb N L (lw N L b)) = 62 then facS N L 200 f (tb N L (lw N L b)) st else .inl (tb N L (lw N L b))
def simS (b : Nat) (st : PS) : PR := match wix N b (lw N L b) [18, 19, 20, 21, 22] 0 with
  | some t => .inr (pem (lw N L b, st.2) (Int32.ofNat t) 0)
  | none => fctS N L b st
def brkS : PR → PR
  | .inl f => .inl f
  | .inr s1 => if tb N L s1.1 < L ∧ N (tb N L s1.1) = 41 then .inr (tb N L s1.1 + 1, s1.2) else .inl (tb N L s1.1)
def notS : PR → PR
  | .inl f => .inl f
  | .inr s1 => .inr (pem s1 300 0)
def atL (A C : Option (PS → PR)) (st : PS) : PR :=
  if tb N L st.1 < L ∧ N (tb N L st.1) = 40 then (match C with
    | none => .inl (tb N L st.1)
    | some C => brkS N L (C (tb N L st.1 + 1, st.2)))
  else if isw N (tb N L st.1) (lw N L (tb N L st.1)) (sx 5) then (match A with
    | none => .inl (tb N L st.1)
    | some A => notS (A (lw N L (tb N L st.1), st.2)))
  else simS N L (tb N L st.1) st
def lpS (op : Int32) (q : Nat) (A : PS → PR) : Nat → PS → PR
  | 0, st => .inr (tb N L st.1, st.2)
  | n + 1, st => if isw N (tb N L st.1) (lw N L (tb N L st.1)) (sx q) then (match A (lw N L (tb N L st.1), st.2) with
    | .inl f => .inl f
    | .inr s1 => lpS op q A n (pem s1 op 0)) else .inr (tb N L st.1, st.2)
def bnP (r : PR) (f : PS → PR) : PR := match r with
  | .inl e => .inl e
  | .inr s1 => f s1
def allS (A : PS → PR) (st : PS) : PR := bnP (A st) (lpS N L 301 8 A 400)
def cndS (A : PS → PR) (st : PS) : PR := bnP (allS N L A st) (lpS N L 302 9 (allS N L A) 400)
def atm : Nat → PS → PR
  | 0 => atL N L none none
  | r + 1 => atL N L (some (atm r)) (some (cndS N L (atm r)))
end Spec
section Byts
variable {N : Nat → Nat} {L lo hi b e k m p : Nat}
theorem rn_s (h : b < L ∧ lo ≤ N b ∧ N b ≤ hi) : rn N L lo hi b = rn N L lo hi (b + 1) := by
  unfold rn
  rw [show L - b = (L - (b + 1)) + 1 by omega]
  exact if_pos h
theorem rn_0 (h : ¬ (b < L ∧ lo ≤ N b ∧ N b ≤ hi)) : rn N L lo hi b = b := by
  unfold rn
  cases L - b with
  | zero => rfl
  | succ n => exact if_neg h
theorem rn_all (m : Nat) : ∀ b, L - b ≤ m → b ≤ rn N L lo hi b ∧ (b ≤ L → rn N L lo hi b ≤ L) ∧ (∀ k, b ≤ k → k < rn N L lo hi b → k < L ∧ lo ≤ N k ∧ N k ≤ hi) ∧ ¬ (rn N L lo hi b < L ∧ lo ≤ N (rn N L lo hi b) ∧ N (rn N L lo hi b) ≤ hi) := by
  induction m with
  | zero =>
    intro b hb
    have h : ¬ (b < L ∧ lo ≤ N b ∧ N b ≤ hi) := fun q => by omega
    rw [rn_0 h]
    exact ⟨Nat.le_refl b, id, fun k h1 h2 => by omega, h⟩
  | succ m ih =>
    intro b hb
    by_cases h : b < L ∧ lo ≤ N b ∧ N b ≤ hi
    · obtain ⟨a1, a2, a3, a4⟩ := ih (b + 1) (by omega)
      rw [rn_s h]
      refine ⟨by omega, fun _ => a2 (by omega), fun k h1 h2 => ?_, a4⟩
      by_cases e : k = b
      · rw [e]
        exact h
      · exact a3 k (by omega) h2
    · rw [rn_0 h]
      exact ⟨Nat.le_refl b, id, fun k h1 h2 => by omega, h⟩
theorem rn_ge : b ≤ rn N L lo hi b := (rn_all (L - b) b (Nat.le_refl _)).1
theorem rn_le (h : b ≤ L) : rn N L lo hi b ≤ L := (rn_all (L - b) b (Nat.le_refl _)).2.1 h
theorem rn_in (h1 : b ≤ k) (h2 : k < rn N L lo hi b) : k < L ∧ lo ≤ N k ∧ N k ≤ hi := (rn_all (L - b) b (Nat.le_refl _)).2.2.1 k h1 h2
theorem rn_end : ¬ (rn N L lo hi b < L ∧ lo ≤ N (rn N L lo hi b) ∧ N (rn N L lo hi b) ≤ hi) := (rn_all (L - b) b (Nat.le_refl _)).2.2.2
theorem tb_tb : tb N L (tb N L p) = tb N L p := rn_0 rn_end
theorem nby_256 : ∀ n, n < 256 → (Int32.ofNat n - 128) &&& 255 = Int32.ofNat (nby (Int32.ofNat n - 128)) ∧ nby (Int32.ofNat n - 128) < 256 ∧ ((Int32.ofNat n - 128 = Int32.ofNat (nby (Int32.ofNat n - 128)) ∧ nby (Int32.ofNat n - 128) < 128) ∨ (Int32.ofNat n - 128 < 0 ∧ 128 ≤ nby (Int32.ofNat n - 128))) := by decide +kernel
theorem nby_ok {x : Int32} (h : ¬ x < -128 ∧ x < 128) : x &&& 255 = Int32.ofNat (nby x) ∧ nby x < 256 ∧ ((x = Int32.ofNat (nby x) ∧ nby x < 128) ∨ (x < 0 ∧ 128 ≤ nby x)) := by
  have h1 : ¬ x.toInt < -128 := fun q => h.1 (Int32.lt_iff_toInt_lt.mpr q)
  have h2 : x.toInt < 128 := Int32.lt_iff_toInt_lt.mp h.2
  have e : x = Int32.ofNat (x.toInt + 128).toNat - 128 := by
    apply Int32.toInt_inj.mp
    rw [show (128 : Int32) = Int32.ofNat 128 from rfl, z_tsub (by omega) (by omega)]
    omega
  rw [e]
  exact nby_256 _ (by omega)
theorem nby_lt {x : Int32} (h : ¬ x < -128 ∧ x < 128) (hb : b < 128) : (x < Int32.ofNat b) = (nby x < b ∨ 128 ≤ nby x) := by
  obtain ⟨-, -, ⟨e, l⟩ | ⟨e, l⟩⟩ := nby_ok h
  · rw [e, z_lt (by omega) (by omega), ← e]
    exact propext ⟨fun q => Or.inl q, fun q => q.elim id fun q => by omega⟩
  · refine propext ⟨fun _ => Or.inr l, fun _ => ?_⟩
    rw [Int32.lt_iff_toInt_lt] at e ⊢
    rw [Int32.toInt_ofNat_of_lt (by omega)]
    have : (0 : Int32).toInt = 0 := by decide
    omega
theorem nby_gt {x : Int32} (h : ¬ x < -128 ∧ x < 128) (hb : b < 128) : (Int32.ofNat b < x) = (b < nby x ∧ nby x < 128) := by
  obtain ⟨-, -, ⟨e, l⟩ | ⟨e, l⟩⟩ := nby_ok h
  · rw [e, z_lt (by omega) (by omega), ← e]
    exact propext ⟨fun q => ⟨q, l⟩, fun q => q.1⟩
  · refine propext ⟨fun q => ?_, fun q => by omega⟩
    rw [Int32.lt_iff_toInt_lt] at e q
    rw [Int32.toInt_ofNat_of_lt (by omega)] at q
    have : (0 : Int32).toInt = 0 := by decide
    omega
theorem nby_eq {x : Int32} (h : ¬ x < -128 ∧ x < 128) (hb : b < 128) : (x = Int32.ofNat b) = (nby x = b) := by
  obtain ⟨-, -, ⟨e, l⟩ | ⟨e, l⟩⟩ := nby_ok h
  · rw [e, z_inj (by omega) (by omega), ← e]
  · refine propext ⟨fun q => ?_, fun q => by omega⟩
    rw [q, Int32.lt_iff_toInt_lt, Int32.toInt_ofNat_of_lt (by omega)] at e
    have : (0 : Int32).toInt = 0 := by decide
    omega
theorem dgv_lt (h : ∀ m, m < k → 48 ≤ N (b + m) ∧ N (b + m) ≤ 57) : dgv N b k < 10 ^ k := by
  induction k with
  | zero => exact Nat.one_pos
  | succ k ih =>
    have a := ih fun m hm => h m (by omega)
    have c := h k (by omega)
    show 10 * dgv N b k + (N (b + k) - 48) < 10 ^ (k + 1)
    rw [Nat.pow_succ]
    omega
end Byts
