/-! CONDITIONS OF A TEXT: made by wip/whole/math/69.py. -/
section Cond
variable {B : am_A} {i j : Nat → Nat → Int32} {w : Nat → Int32} {d b : Nat}
theorem z_and (a b : Nat) : Int32.ofNat a &&& Int32.ofNat b = Int32.ofNat (a &&& b) := by
  apply Int32.toBitVec_inj.mp
  rw [Int32.toBitVec_and]
  show BitVec.ofNat 32 a &&& BitVec.ofNat 32 b = BitVec.ofNat 32 (a &&& b)
  rw [BitVec.ofNat_and]
theorem z_or (a b : Nat) : Int32.ofNat a ||| Int32.ofNat b = Int32.ofNat (a ||| b) := by
  apply Int32.toBitVec_inj.mp
  rw [Int32.toBitVec_or]
  show BitVec.ofNat 32 a ||| BitVec.ofNat 32 b = BitVec.ofNat 32 (a ||| b)
  rw [BitVec.ofNat_or]
theorem z_shr1 {n : Nat} (h : n < 2147483648) : ((Int32.ofNat n).toUInt32 >>> ((1 : Int32).toUInt32 &&& Int32.toUInt32 31)).toInt32 = Int32.ofNat (n / 2) := by
  apply Int32.toBitVec_inj.mp
  show BitVec.ofNat 32 n >>> (1 : Nat) = BitVec.ofNat 32 (n / 2)
  apply BitVec.eq_of_toNat_eq
  rw [BitVec.toNat_ushiftRight, BitVec.toNat_ofNat, BitVec.toNat_ofNat, Nat.mod_eq_of_lt (by omega), Nat.mod_eq_of_lt (by omega), Nat.shiftRight_eq_div_pow]
theorem z_shr3 {n : Nat} (h : n < 2147483648) : ((Int32.ofNat n).toUInt32 >>> ((3 : Int32).toUInt32 &&& Int32.toUInt32 31)).toInt32 = Int32.ofNat (n / 8) := by
  apply Int32.toBitVec_inj.mp
  show BitVec.ofNat 32 n >>> (3 : Nat) = BitVec.ofNat 32 (n / 8)
  apply BitVec.eq_of_toNat_eq
  rw [BitVec.toNat_ushiftRight, BitVec.toNat_ofNat, BitVec.toNat_ofNat, Nat.mod_eq_of_lt (by omega), Nat.mod_eq_of_lt (by omega), Nat.shiftRight_eq_div_pow]
theorem z_shr6 {n : Nat} (h : n < 2147483648) : ((Int32.ofNat n).toUInt32 >>> ((6 : Int32).toUInt32 &&& Int32.toUInt32 31)).toInt32 = Int32.ofNat (n / 64) := by
  apply Int32.toBitVec_inj.mp
  show BitVec.ofNat 32 n >>> (6 : Nat) = BitVec.ofNat 32 (n / 64)
  apply BitVec.eq_of_toNat_eq
  rw [BitVec.toNat_ushiftRight, BitVec.toNat_ofNat, BitVec.toNat_ofNat, Nat.mod_eq_of_lt (by omega), Nat.mod_eq_of_lt (by omega), Nat.shiftRight_eq_div_pow]
theorem z_shl1 {n : Nat} : Int32.ofNat n <<< ((1 : Int32) &&& 31) = Int32.ofNat (2 * n) := by
  apply Int32.toBitVec_inj.mp
  show BitVec.ofNat 32 n <<< (1 : Nat) = BitVec.ofNat 32 (2 * n)
  apply BitVec.eq_of_toNat_eq
  rw [BitVec.toNat_shiftLeft, BitVec.toNat_ofNat, BitVec.toNat_ofNat, Nat.shiftLeft_eq]
  omega
theorem z_shl6 {n : Nat} : Int32.ofNat n <<< (6 : Int32) = Int32.ofNat (64 * n) := by
  apply Int32.toBitVec_inj.mp
  show BitVec.ofNat 32 n <<< (6 : Nat) = BitVec.ofNat 32 (64 * n)
  apply BitVec.eq_of_toNat_eq
  rw [BitVec.toNat_shiftLeft, BitVec.toNat_ofNat, BitVec.toNat_ofNat, Nat.shiftLeft_eq]
  omega
theorem z_and1 {n : Nat} : Int32.ofNat n &&& 1 = Int32.ofNat (n % 2) := by
  rw [show (1 : Int32) = Int32.ofNat 1 from rfl, z_and, Nat.and_one_is_mod]
theorem z_and7 {n : Nat} : Int32.ofNat n &&& 7 = Int32.ofNat (n % 8) := by
  rw [show (7 : Int32) = Int32.ofNat 7 from rfl, z_and]
  exact congrArg _ (Nat.and_two_pow_sub_one_eq_mod n 3)
theorem nx_1 (m : Nat) (c : Bool) : (2 * m + c.toNat) ^^^ 1 = 2 * m + (!c).toNat := by
  apply Nat.eq_of_testBit_eq
  intro k
  cases k with
  | zero => cases c <;> simp [Nat.testBit_xor, Nat.testBit_zero] <;> omega
  | succ k =>
    rw [Nat.testBit_xor, Nat.testBit_succ, Nat.testBit_succ, Nat.testBit_succ]
    have e1 : (2 * m + c.toNat) / 2 = m := by cases c <;> simp <;> omega
    have e2 : (2 * m + (!c).toNat) / 2 = m := by cases c <;> simp <;> omega
    rw [e1, e2, show 1 / 2 = 0 from rfl, Nat.zero_testBit, Bool.xor_false]
theorem no_1 (m : Nat) (c : Bool) : 2 * m ||| c.toNat = 2 * m + c.toNat := by
  have h := Nat.shiftLeft_add_eq_or_of_lt (i := 1) (b := c.toNat) (by cases c <;> decide) m
  rw [Nat.shiftLeft_eq, Nat.mul_comm] at h
  exact h.symm
theorem na_2 (m : Nat) (c : Bool) (h : m < 2147483648) : (2 * m + c.toNat) &&& 4294967294 = 2 * m := by
  apply Nat.eq_of_testBit_eq
  intro k
  cases k with
  | zero => cases c <;> simp [Nat.testBit_zero]
  | succ k =>
    rw [Nat.testBit_and, Nat.testBit_succ, Nat.testBit_succ, Nat.testBit_succ]
    have e1 : (2 * m + c.toNat) / 2 = m := by cases c <;> simp <;> omega
    have e2 : 2 * m / 2 = m := by omega
    rw [e1, e2, ← Nat.testBit_and]
    exact congrArg (fun x => Nat.testBit x k) (Nat.and_two_pow_sub_one_of_lt_two_pow (n := 31) h)
/-- the answers as bits of one number, the latest lowest -/
def bv : List Bool → Nat
  | [] => 1
  | c :: r => 2 * bv r + c.toNat
theorem bv_lt : ∀ s : List Bool, bv s < 2 ^ (s.length + 1)
  | [] => by decide
  | c :: r => by
    have := bv_lt r
    show 2 * bv r + c.toNat < 2 ^ (r.length + 1 + 1)
    rw [Nat.pow_succ]
    cases c <;> simp <;> omega
theorem bv_lt16 {s : List Bool} (h : s.length ≤ 16) : bv s < 131072 :=
  Nat.lt_of_lt_of_le (bv_lt s) (Nat.pow_le_pow_right (by decide) (show s.length + 1 ≤ 17 by omega))
/-- tags and facts -/
abbrev Fct : Type := (Nat → Bool) × (Nat → Int32)
/-- one step of a condition -/
def stE (fc : Fct) (st th : Int32) (s : List Bool) : List Bool :=
  if st = 300 then (match s with | c :: r => (!c) :: r | [] => [])
  else if st < 301 then (if st < 5 then fc.1 st.toNatClampNeg else if st < 200 then decide (fc.2 (st - 100).toNatClampNeg < th) else decide (th < fc.2 (st - 200).toNatClampNeg)) :: s
  else match s with | c :: a :: r => (if st = 301 then a && c else a || c) :: r | _ => []
def evE (w : Nat → Int32) (o : Nat) (fc : Fct) (a : Nat) : Nat → List Bool
  | 0 => []
  | k + 1 => stE fc (w (o + 50 + 2 * (a + k))) (w (o + 50 + 2 * (a + k) + 1)) (evE w o fc a k)
def hdB : List Bool → Bool
  | [] => true
  | c :: _ => c
/-- a line's condition -/
def hld (w : Nat → Int32) (o : Nat) (fc : Fct) (n : Nat) : Bool := hdB (evE w o fc (cn w (o + 2 + 4 * n + 2)) (cn w (o + 2 + 4 * n + 3) - cn w (o + 2 + 4 * n + 2)))
/-- the tags as the class keeps them -/
def TgC (x : Int32) (tg : Nat → Bool) : Prop := ∀ k, k < 5 → (x.toUInt32 >>> ((Int32.ofNat k).toUInt32 &&& Int32.toUInt32 31)).toInt32 &&& 1 = if tg k then 1 else 0
theorem z_lit5 {x : Int32} (h : ¬ x < 0 ∧ x < 5) : ∃ s, x = Int32.ofNat s ∧ s < 5 := z_lk 5 (by omega) h.1 h.2
theorem z_f100 {x : Int32} (h : ¬ x < 100 ∧ x < 106) : ∃ f, x = Int32.ofNat (100 + f) ∧ f < 6 := by
  have h0 : ¬ x < 0 := fun q => h.1 (by
    rw [Int32.lt_iff_toInt_lt] at q ⊢
    have e1 : (0 : Int32).toInt = 0 := by decide
    have e2 : (100 : Int32).toInt = 100 := by decide
    omega)
  obtain ⟨n, rfl, hn⟩ := z_lk 106 (by omega) h0 h.2
  have := h.1
  rw [show (100 : Int32) = Int32.ofNat 100 from rfl, z_lt (by omega) (by omega)] at this
  exact ⟨n - 100, congrArg _ (by omega), by omega⟩
theorem z_f200 {x : Int32} (h : ¬ x < 200 ∧ x < 206) : ∃ f, x = Int32.ofNat (200 + f) ∧ f < 6 := by
  have h0 : ¬ x < 0 := fun q => h.1 (by
    rw [Int32.lt_iff_toInt_lt] at q ⊢
    have e1 : (0 : Int32).toInt = 0 := by decide
    have e2 : (200 : Int32).toInt = 200 := by decide
    omega)
  obtain ⟨n, rfl, hn⟩ := z_lk 206 (by omega) h0 h.2
  have := h.1
  rw [show (200 : Int32) = Int32.ofNat 200 from rfl, z_lt (by omega) (by omega)] at this
  exact ⟨n - 200, congrArg _ (by omega), by omega⟩
theorem or6 {k t : Nat} (hk : k < 64) : k ||| 64 * t = k + 64 * t := by
  have h := Nat.shiftLeft_add_eq_or_of_lt (i := 6) (b := k) (by omega) t
  rw [Nat.shiftLeft_eq, Nat.or_comm] at h
  rw [show 64 * t = t * 2 ^ 6 by omega, ← h]
  omega
theorem enc_0 {s : Nat} {th : Int32} (h : s < 5) : enc (Int32.ofNat s) th = Int32.ofNat (8 * s) := by
  have : s = 0 ∨ s = 1 ∨ s = 2 ∨ s = 3 ∨ s = 4 := by omega
  unfold enc
  rcases this with rfl | rfl | rfl | rfl | rfl <;> (rw [if_pos (by decide)]; decide)
theorem enc_1 {f t : Nat} (h : f < 6) : enc (Int32.ofNat (100 + f)) (Int32.ofNat t) = Int32.ofNat (1 + 8 * f + 64 * t) := by
  have : f = 0 ∨ f = 1 ∨ f = 2 ∨ f = 3 ∨ f = 4 ∨ f = 5 := by omega
  have e : enc (Int32.ofNat (100 + f)) (Int32.ofNat t) = Int32.ofNat (1 + 8 * f) ||| Int32.ofNat t <<< (6 : Int32) := by
    unfold enc
    rcases this with rfl | rfl | rfl | rfl | rfl | rfl <;> (rw [if_neg (by decide), if_pos (by decide)]; exact congrArg (· ||| _) (by decide))
  rw [e, z_shl6, z_or, or6 (by omega)]
theorem enc_2 {f t : Nat} (h : f < 6) : enc (Int32.ofNat (200 + f)) (Int32.ofNat t) = Int32.ofNat (2 + 8 * f + 64 * t) := by
  have : f = 0 ∨ f = 1 ∨ f = 2 ∨ f = 3 ∨ f = 4 ∨ f = 5 := by omega
  have e : enc (Int32.ofNat (200 + f)) (Int32.ofNat t) = Int32.ofNat (2 + 8 * f) ||| Int32.ofNat t <<< (6 : Int32) := by
    unfold enc
    rcases this with rfl | rfl | rfl | rfl | rfl | rfl <;> (rw [if_neg (by decide), if_neg (by decide), if_pos (by decide)]; exact congrArg (· ||| _) (by decide))
  rw [e, z_shl6, z_or, or6 (by omega)]
theorem enc_300 {th : Int32} : enc 300 th = 3 := by
  unfold enc
  rw [if_neg (by decide), if_neg (by decide), if_neg (by decide), if_pos rfl]
theorem enc_301 {th : Int32} : enc 301 th = 4 := by
  unfold enc
  rw [if_neg (by decide), if_neg (by decide), if_neg (by decide), if_neg (by decide), if_pos rfl]
theorem enc_302 {th : Int32} : enc 302 th = 5 := by
  unfold enc
  rw [if_neg (by decide), if_neg (by decide), if_neg (by decide), if_neg (by decide), if_neg (by decide)]
theorem stE_tag {fc : Fct} {s : Nat} {th : Int32} {r : List Bool} (h : s < 5) : stE fc (Int32.ofNat s) th r = fc.1 s :: r := by
  unfold stE
  rw [if_neg (by rw [show (300 : Int32) = Int32.ofNat 300 from rfl, z_inj (by omega) (by omega)]; omega), if_pos (by rw [show (301 : Int32) = Int32.ofNat 301 from rfl, z_lt (by omega) (by omega)]; omega), if_pos (by rw [show (5 : Int32) = Int32.ofNat 5 from rfl, z_lt (by omega) (by omega)]; omega), z_nat (by omega)]
theorem stE_less {fc : Fct} {f : Nat} {th : Int32} {r : List Bool} (h : f < 6) : stE fc (Int32.ofNat (100 + f)) th r = decide (fc.2 f < th) :: r := by
  unfold stE
  rw [if_neg (by rw [show (300 : Int32) = Int32.ofNat 300 from rfl, z_inj (by omega) (by omega)]; omega), if_pos (by rw [show (301 : Int32) = Int32.ofNat 301 from rfl, z_lt (by omega) (by omega)]; omega), if_neg (by rw [show (5 : Int32) = Int32.ofNat 5 from rfl, z_lt (by omega) (by omega)]; omega), if_pos (by rw [show (200 : Int32) = Int32.ofNat 200 from rfl, z_lt (by omega) (by omega)]; omega), show (100 : Int32) = Int32.ofNat 100 from rfl, z_sub (by omega), z_nat (by omega), Nat.add_sub_cancel_left]
theorem stE_more {fc : Fct} {f : Nat} {th : Int32} {r : List Bool} (h : f < 6) : stE fc (Int32.ofNat (200 + f)) th r = decide (th < fc.2 f) :: r := by
  unfold stE
  rw [if_neg (by rw [show (300 : Int32) = Int32.ofNat 300 from rfl, z_inj (by omega) (by omega)]; omega), if_pos (by rw [show (301 : Int32) = Int32.ofNat 301 from rfl, z_lt (by omega) (by omega)]; omega), if_neg (by rw [show (5 : Int32) = Int32.ofNat 5 from rfl, z_lt (by omega) (by omega)]; omega), if_neg (by rw [show (200 : Int32) = Int32.ofNat 200 from rfl, z_lt (by omega) (by omega)]; omega), show (200 : Int32) = Int32.ofNat 200 from rfl, z_sub (by omega), z_nat (by omega), Nat.add_sub_cancel_left]
theorem stE_not {fc : Fct} {th : Int32} {c : Bool} {r : List Bool} : stE fc 300 th (c :: r) = (!c) :: r := by
  unfold stE
  rw [if_pos rfl]
theorem stE_and {fc : Fct} {th : Int32} {c a : Bool} {r : List Bool} : stE fc 301 th (c :: a :: r) = (a && c) :: r := by
  unfold stE
  rw [if_neg (by decide), if_neg (by decide)]
  rfl
theorem stE_or {fc : Fct} {th : Int32} {c a : Bool} {r : List Bool} : stE fc 302 th (c :: a :: r) = (a || c) :: r := by
  unfold stE
  rw [if_neg (by decide), if_neg (by decide)]
  rfl
/-- the kinds of steps -/
theorem st_cases {st th : Int32} (h0 : ¬ st < 0) (h1 : st < 303) (h2 : st < 300 → (st < 5 ∨ (¬ st < 100 ∧ st < 106) ∨ (¬ st < 200 ∧ st < 206)) ∧ ¬ th < 0 ∧ th < 100000) : (∃ s, st = Int32.ofNat s ∧ s < 5) ∨ (∃ f t, st = Int32.ofNat (100 + f) ∧ f < 6 ∧ th = Int32.ofNat t ∧ t < 100000) ∨ (∃ f t, st = Int32.ofNat (200 + f) ∧ f < 6 ∧ th = Int32.ofNat t ∧ t < 100000) ∨ st = 300 ∨ st = 301 ∨ st = 302 := by
  by_cases g : st < 300
  · obtain ⟨g1, g2, g3⟩ := h2 g
    obtain ⟨t, ht, t1⟩ := z_lk 100000 (by omega) g2 g3
    rcases g1 with g1 | g1 | g1
    · obtain ⟨s, e, hs⟩ := z_lit5 ⟨h0, g1⟩
      exact Or.inl ⟨s, e, hs⟩
    · obtain ⟨f, e, hf⟩ := z_f100 g1
      exact Or.inr (Or.inl ⟨f, t, e, hf, ht, t1⟩)
    · obtain ⟨f, e, hf⟩ := z_f200 g1
      exact Or.inr (Or.inr (Or.inl ⟨f, t, e, hf, ht, t1⟩))
  · rw [Int32.lt_iff_toInt_lt] at g h1
    have e1 : (300 : Int32).toInt = 300 := by decide
    have e2 : (301 : Int32).toInt = 301 := by decide
    have e3 : (302 : Int32).toInt = 302 := by decide
    have e4 : (303 : Int32).toInt = 303 := by decide
    have : st.toInt = 300 ∨ st.toInt = 301 ∨ st.toInt = 302 := by omega
    exact Or.inr (Or.inr (Or.inr (this.imp (fun q => Int32.toInt_inj.mp (q.trans e1.symm)) (Or.imp (fun q => Int32.toInt_inj.mp (q.trans e2.symm)) (fun q => Int32.toInt_inj.mp (q.trans e3.symm))))))
theorem ofNat_lt300 {n : Nat} (h : n < 300) : Int32.ofNat n < 300 := by
  rw [show (300 : Int32) = Int32.ofNat 300 from rfl, z_lt (by omega) (by omega)]
  exact h
theorem evE_len {o a e : Nat} {fc : Fct} (h : TxD w o a e) : ∃ dp : Nat → Nat, ∀ k, a + k ≤ e → (evE w o fc a k).length = dp (a + k) ∧ (k = 0 ∨ True) ∧ (a + k < e → dp (a + k) ≤ 16 ∧ dp (a + k + 1) ≤ 16) ∧ (a + k = e → a < e → dp (a + k) = 1) ∧ (a + k < e → w (o + 50 + 2 * (a + k)) = 300 → 1 ≤ dp (a + k)) ∧ (a + k < e → ¬ w (o + 50 + 2 * (a + k)) < 301 → 2 ≤ dp (a + k)) := by
  obtain ⟨h1, h2, dp, h3, h4, h5⟩ := h
  refine ⟨dp, fun k hk => ?_⟩
  have len : ∀ k, a + k ≤ e → (evE w o fc a k).length = dp (a + k) := by
    intro k
    induction k with
    | zero => exact fun _ => h3.symm
    | succ k ih =>
      intro hk
      have ih := ih (by omega)
      obtain ⟨-, -, c0, c1, c2, c3, c4⟩ := h5 (a + k) (by omega) (by omega)
      show (stE fc (w (o + 50 + 2 * (a + k))) (w (o + 50 + 2 * (a + k) + 1)) (evE w o fc a k)).length = dp (a + k + 1)
      generalize evE w o fc a k = s at ih
      rcases st_cases c0 c1 (fun q => ⟨(c2 q).1, (c2 q).2.1, (c2 q).2.2.1⟩) with ⟨s', e1, hs⟩ | ⟨f, t, e1, hf, e2, ht⟩ | ⟨f, t, e1, hf, e2, ht⟩ | e1 | e1 | e1
      · have q := (c2 (by rw [e1]; exact ofNat_lt300 (by omega))).2.2.2
        rw [e1, stE_tag hs, List.length_cons, ih, q]
      · have q := (c2 (by rw [e1]; exact ofNat_lt300 (by omega))).2.2.2
        rw [e1, stE_less hf, List.length_cons, ih, q]
      · have q := (c2 (by rw [e1]; exact ofNat_lt300 (by omega))).2.2.2
        rw [e1, stE_more hf, List.length_cons, ih, q]
      · have q := c3 e1
        rw [e1]
        match s, ih with
        | [], ih => exact absurd ih (by show ¬ 0 = _; omega)
        | c :: r, ih =>
          rw [stE_not, q.2, ← ih]
          rfl
      · have q := c4 (by rw [e1]; decide)
        rw [e1]
        match s, ih with
        | [], ih => exact absurd ih (by show ¬ 0 = _; omega)
        | [c], ih => exact absurd ih (by show ¬ 1 = _; omega)
        | c :: a' :: r, ih =>
          have ih : r.length + 1 + 1 = dp (a + k) := ih
          rw [stE_and]
          show r.length + 1 = _
          omega
      · have q := c4 (by rw [e1]; decide)
        rw [e1]
        match s, ih with
        | [], ih => exact absurd ih (by show ¬ 0 = _; omega)
        | [c], ih => exact absurd ih (by show ¬ 1 = _; omega)
        | c :: a' :: r, ih =>
          have ih : r.length + 1 + 1 = dp (a + k) := ih
          rw [stE_or]
          show r.length + 1 = _
          omega
  refine ⟨len k hk, Or.inr trivial, fun q => ?_, fun q q2 => by rw [q]; exact h4 q2, fun q g => ?_, fun q g => ?_⟩
  · obtain ⟨c5, c6, -⟩ := h5 (a + k) (by omega) q
    exact ⟨c5, c6⟩
  · exact ((h5 (a + k) (by omega) q).2.2.2.2.2.1 g).1
  · exact ((h5 (a + k) (by omega) q).2.2.2.2.2.2 g).1
end Cond
