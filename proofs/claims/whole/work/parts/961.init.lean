/-! THE START: what a constructor makes, steps. Made by wip/whole/math/961.py. -/
/-- p cells more; the object x got the fields ks, its numbers js -/
def Nr (x : Nat) (ks js : List Nat) (p s : Nat) (B : am_A) (i : Nat → Nat → Int32) (B' : am_A) (i' : Nat → Nat → Int32) : Prop :=
  (am_N B' = am_N B + p ∧ am_C B' = am_C B + p ∧ am_S B' = am_S B + s) ∧ (∀ q, q < am_N B → am_K B' q = am_K B q ∧ am_L B' q = am_L B q ∧ am_J B' q = am_J B q) ∧ (∀ q l, q < am_N B → (q = x → l ∉ ks) → am_R B' q l = am_R B q l) ∧ (∀ q l, q < am_N B → (q = x → l ∉ js) → i' q l = i q l) ∧ ∀ q l, am_N B ≤ q → q < am_N B + p → i' q l = 0
def rB (B : am_A) (x k t len : Nat) : am_A := am_sR (am_nw B t len len) x k (some (am_N B))
def rI (B : am_A) (i : Nat → Nat → Int32) : Nat → Nat → Int32 := am_up1 i (am_N B) fun _ => 0
/-- a row of the object x -/
def Rf (B : am_A) (n x k t len : Nat) : Prop := am_K B n = t ∧ am_L B n = len ∧ am_R B x k = some n
section Init
variable {B B1 B2 : am_A} {i i1 i2 : Nat → Nat → Int32} {x n k t len p s p1 s1 o sl : Nat} {ks js ks1 js1 : List Nat}
theorem Nr.rf : Nr x [] [] 0 0 B i B i := ⟨⟨rfl, rfl, rfl⟩, fun _ _ => ⟨rfl, rfl, rfl⟩, fun _ _ _ _ => rfl, fun _ _ _ _ => rfl, fun q l h1 h2 => by omega⟩
theorem Nr.tr (h1 : Nr x ks js p s B i B1 i1) (h2 : Nr x ks1 js1 p1 s1 B1 i1 B2 i2) (hx : x < am_N B) : Nr x (ks ++ ks1) (js ++ js1) (p + p1) (s + s1) B i B2 i2 := by
  obtain ⟨⟨a1, a2, a3⟩, a4, a5, a6, a7⟩ := h1
  obtain ⟨⟨b1, b2, b3⟩, b4, b5, b6, b7⟩ := h2
  refine ⟨⟨by omega, by omega, by omega⟩, fun q hq => ?_, fun q l hq h => ?_, fun q l hq h => ?_, fun q l h1 h2 => ?_⟩
  · obtain ⟨c1, c2, c3⟩ := a4 q hq
    obtain ⟨d1, d2, d3⟩ := b4 q (by omega)
    exact ⟨d1.trans c1, d2.trans c2, d3.trans c3⟩
  · exact (b5 q l (by omega) fun e hm => h e (List.mem_append_right _ hm)).trans (a5 q l hq fun e hm => h e (List.mem_append_left _ hm))
  · exact (b6 q l (by omega) fun e hm => h e (List.mem_append_right _ hm)).trans (a6 q l hq fun e hm => h e (List.mem_append_left _ hm))
  · by_cases g : q < am_N B1
    · exact (b6 q l g fun e => by omega).trans (a7 q l h1 (by omega))
    · exact b7 q l (by omega) (by omega)
theorem row_nr (hx : x < am_N B) : Nr x [k] [] 1 len B i (rB B x k t len) (rI B i) ∧ Rf (rB B x k t len) (am_N B) x k t len := by
  refine ⟨⟨⟨rfl, rfl, rfl⟩, fun q hq => ⟨if_neg (by omega), if_neg (by omega), if_neg (by omega)⟩, fun q l hq h => ?_, fun q l hq _ => ?_, fun q l h1 h2 => ?_⟩, if_pos rfl, if_pos rfl, ?_⟩
  · show am_up2 (am_R (am_nw B t len len)) x k (some (am_N B)) q l = _
    rw [y_up2 (by
      by_cases e : q = x
      · exact Or.inr fun e2 => h e (by rw [e2]; exact List.mem_singleton_self k)
      · exact Or.inl e)]
    exact congrFun (if_neg (by omega)) l
  · exact congrFun (if_neg (by omega)) l
  · have e : q = am_N B := by omega
    exact congrFun (if_pos e) l
  · show am_up2 (am_R (am_nw B t len len)) x k (some (am_N B)) x k = _
    exact y_up1 rfl rfl
theorem si_nr {v : Int32} : Nr x [] [k] 0 0 B i B (am_up2 i x k v) := ⟨⟨rfl, rfl, rfl⟩, fun _ _ => ⟨rfl, rfl, rfl⟩, fun _ _ _ _ => rfl, fun q l hq h => y_up2 (by
  by_cases e : q = x
  · exact Or.inr fun e2 => h e (by rw [e2]; exact List.mem_singleton_self k)
  · exact Or.inl e), fun q l h1 h2 => by omega⟩
/-- a row stays one -/
theorem Rf.mv (h : Rf B n x k t len) (hN : Nr x ks js p s B i B1 i1) (hn : n < am_N B) (hx : x < am_N B) (hk : k ∉ ks) : Rf B1 n x k t len := ⟨(hN.2.1 n hn).1.trans h.1, (hN.2.1 n hn).2.1.trans h.2.1, (hN.2.2.1 x k hx fun _ => hk).trans h.2.2⟩
/-- an object with what is in it, as a field of x -/
theorem obj_nr (hx : x < am_N B) (h : Nr (am_N B) ks js p s (am_nw B t 0 sl) (rI B i) B1 i1) : Nr x [k] [] (1 + p) (sl + s) B i (am_sR B1 x k (some (am_N B))) i1 ∨ ∃ q l, i1 q l ≠ 0 ∧ q = am_N B := by
  obtain ⟨⟨a1, a2, a3⟩, a4, a5, a6, a7⟩ := h
  have n1 : am_N (am_nw B t 0 sl) = am_N B + 1 := rfl
  by_cases hz : ∃ q l, i1 q l ≠ 0 ∧ q = am_N B
  · exact Or.inr hz
  refine Or.inl ⟨⟨?_, ?_, ?_⟩, fun q hq => ?_, fun q l hq h => ?_, fun q l hq _ => ?_, fun q l h1 h2 => ?_⟩
  · show am_N B1 = _
    omega
  · show am_C B1 = _
    have : am_C (am_nw B t 0 sl) = am_C B + 1 := rfl
    omega
  · show am_S B1 = _
    have : am_S (am_nw B t 0 sl) = am_S B + sl := rfl
    omega
  · obtain ⟨c1, c2, c3⟩ := a4 q (by omega)
    exact ⟨c1.trans (if_neg (by omega)), c2.trans (if_neg (by omega)), c3.trans (if_neg (by omega))⟩
  · show am_up2 (am_R B1) x k (some (am_N B)) q l = _
    rw [y_up2 (by
      by_cases e : q = x
      · exact Or.inr fun e2 => h e (by rw [e2]; exact List.mem_singleton_self k)
      · exact Or.inl e), a5 q l (by omega) fun e => by omega]
    exact congrFun (if_neg (by omega)) l
  · rw [a6 q l (by omega) fun e => by omega]
    exact congrFun (if_neg (by omega)) l
  · by_cases g : q = am_N B
    · exact Classical.byContradiction fun q' => hz ⟨q, l, q', g⟩
    · exact a7 q l (by omega) (by omega)
/-- rows of rows -/
theorem gr_nr (n : Nat) : ∀ (k : Nat) (B : am_A) (i : Nat → Nat → Int32), o < am_N B → ∃ B' i', am_gr len o n k (am_wI B i) = am_wI B' i' ∧ (am_N B' = am_N B + n ∧ am_C B' = am_C B + n ∧ am_S B' = am_S B + n * len) ∧ (∀ q, q < am_N B → am_K B' q = am_K B q ∧ am_L B' q = am_L B q ∧ am_J B' q = am_J B q) ∧ (∀ q l, q < am_N B → (q = o → l < k) → am_R B' q l = am_R B q l) ∧ (∀ q l, q < am_N B → i' q l = i q l) ∧ (∀ q l, am_N B ≤ q → q < am_N B + n → i' q l = 0) ∧ ∀ j, j < n → Rf B' (am_N B + j) o (k + j) 21 len := by
  induction n with
  | zero => exact fun k B i _ => ⟨B, i, rfl, ⟨rfl, rfl, by omega⟩, fun _ _ => ⟨rfl, rfl, rfl⟩, fun _ _ _ _ => rfl, fun _ _ _ => rfl, fun q l h1 h2 => by omega, fun j hj => by omega⟩
  | succ n ih =>
    intro k B i ho
    obtain ⟨⟨⟨a1, a2, a3⟩, a4, a5, a6, a7⟩, f⟩ := row_nr (B := B) (i := i) (x := o) (k := k) (t := 21) (len := len) ho
    obtain ⟨B', i', E, ⟨b1, b2, b3⟩, b4, b5, b6, b7, b8⟩ := ih (k + 1) (rB B o k 21 len) (rI B i) (by omega)
    have eS : (n + 1) * len = n * len + len := Nat.succ_mul n len
    refine ⟨B', i', E, ⟨by omega, by omega, by omega⟩, fun q hq => ?_, fun q l hq h => ?_, fun q l hq => ?_, fun q l h1 h2 => ?_, fun j hj => ?_⟩
    · obtain ⟨c1, c2, c3⟩ := a4 q hq
      obtain ⟨d1, d2, d3⟩ := b4 q (by omega)
      exact ⟨d1.trans c1, d2.trans c2, d3.trans c3⟩
    · exact (b5 q l (by omega) fun e => by have := h e; omega).trans (a5 q l hq fun e hm => by have := h e; have := List.mem_singleton.mp hm; omega)
    · exact (b6 q l (by omega)).trans (a6 q l hq fun _ hm => nomatch hm)
    · by_cases g : q < am_N B + 1
      · exact (b6 q l (by omega)).trans (a7 q l h1 (by omega))
      · exact b7 q l (by omega) (by omega)
    · cases j with
      | zero => exact ⟨(b4 _ (by omega)).1.trans f.1, (b4 _ (by omega)).2.1.trans f.2.1, (b5 o k (by omega) fun _ => by omega).trans f.2.2⟩
      | succ j =>
        have := b8 j (by omega)
        rw [a1, show am_N B + 1 + j = am_N B + (j + 1) by omega, show k + 1 + j = k + (j + 1) by omega] at this
        exact this
end Init
