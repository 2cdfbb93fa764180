/-! THE ENTRY: what the law's start gives, the abstract heap of the start, the law's whole walk. Made by wip/whole/math/98.py. -/
def e_tm : List (String × Nat) := [("OakYard$Tape", 75), ("OakYard$Tape", 81), ("OakYard$Tape", 90), ("OakYard$Tape", 117), ("OakYard$Tape", 125), ("OakYard$Tape", 130), ("OakYard$Tape", 115), ("OakYard$Tape", 103), ("OakYardModel", 244), ("OakYardModel", 246), ("OakYardModel", 248), ("OakYardModel", 250), ("OakYardModel", 252), ("OakYardModel", 254), ("OakYardModel", 256), ("OakYardModel", 258), ("OakYardModel", 211), ("OakYardModel", 213), ("OakYardModel", 215), ("OakYardModel", 217), ("OakYardModel", 219), ("OakYardModel", 221), ("OakYardModel", 223), ("OakYardModel", 225), ("OakYardModel", 227), ("OakYardModel", 229), ("OakYardModel", 231)]
def e_t (i : Nat) : Term := .string (e_tm.getD i ("", 0)).1 (e_tm.getD i ("", 0)).2
def e_len (i : Nat) : Nat := (so_tl.getD i []).length
abbrev e_F : List Cond := flatC (Jvm.Cond.and given_1 narrow_1)
def e_v (i : Nat) : Term := .field (e_t i) "java/lang/String" "value" "[B"
theorem e_x1 : ∀ i, i < 27 → Cond.exactly (e_t i) "java/lang/String" ∈ e_F ∧ Cond.eq (.field (e_t i) "java/lang/String" "coder" "B") (.int 0) ∈ e_F ∧ Cond.arrayOf (e_v i) .byte ∈ e_F ∧ Cond.eq (.length (e_v i)) (.int (Int32.ofNat (e_len i))) ∈ e_F ∧ e_len i < 2 ^ 31 := by decide +kernel
def e_pos : List Nat := [183, 204, 228, 234, 241, 267, 299, 306, 312, 319, 327, 334, 342, 351, 359, 367, 390, 397, 404, 411, 420, 428, 435, 442, 451, 459, 466]
theorem e_x2_0 : ∀ j, j < e_len 0 → e_F[e_pos.getD 0 0 + 4 + j]? = some (Cond.eq (.elem (e_v 0) (.int (Int32.ofNat j))) (.int ((so_tl.getD 0 []).getD j 0))) := by decide +kernel
theorem e_x2_1 : ∀ j, j < e_len 1 → e_F[e_pos.getD 1 0 + 4 + j]? = some (Cond.eq (.elem (e_v 1) (.int (Int32.ofNat j))) (.int ((so_tl.getD 1 []).getD j 0))) := by decide +kernel
theorem e_x2_2 : ∀ j, j < e_len 2 → e_F[e_pos.getD 2 0 + 4 + j]? = some (Cond.eq (.elem (e_v 2) (.int (Int32.ofNat j))) (.int ((so_tl.getD 2 []).getD j 0))) := by decide +kernel
theorem e_x2_3 : ∀ j, j < e_len 3 → e_F[e_pos.getD 3 0 + 4 + j]? = some (Cond.eq (.elem (e_v 3) (.int (Int32.ofNat j))) (.int ((so_tl.getD 3 []).getD j 0))) := by decide +kernel
theorem e_x2_4 : ∀ j, j < e_len 4 → e_F[e_pos.getD 4 0 + 4 + j]? = some (Cond.eq (.elem (e_v 4) (.int (Int32.ofNat j))) (.int ((so_tl.getD 4 []).getD j 0))) := by decide +kernel
theorem e_x2_5 : ∀ j, j < e_len 5 → e_F[e_pos.getD 5 0 + 4 + j]? = some (Cond.eq (.elem (e_v 5) (.int (Int32.ofNat j))) (.int ((so_tl.getD 5 []).getD j 0))) := by decide +kernel
theorem e_x2_6 : ∀ j, j < e_len 6 → e_F[e_pos.getD 6 0 + 4 + j]? = some (Cond.eq (.elem (e_v 6) (.int (Int32.ofNat j))) (.int ((so_tl.getD 6 []).getD j 0))) := by decide +kernel
theorem e_x2_7 : ∀ j, j < e_len 7 → e_F[e_pos.getD 7 0 + 4 + j]? = some (Cond.eq (.elem (e_v 7) (.int (Int32.ofNat j))) (.int ((so_tl.getD 7 []).getD j 0))) := by decide +kernel
theorem e_x2_8 : ∀ j, j < e_len 8 → e_F[e_pos.getD 8 0 + 4 + j]? = some (Cond.eq (.elem (e_v 8) (.int (Int32.ofNat j))) (.int ((so_tl.getD 8 []).getD j 0))) := by decide +kernel
theorem e_x2_9 : ∀ j, j < e_len 9 → e_F[e_pos.getD 9 0 + 4 + j]? = some (Cond.eq (.elem (e_v 9) (.int (Int32.ofNat j))) (.int ((so_tl.getD 9 []).getD j 0))) := by decide +kernel
theorem e_x2_10 : ∀ j, j < e_len 10 → e_F[e_pos.getD 10 0 + 4 + j]? = some (Cond.eq (.elem (e_v 10) (.int (Int32.ofNat j))) (.int ((so_tl.getD 10 []).getD j 0))) := by decide +kernel
theorem e_x2_11 : ∀ j, j < e_len 11 → e_F[e_pos.getD 11 0 + 4 + j]? = some (Cond.eq (.elem (e_v 11) (.int (Int32.ofNat j))) (.int ((so_tl.getD 11 []).getD j 0))) := by decide +kernel
theorem e_x2_12 : ∀ j, j < e_len 12 → e_F[e_pos.getD 12 0 + 4 + j]? = some (Cond.eq (.elem (e_v 12) (.int (Int32.ofNat j))) (.int ((so_tl.getD 12 []).getD j 0))) := by decide +kernel
theorem e_x2_13 : ∀ j, j < e_len 13 → e_F[e_pos.getD 13 0 + 4 + j]? = some (Cond.eq (.elem (e_v 13) (.int (Int32.ofNat j))) (.int ((so_tl.getD 13 []).getD j 0))) := by decide +kernel
theorem e_x2_14 : ∀ j, j < e_len 14 → e_F[e_pos.getD 14 0 + 4 + j]? = some (Cond.eq (.elem (e_v 14) (.int (Int32.ofNat j))) (.int ((so_tl.getD 14 []).getD j 0))) := by decide +kernel
theorem e_x2_15 : ∀ j, j < e_len 15 → e_F[e_pos.getD 15 0 + 4 + j]? = some (Cond.eq (.elem (e_v 15) (.int (Int32.ofNat j))) (.int ((so_tl.getD 15 []).getD j 0))) := by decide +kernel
theorem e_x2_16 : ∀ j, j < e_len 16 → e_F[e_pos.getD 16 0 + 4 + j]? = some (Cond.eq (.elem (e_v 16) (.int (Int32.ofNat j))) (.int ((so_tl.getD 16 []).getD j 0))) := by decide +kernel
theorem e_x2_17 : ∀ j, j < e_len 17 → e_F[e_pos.getD 17 0 + 4 + j]? = some (Cond.eq (.elem (e_v 17) (.int (Int32.ofNat j))) (.int ((so_tl.getD 17 []).getD j 0))) := by decide +kernel
theorem e_x2_18 : ∀ j, j < e_len 18 → e_F[e_pos.getD 18 0 + 4 + j]? = some (Cond.eq (.elem (e_v 18) (.int (Int32.ofNat j))) (.int ((so_tl.getD 18 []).getD j 0))) := by decide +kernel
theorem e_x2_19 : ∀ j, j < e_len 19 → e_F[e_pos.getD 19 0 + 4 + j]? = some (Cond.eq (.elem (e_v 19) (.int (Int32.ofNat j))) (.int ((so_tl.getD 19 []).getD j 0))) := by decide +kernel
theorem e_x2_20 : ∀ j, j < e_len 20 → e_F[e_pos.getD 20 0 + 4 + j]? = some (Cond.eq (.elem (e_v 20) (.int (Int32.ofNat j))) (.int ((so_tl.getD 20 []).getD j 0))) := by decide +kernel
theorem e_x2_21 : ∀ j, j < e_len 21 → e_F[e_pos.getD 21 0 + 4 + j]? = some (Cond.eq (.elem (e_v 21) (.int (Int32.ofNat j))) (.int ((so_tl.getD 21 []).getD j 0))) := by decide +kernel
theorem e_x2_22 : ∀ j, j < e_len 22 → e_F[e_pos.getD 22 0 + 4 + j]? = some (Cond.eq (.elem (e_v 22) (.int (Int32.ofNat j))) (.int ((so_tl.getD 22 []).getD j 0))) := by decide +kernel
theorem e_x2_23 : ∀ j, j < e_len 23 → e_F[e_pos.getD 23 0 + 4 + j]? = some (Cond.eq (.elem (e_v 23) (.int (Int32.ofNat j))) (.int ((so_tl.getD 23 []).getD j 0))) := by decide +kernel
theorem e_x2_24 : ∀ j, j < e_len 24 → e_F[e_pos.getD 24 0 + 4 + j]? = some (Cond.eq (.elem (e_v 24) (.int (Int32.ofNat j))) (.int ((so_tl.getD 24 []).getD j 0))) := by decide +kernel
theorem e_x2_25 : ∀ j, j < e_len 25 → e_F[e_pos.getD 25 0 + 4 + j]? = some (Cond.eq (.elem (e_v 25) (.int (Int32.ofNat j))) (.int ((so_tl.getD 25 []).getD j 0))) := by decide +kernel
theorem e_x2_26 : ∀ j, j < e_len 26 → e_F[e_pos.getD 26 0 + 4 + j]? = some (Cond.eq (.elem (e_v 26) (.int (Int32.ofNat j))) (.int ((so_tl.getD 26 []).getD j 0))) := by decide +kernel
theorem e_x2 {i : Nat} (hi : i < 27) {j : Nat} (hj : j < e_len i) : Cond.eq (.elem (e_v i) (.int (Int32.ofNat j))) (.int ((so_tl.getD i []).getD j 0)) ∈ e_F := by
  match i, hi, hj with
  | 0, _, hj => exact List.mem_of_getElem? (e_x2_0 j hj)
  | 1, _, hj => exact List.mem_of_getElem? (e_x2_1 j hj)
  | 2, _, hj => exact List.mem_of_getElem? (e_x2_2 j hj)
  | 3, _, hj => exact List.mem_of_getElem? (e_x2_3 j hj)
  | 4, _, hj => exact List.mem_of_getElem? (e_x2_4 j hj)
  | 5, _, hj => exact List.mem_of_getElem? (e_x2_5 j hj)
  | 6, _, hj => exact List.mem_of_getElem? (e_x2_6 j hj)
  | 7, _, hj => exact List.mem_of_getElem? (e_x2_7 j hj)
  | 8, _, hj => exact List.mem_of_getElem? (e_x2_8 j hj)
  | 9, _, hj => exact List.mem_of_getElem? (e_x2_9 j hj)
  | 10, _, hj => exact List.mem_of_getElem? (e_x2_10 j hj)
  | 11, _, hj => exact List.mem_of_getElem? (e_x2_11 j hj)
  | 12, _, hj => exact List.mem_of_getElem? (e_x2_12 j hj)
  | 13, _, hj => exact List.mem_of_getElem? (e_x2_13 j hj)
  | 14, _, hj => exact List.mem_of_getElem? (e_x2_14 j hj)
  | 15, _, hj => exact List.mem_of_getElem? (e_x2_15 j hj)
  | 16, _, hj => exact List.mem_of_getElem? (e_x2_16 j hj)
  | 17, _, hj => exact List.mem_of_getElem? (e_x2_17 j hj)
  | 18, _, hj => exact List.mem_of_getElem? (e_x2_18 j hj)
  | 19, _, hj => exact List.mem_of_getElem? (e_x2_19 j hj)
  | 20, _, hj => exact List.mem_of_getElem? (e_x2_20 j hj)
  | 21, _, hj => exact List.mem_of_getElem? (e_x2_21 j hj)
  | 22, _, hj => exact List.mem_of_getElem? (e_x2_22 j hj)
  | 23, _, hj => exact List.mem_of_getElem? (e_x2_23 j hj)
  | 24, _, hj => exact List.mem_of_getElem? (e_x2_24 j hj)
  | 25, _, hj => exact List.mem_of_getElem? (e_x2_25 j hj)
  | 26, _, hj => exact List.mem_of_getElem? (e_x2_26 j hj)
  | n + 27, hi, _ => omega
theorem e_x3 : ∀ q ∈ so_tx, Cond.stringRef q.1 q.2.1 q.2.2.1 ∈ lw_tbl ∧ 2 ≤ q.2.2.2 ∧ q.2.2.2 < 29 ∧ ((q.1, q.2.1) = e_tm.getD (q.2.2.2 - 2) ("", 0) ∨ Cond.eq (e_t (q.2.2.2 - 2)) (.string q.1 q.2.1) ∈ e_F) := by decide +kernel
theorem e_x4a : ∀ i, i < 27 → ∀ j, j < 27 → i = j ∨ Int32.ofNat (e_len i) ≠ Int32.ofNat (e_len j) ∨ ¬ (∀ k, k < 29 → e_len i ≤ k ∨ e_len j ≤ k ∨ (so_tl.getD i []).getD k 0 = (so_tl.getD j []).getD k 0) := by decide +kernel
theorem e_x4 (i : Nat) (hi : i < 27) (j : Nat) (hj : j < 27) (h1 : Int32.ofNat (e_len i) = Int32.ofNat (e_len j)) (h2 : ∀ k, k < 29 → k < e_len i → k < e_len j → (so_tl.getD i []).getD k 0 = (so_tl.getD j []).getD k 0) : i = j := by
  rcases e_x4a i hi j hj with h | h | h
  · exact h
  · exact absurd h1 h
  · refine absurd (fun k hk => ?_) h
    rcases Nat.lt_or_ge k (e_len i) with q | q
    · rcases Nat.lt_or_ge k (e_len j) with q2 | q2
      · exact Or.inr (Or.inr (h2 k hk q q2))
      · exact Or.inr (Or.inl q2)
    · exact Or.inl q
theorem e_x5a : ∀ x, x < 6 → ∀ y, y < 6 → x = 0 ∨ y = 0 ∨ x = y ∨ Cond.not (.castable (so_x x) (so_x y)) ∈ e_F := by decide +kernel
theorem e_x5 (x : Nat) (hx : x < 6) (y : Nat) (hy : y < 6) (h1 : 0 < x) (h2 : 0 < y) (h3 : x ≠ y) : Cond.not (.castable (so_x x) (so_x y)) ∈ e_F := by
  rcases e_x5a x hx y hy with h | h | h | h
  · omega
  · omega
  · exact absurd h h3
  · exact h
def e_P : Term := .static "OakYard$Finder" "PLACES" "[J"
theorem e_x6 : ∀ j, j < 8 → Cond.eq (.elem e_P (.int (Int32.ofNat j))) (.long (p120 j)) ∈ e_F := by decide +kernel
section Given
variable {s : State} {args : Array Value} {A : Nat → Prop}
/-- one text by what is given -/
theorem e_str1 (hs : ∀ w ∈ e_F, w.before args s = true) (hA : ∀ a : Nat, a < s.heap.size → ¬ A a) {i : Nat} (hi : i < 27) : ∃ q : Nat × Nat, (e_t i).eval args s none [] s = some (.ref q.1) ∧ va_O "java/lang/String" q.1 A s s.heap ∧ va_OF "java/lang/String" "coder" "B" (.int 0) q.1 A s s.heap ∧ va_OF "java/lang/String" "value" "[B" (.ref q.2) q.1 A s s.heap ∧ va_T .byte q.2 (e_len i) (fun j => .int ((so_tl.getD i []).getD j 0)) A s s.heap := by
  obtain ⟨a1, a2, a3, a4, a5⟩ := e_x1 i hi
  have z : ∀ k, k < 1 → k = 0 := fun k hk => by omega
  obtain ⟨adK, adV, h, h2⟩ := vk_Sof (args := args) (s := s) (N := 1) (tm := fun _ => e_t i) (len := [e_len i]) (byt := [so_tl.getD i []]) (A := A)
    (fun k hk => by rw [z k hk]; exact a5) (fun k hk => hs _ a1) (fun k hk => hs _ a2) (fun k hk => hs _ a3) (fun k hk => by rw [z k hk]; exact hs _ a4)
    (fun k hk j hj => by rw [z k hk] at hj ⊢; exact hs _ (e_x2 hi hj)) (fun k j hk hj hkj => absurd ((z k hk).trans (z j hj).symm) hkj) hA
  exact ⟨(adK 0, adV 0), h2 0 (by omega), (h.1 0 (by omega)).1, (h.1 0 (by omega)).2.1, (h.1 0 (by omega)).2.2.1, (h.1 0 (by omega)).2.2.2⟩
/-- one place, one text -/
theorem e_inj {a t t' n n' : Nat} {f f' : Nat → Value} (h : va_OF "java/lang/String" "value" "[B" (.ref t) a A s s.heap) (h' : va_OF "java/lang/String" "value" "[B" (.ref t') a A s s.heap) (hT : va_T .byte t n f A s s.heap) (hT' : va_T .byte t' n' f' A s s.heap) : Int32.ofNat n = Int32.ofNat n' ∧ ∀ k, k < n → k < n' → f k = f' k := by
  obtain ⟨cf, k, i, g, cell, b1, b2, b3, b4, b5, b6⟩ := h
  obtain ⟨cf', k', i', g', cell', d1, d2, d3, d4, d5, d6⟩ := h'
  rw [b1] at d1
  cases d1
  rw [b3] at d3
  cases d3
  rw [b5] at d5
  cases d5
  obtain ⟨ce, e1, e2, e3, e4, e5, e6, e7⟩ := hT
  obtain ⟨ce', f1, f2, f3, f4, f5, f6, f7⟩ := hT'
  rw [e1] at f1
  cases f1
  refine ⟨e5.symm.trans f5, fun k h1 h2 => ?_⟩
  have := (e6 k h1).symm.trans (f6 k h2)
  exact Option.some.inj this
/-- all texts -/
theorem e_str (hs : ∀ w ∈ e_F, w.before args s = true) (hA : ∀ a : Nat, a < s.heap.size → ¬ A a) : ∃ adK adV : Nat → Nat, vk_S so_tN (so_tl.map List.length) so_tl adK adV A s s.heap ∧ ∀ i, i < 27 → (e_t i).eval args s none [] s = some (.ref (adK i)) := by
  have h0 : ∀ i : Nat, ∃ q : Nat × Nat, i < 27 → (e_t i).eval args s none [] s = some (.ref q.1) ∧ va_O "java/lang/String" q.1 A s s.heap ∧ va_OF "java/lang/String" "coder" "B" (.int 0) q.1 A s s.heap ∧ va_OF "java/lang/String" "value" "[B" (.ref q.2) q.1 A s s.heap ∧ va_T .byte q.2 (e_len i) (fun j => .int ((so_tl.getD i []).getD j 0)) A s s.heap := by
    intro i
    by_cases hi : i < 27
    · obtain ⟨q, h⟩ := e_str1 hs hA hi
      exact ⟨q, fun _ => h⟩
    · exact ⟨(0, 0), fun h => absurd h hi⟩
  obtain ⟨ad, had⟩ := Classical.axiomOfChoice h0
  have hl : ∀ i, i < 27 → (so_tl.map List.length).getD i 0 = e_len i := fun i hi => (tx_len_eq i hi).1
  refine ⟨fun i => (ad i).1, fun i => (ad i).2, ⟨fun i hi => ?_, fun i j hi hj e => ?_⟩, fun i hi => (had i hi).1⟩
  · rw [hl i hi]
    exact (had i hi).2
  · have hi' := (had i hi).2.2.2
    have hj' := (had j hj).2.2.2
    have e : (ad i).1 = (ad j).1 := e
    rw [e] at hi'
    obtain ⟨q1, q2⟩ := e_inj hi'.1 hj'.1 hi'.2 hj'.2
    exact e_x4 i hi j hj q1 fun k _ h1 h2 => by
      have := q2 k h1 h2
      exact Value.int.inj this
/-- the classes -/
theorem e_cls (hts : ∀ w ∈ lw_tbl, w.before args s = true) : ∃ D : va_G, ∀ (c : Nat) (q : vw_C), rl_cl[c]? = some q → u_Kn s q.1 q.2.1 q.2.2 (D.1 c) (D.2 c) := by
  have h0 : ∀ c : Nat, ∃ D : ClassId × (Nat → Nat), ∀ q : vw_C, rl_cl[c]? = some q → u_Kn s q.1 q.2.1 q.2.2 D.1 D.2 := by
    intro c
    match c with
    | 0 =>
      obtain ⟨c, i, h⟩ := u_known (C := "OakYard") (T := F_0) (N := 7) (n := 7) hts i_0 (hts (.instantiable "OakYard" 7) (by decide +kernel))
      exact ⟨(c, i), fun q hq => by cases hq; exact h⟩
    | 1 =>
      obtain ⟨c, i, h⟩ := u_known (C := "OakYard$Books") (T := F_1) (N := 9) (n := 9) hts i_1 (hts (.instantiable "OakYard$Books" 9) (by decide +kernel))
      exact ⟨(c, i), fun q hq => by cases hq; exact h⟩
    | 2 =>
      obtain ⟨c, i, h⟩ := u_known (C := "OakYard$Finder") (T := F_2) (N := 17) (n := 17) hts i_2 (hts (.instantiable "OakYard$Finder" 17) (by decide +kernel))
      exact ⟨(c, i), fun q hq => by cases hq; exact h⟩
    | 3 =>
      obtain ⟨c, i, h⟩ := u_known (C := "OakYard$Harbour") (T := F_3) (N := 3) (n := 3) hts i_3 (hts (.instantiable "OakYard$Harbour" 3) (by decide +kernel))
      exact ⟨(c, i), fun q hq => by cases hq; exact h⟩
    | 4 =>
      obtain ⟨c, i, h⟩ := u_known (C := "OakYard$Piece") (T := F_4) (N := 19) (n := 19) hts i_4 (hts (.instantiable "OakYard$Piece" 19) (by decide +kernel))
      exact ⟨(c, i), fun q hq => by cases hq; exact h⟩
    | 5 =>
      obtain ⟨c, i, h⟩ := u_known (C := "OakYard$Plan") (T := F_5) (N := 6) (n := 6) hts i_5 (hts (.instantiable "OakYard$Plan" 6) (by decide +kernel))
      exact ⟨(c, i), fun q hq => by cases hq; exact h⟩
    | 6 =>
      obtain ⟨c, i, h⟩ := u_known (C := "OakYard$Ship") (T := F_6) (N := 14) (n := 14) hts i_6 (hts (.instantiable "OakYard$Ship" 14) (by decide +kernel))
      exact ⟨(c, i), fun q hq => by cases hq; exact h⟩
    | 7 =>
      obtain ⟨c, i, h⟩ := u_known (C := "OakYard$Tape") (T := F_7) (N := 13) (n := 13) hts i_7 (hts (.instantiable "OakYard$Tape" 13) (by decide +kernel))
      exact ⟨(c, i), fun q hq => by cases hq; exact h⟩
    | 8 =>
      obtain ⟨c, i, h⟩ := u_known (C := "OakYard$Text") (T := F_8) (N := 5) (n := 5) hts i_8 (hts (.instantiable "OakYard$Text" 5) (by decide +kernel))
      exact ⟨(c, i), fun q hq => by cases hq; exact h⟩
    | 9 =>
      obtain ⟨c, i, h⟩ := u_known (C := "OakYard$Tree") (T := F_9) (N := 7) (n := 7) hts i_9 (hts (.instantiable "OakYard$Tree" 7) (by decide +kernel))
      exact ⟨(c, i), fun q hq => by cases hq; exact h⟩
    | 10 =>
      obtain ⟨c, i, h⟩ := u_known (C := "OakYard$Warrants") (T := F_10) (N := 5) (n := 5) hts i_10 (hts (.instantiable "OakYard$Warrants" 5) (by decide +kernel))
      exact ⟨(c, i), fun q hq => by cases hq; exact h⟩
    | 11 =>
      obtain ⟨c, i, h⟩ := u_known (C := "OakYard$Yard") (T := F_11) (N := 20) (n := 20) hts i_11 (hts (.instantiable "OakYard$Yard" 20) (by decide +kernel))
      exact ⟨(c, i), fun q hq => by cases hq; exact h⟩
    | 12 =>
      obtain ⟨c, i, h⟩ := u_known (C := "OakYardModel") (T := F_12) (N := 32) (n := 32) hts i_12 (hts (.instantiable "OakYardModel" 32) (by decide +kernel))
      exact ⟨(c, i), fun q hq => by cases hq; exact h⟩
    | n + 13 => exact ⟨(0, fun _ => 0), fun q hq => by simp [rl_cl] at hq⟩
  obtain ⟨ad, had⟩ := Classical.axiomOfChoice h0
  exact ⟨(fun c => (ad c).1, fun c => (ad c).2), fun c q hq => had c q hq⟩
theorem e_arr (ty : FieldType) (hc : ∀ C, ty ≠ .object C) (h : (Cond.arrayClass ty).before args s = true) : ∃ cA, ArrOfT s cA ty ∧ va_RA s cA ty := by
  obtain ⟨c, k, comp, h1, h2, h3⟩ := Cond.arrayClass_spec h
  refine ⟨c, fun n z => ⟨fun k h => (by cases h), k, h2, comp, h3⟩, ?_⟩
  cases ty with
  | object C => exact absurd rfl (hc C)
  | _ => exact h1
theorem e_arrA (h : (Cond.arrayOver (.array .int)).before args s = true) : ∃ cA, ArrOfT s cA (.array .int) ∧ va_RA s cA (.array .int) := by
  obtain ⟨ci, c, kl, h1, h2, h3, h4⟩ := mu_over h
  exact ⟨c, fun n z => ⟨fun k h => (by cases h), kl, h2, ci, h3⟩, h4⟩
theorem e_arrO {C : String} (h : (Cond.arrayOver (.object C)).before args s = true) : ∃ cA, ArrOfT s cA (.object C) ∧ va_RA s cA (.object C) := by
  obtain ⟨comp, c, k, h1, -, h3, h4, h5⟩ := Cond.arrayOver_spec h
  exact ⟨c, fun n z => ⟨fun k h => (by cases h), k, h3, comp, h4⟩, k, comp, h3, h4, h1, h5⟩
theorem e_tys (hts : ∀ w ∈ lw_tbl, w.before args s = true) : ∃ dA : Nat → ClassId, ∀ (k : Nat) (q : ClassId × FieldType), (rl_tys dA)[k]? = some q → ArrOfT s q.1 q.2 ∧ va_RA s q.1 q.2 := by
  obtain ⟨c0, h0⟩ := e_arr (s := s) .int (fun C h => by cases h) (hts _ (by decide +kernel))
  obtain ⟨c1, h1⟩ := e_arr (s := s) .long (fun C h => by cases h) (hts _ (by decide +kernel))
  obtain ⟨c2, h2⟩ := e_arr (s := s) .byte (fun C h => by cases h) (hts _ (by decide +kernel))
  obtain ⟨c3, h3⟩ := e_arr (s := s) .boolean (fun C h => by cases h) (hts _ (by decide +kernel))
  obtain ⟨c4, h4⟩ := e_arrA (s := s) (hts _ (by decide +kernel))
  obtain ⟨c5, h5⟩ := e_arrO (s := s) (C := "OakYard$Tree") (hts _ (by decide +kernel))
  obtain ⟨c6, h6⟩ := e_arrO (s := s) (C := "OakYard$Piece") (hts _ (by decide +kernel))
  obtain ⟨c7, h7⟩ := e_arrO (s := s) (C := "OakYard$Ship") (hts _ (by decide +kernel))
  obtain ⟨c8, h8⟩ := e_arrO (s := s) (C := "OakYard$Text") (hts _ (by decide +kernel))
  refine ⟨fun k => ([c0, c1, c2, c3, c4, c5, c6, c7, c8] : List ClassId).getD k 0, fun k q hq => ?_⟩
  match k, hq with
  | 0, hq => cases hq; exact h0
  | 1, hq => cases hq; exact h1
  | 2, hq => cases hq; exact h2
  | 3, hq => cases hq; exact h3
  | 4, hq => cases hq; exact h4
  | 5, hq => cases hq; exact h5
  | 6, hq => cases hq; exact h6
  | 7, hq => cases hq; exact h7
  | 8, hq => cases hq; exact h8
  | n + 9, hq => simp [rl_tys] at hq
end Given
/-- the abstract heap of the start -/
def e_K (L : Nat) (xs : Nat → Int32) : am_A := (fun i => if i = 0 then 41 else if i = 1 then 42 else if i < 29 then 43 else 0, fun i => if i = 0 then L else if i = 1 then 8 else e_len (i - 2), fun i j => if i = 0 then xs j else (so_tl.getD (i - 2) []).getD j 0, fun _ j => p120 j, fun _ _ => none, 64, 0, 0)
def e_r (b t : Nat) (adK : Nat → Nat) (i : Nat) : Nat := if i = 0 then b else if i = 1 then t else if i < 29 then adK (i - 2) else b
theorem e_st : ∀ q, q < 29 → 2 ≤ q → e_len (q - 2) = (sx q).length ∧ ∀ k, k < 29 → k < (sx q).length → (so_tl.getD (q - 2) []).getD k 0 = Int32.ofNat ((sx q).getD k 0) := by decide +kernel
theorem e_st2 : ∀ q, q < 29 → 2 ≤ q → (sx q).length < 29 := by decide +kernel
theorem e_Stx (L : Nat) (xs : Nat → Int32) : Stx (e_K L xs) (am_I (e_K L xs)) := by
  intro q h1 h2
  refine ⟨?_, ?_, fun k hk => ?_⟩
  · show (if q = 0 then 41 else if q = 1 then 42 else if q < 29 then 43 else 0) = 43
    rw [if_neg (by omega), if_neg (by omega), if_pos (by omega)]
  · show (if q = 0 then L else if q = 1 then 8 else e_len (q - 2)) = _
    rw [if_neg (by omega), if_neg (by omega)]
    exact (e_st q (by omega) h1).1
  · show (if q = 0 then xs k else (so_tl.getD (q - 2) []).getD k 0) = _
    rw [if_neg (by omega)]
    exact (e_st q (by omega) h1).2 k (Nat.lt_trans hk (e_st2 q (by omega) h1)) hk
def e_X (base : Nat) (D : va_G) (dA : Nat → ClassId) (L : Nat) (xs : Nat → Int32) (b t : Nat) (adK adV : Nat → Nat) : Nat × va_G × (Nat → ClassId) × am_A × (Nat → Nat) × (Nat → Nat) := (base, D, dA, e_K L xs, e_r b t adK, adV)
theorem e_k {base L b t : Nat} {D : va_G} {dA : Nat → ClassId} {xs : Nat → Int32} {adK adV : Nat → Nat} (hb : b < base) (ht : t < base) (hK : ∀ k, k < 27 → adK k < base) : so_k (sq_Z (e_X base D dA L xs b t adK adV)) := by
  intro i hi
  show ((if i = 0 then 41 else if i = 1 then 42 else if i < 29 then 43 else 0) = 0 ∨ 41 ≤ (if i = 0 then 41 else if i = 1 then 42 else if i < 29 then 43 else 0)) ∧ ((if i = 0 then 41 else if i = 1 then 42 else if i < 29 then 43 else 0) = 41 → i = 0) ∧ ((if i = 0 then 41 else if i = 1 then 42 else if i < 29 then 43 else 0) = 42 → i = 1) ∧ ((if i = 0 then 41 else if i = 1 then 42 else if i < 29 then 43 else 0) = 43 → ∃ k, k < so_tN ∧ i = 2 + k ∧ (if i = 0 then L else if i = 1 then 8 else e_len (i - 2)) = (so_tl.getD k []).length ∧ ∀ j, (if i = 0 then xs j else (so_tl.getD (i - 2) []).getD j 0) = (so_tl.getD k []).getD j 0) ∧ e_r b t adK i < base
  unfold e_r
  by_cases h0 : i = 0
  · subst h0
    simp [hb]
  · by_cases h1 : i = 1
    · subst h1
      simp [ht]
    · by_cases h2 : i < 29
      · simp only [if_neg h0, if_neg h1, if_pos h2]
        exact ⟨by omega, by omega, by omega, fun _ => ⟨i - 2, by show i - 2 < 27; omega, by omega, rfl, fun j => rfl⟩, hK _ (by omega)⟩
      · rw [if_neg h0, if_neg h1, if_neg h2, if_neg h0, if_neg h1, if_neg h2]
        exact ⟨Or.inl rfl, fun h => absurd h (by decide), fun h => absurd h (by decide), fun h => absurd h (by decide), by simp [h0, h1, h2, hb]⟩
theorem e_tx (X : Nat × va_G × (Nat → ClassId) × am_A × (Nat → Nat) × (Nat → Nat)) : tx_W (sq_Z X) := by
  show ∀ w ∈ tx_ws, w ∈ sq_T.filter goodWord
  decide +kernel
theorem e_R {base L b t : Nat} {D : va_G} {dA : Nat → ClassId} {xs : Nat → Int32} {adK adV : Nat → Nat} {H : Heap} (hb : base ≤ H.size) : so_R (sq_Z (e_X base D dA L xs b t adK adV)) (e_r b t adK) (am_wI (e_K L xs) (am_I (e_K L xs))) H := by
  have hk0 : ∀ a, 64 ≤ a → am_K (e_K L xs) a = 0 := by
    intro a ha
    show (if a = 0 then 41 else if a = 1 then 42 else if a < 29 then 43 else 0) = 0
    rw [if_neg (by omega), if_neg (by omega), if_neg (by omega)]
  have hid : rl_ids (am_wI (e_K L xs) (am_I (e_K L xs))) = [] := by
    apply List.eq_nil_iff_forall_not_mem.mpr
    intro a ha
    obtain ⟨-, h1, h2⟩ := rl_mem.mp ha
    have h1 : 0 < (if a = 0 then 41 else if a = 1 then 42 else if a < 29 then 43 else 0) := h1
    have h2 : (if a = 0 then 41 else if a = 1 then 42 else if a < 29 then 43 else 0) < 40 := h2
    split at h1 <;> (try split at h1) <;> (try split at h1) <;> simp_all
  have hws : rl_ws dA (e_r b t adK) (am_wI (e_K L xs) (am_I (e_K L xs))) = [] := by
    unfold rl_ws
    rw [hid]
    rfl
  refine ⟨⟨hk0, ?_, ?_, hb⟩, fun i _ => rfl, Nat.le_refl 64, fun i _ => ⟨rfl, rfl, rfl, rfl⟩, fun a ha => by show am_K (e_K L xs) a < 41; rw [hk0 a ha]; omega⟩
  · show va_P D rl_cl (rl_ws dA (e_r b t adK) (am_wI (e_K L xs) (am_I (e_K L xs)))) H
    rw [hws]
    exact fun k q h => by simp at h
  · show va_D (fun q => base ≤ q) (rl_ws dA (e_r b t adK) (am_wI (e_K L xs) (am_I (e_K L xs))))
    rw [hws]
    exact ⟨fun i j p q h => by simp at h, fun k q h => by simp at h⟩
theorem e_C {s : State} {args : Array Value} {L b t : Nat} {D : va_G} {dA : Nat → ClassId} {xs : Nat → Int32} {adK adV : Nat → Nat} (hL : L ≤ 3584) (hts : ∀ w ∈ lw_tbl, w.before args s = true) (hs : ∀ w ∈ e_F, w.before args s = true) (hX : va_X b L xs s s.heap)
    (hT : va_T .long t 8 (fun j => .long (p120 j)) (fun q => s.heap.size ≤ q) s s.heap) (hP : e_P.eval args s none [] s = some (.ref t)) (hS : vk_S so_tN (so_tl.map List.length) so_tl adK adV (fun q => s.heap.size ≤ q) s s.heap) (hE : ∀ i, i < 27 → (e_t i).eval args s none [] s = some (.ref (adK i))) : so_C (sq_Z (e_X s.heap.size D dA L xs b t adK adV)) s s.heap := by
  have hA : ∀ a : Nat, a < s.heap.size → ¬ (fun q => s.heap.size ≤ q) a := fun a ha => Nat.not_le.mpr ha
  refine ⟨hX, ?_, hT, ?_, ?_, ?_, ?_, ?_, ?_, ?_, ?_⟩
  · show L < 2 ^ 31
    omega
  · exact va_Zref (hts _ (by decide +kernel)) (hts _ (by decide +kernel)) hP hA
  · exact vx_Zqof (hts _ (by decide +kernel)) (hts _ (by decide +kernel)) (hs _ (by decide +kernel)) hA
  · exact vx_Zqof (hts _ (by decide +kernel)) (hts _ (by decide +kernel)) (hs _ (by decide +kernel)) hA
  · intro own idx tx i hi
    obtain ⟨q1, q2, q3, q4⟩ := e_x3 (own, idx, tx, i) hi
    refine vk_R.of (hts _ q1) ?_
    have hr : e_r b t adK i = adK (i - 2) := by
      unfold e_r
      rw [if_neg (by have : 2 ≤ i := q2; omega), if_neg (by have : 2 ≤ i := q2; omega), if_pos q3]
    show _ = some (Value.ref (e_r b t adK i))
    rw [hr]
    have h27 := hE (i - 2) (by have : i < 29 := q3; omega)
    rcases q4 with h | h
    · have e : e_t (i - 2) = .string own idx := by
        unfold e_t
        have h : (own, idx) = e_tm.getD (i - 2) ("", 0) := h
        rw [← h]
      rw [← e]
      exact h27
    · exact va_eqR (hs _ h) h27
  · exact fun x y h1 h2 h3 h4 h5 => va_Nc.of (hs _ (e_x5 x h2 y h4 h1 h3 h5))
  · have e : (fun i => e_r b t adK (2 + i)) = fun i => if i < 27 then adK i else b := by
      funext i
      unfold e_r
      rw [if_neg (by omega), if_neg (by omega)]
      by_cases h : i < 27
      · rw [if_pos h, if_pos (by omega), Nat.add_sub_cancel_left]
      · rw [if_neg h, if_neg (by omega)]
    show vk_S so_tN (so_tl.map List.length) so_tl (fun i => e_r b t adK (2 + i)) adV (fun q => s.heap.size ≤ q) s s.heap
    rw [e]
    refine ⟨fun i hi => ?_, fun i j hi hj h => ?_⟩
    · have hi' : i < 27 := hi
      simp only [if_pos hi']
      exact hS.1 i hi
    · have hi' : i < 27 := hi
      have hj' : j < 27 := hj
      simp only [if_pos hi', if_pos hj'] at h
      exact hS.2 i j hi hj h
  · exact va_Zof (hts _ (by decide +kernel)) (hts _ (by decide +kernel)) (va_eqt (hs _ (by decide +kernel))) hA
  · exact va_Zqof (hts _ (by decide +kernel)) (hts _ (by decide +kernel)) (hs _ (by decide +kernel)) hA
theorem e_ml (X : Nat × va_G × (Nat → ClassId) × am_A × (Nat → Nat) × (Nat → Nat)) : so_ml (sq_Z X) 397 = 7 := by
  show so_ml sq_0 397 = 7
  decide +kernel
theorem e_hs : am_hs am_P 397 = [] := by decide +kernel
theorem e_y : sq_y 397 = x := by decide +kernel
theorem e_b : sq_b 397 = code := rfl
theorem e_rt : sq_r 397 = ret := by decide +kernel
theorem e_ov : Cond.arrayOver (.array .int) ∈ sq_T := by decide +kernel
