/-! TEXTS ON THE TAPE: a line; the class. Made by wip/whole/math/930.py. -/
def mos (v : Nat) : Nat := if v = 3 then 100 else if v = 1 then 1000 else 99999
/-- the kind or the number of a line, and the place behind it -/
def valS (N : Nat → Nat) (L v p : Nat) : Nat ⊕ (Nat × Nat) := if v = 0 then (match wix N (tb N L p) (lw N L (tb N L p)) [14, 15, 16, 17] 0 with
    | none => .inl (tb N L p)
    | some x => .inr (x, lw N L (tb N L p))) else match num N L (tb N L p) (mos v) with
    | none => .inl (tb N L p)
    | some x => .inr (x, rn N L 48 57 (tb N L p))
def lin (u : Nat → Int32) (n v x s : Nat) : Nat → Int32 := wu (wu (wu (wu u (12044 + 4 * n) (Int32.ofNat v)) (12044 + 4 * n + 2) (Int32.ofNat s)) (12044 + 4 * n + 3) (Int32.ofNat s)) (12044 + 4 * n + 1) (Int32.ofNat x)
/-- the end of a line's condition -/
def lnd (n : Nat) (s1 : PS) : PS := (s1.1, s1.2.1, wu s1.2.2 (12044 + 4 * n + 3) (Int32.ofNat s1.2.1))
def ifS (N : Nat → Nat) (L n v p s : Nat) (u : Nat → Int32) : PR := if v = 3 then .inr (p, s, u) else if isw N (tb N L p) (lw N L (tb N L p)) (sx 4) then bnP (cndS N L (atm N L 6) (lw N L (tb N L p), s, u)) (fun s1 => .inr (lnd n s1)) else .inr (tb N L p, s, u)
def lnS (N : Nat → Nat) (L n : Nat) (st : PS) : PR := match wix N (tb N L st.1) (lw N L (tb N L st.1)) [10, 11, 12, 13] 0 with
  | none => .inl (tb N L st.1)
  | some v => match valS N L v (lw N L (tb N L st.1)) with
    | .inl f => .inl f
    | .inr a => ifS N L n v a.2 st.2.1 (lin st.2.2 n v a.1 st.2.1)
def lnE (N : Nat → Nat) (L : Nat) : PR → PR
  | .inl f => .inl f
  | .inr s1 => if ¬ tb N L s1.1 < L ∨ N (tb N L s1.1) = 59 then .inr s1 else .inl (tb N L s1.1)
def FRl (i j : Nat → Nat → Int32) : Prop := ∀ q k, q ≠ 67 → q ≠ 68 → q ≠ 69 → q ≠ 70 → (q = 65 → k ≠ 2 ∧ k ≠ 3 ∧ k ≠ 4 ∧ k ≠ 5 ∧ k ≠ 6 ∧ k ≠ 7 ∧ k ≠ 11) → j q k = i q k
/-- the lines read so far -/
def LC (i : Nat → Nat → Int32) (n : Nat) (u : Nat → Int32) : Prop := i 65 7 = Int32.ofNat n ∧ ∀ m, m < n → i 67 m = u (12044 + 4 * m) ∧ i 68 m = u (12044 + 4 * m + 1) ∧ i 69 m = u (12044 + 4 * m + 3)
def LO (B : am_A) (N : Nat → Nat) (L n : Nat) (i : Nat → Nat → Int32) (x : am_X) : PR → Prop
  | .inl f => ∃ j, x = some (.inl (some (.int 0)), am_wI B j) ∧ j 65 2 = Int32.ofNat f ∧ FRl i j
  | .inr st => ∃ j, x = some (.inl (some (.int 1)), am_wI B j) ∧ j 65 2 = i 65 2 ∧ CPt N L j st ∧ LC j (n + 1) st.2.2 ∧ FRl i j
section ClsE
variable {B : am_A} {i j k : Nat → Nat → Int32} {N : Nat → Nat} {d D L H p b e q n s f c v y : Nat} {u u' : Nat → Int32} {st s1 : PS} {x : am_X} {a : Nat × Nat} {r : PR}
theorem FRl.rf : FRl i i := fun _ _ _ _ _ _ _ => rfl
theorem FRl.tr (h1 : FRl i j) (h2 : FRl j k) : FRl i k := fun q l a b c d e => (h2 q l a b c d e).trans (h1 q l a b c d e)
theorem FRc.l (h : FRc i j) : FRl i j := fun q k a b c d e => h q k d (by omega)
theorem CT_FRl (h : CT N L i) (hf : FRl i j) : CT N L j := CT_fr h (hf _ _ (by omega) (by omega) (by omega) (by omega) (by omega)) fun k => hf _ _ (by omega) (by omega) (by omega) (by omega) (by omega)
theorem Stx_FRl (h : Stx B i) (hf : FRl i j) : Stx B j := fun q h1 h2 => by
  obtain ⟨a1, a2, a3⟩ := h q h1 h2
  exact ⟨a1, a2, fun k hk => (hf _ _ (by omega) (by omega) (by omega) (by omega) (by omega)).trans (a3 k hk)⟩
theorem LO_fr (hf : FRl i j) (h2 : j 65 2 = i 65 2) (h : LO B N L n j x r) : LO B N L n i x r := by
  cases r with
  | inl f =>
    obtain ⟨m, a1, a2, a3⟩ := h
    exact ⟨m, a1, a2, hf.tr a3⟩
  | inr st =>
    obtain ⟨m, a1, a2, a3, a4, a5⟩ := h
    exact ⟨m, a1, a2.trans h2, a3, a4, hf.tr a5⟩
theorem LO_bad (h : x = some (.inl (some (.int 0)), am_wI B (am_up2 i 65 2 (Int32.ofNat b)))) : LO B N L n i x (.inl b) := ⟨_, h, y_up1 rfl rfl, fun q k _ _ _ _ _ => y_up2 (by omega)⟩
theorem LC_u (h : LC i n u) (hu : ∀ z, z < 12044 + 4 * n → u' z = u z) : LC i n u' := ⟨h.1, fun m hm => by
  rw [hu _ (by omega), hu _ (by omega), hu _ (by omega)]
  exact h.2 m hm⟩
theorem LC_FRc (h : LC i n u) (hf : FRc i j) : LC j n u := ⟨(hf _ _ (by omega) (by omega)).trans h.1, fun m hm => by
  rw [hf _ _ (by omega) (by omega), hf _ _ (by omega) (by omega), hf _ _ (by omega) (by omega)]
  exact h.2 m hm⟩
theorem SC_u (h : SC i s u) (hu : ∀ z, 12092 ≤ z → u' z = u z) : SC i s u' := ⟨h.1, fun k hk => by
  rw [hu _ (by omega), hu _ (by omega)]
  exact h.2 k hk⟩
theorem valS_ok (hv : valS N L v p = .inr a) (hp : p ≤ L) (h4 : v < 4) : p < a.2 ∧ a.2 ≤ L ∧ a.1 < 100000 := by
  obtain ⟨t1, t2⟩ := tb_bnd (N := N) hp
  unfold valS at hv
  split at hv
  · cases hw : wix N (tb N L p) (lw N L (tb N L p)) [14, 15, 16, 17] 0 with
    | none => rw [hw] at hv; exact nomatch hv
    | some y =>
      rw [hw] at hv
      have := Sum.inr.inj hv
      subst this
      obtain ⟨a1, a2, a3⟩ := wix_lt (by decide) hw t2
      have a3 : y < 4 := a3
      exact ⟨by show p < lw N L (tb N L p); omega, a2, by show y < 100000; omega⟩
  · cases hw : num N L (tb N L p) (mos v) with
    | none => rw [hw] at hv; exact nomatch hv
    | some y =>
      rw [hw] at hv
      have := Sum.inr.inj hv
      subst this
      obtain ⟨a1, a2, a3⟩ := num_ok hw t2
      have : mos v ≤ 99999 := by
        unfold mos
        split
        · omega
        · split <;> omega
      exact ⟨by show p < rn N L 48 57 (tb N L p); omega, a2, by show y < 100000; omega⟩
/-- the line is written down -/
theorem c_line94 (hF : Fc B) (hc : CT N L i) (hp : CPt N L i s1) (hL : LC i n u) (h12 : n < 12) (hv : u (12044 + 4 * n) = Int32.ofNat v) (hx : u (12044 + 4 * n + 1) = Int32.ofNat y) (he : u (12044 + 4 * n + 3) = Int32.ofNat s1.2.1) (hu : s1.2.2 = u) (h1 : s1.1 ≤ L) : LO B N L n i (am_fx am_P (d + 1) 201 94 [some (.ref 65), some (.int (Int32.ofNat v)), some (.int (Int32.ofNat y))] [] (am_wI B i)) (lnE N L (.inr s1)) := by
  have l400 := hc.2.1
  subst hu
  obtain ⟨L7, Lm⟩ := hL
  have e11 := hp.2.1
  have E : am_fx am_P (d + 1) 201 94 [some (.ref 65), some (.int (Int32.ofNat v)), some (.int (Int32.ofNat y))] [] (am_wI B i) = am_fx am_P (d + 1) 201 137 [some (.ref 65), none, none] [] (am_wI B (am_up2 (am_up2 (am_up2 (am_up2 i 67 n (Int32.ofNat v)) 68 n (Int32.ofNat y)) 69 n (Int32.ofNat s1.2.1)) 65 7 (Int32.ofNat (n + 1)))) := by
    rw [bk_201_94]
    simp (disch := omega) only [bk_201_114, L7, e11, hF, y_ckd, y_ck2d, y_ond, y_onn, y_oI, y_oIx, y_oJ, y_oV, y_oVx, y_oR, y_oRn, y_oRx, y_b0, y_b1, y_bi, y_bid, y_wIK, y_wIL, y_wII, y_wIJ, y_wIR, y_wIN, y_wIw, y_sI, ↓reduceIte, Nat.reduceEqDiff, eq_self, true_or, or_true, false_or, or_false, and_true, true_and, false_and, and_false, not_true, not_false_eq_true, tf_T, tf_F, y_up1, y_up2, y_xx, y_nx, y_sJ, y_sR, Int32.reduceLT, y_nxK, y_nxL, y_nxR, y_sJK, y_sJL, y_sJR, y_sJN, y_sRK, y_sRL, y_sRN, Nat.add_zero, z_nat, z_lit, z_lit0, z_lit1, z_in0, z_in1, z_addl0, z_lt, z_ltl, z_llt, z_inj, z_injl, z_add, z_addl, z_ladd, z_mul, z_mull, z_lmul, z_neg, z_negl, z_in, z_inl, z_ltT, z_ltF, z_eqF, z_10, z_01, z_litne, z_ne0, z_0ne, z_ne1, z_1ne, z_lt64, z_02, z_03, z_04, z_05, z_12, z_13, z_14, z_15, z_20, z_21, z_23, z_24, z_25, z_30, z_31, z_32, z_34, z_35, z_40, z_41, z_42, z_43, z_45, z_50, z_51, z_52, z_53, z_54]
  rw [E]
  generalize ej : am_up2 (am_up2 (am_up2 (am_up2 i 67 n (Int32.ofNat v)) 68 n (Int32.ofNat y)) 69 n (Int32.ofNat s1.2.1)) 65 7 (Int32.ofNat (n + 1)) = j
  have fj : ∀ q k, (q ≠ 67 ∨ k ≠ n) → (q ≠ 68 ∨ k ≠ n) → (q ≠ 69 ∨ k ≠ n) → (q ≠ 65 ∨ k ≠ 7) → j q k = i q k := fun q k a b c d => by rw [← ej, y_up2 d, y_up2 c, y_up2 b, y_up2 a]
  have pj : CPt N L j s1 := ⟨⟨(fj _ _ (by omega) (by omega) (by omega) (by omega)).trans hp.1.1, (fj _ _ (by omega) (by omega) (by omega) (by omega)).trans hp.1.2.1, (fj _ _ (by omega) (by omega) (by omega) (by omega)).trans hp.1.2.2.1, (fj _ _ (by omega) (by omega) (by omega) (by omega)).trans hp.1.2.2.2⟩, SC_fr hp.2 (fj _ _ (by omega) (by omega) (by omega) (by omega)) fun k => fj _ _ (by omega) (by omega) (by omega) (by omega)⟩
  have lj : LC j (n + 1) s1.2.2 := by
    refine ⟨by rw [← ej, y_up1 rfl rfl], fun m hm => ?_⟩
    by_cases q : m = n
    · subst q
      refine ⟨?_, ?_, ?_⟩
      · rw [← ej, y_up2 (by omega), y_up2 (by omega), y_up2 (by omega), y_up1 rfl rfl, hv]
      · rw [← ej, y_up2 (by omega), y_up2 (by omega), y_up1 rfl rfl, hx]
      · rw [← ej, y_up2 (by omega), y_up1 rfl rfl, he]
    · rw [fj _ _ (by omega) (by omega) (by omega) (by omega), fj _ _ (by omega) (by omega) (by omega) (by omega), fj _ _ (by omega) (by omega) (by omega) (by omega)]
      exact Lm m (by omega)
  have fl : FRl i j := fun q k a b c d e => fj q k (by omega) (by omega) (by omega) (by omega)
  have w2 : j 65 2 = i 65 2 := fj _ _ (by omega) (by omega) (by omega) (by omega)
  have cj := CT_FRl hc fl
  obtain ⟨t1, t2⟩ := tb_bnd (N := N) h1
  have S := c_sign (d := d) (c := 59) (n := 59) hF rfl (by omega) cj pj.1 (by omega)
  have e5 := pj.1.2.2.1
  unfold lnE
  dsimp only
  rw [bk_201_137]
  by_cases g0 : tb N L s1.1 < L
  · have n0 : ¬ j 65 5 = 0 := by
      rw [e5]
      unfold tkn
      rw [if_pos g0]
      split
      · decide
      · split <;> decide
    by_cases g : N (tb N L s1.1) = 59
    · rw [if_pos (Or.inr g)]
      rw [if_pos ⟨g0, g⟩] at S
      refine ⟨j, ?_, w2, pj, lj, fl⟩
      simp (disch := omega) only [n0, S, z_39, z_390, hF, y_ckd, y_ck2d, y_ond, y_onn, y_oI, y_oIx, y_oJ, y_oV, y_oVx, y_oR, y_oRn, y_oRx, y_b0, y_b1, y_bi, y_bid, y_wIK, y_wIL, y_wII, y_wIJ, y_wIR, y_wIN, y_wIw, y_sI, ↓reduceIte, Nat.reduceEqDiff, eq_self, true_or, or_true, false_or, or_false, and_true, true_and, false_and, and_false, not_true, not_false_eq_true, tf_T, tf_F, y_up1, y_up2, y_xx, y_nx, y_sJ, y_sR, Int32.reduceLT, y_nxK, y_nxL, y_nxR, y_sJK, y_sJL, y_sJR, y_sJN, y_sRK, y_sRL, y_sRN, Nat.add_zero, z_nat, z_lit, z_lit0, z_lit1, z_in0, z_in1, z_addl0, z_lt, z_ltl, z_llt, z_inj, z_injl, z_add, z_addl, z_ladd, z_mul, z_mull, z_lmul, z_neg, z_negl, z_in, z_inl, z_ltT, z_ltF, z_eqF, z_10, z_01, z_litne, z_ne0, z_0ne, z_ne1, z_1ne, z_lt64, z_02, z_03, z_04, z_05, z_12, z_13, z_14, z_15, z_20, z_21, z_23, z_24, z_25, z_30, z_31, z_32, z_34, z_35, z_40, z_41, z_42, z_43, z_45, z_50, z_51, z_52, z_53, z_54]
    · rw [if_neg (show ¬ (¬ tb N L s1.1 < L ∨ N (tb N L s1.1) = 59) from fun q => q.elim (fun q => q g0) g)]
      rw [if_neg fun q => g q.2] at S
      have W := c_wrong (d := d) hF pj.1.2.1
      refine LO_fr fl w2 (LO_bad ?_)
      simp (disch := omega) only [n0, S, W, z_39, z_390, hF, y_ckd, y_ck2d, y_ond, y_onn, y_oI, y_oIx, y_oJ, y_oV, y_oVx, y_oR, y_oRn, y_oRx, y_b0, y_b1, y_bi, y_bid, y_wIK, y_wIL, y_wII, y_wIJ, y_wIR, y_wIN, y_wIw, y_sI, ↓reduceIte, Nat.reduceEqDiff, eq_self, true_or, or_true, false_or, or_false, and_true, true_and, false_and, and_false, not_true, not_false_eq_true, tf_T, tf_F, y_up1, y_up2, y_xx, y_nx, y_sJ, y_sR, Int32.reduceLT, y_nxK, y_nxL, y_nxR, y_sJK, y_sJL, y_sJR, y_sJN, y_sRK, y_sRL, y_sRN, Nat.add_zero, z_nat, z_lit, z_lit0, z_lit1, z_in0, z_in1, z_addl0, z_lt, z_ltl, z_llt, z_inj, z_injl, z_add, z_addl, z_ladd, z_mul, z_mull, z_lmul, z_neg, z_negl, z_in, z_inl, z_ltT, z_ltF, z_eqF, z_10, z_01, z_litne, z_ne0, z_0ne, z_ne1, z_1ne, z_lt64, z_02, z_03, z_04, z_05, z_12, z_13, z_14, z_15, z_20, z_21, z_23, z_24, z_25, z_30, z_31, z_32, z_34, z_35, z_40, z_41, z_42, z_43, z_45, z_50, z_51, z_52, z_53, z_54]
  · have n0 : j 65 5 = 0 := by
      rw [e5]
      unfold tkn
      rw [if_neg g0]
      rfl
    rw [if_pos (Or.inl g0)]
    refine ⟨j, ?_, w2, pj, lj, fl⟩
    simp (disch := omega) only [n0, z_39, z_390, hF, y_ckd, y_ck2d, y_ond, y_onn, y_oI, y_oIx, y_oJ, y_oV, y_oVx, y_oR, y_oRn, y_oRx, y_b0, y_b1, y_bi, y_bid, y_wIK, y_wIL, y_wII, y_wIJ, y_wIR, y_wIN, y_wIw, y_sI, ↓reduceIte, Nat.reduceEqDiff, eq_self, true_or, or_true, false_or, or_false, and_true, true_and, false_and, and_false, not_true, not_false_eq_true, tf_T, tf_F, y_up1, y_up2, y_xx, y_nx, y_sJ, y_sR, Int32.reduceLT, y_nxK, y_nxL, y_nxR, y_sJK, y_sJL, y_sJR, y_sJN, y_sRK, y_sRL, y_sRN, Nat.add_zero, z_nat, z_lit, z_lit0, z_lit1, z_in0, z_in1, z_addl0, z_lt, z_ltl, z_llt, z_inj, z_injl, z_add, z_addl, z_ladd, z_mul, z_mull, z_lmul, z_neg, z_negl, z_in, z_inl, z_ltT, z_ltF, z_eqF, z_10, z_01, z_litne, z_ne0, z_0ne, z_ne1, z_1ne, z_lt64, z_02, z_03, z_04, z_05, z_12, z_13, z_14, z_15, z_20, z_21, z_23, z_24, z_25, z_30, z_31, z_32, z_34, z_35, z_40, z_41, z_42, z_43, z_45, z_50, z_51, z_52, z_53, z_54]
end ClsE
