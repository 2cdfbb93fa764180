/-! TEXTS ON THE TAPE, the class: words at hand, steps written. Made by wip/whole/math/926.py. -/
theorem seg_2 : Seg 2 [10, 11, 12, 13] 0 := Seg_c (w := 10) (by decide) (by decide) (by decide) (Seg_c (w := 11) (by decide) (by decide) (by decide) (Seg_c (w := 12) (by decide) (by decide) (by decide) (Seg_c (w := 13) (by decide) (by decide) (by decide) (Seg_n (by decide)))))
theorem seg_3 : Seg 3 [14, 15, 16, 17] 0 := Seg_c (w := 14) (by decide) (by decide) (by decide) (Seg_c (w := 15) (by decide) (by decide) (by decide) (Seg_c (w := 16) (by decide) (by decide) (by decide) (Seg_c (w := 17) (by decide) (by decide) (by decide) (Seg_n (by decide)))))
theorem seg_6 : Seg 6 [18, 19, 20, 21, 22] 0 := Seg_c (w := 18) (by decide) (by decide) (by decide) (Seg_c (w := 19) (by decide) (by decide) (by decide) (Seg_c (w := 20) (by decide) (by decide) (by decide) (Seg_c (w := 21) (by decide) (by decide) (by decide) (Seg_c (w := 22) (by decide) (by decide) (by decide) (Seg_n (by decide))))))
theorem seg_7 : Seg 7 [23, 24, 25, 26, 27, 28] 0 := Seg_c (w := 23) (by decide) (by decide) (by decide) (Seg_c (w := 24) (by decide) (by decide) (by decide) (Seg_c (w := 25) (by decide) (by decide) (by decide) (Seg_c (w := 26) (by decide) (by decide) (by decide) (Seg_c (w := 27) (by decide) (by decide) (by decide) (Seg_c (w := 28) (by decide) (by decide) (by decide) (Seg_n (by decide)))))))
theorem seg_4 : Seg 4 [4] 0 := Seg_c (w := 4) (by decide) (by decide) (by decide) (Seg_n (by decide))
theorem seg_5 : Seg 5 [5] 0 := Seg_c (w := 5) (by decide) (by decide) (by decide) (Seg_n (by decide))
theorem seg_8 : Seg 8 [8] 0 := Seg_c (w := 8) (by decide) (by decide) (by decide) (Seg_n (by decide))
theorem seg_9 : Seg 9 [9] 0 := Seg_c (w := 9) (by decide) (by decide) (by decide) (Seg_n (by decide))
def FRc (i j : Nat → Nat → Int32) : Prop := ∀ q k, q ≠ 70 → (q = 65 → k ≠ 2 ∧ k ≠ 3 ∧ k ≠ 4 ∧ k ≠ 5 ∧ k ≠ 6 ∧ k ≠ 11) → j q k = i q k
/-- the steps written so far -/
def SC (i : Nat → Nat → Int32) (s : Nat) (u : Nat → Int32) : Prop := i 65 11 = Int32.ofNat s ∧ ∀ k, k < s → i 70 k = enc (u (12092 + 2 * k)) (u (12092 + 2 * k + 1))
def CPt (N : Nat → Nat) (L : Nat) (i : Nat → Nat → Int32) (st : PS) : Prop := LD N L (tb N L st.1) i ∧ SC i st.2.1 st.2.2
def PO (B : am_A) (N : Nat → Nat) (L : Nat) (i : Nat → Nat → Int32) (x : am_X) : PR → Prop
  | .inl f => ∃ j, x = some (.inl (some (.int 0)), am_wI B j) ∧ j 65 2 = Int32.ofNat f ∧ FRc i j
  | .inr st => ∃ j, x = some (.inl (some (.int 1)), am_wI B j) ∧ j 65 2 = i 65 2 ∧ CPt N L j st ∧ FRc i j
section ClsA
variable {B : am_A} {i j k : Nat → Nat → Int32} {N : Nat → Nat} {d L p b e q n s f : Nat} {u : Nat → Int32} {st : PS} {x : am_X} {r : PR} {qs : List Nat}
theorem FRc.rf : FRc i i := fun _ _ _ _ => rfl
theorem FRc.tr (h1 : FRc i j) (h2 : FRc j k) : FRc i k := fun q l a b => (h2 q l a b).trans (h1 q l a b)
theorem CT_FRc (h : CT N L i) (hf : FRc i j) : CT N L j := CT_fr h (hf _ _ (by omega) (by omega)) fun k => hf _ _ (by omega) (by omega)
theorem Stx_FRc (h : Stx B i) (hf : FRc i j) : Stx B j := fun q h1 h2 => by
  obtain ⟨a1, a2, a3⟩ := h q h1 h2
  exact ⟨a1, a2, fun k hk => (hf _ _ (by omega) (by omega)).trans (a3 k hk)⟩
theorem PO_fr (hf : FRc i j) (h2 : j 65 2 = i 65 2) (h : PO B N L j x r) : PO B N L i x r := by
  cases r with
  | inl f =>
    obtain ⟨m, a1, a2, a3⟩ := h
    exact ⟨m, a1, a2, hf.tr a3⟩
  | inr st =>
    obtain ⟨m, a1, a2, a3, a4⟩ := h
    exact ⟨m, a1, a2.trans h2, a3, hf.tr a4⟩
theorem SC_fr (h : SC i s u) (h1 : j 65 11 = i 65 11) (h2 : ∀ k, j 70 k = i 70 k) : SC j s u := ⟨h1.trans h.1, fun k hk => (h2 k).trans (h.2 k hk)⟩
theorem wix_nil : ∀ (qs : List Nat) (j o : Nat), Seg q qs o → wix N b b qs j = none := by
  intro qs
  induction qs with
  | nil => exact fun _ _ _ => rfl
  | cons w r ih =>
    intro j o h
    rw [show wix N b b (w :: r) j = wix N b b r (j + 1) from if_neg fun q => by have := q.1; have := h.1.1; omega]
    exact ih _ _ h.2.2.2
theorem c_among (hF : Fc B) (hX : Stx B i) (hc : CT N L i) (hl : LD N L b i) (hb : b ≤ L) (hS : Seg q qs 0) (hq : 2 ≤ q ∧ q ≤ 28) (hn : (sx q).length < 100 ∧ 0 + qs.length < 100) : am_fx am_P d 215 0 [some (.ref 65), some (.ref q), none, none, none] [] (am_wI B i) = some (.inl (some (.int (txn (wix N b (lw N L b) qs 0)))), am_wI B i) := by
  obtain ⟨l3, l4, l5, l6⟩ := hl
  rw [bk_215_0]
  by_cases g : b < L ∧ 97 ≤ N b ∧ N b ≤ 122
  · unfold tkn at l5
    rw [if_pos g.1, if_pos g.2] at l5
    unfold tke at l3
    rw [if_pos g.1, if_pos g.2] at l3
    have E := c_segs (d := d) hF (hX q hq.1 hq.2) hn.1 hc l3 l4 rn_ge (rn_le hb) qs 0 0 hS hn.2
    simp (disch := omega) only [l5, hF, y_ckd, y_ck2d, y_ond, y_onn, y_oI, y_oIx, y_oJ, y_oV, y_oVx, y_oR, y_oRn, y_oRx, y_b0, y_b1, y_bi, y_bid, y_wIK, y_wIL, y_wII, y_wIJ, y_wIR, y_wIN, y_wIw, y_sI, ↓reduceIte, Nat.reduceEqDiff, eq_self, true_or, or_true, false_or, or_false, and_true, true_and, false_and, and_false, not_true, not_false_eq_true, tf_T, tf_F, y_up1, y_up2, y_xx, y_nx, y_sJ, y_sR, Int32.reduceLT, y_nxK, y_nxL, y_nxR, y_sJK, y_sJL, y_sJR, y_sJN, y_sRK, y_sRL, y_sRN, Nat.add_zero, z_nat, z_lit, z_lit0, z_lit1, z_in0, z_in1, z_addl0, z_lt, z_ltl, z_llt, z_inj, z_injl, z_add, z_addl, z_ladd, z_mul, z_mull, z_lmul, z_neg, z_negl, z_in, z_inl, z_ltT, z_ltF, z_eqF, z_10, z_01, z_litne, z_ne0, z_0ne, z_ne1, z_1ne, z_lt64, z_02, z_03, z_04, z_05, z_12, z_13, z_14, z_15, z_20, z_21, z_23, z_24, z_25, z_30, z_31, z_32, z_34, z_35, z_40, z_41, z_42, z_43, z_45, z_50, z_51, z_52, z_53, z_54]
    exact E
  · have t5 : ¬ i 65 5 = 1 := by
      rw [l5]
      unfold tkn
      by_cases g1 : b < L
      · rw [if_pos g1, if_neg fun q => g ⟨g1, q⟩]
        split <;> decide
      · rw [if_neg g1]
        decide
    rw [show lw N L b = b from rn_0 g, wix_nil qs 0 0 hS]
    simp (disch := omega) only [t5, hF, y_ckd, y_ck2d, y_ond, y_onn, y_oI, y_oIx, y_oJ, y_oV, y_oVx, y_oR, y_oRn, y_oRx, y_b0, y_b1, y_bi, y_bid, y_wIK, y_wIL, y_wII, y_wIJ, y_wIR, y_wIN, y_wIw, y_sI, ↓reduceIte, Nat.reduceEqDiff, eq_self, true_or, or_true, false_or, or_false, and_true, true_and, false_and, and_false, not_true, not_false_eq_true, tf_T, tf_F, y_up1, y_up2, y_xx, y_nx, y_sJ, y_sR, Int32.reduceLT, y_nxK, y_nxL, y_nxR, y_sJK, y_sJL, y_sJR, y_sJN, y_sRK, y_sRL, y_sRN, Nat.add_zero, z_nat, z_lit, z_lit0, z_lit1, z_in0, z_in1, z_addl0, z_lt, z_ltl, z_llt, z_inj, z_injl, z_add, z_addl, z_ladd, z_mul, z_mull, z_lmul, z_neg, z_negl, z_in, z_inl, z_ltT, z_ltF, z_eqF, z_10, z_01, z_litne, z_ne0, z_0ne, z_ne1, z_1ne, z_lt64, z_02, z_03, z_04, z_05, z_12, z_13, z_14, z_15, z_20, z_21, z_23, z_24, z_25, z_30, z_31, z_32, z_34, z_35, z_40, z_41, z_42, z_43, z_45, z_50, z_51, z_52, z_53, z_54]
    rfl
theorem c_isW (hF : Fc B) (hX : Stx B i) (hc : CT N L i) (hl : LD N L b i) (hb : b ≤ L) (hS : Seg q [q] 0) (hq : 2 ≤ q ∧ q ≤ 28) (hn : (sx q).length < 100) : am_fx am_P (d + 1) 214 0 [some (.ref 65), some (.ref q)] [] (am_wI B i) = some (.inl (some (.int (if isw N b (lw N L b) (sx q) then 1 else 0))), am_wI B i) := by
  have E := c_among (d := d) hF hX hc hl hb hS hq ⟨hn, by show 0 + 1 < 100; omega⟩
  rw [show wix N b (lw N L b) [q] 0 = if isw N b (lw N L b) (sx q) then some 0 else none from rfl] at E
  rw [bk_214_0]
  by_cases g : isw N b (lw N L b) (sx q)
  · rw [if_pos g] at E ⊢
    simp (disch := omega) only [E, txn, hF, y_ckd, y_ck2d, y_ond, y_onn, y_oI, y_oIx, y_oJ, y_oV, y_oVx, y_oR, y_oRn, y_oRx, y_b0, y_b1, y_bi, y_bid, y_wIK, y_wIL, y_wII, y_wIJ, y_wIR, y_wIN, y_wIw, y_sI, ↓reduceIte, Nat.reduceEqDiff, eq_self, true_or, or_true, false_or, or_false, and_true, true_and, false_and, and_false, not_true, not_false_eq_true, tf_T, tf_F, y_up1, y_up2, y_xx, y_nx, y_sJ, y_sR, Int32.reduceLT, y_nxK, y_nxL, y_nxR, y_sJK, y_sJL, y_sJR, y_sJN, y_sRK, y_sRL, y_sRN, Nat.add_zero, z_nat, z_lit, z_lit0, z_lit1, z_in0, z_in1, z_addl0, z_lt, z_ltl, z_llt, z_inj, z_injl, z_add, z_addl, z_ladd, z_mul, z_mull, z_lmul, z_neg, z_negl, z_in, z_inl, z_ltT, z_ltF, z_eqF, z_10, z_01, z_litne, z_ne0, z_0ne, z_ne1, z_1ne, z_lt64, z_02, z_03, z_04, z_05, z_12, z_13, z_14, z_15, z_20, z_21, z_23, z_24, z_25, z_30, z_31, z_32, z_34, z_35, z_40, z_41, z_42, z_43, z_45, z_50, z_51, z_52, z_53, z_54]
  · rw [if_neg g] at E ⊢
    have m0 : ¬ (-1 : Int32) = 0 := by decide
    simp (disch := omega) only [E, txn, m0, hF, y_ckd, y_ck2d, y_ond, y_onn, y_oI, y_oIx, y_oJ, y_oV, y_oVx, y_oR, y_oRn, y_oRx, y_b0, y_b1, y_bi, y_bid, y_wIK, y_wIL, y_wII, y_wIJ, y_wIR, y_wIN, y_wIw, y_sI, ↓reduceIte, Nat.reduceEqDiff, eq_self, true_or, or_true, false_or, or_false, and_true, true_and, false_and, and_false, not_true, not_false_eq_true, tf_T, tf_F, y_up1, y_up2, y_xx, y_nx, y_sJ, y_sR, Int32.reduceLT, y_nxK, y_nxL, y_nxR, y_sJK, y_sJL, y_sJR, y_sJN, y_sRK, y_sRL, y_sRN, Nat.add_zero, z_nat, z_lit, z_lit0, z_lit1, z_in0, z_in1, z_addl0, z_lt, z_ltl, z_llt, z_inj, z_injl, z_add, z_addl, z_ladd, z_mul, z_mull, z_lmul, z_neg, z_negl, z_in, z_inl, z_ltT, z_ltF, z_eqF, z_10, z_01, z_litne, z_ne0, z_0ne, z_ne1, z_1ne, z_lt64, z_02, z_03, z_04, z_05, z_12, z_13, z_14, z_15, z_20, z_21, z_23, z_24, z_25, z_30, z_31, z_32, z_34, z_35, z_40, z_41, z_42, z_43, z_45, z_50, z_51, z_52, z_53, z_54]
theorem c_wrong (hF : Fc B) (hl : i 65 4 = Int32.ofNat b) : am_fx am_P d 210 0 [some (.ref 65)] [] (am_wI B i) = some (.inl (some (.int 0)), am_wI B (am_up2 i 65 2 (Int32.ofNat b))) := by
  rw [bk_210_0]
  simp (disch := omega) only [hl, hF, y_ckd, y_ck2d, y_ond, y_onn, y_oI, y_oIx, y_oJ, y_oV, y_oVx, y_oR, y_oRn, y_oRx, y_b0, y_b1, y_bi, y_bid, y_wIK, y_wIL, y_wII, y_wIJ, y_wIR, y_wIN, y_wIw, y_sI, ↓reduceIte, Nat.reduceEqDiff, eq_self, true_or, or_true, false_or, or_false, and_true, true_and, false_and, and_false, not_true, not_false_eq_true, tf_T, tf_F, y_up1, y_up2, y_xx, y_nx, y_sJ, y_sR, Int32.reduceLT, y_nxK, y_nxL, y_nxR, y_sJK, y_sJL, y_sJR, y_sJN, y_sRK, y_sRL, y_sRN, Nat.add_zero, z_nat, z_lit, z_lit0, z_lit1, z_in0, z_in1, z_addl0, z_lt, z_ltl, z_llt, z_inj, z_injl, z_add, z_addl, z_ladd, z_mul, z_mull, z_lmul, z_neg, z_negl, z_in, z_inl, z_ltT, z_ltF, z_eqF, z_10, z_01, z_litne, z_ne0, z_0ne, z_ne1, z_1ne, z_lt64, z_02, z_03, z_04, z_05, z_12, z_13, z_14, z_15, z_20, z_21, z_23, z_24, z_25, z_30, z_31, z_32, z_34, z_35, z_40, z_41, z_42, z_43, z_45, z_50, z_51, z_52, z_53, z_54]
theorem PO_bad (h : x = some (.inl (some (.int 0)), am_wI B (am_up2 i 65 2 (Int32.ofNat b)))) : PO B N L i x (.inl b) := ⟨_, h, y_up1 rfl rfl, fun q k _ _ => y_up2 (by omega)⟩
theorem c_add {a c v : Int32} (hF : Fc B) (hs : SC i s u) (h4 : s < 400) (hv : enc a c = v) : ∃ j, am_fx am_P d 209 0 [some (.ref 65), some (.int v)] [] (am_wI B i) = some (.inl none, am_wI B j) ∧ SC j (s + 1) (emt u s a c) ∧ ∀ q k, q ≠ 70 → (q = 65 → k ≠ 11) → j q k = i q k := by
  obtain ⟨h1, h2⟩ := hs
  refine ⟨am_up2 (am_up2 i 70 s v) 65 11 (Int32.ofNat (s + 1)), ?_, ⟨y_up1 rfl rfl, fun k hk => ?_⟩, fun q k a b => by rw [y_up2 (by omega), y_up2 (by omega)]⟩
  · rw [bk_209_0]
    simp (disch := omega) only [bk_209_30, h1, h4, hF, y_ckd, y_ck2d, y_ond, y_onn, y_oI, y_oIx, y_oJ, y_oV, y_oVx, y_oR, y_oRn, y_oRx, y_b0, y_b1, y_bi, y_bid, y_wIK, y_wIL, y_wII, y_wIJ, y_wIR, y_wIN, y_wIw, y_sI, ↓reduceIte, Nat.reduceEqDiff, eq_self, true_or, or_true, false_or, or_false, and_true, true_and, false_and, and_false, not_true, not_false_eq_true, tf_T, tf_F, y_up1, y_up2, y_xx, y_nx, y_sJ, y_sR, Int32.reduceLT, y_nxK, y_nxL, y_nxR, y_sJK, y_sJL, y_sJR, y_sJN, y_sRK, y_sRL, y_sRN, Nat.add_zero, z_nat, z_lit, z_lit0, z_lit1, z_in0, z_in1, z_addl0, z_lt, z_ltl, z_llt, z_inj, z_injl, z_add, z_addl, z_ladd, z_mul, z_mull, z_lmul, z_neg, z_negl, z_in, z_inl, z_ltT, z_ltF, z_eqF, z_10, z_01, z_litne, z_ne0, z_0ne, z_ne1, z_1ne, z_lt64, z_02, z_03, z_04, z_05, z_12, z_13, z_14, z_15, z_20, z_21, z_23, z_24, z_25, z_30, z_31, z_32, z_34, z_35, z_40, z_41, z_42, z_43, z_45, z_50, z_51, z_52, z_53, z_54]
  · rw [y_up2 (by omega)]
    by_cases e : k = s
    · subst e
      rw [y_up1 rfl rfl, emt_0, emt_1, hv]
    · rw [y_up2 (by omega), emt_ne (by omega), emt_ne (by omega)]
      exact h2 k (by omega)
theorem enc_tag : ∀ t, t < 5 → enc (Int32.ofNat t) 0 = ((0 : Int32) ||| (Int32.ofNat t <<< (3 &&& 31))) ||| ((0 : Int32) <<< (6 &&& 31)) := by decide
theorem enc_opc : enc 300 0 = ((3 : Int32) ||| ((0 : Int32) <<< (3 &&& 31))) ||| ((0 : Int32) <<< (6 &&& 31)) ∧ enc 301 0 = ((4 : Int32) ||| ((0 : Int32) <<< (3 &&& 31))) ||| ((0 : Int32) <<< (6 &&& 31)) ∧ enc 302 0 = ((5 : Int32) ||| ((0 : Int32) <<< (3 &&& 31))) ||| ((0 : Int32) <<< (6 &&& 31)) := by decide
theorem enc_fct {v : Int32} (hf : f < 6) : enc (Int32.ofNat (100 + f)) v = ((1 : Int32) ||| (Int32.ofNat f <<< (3 &&& 31))) ||| (v <<< (6 &&& 31)) ∧ enc (Int32.ofNat (200 + f)) v = ((2 : Int32) ||| (Int32.ofNat f <<< (3 &&& 31))) ||| (v <<< (6 &&& 31)) := by
  have h : f = 0 ∨ f = 1 ∨ f = 2 ∨ f = 3 ∨ f = 4 ∨ f = 5 := by omega
  rcases h with rfl | rfl | rfl | rfl | rfl | rfl <;> exact ⟨rfl, rfl⟩
end ClsA
