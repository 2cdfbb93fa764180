/-! WAR: a need seeks a piece, the model. Made by wip/whole/math/911.py. -/
abbrev pld (w : Nat → Int32) (p : Nat) : Prop := w (461 + 18 * p + 1) = 2 ∨ w (461 + 18 * p + 1) = 3 ∧ w (2622 + 49 * cn w (461 + 18 * p + 11)) = 1
abbrev edW (w : Nat → Int32) (u p : Nat) : Prop := pld w p ∧ eno w (u / 8) (u % 8) p
def unv (V : Nat → Bool) (n : Nat) : Nat := itr (fun k a => if V k = true then a else a + 1) n 0
def vmk (V : Nat → Bool) (k : Nat) : Nat → Bool := fun l => if l = k then true else V l
def emp (h : Nat → Option Nat) (C : Nat → Bool) : Nat → Option Nat := fun l => if C l = true then none else h l
def FS (i : Nat → Nat → Int32) (n : Nat) (V : Nat → Bool) (h : Nat → Option Nat) : Prop := (∀ k, k < n → i 890 k = if V k = true then 1 else 0) ∧ ∀ k, k < n → i 889 k = txn (h k)
section Finds
variable {B : am_A} {i j : Nat → Nat → Int32} {w : Nat → Int32} {d n N p k l u x : Nat} {S T R : Nat → Prop} {V V' W : Nat → Bool} {h h' : Nat → Option Nat} {E : Nat → Nat → Prop} {C : Nat → Bool}
theorem unv_s : unv V (n + 1) = if V n = true then unv V n else unv V n + 1 := rfl
theorem unv_le (hV : ∀ k, V k = true → W k = true) : unv W n ≤ unv V n := by
  induction n with
  | zero => exact Nat.le_refl _
  | succ n ih =>
    rw [unv_s, unv_s]
    by_cases g : V n = true
    · rw [if_pos g, if_pos (hV n g)]
      exact ih
    · rw [if_neg g]
      split <;> omega
theorem unv_n : unv V n ≤ n := by
  induction n with
  | zero => exact Nat.le_refl _
  | succ n ih =>
    rw [unv_s]
    split <;> omega
theorem vmk_at : vmk V k k = true := if_pos rfl
theorem vmk_ne (q : l ≠ k) : vmk V k l = V l := if_neg q
theorem vmk_le : V l = true → vmk V k l = true := fun q => by
  by_cases e : l = k
  · rw [e]
    exact vmk_at
  · rw [vmk_ne e]
    exact q
theorem unv_out (hk : n ≤ k) : unv (vmk V k) n = unv V n := by
  induction n with
  | zero => rfl
  | succ n ih => rw [unv_s, unv_s, ih (by omega), vmk_ne (by omega)]
theorem unv_mk (hk : k < n) (g : V k = false) : unv (vmk V k) n + 1 = unv V n := by
  induction n with
  | zero => exact absurd hk (Nat.not_lt_zero _)
  | succ n ih =>
    rw [unv_s, unv_s]
    by_cases e : k = n
    · subst e
      rw [if_pos vmk_at, g, unv_out (Nat.le_refl _)]
      rfl
    · have := ih (by omega)
      rw [vmk_ne (l := n) (by omega)]
      split <;> omega
theorem emp_in (q : C k = true) : emp h C k = none := if_pos q
theorem emp_ne (q : ¬ C k = true) : emp h C k = h k := if_neg q
theorem m_pooled (hM : Md B) (hw : ∀ z, z < 12042 → i 875 z = w z) (hW : Wd w) (hp : p < cn w 460) (h120 : p < 120) : am_fx am_P (d + 2) 124 0 [some (.ref 874), some (.int (Int32.ofNat p))] [] (am_wI B i) = some (.inl (some (.int (if pld w p then 1 else 0))), am_wI B i) := by
  obtain ⟨a1, a2, a3, a4, a5, a6, a7, a8, a9, a10, a11, a12, a13⟩ := hW.2.2.2.1.1 p hp h120
  have h21 := hW.1.2.2.2.1
  have n21 := h21.2
  have e1 := hw (461 + 18 * p + 1) (by omega)
  have e11 := hw (461 + 18 * p + 11) (by omega)
  rw [bk_124_0]
  by_cases g2 : w (461 + 18 * p + 1) = 2
  · rw [if_pos (c := pld w p) (Or.inl g2)]
    simp (disch := omega) only [bk_24_0, bk_23_0, bk_124_36, e1, g2, hM, y_ckd, y_ck2d, y_ond, y_onn, y_oI, y_oIx, y_oJ, y_oV, y_oVx, y_oR, y_oRn, y_oRx, y_b0, y_b1, y_bi, y_bid, y_wIK, y_wIL, y_wII, y_wIJ, y_wIR, y_wIN, y_wIw, y_sI, ↓reduceIte, Nat.reduceEqDiff, eq_self, true_or, or_true, false_or, or_false, and_true, true_and, false_and, and_false, not_true, not_false_eq_true, tf_T, tf_F, y_up1, y_up2, y_xx, y_nx, y_sJ, y_sR, Int32.reduceLT, y_nxK, y_nxL, y_nxR, y_sJK, y_sJL, y_sJR, y_sJN, y_sRK, y_sRL, y_sRN, Nat.add_zero, z_nat, z_lit, z_lit0, z_lit1, z_in0, z_in1, z_addl0, z_lt, z_ltl, z_llt, z_inj, z_injl, z_add, z_addl, z_ladd, z_mul, z_mull, z_lmul, z_neg, z_negl, z_in, z_inl, z_ltT, z_ltF, z_eqF, z_10, z_01, z_litne, z_ne0, z_0ne, z_ne1, z_1ne, z_lt64, z_02, z_03, z_04, z_05, z_12, z_13, z_14, z_15, z_20, z_21, z_23, z_24, z_25, z_30, z_31, z_32, z_34, z_35, z_40, z_41, z_42, z_43, z_45, z_50, z_51, z_52, z_53, z_54]
  · by_cases g3 : w (461 + 18 * p + 1) = 3
    · obtain ⟨es, hs⟩ := nn_of a9 h21.1 (by omega) (a10 g3)
      have e11' := e11.trans es
      have e0 := hw (2622 + 49 * cn w (461 + 18 * p + 11)) (by omega)
      by_cases g : w (2622 + 49 * cn w (461 + 18 * p + 11)) = 1
      · rw [if_pos (c := pld w p) (Or.inr ⟨g3, g⟩)]
        simp (disch := omega) only [bk_24_0, bk_23_0, bk_67_0, bk_66_0, bk_124_36, e1, e11', e0, g3, g, hM, y_ckd, y_ck2d, y_ond, y_onn, y_oI, y_oIx, y_oJ, y_oV, y_oVx, y_oR, y_oRn, y_oRx, y_b0, y_b1, y_bi, y_bid, y_wIK, y_wIL, y_wII, y_wIJ, y_wIR, y_wIN, y_wIw, y_sI, ↓reduceIte, Nat.reduceEqDiff, eq_self, true_or, or_true, false_or, or_false, and_true, true_and, false_and, and_false, not_true, not_false_eq_true, tf_T, tf_F, y_up1, y_up2, y_xx, y_nx, y_sJ, y_sR, Int32.reduceLT, y_nxK, y_nxL, y_nxR, y_sJK, y_sJL, y_sJR, y_sJN, y_sRK, y_sRL, y_sRN, Nat.add_zero, z_nat, z_lit, z_lit0, z_lit1, z_in0, z_in1, z_addl0, z_lt, z_ltl, z_llt, z_inj, z_injl, z_add, z_addl, z_ladd, z_mul, z_mull, z_lmul, z_neg, z_negl, z_in, z_inl, z_ltT, z_ltF, z_eqF, z_10, z_01, z_litne, z_ne0, z_0ne, z_ne1, z_1ne, z_lt64, z_02, z_03, z_04, z_05, z_12, z_13, z_14, z_15, z_20, z_21, z_23, z_24, z_25, z_30, z_31, z_32, z_34, z_35, z_40, z_41, z_42, z_43, z_45, z_50, z_51, z_52, z_53, z_54]
      · rw [if_neg (c := pld w p) (fun q => q.elim g2 fun q => g q.2)]
        simp (disch := omega) only [bk_24_0, bk_23_0, bk_67_0, bk_66_0, bk_124_36, e1, e11', e0, g3, g, hM, y_ckd, y_ck2d, y_ond, y_onn, y_oI, y_oIx, y_oJ, y_oV, y_oVx, y_oR, y_oRn, y_oRx, y_b0, y_b1, y_bi, y_bid, y_wIK, y_wIL, y_wII, y_wIJ, y_wIR, y_wIN, y_wIw, y_sI, ↓reduceIte, Nat.reduceEqDiff, eq_self, true_or, or_true, false_or, or_false, and_true, true_and, false_and, and_false, not_true, not_false_eq_true, tf_T, tf_F, y_up1, y_up2, y_xx, y_nx, y_sJ, y_sR, Int32.reduceLT, y_nxK, y_nxL, y_nxR, y_sJK, y_sJL, y_sJR, y_sJN, y_sRK, y_sRL, y_sRN, Nat.add_zero, z_nat, z_lit, z_lit0, z_lit1, z_in0, z_in1, z_addl0, z_lt, z_ltl, z_llt, z_inj, z_injl, z_add, z_addl, z_ladd, z_mul, z_mull, z_lmul, z_neg, z_negl, z_in, z_inl, z_ltT, z_ltF, z_eqF, z_10, z_01, z_litne, z_ne0, z_0ne, z_ne1, z_1ne, z_lt64, z_02, z_03, z_04, z_05, z_12, z_13, z_14, z_15, z_20, z_21, z_23, z_24, z_25, z_30, z_31, z_32, z_34, z_35, z_40, z_41, z_42, z_43, z_45, z_50, z_51, z_52, z_53, z_54]
    · rw [if_neg (c := pld w p) (fun q => q.elim g2 fun q => g3 q.1)]
      simp (disch := omega) only [bk_24_0, bk_23_0, e1, g2, g3, hM, y_ckd, y_ck2d, y_ond, y_onn, y_oI, y_oIx, y_oJ, y_oV, y_oVx, y_oR, y_oRn, y_oRx, y_b0, y_b1, y_bi, y_bid, y_wIK, y_wIL, y_wII, y_wIJ, y_wIR, y_wIN, y_wIw, y_sI, ↓reduceIte, Nat.reduceEqDiff, eq_self, true_or, or_true, false_or, or_false, and_true, true_and, false_and, and_false, not_true, not_false_eq_true, tf_T, tf_F, y_up1, y_up2, y_xx, y_nx, y_sJ, y_sR, Int32.reduceLT, y_nxK, y_nxL, y_nxR, y_sJK, y_sJL, y_sJR, y_sJN, y_sRK, y_sRL, y_sRN, Nat.add_zero, z_nat, z_lit, z_lit0, z_lit1, z_in0, z_in1, z_addl0, z_lt, z_ltl, z_llt, z_inj, z_injl, z_add, z_addl, z_ladd, z_mul, z_mull, z_lmul, z_neg, z_negl, z_in, z_inl, z_ltT, z_ltF, z_eqF, z_10, z_01, z_litne, z_ne0, z_0ne, z_ne1, z_1ne, z_lt64, z_02, z_03, z_04, z_05, z_12, z_13, z_14, z_15, z_20, z_21, z_23, z_24, z_25, z_30, z_31, z_32, z_34, z_35, z_40, z_41, z_42, z_43, z_45, z_50, z_51, z_52, z_53, z_54]
/-- what a search gives: a place for the need, or all that it reached -/
def FOut (B : am_A) (E : Nat → Nat → Prop) (n : Nat) (i : Nat → Nat → Int32) (V : Nat → Bool) (h : Nat → Option Nat) (u : Nat) (x : am_X) : Prop := ∃ (b : Bool) (j : Nat → Nat → Int32) (V' : Nat → Bool) (h' : Nat → Option Nat), x = some (.inl (some (.int (if b = true then 1 else 0))), am_wI B j) ∧ FS j n V' h' ∧ (∀ q k, q ≠ 889 → q ≠ 890 → j q k = i q k) ∧ (∀ k, V k = true → V' k = true) ∧ (∀ k x, k < n → h' k = some x → x < 64) ∧
  (b = true → (∀ k, V k = true → h' k = h k) ∧ ∀ (C : Nat → Bool) (T : Nat → Prop), (∀ k, C k = true → V k = true) → mat E n T (emp h C) → ¬ T u → mat E n (fun v => T v ∨ v = u) (emp h' C)) ∧
  (b = false → h' = h ∧ ∃ R : Nat → Prop, R u ∧ (∀ v, R v → v = u ∨ ∃ k, k < n ∧ h k = some v) ∧ (∀ v k, R v → k < n → E v k → V' k = true) ∧ ∀ k, k < n → V' k = true → V k = true ∨ ∃ v, h k = some v ∧ R v)
theorem mat_drop (m : mat E n S h) (hk : k < n) (e : h k = some x) : mat E n (fun v => S v ∧ v ≠ x) (hup h k none) := by
  obtain ⟨m1, m2, m3⟩ := m
  have hv : ∀ a v, hup h k none a = some v → a ≠ k ∧ h a = some v := by
    intro a v ea
    by_cases q : a = k
    · subst q
      rw [hup_at] at ea
      exact nomatch ea
    · rw [hup_ne q] at ea
      exact ⟨q, ea⟩
  refine ⟨fun a v ha ea => ?_, fun a b v ha hb ea eb => ?_, fun v hv' => ?_⟩
  · obtain ⟨q, ea⟩ := hv a v ea
    obtain ⟨c1, c2⟩ := m1 a v ha ea
    exact ⟨⟨c1, fun q2 => q (m2 a k x ha hk (q2 ▸ ea) e)⟩, c2⟩
  · exact m2 a b v ha hb (hv a v ea).2 (hv b v eb).2
  · obtain ⟨a, ha, ea⟩ := m3 v hv'.1
    refine ⟨a, ha, ?_⟩
    rw [hup_ne (fun q => by rw [q, e] at ea; exact hv'.2 (Option.some.inj ea).symm)]
    exact ea
theorem mat_cg (hST : ∀ u, S u ↔ T u) (hh : ∀ k, k < n → h k = h' k) (m : mat E n S h) : mat E n T h' := by
  obtain ⟨m1, m2, m3⟩ := m
  refine ⟨fun a v ha ea => ?_, fun a b v ha hb ea eb => ?_, fun v hv => ?_⟩
  · rw [← hh a ha] at ea
    obtain ⟨c1, c2⟩ := m1 a v ha ea
    exact ⟨(hST v).mp c1, c2⟩
  · rw [← hh a ha] at ea
    rw [← hh b hb] at eb
    exact m2 a b v ha hb ea eb
  · obtain ⟨a, ha, ea⟩ := m3 v ((hST v).mpr hv)
    exact ⟨a, ha, by rw [← hh a ha]; exact ea⟩
/-- the slot was free -/
theorem sc_free (hk : k < n) (g : V k = false) (e : h k = none) (hE : E u k) : ∀ (C : Nat → Bool) (T : Nat → Prop), (∀ k, C k = true → V k = true) → mat E n T (emp h C) → ¬ T u → mat E n (fun v => T v ∨ v = u) (emp (hup h k (some u)) C) := by
  intro C T hC m h0
  have ck : ¬ C k = true := fun q => by rw [hC k q] at g; exact nomatch g
  refine mat_cg (fun _ => Iff.rfl) (fun a _ => ?_) (mat_fill m hk ((emp_ne ck).trans e) hE h0)
  by_cases q : a = k
  · subst q
    rw [hup_at, emp_ne ck, hup_at]
  · rw [hup_ne q]
    unfold emp
    rw [hup_ne q]
/-- the need that had the slot has found another -/
theorem sc_push (hk : k < n) (g : V k = false) (e : h k = some x) (hE : E u k) (h1 : ∀ l, vmk V k l = true → h' l = h l) (hC1 : ∀ (C : Nat → Bool) (T : Nat → Prop), (∀ l, C l = true → vmk V k l = true) → mat E n T (emp h C) → ¬ T x → mat E n (fun v => T v ∨ v = x) (emp h' C)) : ∀ (C : Nat → Bool) (T : Nat → Prop), (∀ k, C k = true → V k = true) → mat E n T (emp h C) → ¬ T u → mat E n (fun v => T v ∨ v = u) (emp (hup h' k (some u)) C) := by
  intro C T hC m h0
  have ck : ¬ C k = true := fun q => by rw [hC k q] at g; exact nomatch g
  have m1 := mat_drop (x := x) m hk ((emp_ne ck).trans e)
  have Tx : T x := (m.1 k x hk ((emp_ne ck).trans e)).1
  have m2 : mat E n (fun v => T v ∧ v ≠ x) (emp h (vmk C k)) := by
    refine mat_cg (fun _ => Iff.rfl) (fun a _ => ?_) m1
    by_cases q : a = k
    · subst q
      rw [hup_at, emp_in vmk_at]
    · rw [hup_ne q]
      unfold emp
      rw [vmk_ne q]
  have m3 := hC1 (vmk C k) (fun v => T v ∧ v ≠ x) (fun l hl => by
    by_cases q : l = k
    · rw [q]
      exact vmk_at
    · rw [vmk_ne q] at hl ⊢
      exact hC l hl) m2 (fun q => q.2 rfl)
  have m4 : mat E n T (emp h' (vmk C k)) := by
    refine mat_cg (fun v => ⟨fun q => q.elim And.left (fun q => q ▸ Tx), fun q => ?_⟩) (fun _ _ => rfl) m3
    by_cases q2 : v = x
    · exact Or.inr q2
    · exact Or.inl ⟨q, q2⟩
  refine mat_cg (fun _ => Iff.rfl) (fun a _ => ?_) (mat_fill m4 hk (emp_in vmk_at) hE h0)
  by_cases q : a = k
  · subst q
    rw [hup_at, emp_ne ck, hup_at]
  · rw [hup_ne q]
    unfold emp
    rw [hup_ne q, vmk_ne q]
end Finds
