/-! WAR: can these ships float, the model. Made by wip/whole/math/913.py. -/
/-- how many needs a ship has, by number -/
def nnd (w : Nat → Int32) (s : Nat) : Nat := cn w (2622 + 49 * s + 8)
/-- the needs of the ships of X -/
abbrev ndS (w : Nat → Int32) (X u : Nat) : Prop := u < 64 ∧ bt2 X (u / 8) ∧ u % 8 < nnd w (u / 8)
/-- these ships can all have what they need -/
def flo (w : Nat → Int32) (X : Nat) : Prop := okS (edW w) (cn w 460) (ndS w X)
section Float
variable {B : am_A} {i j : Nat → Nat → Int32} {w : Nat → Int32} {d n N p k l u x m X : Nat} {S T R : Nat → Prop} {V V' W : Nat → Bool} {h h' : Nat → Option Nat} {C : Nat → Bool}
theorem nnd_e (hW : Wd w) (hk : k < 8) : w (2622 + 49 * k + 8) = Int32.ofNat (nnd w k) ∧ nnd w k ≤ 8 := by
  by_cases hs : k < cn w 2621
  · exact ⟨(hW.2.2.2.2.1.1 k hs hk).2.2.2.2.2.2.2.1.1, (hW.2.2.2.2.1.1 k hs hk).2.2.2.2.2.2.2.1.2⟩
  · have e := (hW.2.2.2.2.1.2 k (by omega) hk).2.2.2
    unfold nnd cn
    rw [e]
    exact ⟨rfl, by decide⟩
theorem mat_0 (hh : ∀ k, k < n → h k = none) (hS : ∀ u, ¬ S u) {E : Nat → Nat → Prop} : mat E n S h := by
  refine ⟨fun k u hk e => ?_, fun k l u hk _ e => ?_, fun u hu => absurd hu (hS u)⟩
  · rw [hh k hk] at e
    exact nomatch e
  · rw [hh k hk] at e
    exact nomatch e
theorem m_clr (hM : Md B) {g u0 : Int32} : ∃ j, am_fx am_P (d + 2) 126 62 [some (.ref 874), some (.int g), some (.int u0), some (.int 0)] [] (am_wI B i) = am_fx am_P (d + 2) 126 62 [some (.ref 874), some (.int g), some (.int u0), some (.int 120)] [] (am_wI B j) ∧ (∀ k, k < 120 → j 890 k = 0) ∧ ∀ q k, q ≠ 890 → j q k = i q k := by
  obtain ⟨j, E, a, f⟩ := lp_inv (fun k j => am_fx am_P (d + 2) 126 62 [some (.ref 874), some (.int g), some (.int u0), some (.int (Int32.ofNat k))] [] (am_wI B j)) (fun k j => (∀ m, m < k → j 890 m = 0) ∧ ∀ q k, q ≠ 890 → j q k = i q k) 120 (fun k j hk hI => by
    refine ⟨am_up2 j 890 k 0, ?_, fun m hm => ?_, fun q m hq => (y_up2 (by omega)).trans (hI.2 q m hq)⟩
    · rw [bk_126_62]
      simp (disch := omega) only [hM, y_ckd, y_ck2d, y_ond, y_onn, y_oI, y_oIx, y_oJ, y_oV, y_oVx, y_oR, y_oRn, y_oRx, y_b0, y_b1, y_bi, y_bid, y_wIK, y_wIL, y_wII, y_wIJ, y_wIR, y_wIN, y_wIw, y_sI, ↓reduceIte, Nat.reduceEqDiff, eq_self, true_or, or_true, false_or, or_false, and_true, true_and, false_and, and_false, not_true, not_false_eq_true, tf_T, tf_F, y_up1, y_up2, y_xx, y_nx, y_sJ, y_sR, Int32.reduceLT, y_nxK, y_nxL, y_nxR, y_sJK, y_sJL, y_sJR, y_sJN, y_sRK, y_sRL, y_sRN, Nat.add_zero, z_nat, z_lit, z_lit0, z_lit1, z_in0, z_in1, z_addl0, z_lt, z_ltl, z_llt, z_inj, z_injl, z_add, z_addl, z_ladd, z_mul, z_mull, z_lmul, z_neg, z_negl, z_in, z_inl, z_ltT, z_ltF, z_eqF, z_10, z_01, z_litne, z_ne0, z_0ne, z_ne1, z_1ne, z_lt64, z_02, z_03, z_04, z_05, z_12, z_13, z_14, z_15, z_20, z_21, z_23, z_24, z_25, z_30, z_31, z_32, z_34, z_35, z_40, z_41, z_42, z_43, z_45, z_50, z_51, z_52, z_53, z_54]
    · by_cases e : m = k
      · rw [y_up1 rfl e]
      · rw [y_up2 (by omega)]
        exact hI.1 m (by omega)) i ⟨fun m hm => absurd hm (Nat.not_lt_zero m), fun _ _ _ => rfl⟩
  exact ⟨j, E, a, f⟩
theorem m_float (hM : Md B) (hW : Wd w) (hw : ∀ z, z < 12042 → i 875 z = w z) (hX : X < 256) : ∃ j, ((am_fx am_P (d + 126) 126 0 [some (.ref 874), some (.int (Int32.ofNat X)), none, none] [] (am_wI B i) = some (.inl (some (.int 1)), am_wI B j) ∧ flo w X) ∨ (am_fx am_P (d + 126) 126 0 [some (.ref 874), some (.int (Int32.ofNat X)), none, none] [] (am_wI B i) = some (.inl (some (.int 0)), am_wI B j) ∧ ¬ flo w X)) ∧ ∀ q k, q ≠ 889 → q ≠ 890 → j q k = i q k := by
  have n120 := hW.1.2.2.1.2
  have n8 : ∀ {r : am_X}, am_nz 8 r = r := y_nz (by decide)
  obtain ⟨j0, E0, a0, f0⟩ := lp_inv (fun k j => am_fx am_P (d + 126) 126 2 [some (.ref 874), some (.int (Int32.ofNat X)), some (.int (Int32.ofNat k)), none] [] (am_wI B j)) (fun k j => (∀ m, m < k → j 889 m = -1) ∧ ∀ q k, q ≠ 889 → j q k = i q k) 120 (fun k j hk hI => by
    refine ⟨am_up2 j 889 k (-1), ?_, fun m hm => ?_, fun q m hq => (y_up2 (by omega)).trans (hI.2 q m hq)⟩
    · rw [bk_126_2]
      simp (disch := omega) only [hM, y_ckd, y_ck2d, y_ond, y_onn, y_oI, y_oIx, y_oJ, y_oV, y_oVx, y_oR, y_oRn, y_oRx, y_b0, y_b1, y_bi, y_bid, y_wIK, y_wIL, y_wII, y_wIJ, y_wIR, y_wIN, y_wIw, y_sI, ↓reduceIte, Nat.reduceEqDiff, eq_self, true_or, or_true, false_or, or_false, and_true, true_and, false_and, and_false, not_true, not_false_eq_true, tf_T, tf_F, y_up1, y_up2, y_xx, y_nx, y_sJ, y_sR, Int32.reduceLT, y_nxK, y_nxL, y_nxR, y_sJK, y_sJL, y_sJR, y_sJN, y_sRK, y_sRL, y_sRN, Nat.add_zero, z_nat, z_lit, z_lit0, z_lit1, z_in0, z_in1, z_addl0, z_lt, z_ltl, z_llt, z_inj, z_injl, z_add, z_addl, z_ladd, z_mul, z_mull, z_lmul, z_neg, z_negl, z_in, z_inl, z_ltT, z_ltF, z_eqF, z_10, z_01, z_litne, z_ne0, z_0ne, z_ne1, z_1ne, z_lt64, z_02, z_03, z_04, z_05, z_12, z_13, z_14, z_15, z_20, z_21, z_23, z_24, z_25, z_30, z_31, z_32, z_34, z_35, z_40, z_41, z_42, z_43, z_45, z_50, z_51, z_52, z_53, z_54]
    · by_cases e : m = k
      · rw [y_up1 rfl e]
      · rw [y_up2 (by omega)]
        exact hI.1 m (by omega)) i ⟨fun m hm => absurd hm (Nat.not_lt_zero m), fun _ _ _ => rfl⟩
  have hst : am_fx am_P (d + 126) 126 0 [some (.ref 874), some (.int (Int32.ofNat X)), none, none] [] (am_wI B i) = am_fx am_P (d + 126) 126 23 [some (.ref 874), some (.int (Int32.ofNat X)), some (.int (Int32.ofNat 0)), none] [] (am_wI B j0) := by
    rw [bk_126_0]
    refine E0.trans ?_
    rw [bk_126_2]
    simp (disch := omega) only [hM, y_ckd, y_ck2d, y_ond, y_onn, y_oI, y_oIx, y_oJ, y_oV, y_oVx, y_oR, y_oRn, y_oRx, y_b0, y_b1, y_bi, y_bid, y_wIK, y_wIL, y_wII, y_wIJ, y_wIR, y_wIN, y_wIw, y_sI, ↓reduceIte, Nat.reduceEqDiff, eq_self, true_or, or_true, false_or, or_false, and_true, true_and, false_and, and_false, not_true, not_false_eq_true, tf_T, tf_F, y_up1, y_up2, y_xx, y_nx, y_sJ, y_sR, Int32.reduceLT, y_nxK, y_nxL, y_nxR, y_sJK, y_sJL, y_sJR, y_sJN, y_sRK, y_sRL, y_sRN, Nat.add_zero, z_nat, z_lit, z_lit0, z_lit1, z_in0, z_in1, z_addl0, z_lt, z_ltl, z_llt, z_inj, z_injl, z_add, z_addl, z_ladd, z_mul, z_mull, z_lmul, z_neg, z_negl, z_in, z_inl, z_ltT, z_ltF, z_eqF, z_10, z_01, z_litne, z_ne0, z_0ne, z_ne1, z_1ne, z_lt64, z_02, z_03, z_04, z_05, z_12, z_13, z_14, z_15, z_20, z_21, z_23, z_24, z_25, z_30, z_31, z_32, z_34, z_35, z_40, z_41, z_42, z_43, z_45, z_50, z_51, z_52, z_53, z_54]
    rfl
  rw [hst]
  have key : ∀ r k (j : Nat → Nat → Int32) (h : Nat → Option Nat), k + r = 64 → (∀ q l, q ≠ 889 → q ≠ 890 → j q l = i q l) → (∀ l, l < cn w 460 → j 889 l = txn (h l)) → (∀ l x, l < cn w 460 → h l = some x → x < 64) → mat (edW w) (cn w 460) (fun u => u < k ∧ ndS w X u) h → ∃ j2, ((am_fx am_P (d + 126) 126 23 [some (.ref 874), some (.int (Int32.ofNat X)), some (.int (Int32.ofNat k)), none] [] (am_wI B j) = some (.inl (some (.int 1)), am_wI B j2) ∧ flo w X) ∨ (am_fx am_P (d + 126) 126 23 [some (.ref 874), some (.int (Int32.ofNat X)), some (.int (Int32.ofNat k)), none] [] (am_wI B j) = some (.inl (some (.int 0)), am_wI B j2) ∧ ¬ flo w X)) ∧ ∀ q l, q ≠ 889 → q ≠ 890 → j2 q l = i q l := by
    intro r
    induction r with
    | zero =>
      intro k j h hk fj h1 h2 hm
      refine ⟨j, Or.inl ⟨?_, ?_⟩, fj⟩
      · rw [show k = 64 by omega, bk_126_23]
        simp (disch := omega) only [hM, y_ckd, y_ck2d, y_ond, y_onn, y_oI, y_oIx, y_oJ, y_oV, y_oVx, y_oR, y_oRn, y_oRx, y_b0, y_b1, y_bi, y_bid, y_wIK, y_wIL, y_wII, y_wIJ, y_wIR, y_wIN, y_wIw, y_sI, ↓reduceIte, Nat.reduceEqDiff, eq_self, true_or, or_true, false_or, or_false, and_true, true_and, false_and, and_false, not_true, not_false_eq_true, tf_T, tf_F, y_up1, y_up2, y_xx, y_nx, y_sJ, y_sR, Int32.reduceLT, y_nxK, y_nxL, y_nxR, y_sJK, y_sJL, y_sJR, y_sJN, y_sRK, y_sRL, y_sRN, Nat.add_zero, z_nat, z_lit, z_lit0, z_lit1, z_in0, z_in1, z_addl0, z_lt, z_ltl, z_llt, z_inj, z_injl, z_add, z_addl, z_ladd, z_mul, z_mull, z_lmul, z_neg, z_negl, z_in, z_inl, z_ltT, z_ltF, z_eqF, z_10, z_01, z_litne, z_ne0, z_0ne, z_ne1, z_1ne, z_lt64, z_02, z_03, z_04, z_05, z_12, z_13, z_14, z_15, z_20, z_21, z_23, z_24, z_25, z_30, z_31, z_32, z_34, z_35, z_40, z_41, z_42, z_43, z_45, z_50, z_51, z_52, z_53, z_54]
      · exact (okS_cong fun u => ⟨fun q => q.2, fun q => ⟨by omega, q⟩⟩).mp (mat_ok hm)
    | succ r ih =>
      intro k j h hk fj h1 h2 hm
      have k64 : k < 64 := by omega
      have hwj : ∀ z, z < 12042 → j 875 z = w z := fun z hz => (fj _ _ (by omega) (by omega)).trans (hw z hz)
      have e8 : Int32.ofNat k / 8 = Int32.ofNat (k / 8) := z_divn (a := k) (c := 8) (by omega) (by omega)
      have em : Int32.ofNat k - Int32.ofNat (k / 8 * 8) = Int32.ofNat (k % 8) := z_modn
      obtain ⟨en, hn8⟩ := nnd_e (k := k / 8) hW (by omega)
      have en' := (hwj (2622 + 49 * (k / 8) + 8) (by omega)).trans en
      have hskip : ¬ ndS w X k → am_fx am_P (d + 126) 126 23 [some (.ref 874), some (.int (Int32.ofNat X)), some (.int (Int32.ofNat k)), none] [] (am_wI B j) = am_fx am_P (d + 126) 126 23 [some (.ref 874), some (.int (Int32.ofNat X)), some (.int (Int32.ofNat (k + 1))), none] [] (am_wI B j) → ∃ j2, ((am_fx am_P (d + 126) 126 23 [some (.ref 874), some (.int (Int32.ofNat X)), some (.int (Int32.ofNat k)), none] [] (am_wI B j) = some (.inl (some (.int 1)), am_wI B j2) ∧ flo w X) ∨ (am_fx am_P (d + 126) 126 23 [some (.ref 874), some (.int (Int32.ofNat X)), some (.int (Int32.ofNat k)), none] [] (am_wI B j) = some (.inl (some (.int 0)), am_wI B j2) ∧ ¬ flo w X)) ∧ ∀ q l, q ≠ 889 → q ≠ 890 → j2 q l = i q l := by
        intro g e
        rw [e]
        refine ih (k + 1) j h (by omega) fj h1 h2 (mat_cg (fun u => ⟨fun q => ⟨by omega, q.2⟩, fun q => ⟨?_, q.2⟩⟩) (fun _ _ => rfl) hm)
        have : u ≠ k := fun q2 => g (q2 ▸ q.2)
        omega
      by_cases gb : bt2 X (k / 8)
      · have tb : ¬ (Int32.ofNat X >>> (Int32.ofNat (k / 8) &&& 31)) &&& 1 = 0 := fun q => (zb_ts0 X hX (k / 8) (by omega)).mp q gb
        by_cases gn : k % 8 < nnd w (k / 8)
        · obtain ⟨j1, E1, c1, f1⟩ := m_clr (B := B) (d := d + 124) (i := j) (g := Int32.ofNat X) (u0 := Int32.ofNat k) hM
          have hF : FS j1 (cn w 460) (fun _ => false) h := ⟨fun l hl => (c1 l (by omega)).trans (if_neg Bool.false_ne_true).symm, fun l hl => (f1 _ _ (by omega)).trans (h1 l hl)⟩
          have hw1 : ∀ z, z < 12042 → j1 875 z = w z := fun z hz => (f1 _ _ (by omega)).trans (hwj z hz)
          obtain ⟨b, j2, V2, h3, E2, F2, f2, -, s2, t2, u2⟩ := m_finds (B := B) (d := d + 1) hM hW rfl h2 120 j1 (fun _ => false) k hw1 hF k64 (Nat.le_trans unv_n n120)
          have E126 : am_fx am_P (d + 126) 126 23 [some (.ref 874), some (.int (Int32.ofNat X)), some (.int (Int32.ofNat k)), none] [] (am_wI B j) = am_fx am_P (d + 126) 126 62 [some (.ref 874), some (.int (Int32.ofNat X)), some (.int (Int32.ofNat k)), some (.int 120)] [] (am_wI B j1) := by
            refine Eq.trans ?_ E1
            rw [bk_126_23]
            simp (disch := omega) only [tb, bk_67_0, bk_66_0, e8, em, en', n8, gn, z_39, z_390, hM, y_ckd, y_ck2d, y_ond, y_onn, y_oI, y_oIx, y_oJ, y_oV, y_oVx, y_oR, y_oRn, y_oRx, y_b0, y_b1, y_bi, y_bid, y_wIK, y_wIL, y_wII, y_wIJ, y_wIR, y_wIN, y_wIw, y_sI, ↓reduceIte, Nat.reduceEqDiff, eq_self, true_or, or_true, false_or, or_false, and_true, true_and, false_and, and_false, not_true, not_false_eq_true, tf_T, tf_F, y_up1, y_up2, y_xx, y_nx, y_sJ, y_sR, Int32.reduceLT, y_nxK, y_nxL, y_nxR, y_sJK, y_sJL, y_sJR, y_sJN, y_sRK, y_sRL, y_sRN, Nat.add_zero, z_nat, z_lit, z_lit0, z_lit1, z_in0, z_in1, z_addl0, z_lt, z_ltl, z_llt, z_inj, z_injl, z_add, z_addl, z_ladd, z_mul, z_mull, z_lmul, z_neg, z_negl, z_in, z_inl, z_ltT, z_ltF, z_eqF, z_10, z_01, z_litne, z_ne0, z_0ne, z_ne1, z_1ne, z_lt64, z_02, z_03, z_04, z_05, z_12, z_13, z_14, z_15, z_20, z_21, z_23, z_24, z_25, z_30, z_31, z_32, z_34, z_35, z_40, z_41, z_42, z_43, z_45, z_50, z_51, z_52, z_53, z_54]
          rw [E126]
          have fj2 : ∀ q l, q ≠ 889 → q ≠ 890 → j2 q l = i q l := fun q l a1 a2 => (f2 q l a1 a2).trans ((f1 q l a2).trans (fj q l a1 a2))
          have hk0 : ¬ (k < k ∧ ndS w X k) := fun q => absurd q.1 (Nat.lt_irrefl k)
          have hcg : ∀ u, ((u < k ∧ ndS w X u) ∨ u = k) ↔ (u < k + 1 ∧ ndS w X u) := by
            intro u
            constructor
            · intro q
              rcases q with q | q
              · exact ⟨by omega, q.2⟩
              · exact ⟨by omega, q ▸ ⟨k64, gb, gn⟩⟩
            · intro q
              by_cases q2 : u = k
              · exact Or.inr q2
              · exact Or.inl ⟨by omega, q.2⟩
          cases b with
          | true =>
            rw [if_pos rfl] at E2
            obtain ⟨t3, t4⟩ := t2 rfl
            have hm2 := t4 (fun _ => false) _ (fun _ q => q) (mat_cg (h' := emp h fun _ => false) (fun _ => Iff.rfl) (fun _ _ => (emp_ne (C := fun _ => false) Bool.false_ne_true).symm) hm) hk0
            have hm3 := mat_cg (h' := h3) hcg (fun _ _ => emp_ne (C := fun _ => false) Bool.false_ne_true) hm2
            obtain ⟨j3, hj3⟩ := ih (k + 1) j2 h3 (by omega) fj2 F2.2 s2 hm3
            refine ⟨j3, ?_⟩
            have e62 : am_fx am_P (d + 126) 126 62 [some (.ref 874), some (.int (Int32.ofNat X)), some (.int (Int32.ofNat k)), some (.int 120)] [] (am_wI B j1) = am_fx am_P (d + 126) 126 23 [some (.ref 874), some (.int (Int32.ofNat X)), some (.int (Int32.ofNat (k + 1))), none] [] (am_wI B j2) := by
              rw [bk_126_62]
              simp (disch := omega) only [E2, hM, y_ckd, y_ck2d, y_ond, y_onn, y_oI, y_oIx, y_oJ, y_oV, y_oVx, y_oR, y_oRn, y_oRx, y_b0, y_b1, y_bi, y_bid, y_wIK, y_wIL, y_wII, y_wIJ, y_wIR, y_wIN, y_wIw, y_sI, ↓reduceIte, Nat.reduceEqDiff, eq_self, true_or, or_true, false_or, or_false, and_true, true_and, false_and, and_false, not_true, not_false_eq_true, tf_T, tf_F, y_up1, y_up2, y_xx, y_nx, y_sJ, y_sR, Int32.reduceLT, y_nxK, y_nxL, y_nxR, y_sJK, y_sJL, y_sJR, y_sJN, y_sRK, y_sRL, y_sRN, Nat.add_zero, z_nat, z_lit, z_lit0, z_lit1, z_in0, z_in1, z_addl0, z_lt, z_ltl, z_llt, z_inj, z_injl, z_add, z_addl, z_ladd, z_mul, z_mull, z_lmul, z_neg, z_negl, z_in, z_inl, z_ltT, z_ltF, z_eqF, z_10, z_01, z_litne, z_ne0, z_0ne, z_ne1, z_1ne, z_lt64, z_02, z_03, z_04, z_05, z_12, z_13, z_14, z_15, z_20, z_21, z_23, z_24, z_25, z_30, z_31, z_32, z_34, z_35, z_40, z_41, z_42, z_43, z_45, z_50, z_51, z_52, z_53, z_54]
            rw [e62]
            exact hj3
          | false =>
            rw [if_neg Bool.false_ne_true] at E2
            obtain ⟨-, R, r0, ra, rb, rc⟩ := u2 rfl
            refine ⟨j2, Or.inr ⟨?_, fun ok => ?_⟩, fj2⟩
            · rw [bk_126_62]
              simp (disch := omega) only [E2, hM, y_ckd, y_ck2d, y_ond, y_onn, y_oI, y_oIx, y_oJ, y_oV, y_oVx, y_oR, y_oRn, y_oRx, y_b0, y_b1, y_bi, y_bid, y_wIK, y_wIL, y_wII, y_wIJ, y_wIR, y_wIN, y_wIw, y_sI, ↓reduceIte, Nat.reduceEqDiff, eq_self, true_or, or_true, false_or, or_false, and_true, true_and, false_and, and_false, not_true, not_false_eq_true, tf_T, tf_F, y_up1, y_up2, y_xx, y_nx, y_sJ, y_sR, Int32.reduceLT, y_nxK, y_nxL, y_nxR, y_sJK, y_sJL, y_sJR, y_sJN, y_sRK, y_sRL, y_sRN, Nat.add_zero, z_nat, z_lit, z_lit0, z_lit1, z_in0, z_in1, z_addl0, z_lt, z_ltl, z_llt, z_inj, z_injl, z_add, z_addl, z_ladd, z_mul, z_mull, z_lmul, z_neg, z_negl, z_in, z_inl, z_ltT, z_ltF, z_eqF, z_10, z_01, z_litne, z_ne0, z_0ne, z_ne1, z_1ne, z_lt64, z_02, z_03, z_04, z_05, z_12, z_13, z_14, z_15, z_20, z_21, z_23, z_24, z_25, z_30, z_31, z_32, z_34, z_35, z_40, z_41, z_42, z_43, z_45, z_50, z_51, z_52, z_53, z_54]
            · refine hall (N := 64) (u0 := k) (R := R) (V := fun l => V2 l = true) hm (fun u q => ?_) hk0 r0 (fun v q => ?_) rb (fun l hl g => ?_) (okS_mono (fun u q => ((hcg u).mp q).2) ok)
              · rcases q with q | q <;> omega
              · rcases ra v q with q | ⟨l, hl, q⟩
                · exact Or.inr q
                · exact Or.inl (hm.1 l v hl q).1
              · rcases rc l hl g with q | q
                · exact nomatch q
                · exact q
        · refine hskip (fun q => gn q.2.2) ?_
          rw [bk_126_23]
          simp (disch := omega) only [tb, bk_67_0, bk_66_0, e8, em, en', n8, gn, z_39, z_390, hM, y_ckd, y_ck2d, y_ond, y_onn, y_oI, y_oIx, y_oJ, y_oV, y_oVx, y_oR, y_oRn, y_oRx, y_b0, y_b1, y_bi, y_bid, y_wIK, y_wIL, y_wII, y_wIJ, y_wIR, y_wIN, y_wIw, y_sI, ↓reduceIte, Nat.reduceEqDiff, eq_self, true_or, or_true, false_or, or_false, and_true, true_and, false_and, and_false, not_true, not_false_eq_true, tf_T, tf_F, y_up1, y_up2, y_xx, y_nx, y_sJ, y_sR, Int32.reduceLT, y_nxK, y_nxL, y_nxR, y_sJK, y_sJL, y_sJR, y_sJN, y_sRK, y_sRL, y_sRN, Nat.add_zero, z_nat, z_lit, z_lit0, z_lit1, z_in0, z_in1, z_addl0, z_lt, z_ltl, z_llt, z_inj, z_injl, z_add, z_addl, z_ladd, z_mul, z_mull, z_lmul, z_neg, z_negl, z_in, z_inl, z_ltT, z_ltF, z_eqF, z_10, z_01, z_litne, z_ne0, z_0ne, z_ne1, z_1ne, z_lt64, z_02, z_03, z_04, z_05, z_12, z_13, z_14, z_15, z_20, z_21, z_23, z_24, z_25, z_30, z_31, z_32, z_34, z_35, z_40, z_41, z_42, z_43, z_45, z_50, z_51, z_52, z_53, z_54]
      · have tb : (Int32.ofNat X >>> (Int32.ofNat (k / 8) &&& 31)) &&& 1 = 0 := (zb_ts0 X hX (k / 8) (by omega)).mpr gb
        refine hskip (fun q => gb q.2.1) ?_
        rw [bk_126_23]
        simp (disch := omega) only [tb, e8, n8, hM, y_ckd, y_ck2d, y_ond, y_onn, y_oI, y_oIx, y_oJ, y_oV, y_oVx, y_oR, y_oRn, y_oRx, y_b0, y_b1, y_bi, y_bid, y_wIK, y_wIL, y_wII, y_wIJ, y_wIR, y_wIN, y_wIw, y_sI, ↓reduceIte, Nat.reduceEqDiff, eq_self, true_or, or_true, false_or, or_false, and_true, true_and, false_and, and_false, not_true, not_false_eq_true, tf_T, tf_F, y_up1, y_up2, y_xx, y_nx, y_sJ, y_sR, Int32.reduceLT, y_nxK, y_nxL, y_nxR, y_sJK, y_sJL, y_sJR, y_sJN, y_sRK, y_sRL, y_sRN, Nat.add_zero, z_nat, z_lit, z_lit0, z_lit1, z_in0, z_in1, z_addl0, z_lt, z_ltl, z_llt, z_inj, z_injl, z_add, z_addl, z_ladd, z_mul, z_mull, z_lmul, z_neg, z_negl, z_in, z_inl, z_ltT, z_ltF, z_eqF, z_10, z_01, z_litne, z_ne0, z_0ne, z_ne1, z_1ne, z_lt64, z_02, z_03, z_04, z_05, z_12, z_13, z_14, z_15, z_20, z_21, z_23, z_24, z_25, z_30, z_31, z_32, z_34, z_35, z_40, z_41, z_42, z_43, z_45, z_50, z_51, z_52, z_53, z_54]
  exact key 64 0 j0 (fun _ => none) (by omega) (fun q l a1 _ => f0 q l a1) (fun l hl => a0 l (by omega)) (fun l x _ e => nomatch e) (mat_0 (fun _ _ => rfl) fun u q => absurd q.1 (Nat.not_lt_zero u))
end Float
