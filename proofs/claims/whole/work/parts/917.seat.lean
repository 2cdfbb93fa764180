/-! WAR: a need is seated, the class. Made by wip/whole/math/917.py. -/
def BI (i : Nat → Nat → Int32) (E : Nat → Nat → Prop) (P u0 : Nat) (h : Nat → Option Nat) (V : Nat → Bool) (len : Nat) (qf sl pr : Nat → Nat) : Prop :=
  (∀ k, k < P → i 90 k = if V k = true then 1 else 0) ∧ (∀ t, t < len → i 93 t = Int32.ofNat (qf t) ∧ qf t < 64) ∧ way i E P qf sl pr h (len - 1) ∧ i 92 u0 = -1 ∧ (qf 0 = u0 ∧ 0 < len ∧ len ≤ 64) ∧ (∀ s s', s < len → s' < len → qf s = qf s' → s = s') ∧ (∀ k, k < P → V k = true → ∃ t, 0 < t ∧ t < len ∧ sl t = k) ∧ ∀ t, 0 < t → t < len → V (sl t) = true
def SOut (B : am_A) (S : Nat → Prop) (E : Nat → Nat → Prop) (P u0 r : Nat) (i : Nat → Nat → Int32) (x : am_X) : Prop := (∃ (j : Nat → Nat → Int32) (h' : Nat → Option Nat), x = some (.inl (some (.int 1)), am_wI B j) ∧ (∀ k, k < P → j r k = txn (h' k)) ∧ mat E P (fun v => S v ∨ v = u0) h' ∧ ∀ q k, q ≠ r → q ≠ 90 → q ≠ 91 → q ≠ 92 → q ≠ 93 → j q k = i q k) ∨ (∃ j : Nat → Nat → Int32, x = some (.inl (some (.int 0)), am_wI B j) ∧ ¬ okS E P (fun v => S v ∨ v = u0) ∧ ∀ q k, q ≠ r → q ≠ 90 → q ≠ 91 → q ≠ 92 → q ≠ 93 → j q k = i q k)
section Seat
variable {B : am_A} {w : Nat → Int32} {d u0 r c : Nat} {i : Nat → Nat → Int32} {S : Nat → Prop} {h : Nat → Option Nat}
theorem c_seat62 (hF : Fc B) (hY : Yd B 94) (hR : Rep B i 94 w) (hW : Wd w) (hr : 79 < r ∧ r < 89) (hk : am_K B r = 21) (hl : am_L B r = 120) (h11 : i 71 11 = Int32.ofNat (pls w).1) (h89 : ∀ k, k < (pls w).1 → i 89 k = Int32.ofNat ((pls w).2 k)) (h0 : ¬ S u0) (hnd : ∀ v, (S v ∨ v = u0) → v / 8 < cn w 2621 ∧ v % 8 < nnd w (v / 8)) (hm : mat (eP w) (pls w).1 S h) (hb : ∀ k, k < (pls w).1 → i r k = txn (h k))
    (OUT : ∀ (j : Nat → Nat → Int32) (V : Nat → Bool) (len : Nat) (qf sl pr : Nat → Nat), BI j (eP w) (pls w).1 u0 h V len qf sl pr → (∀ q k, q ≠ 90 → q ≠ 91 → q ≠ 92 → q ≠ 93 → j q k = i q k) → c + 1 ≤ len → (∀ t l, t < c + 1 → l < (pls w).1 → eP w (qf t) l → V l = true) → SOut B S (eP w) (pls w).1 u0 r i (am_fx am_P (d + 3) 288 28 [some (.ref 71), some (.ref 94), none, some (.ref r), some (.int (Int32.ofNat len)), some (.int (Int32.ofNat (c + 1))), none, none, none] [] (am_wI B j)))
    (m : Nat) : ∀ (k : Nat) (j : Nat → Nat → Int32) (V : Nat → Bool) (len : Nat) (qf sl pr : Nat → Nat), k + m = (pls w).1 → BI j (eP w) (pls w).1 u0 h V len qf sl pr → (∀ q k, q ≠ 90 → q ≠ 91 → q ≠ 92 → q ≠ 93 → j q k = i q k) → c < len → (∀ t l, t < c → l < (pls w).1 → eP w (qf t) l → V l = true) → (∀ l, l < k → eP w (qf c) l → V l = true) → SOut B S (eP w) (pls w).1 u0 r i (am_fx am_P (d + 3) 288 62 [some (.ref 71), some (.ref 94), none, some (.ref r), some (.int (Int32.ofNat len)), some (.int (Int32.ofNat c)), some (.ref (94 + 212 + 6 * (qf c / 8))), some (.int (Int32.ofNat k)), none] [] (am_wI B j)) := by
  have n120 : (pls w).1 ≤ 120 := Nat.le_trans pls_n hW.1.2.2.1.2
  have n21 := hW.1.2.2.2.1.2
  have n8z : ∀ {r : am_X}, am_nz 8 r = r := y_nz (by decide)
  induction m with
  | zero =>
    intro k j V len qf sl pr hkm hB fj hc C1 C2
    have k11 : j 71 11 = Int32.ofNat (pls w).1 := (fj _ _ (by omega) (by omega) (by omega) (by omega)).trans h11
    have e : am_fx am_P (d + 3) 288 62 [some (.ref 71), some (.ref 94), none, some (.ref r), some (.int (Int32.ofNat len)), some (.int (Int32.ofNat c)), some (.ref (94 + 212 + 6 * (qf c / 8))), some (.int (Int32.ofNat k)), none] [] (am_wI B j) = am_fx am_P (d + 3) 288 28 [some (.ref 71), some (.ref 94), none, some (.ref r), some (.int (Int32.ofNat len)), some (.int (Int32.ofNat (c + 1))), none, none, none] [] (am_wI B j) := by
      rw [show k = (pls w).1 by omega, bk_288_62]
      simp (disch := omega) only [k11, hF, hY, y_ckd, y_ck2d, y_ond, y_onn, y_oI, y_oIx, y_oJ, y_oV, y_oVx, y_oR, y_oRn, y_oRx, y_b0, y_b1, y_bi, y_bid, y_wIK, y_wIL, y_wII, y_wIJ, y_wIR, y_wIN, y_wIw, y_sI, ↓reduceIte, Nat.reduceEqDiff, eq_self, true_or, or_true, false_or, or_false, and_true, true_and, false_and, and_false, not_true, not_false_eq_true, tf_T, tf_F, y_up1, y_up2, y_xx, y_nx, y_sJ, y_sR, Int32.reduceLT, y_nxK, y_nxL, y_nxR, y_sJK, y_sJL, y_sJR, y_sJN, y_sRK, y_sRL, y_sRN, Nat.add_zero, z_nat, z_lit, z_lit0, z_lit1, z_in0, z_in1, z_addl0, z_lt, z_ltl, z_llt, z_inj, z_injl, z_add, z_addl, z_ladd, z_mul, z_mull, z_lmul, z_neg, z_negl, z_in, z_inl, z_ltT, z_ltF, z_eqF, z_10, z_01, z_litne, z_ne0, z_0ne, z_ne1, z_1ne, z_lt64, z_02, z_03, z_04, z_05, z_12, z_13, z_14, z_15, z_20, z_21, z_23, z_24, z_25, z_30, z_31, z_32, z_34, z_35, z_40, z_41, z_42, z_43, z_45, z_50, z_51, z_52, z_53, z_54]
    rw [e]
    refine OUT j V len qf sl pr hB fj (by omega) fun t l ht hl' he => ?_
    by_cases q : t = c
    · subst q
      exact C2 l (by omega) he
    · exact C1 t l (by omega) hl' he
  | succ m ih =>
    intro k j V len qf sl pr hkm hB fj hc C1 C2
    obtain ⟨b1, b2, b3, b4, ⟨b5, b6, b7⟩, b8, b9, b10⟩ := id hB
    have kP : k < (pls w).1 := by omega
    have k11 : j 71 11 = Int32.ofNat (pls w).1 := (fj _ _ (by omega) (by omega) (by omega) (by omega)).trans h11
    have k90 := b1 k kP
    have k93 := (b2 c hc).1
    have x64 := (b2 c hc).2
    have hskip : (eP w (qf c) k → V k = true) → am_fx am_P (d + 3) 288 62 [some (.ref 71), some (.ref 94), none, some (.ref r), some (.int (Int32.ofNat len)), some (.int (Int32.ofNat c)), some (.ref (94 + 212 + 6 * (qf c / 8))), some (.int (Int32.ofNat k)), none] [] (am_wI B j) = am_fx am_P (d + 3) 288 62 [some (.ref 71), some (.ref 94), none, some (.ref r), some (.int (Int32.ofNat len)), some (.int (Int32.ofNat c)), some (.ref (94 + 212 + 6 * (qf c / 8))), some (.int (Int32.ofNat (k + 1))), none] [] (am_wI B j) → SOut B S (eP w) (pls w).1 u0 r i (am_fx am_P (d + 3) 288 62 [some (.ref 71), some (.ref 94), none, some (.ref r), some (.int (Int32.ofNat len)), some (.int (Int32.ofNat c)), some (.ref (94 + 212 + 6 * (qf c / 8))), some (.int (Int32.ofNat k)), none] [] (am_wI B j)) := by
      intro g e
      rw [e]
      refine ih (k + 1) j V len qf sl pr (by omega) hB fj hc C1 fun l hl' he => ?_
      by_cases q : l = k
      · subst q
        exact g he
      · exact C2 l (by omega) he
    by_cases gV : V k = true
    · rw [if_pos gV] at k90
      refine hskip (fun _ => gV) ?_
      rw [bk_288_62]
      simp (disch := omega) only [k11, k90, bk_288_117, hF, hY, y_ckd, y_ck2d, y_ond, y_onn, y_oI, y_oIx, y_oJ, y_oV, y_oVx, y_oR, y_oRn, y_oRx, y_b0, y_b1, y_bi, y_bid, y_wIK, y_wIL, y_wII, y_wIJ, y_wIR, y_wIN, y_wIw, y_sI, ↓reduceIte, Nat.reduceEqDiff, eq_self, true_or, or_true, false_or, or_false, and_true, true_and, false_and, and_false, not_true, not_false_eq_true, tf_T, tf_F, y_up1, y_up2, y_xx, y_nx, y_sJ, y_sR, Int32.reduceLT, y_nxK, y_nxL, y_nxR, y_sJK, y_sJL, y_sJR, y_sJN, y_sRK, y_sRL, y_sRN, Nat.add_zero, z_nat, z_lit, z_lit0, z_lit1, z_in0, z_in1, z_addl0, z_lt, z_ltl, z_llt, z_inj, z_injl, z_add, z_addl, z_ladd, z_mul, z_mull, z_lmul, z_neg, z_negl, z_in, z_inl, z_ltT, z_ltF, z_eqF, z_10, z_01, z_litne, z_ne0, z_0ne, z_ne1, z_1ne, z_lt64, z_02, z_03, z_04, z_05, z_12, z_13, z_14, z_15, z_20, z_21, z_23, z_24, z_25, z_30, z_31, z_32, z_34, z_35, z_40, z_41, z_42, z_43, z_45, z_50, z_51, z_52, z_53, z_54]
    · rw [if_neg gV] at k90
      have hRj : Rep B j 94 w := Rep_fr hR (Le.rf B) rfl (fun q k _ _ _ _ _ _ => fj q k (by omega) (by omega) (by omega) (by omega)) (fun q h1 _ => funext fun k => fj q k (by omega) (by omega) (by omega) (by omega)) fun _ _ => rfl
      have hxS : S (qf c) ∨ qf c = u0 := by
        by_cases c0 : c = 0
        · exact Or.inr (by rw [c0, b5])
        · obtain ⟨-, w2, w3, -⟩ := b3 c (by omega) (by omega)
          exact Or.inl (hm.1 _ _ w2 w3).1
      obtain ⟨nd1, nd2⟩ := hnd _ hxS
      obtain ⟨p1, p2⟩ := pls_in kP
      have p120 : (pls w).2 k < 120 := by have := hW.1.2.2.1.2; omega
      have nn8 := (nnd_e (k := qf c / 8) hW (by omega)).2
      have k89 : j 89 k = Int32.ofNat ((pls w).2 k) := (fj _ _ (by omega) (by omega) (by omega) (by omega)).trans (h89 k kP)
      have Ew := c_waste (B := B) (d := d) (i := j) (s := qf c / 8) (n := qf c % 8) (p := (pls w).2 k) hY hRj hW nd1 nd2 p2
      have e8 : Int32.ofNat (qf c) / 8 = Int32.ofNat (qf c / 8) := z_divn (a := qf c) (c := 8) (by omega) (by omega)
      have em : Int32.ofNat (qf c) - Int32.ofNat (qf c / 8 * 8) = Int32.ofNat (qf c % 8) := z_modn
      by_cases ge : eno w (qf c / 8) (qf c % 8) ((pls w).2 k)
      rotate_left
      · rw [if_neg ge] at Ew
        refine hskip (fun q => absurd q ge) ?_
        rw [bk_288_62]
        simp (disch := omega) only [k11, k90, k93, k89, e8, em, n8z, Ew, bk_288_117, hF, hY, y_ckd, y_ck2d, y_ond, y_onn, y_oI, y_oIx, y_oJ, y_oV, y_oVx, y_oR, y_oRn, y_oRx, y_b0, y_b1, y_bi, y_bid, y_wIK, y_wIL, y_wII, y_wIJ, y_wIR, y_wIN, y_wIw, y_sI, ↓reduceIte, Nat.reduceEqDiff, eq_self, true_or, or_true, false_or, or_false, and_true, true_and, false_and, and_false, not_true, not_false_eq_true, tf_T, tf_F, y_up1, y_up2, y_xx, y_nx, y_sJ, y_sR, Int32.reduceLT, y_nxK, y_nxL, y_nxR, y_sJK, y_sJL, y_sJR, y_sJN, y_sRK, y_sRL, y_sRN, Nat.add_zero, z_nat, z_lit, z_lit0, z_lit1, z_in0, z_in1, z_addl0, z_lt, z_ltl, z_llt, z_inj, z_injl, z_add, z_addl, z_ladd, z_mul, z_mull, z_lmul, z_neg, z_negl, z_in, z_inl, z_ltT, z_ltF, z_eqF, z_10, z_01, z_litne, z_ne0, z_0ne, z_ne1, z_1ne, z_lt64, z_02, z_03, z_04, z_05, z_12, z_13, z_14, z_15, z_20, z_21, z_23, z_24, z_25, z_30, z_31, z_32, z_34, z_35, z_40, z_41, z_42, z_43, z_45, z_50, z_51, z_52, z_53, z_54]
      rw [if_pos ge] at Ew
      have nw : ¬ wst w (qf c / 8) (qf c % 8) ((pls w).2 k) = -1 := wst_ok hW nd1 (by omega) nd2 (by omega) p2 (by omega) ge
      have slk : ∀ s, 0 < s → s < len → sl s ≠ k := fun s s0 s1 q => gV (q ▸ b10 s s0 s1)
      have E146 : am_fx am_P (d + 3) 288 62 [some (.ref 71), some (.ref 94), none, some (.ref r), some (.int (Int32.ofNat len)), some (.int (Int32.ofNat c)), some (.ref (94 + 212 + 6 * (qf c / 8))), some (.int (Int32.ofNat k)), none] [] (am_wI B j) = am_fx am_P (d + 3) 288 146 [some (.ref 71), some (.ref 94), none, some (.ref r), some (.int (Int32.ofNat len)), some (.int (Int32.ofNat c)), some (.ref (94 + 212 + 6 * (qf c / 8))), some (.int (Int32.ofNat k)), none] [] (am_wI B (am_up2 (am_up2 j 90 k 1) 91 k (Int32.ofNat (qf c)))) := by
        rw [bk_288_62]
        simp (disch := omega) only [k11, k90, k93, k89, e8, em, n8z, Ew, nw, bk_288_117, hF, hY, y_ckd, y_ck2d, y_ond, y_onn, y_oI, y_oIx, y_oJ, y_oV, y_oVx, y_oR, y_oRn, y_oRx, y_b0, y_b1, y_bi, y_bid, y_wIK, y_wIL, y_wII, y_wIJ, y_wIR, y_wIN, y_wIw, y_sI, ↓reduceIte, Nat.reduceEqDiff, eq_self, true_or, or_true, false_or, or_false, and_true, true_and, false_and, and_false, not_true, not_false_eq_true, tf_T, tf_F, y_up1, y_up2, y_xx, y_nx, y_sJ, y_sR, Int32.reduceLT, y_nxK, y_nxL, y_nxR, y_sJK, y_sJL, y_sJR, y_sJN, y_sRK, y_sRL, y_sRN, Nat.add_zero, z_nat, z_lit, z_lit0, z_lit1, z_in0, z_in1, z_addl0, z_lt, z_ltl, z_llt, z_inj, z_injl, z_add, z_addl, z_ladd, z_mul, z_mull, z_lmul, z_neg, z_negl, z_in, z_inl, z_ltT, z_ltF, z_eqF, z_10, z_01, z_litne, z_ne0, z_0ne, z_ne1, z_1ne, z_lt64, z_02, z_03, z_04, z_05, z_12, z_13, z_14, z_15, z_20, z_21, z_23, z_24, z_25, z_30, z_31, z_32, z_34, z_35, z_40, z_41, z_42, z_43, z_45, z_50, z_51, z_52, z_53, z_54]
      rw [E146]
      generalize ej : am_up2 (am_up2 j 90 k 1) 91 k (Int32.ofNat (qf c)) = j1
      have f1 : ∀ q l, q ≠ 90 → q ≠ 91 → j1 q l = j q l := fun q l a1 a2 => by rw [← ej, y_up2 (by omega), y_up2 (by omega)]
      have e91k : j1 91 k = Int32.ofNat (qf c) := by rw [← ej, y_up1 rfl rfl]
      have e91 : ∀ l, l ≠ k → j1 91 l = j 91 l := fun l hl' => by rw [← ej, y_up2 (by omega), y_up2 (by omega)]
      have e90k : j1 90 k = 1 := by rw [← ej, y_up2 (by omega), y_up1 rfl rfl]
      have e90 : ∀ l, l ≠ k → j1 90 l = j 90 l := fun l hl' => by rw [← ej, y_up2 (by omega), y_up2 (by omega)]
      have hb1 : ∀ l, l < (pls w).1 → j1 r l = txn (h l) := fun l hl' => (f1 _ _ (by omega) (by omega)).trans ((fj _ _ (by omega) (by omega) (by omega) (by omega)).trans (hb l hl'))
      have hbk := hb1 k kP
      cases eh : h k with
      | none =>
        rw [eh] at hbk
        have hbk' : j1 r k = -1 := hbk
        obtain ⟨j2, h2, E2, g1, g2, g3, -⟩ := c_move (B := B) (d := d + 2) (E := eP w) (P := (pls w).1) (qf := qf) (sl := sl) (pr := pr) hF hk hl hr n120 h0 b5 c k 0 j1 h (by omega) hb1 (mat_cg (fun _ => Iff.rfl) (fun l _ => by
            by_cases q : l = k
            · rw [q, hup_at, eh]
            · rw [hup_ne q]) hm) (fun s s0 s1 => by
            obtain ⟨v1, v2, v3, v4, v5, v6⟩ := b3 s s0 (by omega)
            exact ⟨(f1 _ _ (by omega) (by omega)).trans v1, v2, v3, v4, (e91 _ (slk s s0 (by omega))).trans v5, v6⟩) ((f1 _ _ (by omega) (by omega)).trans b4) (fun s hs => (b2 s (by omega)).2) (fun s s' hs hs' => b8 s s' (by omega) (by omega)) kP e91k ge (fun s s0 s1 => slk s s0 (by omega))
        refine Or.inl ⟨j2, h2, ?_, g1, g2, fun q l a1 a2 a3 a4 a5 => (g3 q l a1).trans ((f1 q l a2 a3).trans (fj q l a2 a3 a4 a5))⟩
        rw [bk_288_146]
        simp (disch := omega) only [hbk', bk_289_0, E2, hk, hl, hF, y_ckd, y_ck2d, y_ond, y_onn, y_oI, y_oIx, y_oJ, y_oV, y_oVx, y_oR, y_oRn, y_oRx, y_b0, y_b1, y_bi, y_bid, y_wIK, y_wIL, y_wII, y_wIJ, y_wIR, y_wIN, y_wIw, y_sI, ↓reduceIte, Nat.reduceEqDiff, eq_self, true_or, or_true, false_or, or_false, and_true, true_and, false_and, and_false, not_true, not_false_eq_true, tf_T, tf_F, y_up1, y_up2, y_xx, y_nx, y_sJ, y_sR, Int32.reduceLT, y_nxK, y_nxL, y_nxR, y_sJK, y_sJL, y_sJR, y_sJN, y_sRK, y_sRL, y_sRN, Nat.add_zero, z_nat, z_lit, z_lit0, z_lit1, z_in0, z_in1, z_addl0, z_lt, z_ltl, z_llt, z_inj, z_injl, z_add, z_addl, z_ladd, z_mul, z_mull, z_lmul, z_neg, z_negl, z_in, z_inl, z_ltT, z_ltF, z_eqF, z_10, z_01, z_litne, z_ne0, z_0ne, z_ne1, z_1ne, z_lt64, z_02, z_03, z_04, z_05, z_12, z_13, z_14, z_15, z_20, z_21, z_23, z_24, z_25, z_30, z_31, z_32, z_34, z_35, z_40, z_41, z_42, z_43, z_45, z_50, z_51, z_52, z_53, z_54]
        have E2' : am_fx am_P (d + 2) 289 5 [some (.ref 71), some (.ref r), none, some (.int (Int32.ofNat k)), some (.int 0)] [] (am_wI B j1) = some (.inl none, am_wI B j2) := E2
        simp (disch := omega) only [E2', y_ckd, y_ck2d, y_ond, y_onn, y_oI, y_oIx, y_oJ, y_oV, y_oVx, y_oR, y_oRn, y_oRx, y_b0, y_b1, y_bi, y_bid, y_wIK, y_wIL, y_wII, y_wIJ, y_wIR, y_wIN, y_wIw, y_sI, ↓reduceIte, Nat.reduceEqDiff, eq_self, true_or, or_true, false_or, or_false, and_true, true_and, false_and, and_false, not_true, not_false_eq_true, tf_T, tf_F, y_up1, y_up2, y_xx, y_nx, y_sJ, y_sR, Int32.reduceLT, y_nxK, y_nxL, y_nxR, y_sJK, y_sJL, y_sJR, y_sJN, y_sRK, y_sRL, y_sRN, Nat.add_zero, z_nat, z_lit, z_lit0, z_lit1, z_in0, z_in1, z_addl0, z_lt, z_ltl, z_llt, z_inj, z_injl, z_add, z_addl, z_ladd, z_mul, z_mull, z_lmul, z_neg, z_negl, z_in, z_inl, z_ltT, z_ltF, z_eqF, z_10, z_01, z_litne, z_ne0, z_0ne, z_ne1, z_1ne, z_lt64, z_02, z_03, z_04, z_05, z_12, z_13, z_14, z_15, z_20, z_21, z_23, z_24, z_25, z_30, z_31, z_32, z_34, z_35, z_40, z_41, z_42, z_43, z_45, z_50, z_51, z_52, z_53, z_54]
      | some x =>
        rw [eh] at hbk
        have hbk' : j1 r k = Int32.ofNat x := hbk
        have Sx := (hm.1 k x kP eh).1
        have x64' : x < 64 := by have := (hnd x (Or.inl Sx)).1; omega
        have xne : ∀ t, t < len → qf t ≠ x := fun t ht q => by
          by_cases t0 : t = 0
          · rw [t0, b5] at q
            exact h0 (q ▸ Sx)
          · obtain ⟨-, v2, v3, -⟩ := b3 t (by omega) (by omega)
            exact slk t (by omega) ht (hm.2.1 _ _ x v2 kP (q ▸ v3) eh)
        have xu : x ≠ u0 := fun q => h0 (q ▸ Sx)
        have len64 : len < 64 := by
          refine Nat.lt_of_not_le fun q => pig 64 (fun t => if t = 64 then x else qf t) (fun a ha => ?_) fun a a' ha ha' e => ?_
          · split
            · exact x64'
            · exact (b2 a (by omega)).2
          · by_cases q1 : a = 64
            · by_cases q2 : a' = 64
              · omega
              · rw [if_pos q1, if_neg q2] at e
                exact absurd e.symm (xne a' (by omega))
            · by_cases q2 : a' = 64
              · rw [if_neg q1, if_pos q2] at e
                exact absurd e (xne a (by omega))
              · rw [if_neg q1, if_neg q2] at e
                exact b8 a a' (by omega) (by omega) e
        have nx : ¬ Int32.ofNat x = -1 := z_nm1 (by omega)
        have E62 : am_fx am_P (d + 3) 288 146 [some (.ref 71), some (.ref 94), none, some (.ref r), some (.int (Int32.ofNat len)), some (.int (Int32.ofNat c)), some (.ref (94 + 212 + 6 * (qf c / 8))), some (.int (Int32.ofNat k)), none] [] (am_wI B j1) = am_fx am_P (d + 3) 288 62 [some (.ref 71), some (.ref 94), none, some (.ref r), some (.int (Int32.ofNat (len + 1))), some (.int (Int32.ofNat c)), some (.ref (94 + 212 + 6 * (qf c / 8))), some (.int (Int32.ofNat (k + 1))), none] [] (am_wI B (am_up2 (am_up2 j1 92 x (Int32.ofNat k)) 93 len (Int32.ofNat x))) := by
          rw [bk_288_146]
          simp (disch := omega) only [hbk', nx, bk_288_192, hk, hl, hF, y_ckd, y_ck2d, y_ond, y_onn, y_oI, y_oIx, y_oJ, y_oV, y_oVx, y_oR, y_oRn, y_oRx, y_b0, y_b1, y_bi, y_bid, y_wIK, y_wIL, y_wII, y_wIJ, y_wIR, y_wIN, y_wIw, y_sI, ↓reduceIte, Nat.reduceEqDiff, eq_self, true_or, or_true, false_or, or_false, and_true, true_and, false_and, and_false, not_true, not_false_eq_true, tf_T, tf_F, y_up1, y_up2, y_xx, y_nx, y_sJ, y_sR, Int32.reduceLT, y_nxK, y_nxL, y_nxR, y_sJK, y_sJL, y_sJR, y_sJN, y_sRK, y_sRL, y_sRN, Nat.add_zero, z_nat, z_lit, z_lit0, z_lit1, z_in0, z_in1, z_addl0, z_lt, z_ltl, z_llt, z_inj, z_injl, z_add, z_addl, z_ladd, z_mul, z_mull, z_lmul, z_neg, z_negl, z_in, z_inl, z_ltT, z_ltF, z_eqF, z_10, z_01, z_litne, z_ne0, z_0ne, z_ne1, z_1ne, z_lt64, z_02, z_03, z_04, z_05, z_12, z_13, z_14, z_15, z_20, z_21, z_23, z_24, z_25, z_30, z_31, z_32, z_34, z_35, z_40, z_41, z_42, z_43, z_45, z_50, z_51, z_52, z_53, z_54]
        rw [E62]
        have qq : ∀ t, t < len → (fun t => if t = len then x else qf t) t = qf t := fun t ht => if_neg (by omega)
        have hih := ih (k + 1) (am_up2 (am_up2 j1 92 x (Int32.ofNat k)) 93 len (Int32.ofNat x)) (vmk V k) (len + 1) (fun t => if t = len then x else qf t) (fun t => if t = len then k else sl t) (fun t => if t = len then c else pr t) (by omega) ⟨fun l hl' => ?_, fun t ht => ?_, fun s s0 s1 => ?_, ?_, ⟨(qq 0 b6).trans b5, by omega, by omega⟩, fun s s' hs hs' e => ?_, fun l hl' g => ?_, fun t t0 ht => ?_⟩ (fun q l a1 a2 a3 a4 => ?_) (by omega) (fun t l ht hl' he => ?_) (fun l hl' he => ?_)
        · rw [if_neg (show ¬ c = len by omega)] at hih
          exact hih
        · rw [y_up2 (by omega), y_up2 (by omega)]
          by_cases q : l = k
          · rw [q, vmk_at, e90k, if_pos rfl]
          · rw [vmk_ne q, e90 l q]
            exact b1 l hl'
        · by_cases q : t = len
          · dsimp only
            rw [if_pos q, y_up1 rfl q]
            exact ⟨rfl, x64'⟩
          · dsimp only
            rw [if_neg q, y_up2 (by omega), y_up2 (by omega), f1 _ _ (by omega) (by omega)]
            exact b2 t (by omega)
        · dsimp only
          by_cases q : s = len
          · rw [if_pos q, if_pos q, if_pos q, if_neg (show ¬ c = len by omega)]
            exact ⟨by rw [y_up2 (by omega), y_up1 rfl rfl], kP, eh, by omega, by rw [y_up2 (by omega), y_up2 (by omega)]; exact e91k, ge⟩
          · obtain ⟨v1, v2, v3, v4, v5, v6⟩ := b3 s s0 (by omega)
            have xs := xne s (by omega)
            rw [if_neg q, if_neg q, if_neg q, if_neg (show ¬ pr s = len by omega)]
            refine ⟨?_, v2, v3, v4, ?_, v6⟩
            · rw [y_up2 (by omega), y_up2 (by omega), f1 _ _ (by omega) (by omega)]
              exact v1
            · rw [y_up2 (by omega), y_up2 (by omega), e91 _ (slk s s0 (by omega))]
              exact v5
        · rw [y_up2 (by omega), y_up2 (by omega), f1 _ _ (by omega) (by omega)]
          exact b4
        · dsimp only at e
          by_cases q1 : s = len
          · by_cases q2 : s' = len
            · omega
            · rw [if_pos q1, if_neg q2] at e
              exact absurd e.symm (xne s' (by omega))
          · by_cases q2 : s' = len
            · rw [if_neg q1, if_pos q2] at e
              exact absurd e (xne s (by omega))
            · rw [if_neg q1, if_neg q2] at e
              exact b8 s s' (by omega) (by omega) e
        · by_cases q : l = k
          · exact ⟨len, b6, by omega, (if_pos rfl).trans q.symm⟩
          · rw [vmk_ne q] at g
            obtain ⟨t, t0, t1, t2⟩ := b9 l hl' g
            exact ⟨t, t0, by omega, (if_neg (by omega)).trans t2⟩
        · dsimp only
          by_cases q : t = len
          · rw [if_pos q]
            exact vmk_at
          · rw [if_neg q]
            exact vmk_le (b10 t t0 (by omega))
        · rw [y_up2 (by omega), y_up2 (by omega), f1 q l a1 a2]
          exact fj q l a1 a2 a3 a4
        · rw [if_neg (show ¬ t = len by omega)] at he
          exact vmk_le (C1 t l ht hl' he)
        · rw [if_neg (show ¬ c = len by omega)] at he
          by_cases q : l = k
          · rw [q]
            exact vmk_at
          · exact vmk_le (C2 l (by omega) he)
end Seat
