/-! WAR: a need seeks a piece, the model, the search. Made by wip/whole/math/912.py. -/
section Finds2
variable {B : am_A} {i j : Nat → Nat → Int32} {w : Nat → Int32} {d n N p k l u x m : Nat} {S T R : Nat → Prop} {V V' W : Nat → Bool} {h h' : Nat → Option Nat} {C : Nat → Bool}
theorem FS_mk {v : Int32} (hF : FS j n V h) (e : v = 1) : FS (am_up2 j 890 k v) n (vmk V k) h := by
  refine ⟨fun l hl => ?_, fun l hl => (y_up2 (by omega)).trans (hF.2 l hl)⟩
  by_cases q : l = k
  · subst q
    rw [y_up1 rfl rfl, vmk_at, if_pos rfl, e]
  · rw [y_up2 (by omega), vmk_ne q]
    exact hF.1 l hl
theorem FS_hd (hF : FS j n V h) : FS (am_up2 j 889 k (Int32.ofNat u)) n V (hup h k (some u)) := by
  refine ⟨fun l hl => (y_up2 (by omega)).trans (hF.1 l hl), fun l hl => ?_⟩
  by_cases q : l = k
  · subst q
    rw [y_up1 rfl rfl, hup_at]
    rfl
  · rw [y_up2 (by omega), hup_ne q]
    exact hF.2 l hl
theorem hup64 (hu : u < 64) (h64 : ∀ k x, k < n → h k = some x → x < 64) : ∀ l x, l < n → hup h k (some u) l = some x → x < 64 := by
  intro l x hl e
  by_cases q : l = k
  · subst q
    rw [hup_at] at e
    exact Option.some.inj e ▸ hu
  · rw [hup_ne q] at e
    exact h64 l x hl e
theorem m_fl (hM : Md B) (hW : Wd w) (en : n = cn w 460) (hu : u < 64) (h64 : ∀ k x, k < n → h k = some x → x < 64)
    (IH : ∀ (i : Nat → Nat → Int32) (V : Nat → Bool) (x : Nat), (∀ z, z < 12042 → i 875 z = w z) → FS i n V h → x < 64 → unv V n < m → FOut B (edW w) n i V h x (am_fx am_P (d + m + 3) 125 0 [some (.ref 874), some (.int (Int32.ofNat x)), none] [] (am_wI B i)))
    (r : Nat) : ∀ (k : Nat) (j : Nat → Nat → Int32) (W : Nat → Bool) (R : Nat → Prop), k + r = n → (∀ z, z < 12042 → j 875 z = w z) → (∀ q k, q ≠ 889 → q ≠ 890 → j q k = i q k) → FS j n W h → (∀ l, V l = true → W l = true) → unv W n ≤ m → R u → (∀ v, R v → v = u ∨ ∃ k, k < n ∧ h k = some v) → (∀ v l, R v → v ≠ u → l < n → edW w v l → W l = true) → (∀ l, l < k → edW w u l → W l = true) → (∀ l, l < n → W l = true → V l = true ∨ ∃ v, h l = some v ∧ R v) →
      FOut B (edW w) n i V h u (am_fx am_P (d + m + 4) 125 2 [some (.ref 874), some (.int (Int32.ofNat u)), some (.int (Int32.ofNat k))] [] (am_wI B j)) := by
  have h120 := hW.1.2.2.1.2
  have e460 := hW.1.2.2.1.1
  have e8 : Int32.ofNat u / 8 = Int32.ofNat (u / 8) := z_divn (a := u) (c := 8) (by omega) (by omega)
  have em : Int32.ofNat u - Int32.ofNat (u / 8 * 8) = Int32.ofNat (u % 8) := z_modn
  have n8 : ∀ {r : am_X}, am_nz 8 r = r := y_nz (by decide)
  induction r with
  | zero =>
    intro k j W R hk hw fj hF hVW hm Ru Ra Rb Rc Rd
    have k460 : j 875 460 = Int32.ofNat n := ((hw 460 (by omega)).trans e460).trans (by rw [en])
    refine ⟨false, j, W, h, ?_, hF, fj, hVW, h64, (fun q => nomatch q), fun _ => ⟨rfl, R, Ru, Ra, fun v l hv hl he => ?_, Rd⟩⟩
    · rw [show k = n by omega, bk_125_2]
      have k13 : am_K B 874 = 13 := by simp only [hM]
      have r1 : am_R B 874 1 = some 875 := by simp only [hM]
      have k21 : am_K B 875 = 21 := by simp only [hM]
      have l875 : am_L B 875 = 12892 := by simp only [hM]
      have hon : ∀ (n' : am_X) (s : Nat → am_X), am_on (am_R (am_wI B j) 874 1) n' s = s 875 := fun n' s => by rw [show am_R (am_wI B j) 874 1 = some 875 from r1]; rfl
      have hin : ∀ r, am_in 460 (am_L (am_wI B j) 875) r = r := fun r => z_in (j := 460) (by show 460 < am_L B 875; omega) (by omega)
      have hI : am_I (am_wI B j) 875 (460 : Int32).toNatClampNeg = Int32.ofNat n := by rw [show (460 : Int32).toNatClampNeg = 460 from by decide]; exact k460
      have lti : (Int32.ofNat n < Int32.ofNat n) = False := eq_false fun q => Int32.lt_irrefl q
      simp only [↓y_ckd, ↓y_ck2d, ↓hon, ↓hin, k13, k21, hI, lti, true_or, ↓reduceIte, y_b0]
      rfl
    · by_cases q : v = u
      · exact Rc l (by omega) (q ▸ he)
      · exact Rb v l hv q hl he
  | succ r ih =>
    intro k j W R hk hw fj hF hVW hm Ru Ra Rb Rc Rd
    have k460 : j 875 460 = Int32.ofNat n := ((hw 460 (by omega)).trans e460).trans (by rw [en])
    have kn : k < n := by omega
    have k890 := hF.1 k kn
    have hskip : (edW w u k → W k = true) → am_fx am_P (d + m + 4) 125 2 [some (.ref 874), some (.int (Int32.ofNat u)), some (.int (Int32.ofNat k))] [] (am_wI B j) = am_fx am_P (d + m + 4) 125 2 [some (.ref 874), some (.int (Int32.ofNat u)), some (.int (Int32.ofNat (k + 1)))] [] (am_wI B j) → FOut B (edW w) n i V h u (am_fx am_P (d + m + 4) 125 2 [some (.ref 874), some (.int (Int32.ofNat u)), some (.int (Int32.ofNat k))] [] (am_wI B j)) := by
      intro g e
      rw [e]
      exact ih (k + 1) j W R (by omega) hw fj hF hVW hm Ru Ra Rb (fun l hl he => by
        by_cases q : l = k
        · subst q
          exact g he
        · exact Rc l (by omega) he) Rd
    by_cases gW : W k = true
    · refine hskip (fun _ => gW) ?_
      rw [if_pos gW] at k890
      rw [bk_125_2]
      simp (disch := omega) only [k460, k890, hM, y_ckd, y_ck2d, y_ond, y_onn, y_oI, y_oIx, y_oJ, y_oV, y_oVx, y_oR, y_oRn, y_oRx, y_b0, y_b1, y_bi, y_bid, y_wIK, y_wIL, y_wII, y_wIJ, y_wIR, y_wIN, y_wIw, y_sI, ↓reduceIte, Nat.reduceEqDiff, eq_self, true_or, or_true, false_or, or_false, and_true, true_and, false_and, and_false, not_true, not_false_eq_true, tf_T, tf_F, y_up1, y_up2, y_xx, y_nx, y_sJ, y_sR, Int32.reduceLT, y_nxK, y_nxL, y_nxR, y_sJK, y_sJL, y_sJR, y_sJN, y_sRK, y_sRL, y_sRN, Nat.add_zero, z_nat, z_lit, z_lit0, z_lit1, z_in0, z_in1, z_addl0, z_lt, z_ltl, z_llt, z_inj, z_injl, z_add, z_addl, z_ladd, z_mul, z_mull, z_lmul, z_neg, z_negl, z_in, z_inl, z_ltT, z_ltF, z_eqF, z_10, z_01, z_litne, z_ne0, z_0ne, z_ne1, z_1ne, z_lt64, z_02, z_03, z_04, z_05, z_12, z_13, z_14, z_15, z_20, z_21, z_23, z_24, z_25, z_30, z_31, z_32, z_34, z_35, z_40, z_41, z_42, z_43, z_45, z_50, z_51, z_52, z_53, z_54]
    · rw [if_neg gW] at k890
      have gW' : W k = false := by cases e : W k; rfl; exact absurd e gW
      have Ep := m_pooled (B := B) (d := d + m + 1) (i := j) (p := k) hM hw hW (by omega) (by omega)
      by_cases gp : pld w k
      · rw [if_pos gp] at Ep
        have Ee := m_enough (B := B) (d := d + m) (i := j) (w := w) (s := u / 8) (n := u % 8) (p := k) hM hw (by omega) (by omega) (by omega)
        by_cases ge : eno w (u / 8) (u % 8) k
        · rw [if_pos ge] at Ee
          have hE : edW w u k := ⟨gp, ge⟩
          have hF1 : FS (am_up2 j 890 k 1) n (vmk W k) h := FS_mk hF rfl
          have k889 : j 889 k = txn (h k) := hF.2 k kn
          cases eh : h k with
          | none =>
            rw [eh] at k889
            have k889' : j 889 k = -1 := k889
            refine ⟨true, am_up2 (am_up2 j 890 k 1) 889 k (Int32.ofNat u), vmk W k, hup h k (some u), ?_, FS_hd hF1, fun q l h1 h2 => ?_, fun l hl => vmk_le (hVW l hl), hup64 hu h64, fun _ => ⟨fun l hl => ?_, ?_⟩, fun q => nomatch q⟩
            · rw [bk_125_2]
              simp (disch := omega) only [k460, k890, k889', z_lm1, Ep, Ee, e8, em, n8, m_nAt, bk_125_85, hM, y_ckd, y_ck2d, y_ond, y_onn, y_oI, y_oIx, y_oJ, y_oV, y_oVx, y_oR, y_oRn, y_oRx, y_b0, y_b1, y_bi, y_bid, y_wIK, y_wIL, y_wII, y_wIJ, y_wIR, y_wIN, y_wIw, y_sI, ↓reduceIte, Nat.reduceEqDiff, eq_self, true_or, or_true, false_or, or_false, and_true, true_and, false_and, and_false, not_true, not_false_eq_true, tf_T, tf_F, y_up1, y_up2, y_xx, y_nx, y_sJ, y_sR, Int32.reduceLT, y_nxK, y_nxL, y_nxR, y_sJK, y_sJL, y_sJR, y_sJN, y_sRK, y_sRL, y_sRN, Nat.add_zero, z_nat, z_lit, z_lit0, z_lit1, z_in0, z_in1, z_addl0, z_lt, z_ltl, z_llt, z_inj, z_injl, z_add, z_addl, z_ladd, z_mul, z_mull, z_lmul, z_neg, z_negl, z_in, z_inl, z_ltT, z_ltF, z_eqF, z_10, z_01, z_litne, z_ne0, z_0ne, z_ne1, z_1ne, z_lt64, z_02, z_03, z_04, z_05, z_12, z_13, z_14, z_15, z_20, z_21, z_23, z_24, z_25, z_30, z_31, z_32, z_34, z_35, z_40, z_41, z_42, z_43, z_45, z_50, z_51, z_52, z_53, z_54]
            · rw [y_up2 (by omega), y_up2 (by omega)]
              exact fj q l h1 h2
            · exact hup_ne (fun q => gW (hVW k (q ▸ hl)))
            · exact fun C T hC => sc_free (V := W) kn gW' eh hE C T (fun l hl => hVW l (hC l hl))
          | some x =>
            rw [eh] at k889
            have k889' : j 889 k = Int32.ofNat x := k889
            have hx : x < 64 := h64 k x kn eh
            have gx : ¬ Int32.ofNat x < 0 := by rw [z_neg (by omega)]; exact id
            have hu1 := unv_mk (n := n) kn gW'
            obtain ⟨b, j1, V1, h1, E1, F1, f1, v1, s1, t1, u1⟩ := IH (am_up2 j 890 k 1) (vmk W k) x (fun z hz => (y_up2 (by omega)).trans (hw z hz)) hF1 hx (by omega)
            have hw1 : ∀ z, z < 12042 → j1 875 z = w z := fun z hz => (f1 _ _ (by omega) (by omega)).trans ((y_up2 (by omega)).trans (hw z hz))
            have fj1 : ∀ q l, q ≠ 889 → q ≠ 890 → j1 q l = i q l := fun q l a1 a2 => (f1 q l a1 a2).trans ((y_up2 (by omega)).trans (fj q l a1 a2))
            cases b with
            | true =>
              obtain ⟨t2, t3⟩ := t1 rfl
              rw [if_pos rfl] at E1
              refine ⟨true, am_up2 j1 889 k (Int32.ofNat u), V1, hup h1 k (some u), ?_, FS_hd F1, fun q l a1 a2 => ?_, fun l hl => v1 l (vmk_le (hVW l hl)), hup64 hu s1, fun _ => ⟨fun l hl => ?_, ?_⟩, fun q => nomatch q⟩
              · rw [bk_125_2]
                simp (disch := omega) only [k460, k890, k889', gx, Ep, Ee, E1, e8, em, n8, m_nAt, bk_125_85, hM, y_ckd, y_ck2d, y_ond, y_onn, y_oI, y_oIx, y_oJ, y_oV, y_oVx, y_oR, y_oRn, y_oRx, y_b0, y_b1, y_bi, y_bid, y_wIK, y_wIL, y_wII, y_wIJ, y_wIR, y_wIN, y_wIw, y_sI, ↓reduceIte, Nat.reduceEqDiff, eq_self, true_or, or_true, false_or, or_false, and_true, true_and, false_and, and_false, not_true, not_false_eq_true, tf_T, tf_F, y_up1, y_up2, y_xx, y_nx, y_sJ, y_sR, Int32.reduceLT, y_nxK, y_nxL, y_nxR, y_sJK, y_sJL, y_sJR, y_sJN, y_sRK, y_sRL, y_sRN, Nat.add_zero, z_nat, z_lit, z_lit0, z_lit1, z_in0, z_in1, z_addl0, z_lt, z_ltl, z_llt, z_inj, z_injl, z_add, z_addl, z_ladd, z_mul, z_mull, z_lmul, z_neg, z_negl, z_in, z_inl, z_ltT, z_ltF, z_eqF, z_10, z_01, z_litne, z_ne0, z_0ne, z_ne1, z_1ne, z_lt64, z_02, z_03, z_04, z_05, z_12, z_13, z_14, z_15, z_20, z_21, z_23, z_24, z_25, z_30, z_31, z_32, z_34, z_35, z_40, z_41, z_42, z_43, z_45, z_50, z_51, z_52, z_53, z_54]
              · rw [y_up2 (by omega)]
                exact fj1 q l a1 a2
              · rw [hup_ne (show l ≠ k from fun q => gW (hVW k (q ▸ hl)))]
                exact t2 l (vmk_le (hVW l hl))
              · exact fun C T hC => sc_push (V := W) kn gW' eh hE t2 t3 C T (fun l hl => hVW l (hC l hl))
            | false =>
              obtain ⟨eh1, Rx, r0, ra, rb, rc⟩ := u1 rfl
              subst eh1
              rw [if_neg Bool.false_ne_true] at E1
              have e125 : am_fx am_P (d + m + 4) 125 2 [some (.ref 874), some (.int (Int32.ofNat u)), some (.int (Int32.ofNat k))] [] (am_wI B j) = am_fx am_P (d + m + 4) 125 2 [some (.ref 874), some (.int (Int32.ofNat u)), some (.int (Int32.ofNat (k + 1)))] [] (am_wI B j1) := by
                rw [bk_125_2]
                simp (disch := omega) only [k460, k890, k889', gx, Ep, Ee, E1, e8, em, n8, m_nAt, hM, y_ckd, y_ck2d, y_ond, y_onn, y_oI, y_oIx, y_oJ, y_oV, y_oVx, y_oR, y_oRn, y_oRx, y_b0, y_b1, y_bi, y_bid, y_wIK, y_wIL, y_wII, y_wIJ, y_wIR, y_wIN, y_wIw, y_sI, ↓reduceIte, Nat.reduceEqDiff, eq_self, true_or, or_true, false_or, or_false, and_true, true_and, false_and, and_false, not_true, not_false_eq_true, tf_T, tf_F, y_up1, y_up2, y_xx, y_nx, y_sJ, y_sR, Int32.reduceLT, y_nxK, y_nxL, y_nxR, y_sJK, y_sJL, y_sJR, y_sJN, y_sRK, y_sRL, y_sRN, Nat.add_zero, z_nat, z_lit, z_lit0, z_lit1, z_in0, z_in1, z_addl0, z_lt, z_ltl, z_llt, z_inj, z_injl, z_add, z_addl, z_ladd, z_mul, z_mull, z_lmul, z_neg, z_negl, z_in, z_inl, z_ltT, z_ltF, z_eqF, z_10, z_01, z_litne, z_ne0, z_0ne, z_ne1, z_1ne, z_lt64, z_02, z_03, z_04, z_05, z_12, z_13, z_14, z_15, z_20, z_21, z_23, z_24, z_25, z_30, z_31, z_32, z_34, z_35, z_40, z_41, z_42, z_43, z_45, z_50, z_51, z_52, z_53, z_54]
              rw [e125]
              have hWV : ∀ l, W l = true → V1 l = true := fun l hl => v1 l (vmk_le hl)
              refine ih (k + 1) j1 V1 (fun v => R v ∨ Rx v) (by omega) hw1 fj1 F1 (fun l hl => hWV l (hVW l hl)) (Nat.le_trans (unv_le hWV) hm) (Or.inl Ru) (fun v hv => ?_) (fun v l hv q hl he => ?_) (fun l hl he => ?_) (fun l hl g => ?_)
              · rcases hv with hv | hv
                · exact Ra v hv
                · rcases ra v hv with rfl | q
                  · exact Or.inr ⟨k, kn, eh⟩
                  · exact Or.inr q
              · rcases hv with hv | hv
                · exact hWV l (Rb v l hv q hl he)
                · exact rb v l hv hl he
              · by_cases q : l = k
                · rw [q]
                  exact v1 k vmk_at
                · exact hWV l (Rc l (by omega) he)
              · rcases rc l hl g with q | ⟨v, q1, q2⟩
                · by_cases q3 : l = k
                  · rw [q3]
                    exact Or.inr ⟨x, eh, Or.inr r0⟩
                  · rw [vmk_ne q3] at q
                    rcases Rd l hl q with q | ⟨v, q1, q2⟩
                    · exact Or.inl q
                    · exact Or.inr ⟨v, q1, Or.inl q2⟩
                · exact Or.inr ⟨v, q1, Or.inr q2⟩
        · rw [if_neg ge] at Ee
          refine hskip (fun q => absurd q.2 ge) ?_
          rw [bk_125_2]
          simp (disch := omega) only [k460, k890, Ep, Ee, e8, em, n8, m_nAt, hM, y_ckd, y_ck2d, y_ond, y_onn, y_oI, y_oIx, y_oJ, y_oV, y_oVx, y_oR, y_oRn, y_oRx, y_b0, y_b1, y_bi, y_bid, y_wIK, y_wIL, y_wII, y_wIJ, y_wIR, y_wIN, y_wIw, y_sI, ↓reduceIte, Nat.reduceEqDiff, eq_self, true_or, or_true, false_or, or_false, and_true, true_and, false_and, and_false, not_true, not_false_eq_true, tf_T, tf_F, y_up1, y_up2, y_xx, y_nx, y_sJ, y_sR, Int32.reduceLT, y_nxK, y_nxL, y_nxR, y_sJK, y_sJL, y_sJR, y_sJN, y_sRK, y_sRL, y_sRN, Nat.add_zero, z_nat, z_lit, z_lit0, z_lit1, z_in0, z_in1, z_addl0, z_lt, z_ltl, z_llt, z_inj, z_injl, z_add, z_addl, z_ladd, z_mul, z_mull, z_lmul, z_neg, z_negl, z_in, z_inl, z_ltT, z_ltF, z_eqF, z_10, z_01, z_litne, z_ne0, z_0ne, z_ne1, z_1ne, z_lt64, z_02, z_03, z_04, z_05, z_12, z_13, z_14, z_15, z_20, z_21, z_23, z_24, z_25, z_30, z_31, z_32, z_34, z_35, z_40, z_41, z_42, z_43, z_45, z_50, z_51, z_52, z_53, z_54]
      · rw [if_neg gp] at Ep
        refine hskip (fun q => absurd q.1 gp) ?_
        rw [bk_125_2]
        simp (disch := omega) only [k460, k890, Ep, hM, y_ckd, y_ck2d, y_ond, y_onn, y_oI, y_oIx, y_oJ, y_oV, y_oVx, y_oR, y_oRn, y_oRx, y_b0, y_b1, y_bi, y_bid, y_wIK, y_wIL, y_wII, y_wIJ, y_wIR, y_wIN, y_wIw, y_sI, ↓reduceIte, Nat.reduceEqDiff, eq_self, true_or, or_true, false_or, or_false, and_true, true_and, false_and, and_false, not_true, not_false_eq_true, tf_T, tf_F, y_up1, y_up2, y_xx, y_nx, y_sJ, y_sR, Int32.reduceLT, y_nxK, y_nxL, y_nxR, y_sJK, y_sJL, y_sJR, y_sJN, y_sRK, y_sRL, y_sRN, Nat.add_zero, z_nat, z_lit, z_lit0, z_lit1, z_in0, z_in1, z_addl0, z_lt, z_ltl, z_llt, z_inj, z_injl, z_add, z_addl, z_ladd, z_mul, z_mull, z_lmul, z_neg, z_negl, z_in, z_inl, z_ltT, z_ltF, z_eqF, z_10, z_01, z_litne, z_ne0, z_0ne, z_ne1, z_1ne, z_lt64, z_02, z_03, z_04, z_05, z_12, z_13, z_14, z_15, z_20, z_21, z_23, z_24, z_25, z_30, z_31, z_32, z_34, z_35, z_40, z_41, z_42, z_43, z_45, z_50, z_51, z_52, z_53, z_54]
theorem m_finds (hM : Md B) (hW : Wd w) (en : n = cn w 460) (h64 : ∀ k x, k < n → h k = some x → x < 64) (m : Nat) : ∀ (i : Nat → Nat → Int32) (V : Nat → Bool) (u : Nat), (∀ z, z < 12042 → i 875 z = w z) → FS i n V h → u < 64 → unv V n ≤ m → FOut B (edW w) n i V h u (am_fx am_P (d + m + 4) 125 0 [some (.ref 874), some (.int (Int32.ofNat u)), none] [] (am_wI B i)) := by
  induction m with
  | zero =>
    intro i V u hw hF hu hm
    rw [bk_125_0]
    exact m_fl (d := d) (m := 0) hM hW en hu h64 (fun _ _ _ _ _ _ q => absurd q (Nat.not_lt_zero _)) n 0 i V (fun v => v = u) (by omega) hw (fun _ _ _ _ => rfl) hF (fun _ q => q) hm rfl (fun v q => Or.inl q) (fun v l q q2 => absurd q q2) (fun l q => absurd q (Nat.not_lt_zero _)) (fun l _ q => Or.inl q)
  | succ m ih =>
    intro i V u hw hF hu hm
    rw [bk_125_0]
    exact m_fl (d := d) (m := m + 1) hM hW en hu h64 (fun i V x a1 a2 a3 a4 => ih i V x a1 a2 a3 (by omega)) n 0 i V (fun v => v = u) (by omega) hw (fun _ _ _ _ => rfl) hF (fun _ q => q) hm rfl (fun v q => Or.inl q) (fun v l q q2 => absurd q q2) (fun l q => absurd q (Nat.not_lt_zero _)) (fun l _ q => Or.inl q)
end Finds2
