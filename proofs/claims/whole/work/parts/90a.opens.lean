/-! A SHIP OPENS UP: made by wip/whole/math/90a.py. -/
def opA (w : Nat → Int32) (s : Nat) : Nat → Int32 := wu (wu (wu w (2622 + 49 * s) 2) (2622 + 49 * s + 6) 1) 4 (w 4 + 1)
/-- the facts told of a ship that opens -/
def opF (w : Nat → Int32) (s : Nat) : Fct := fctO (opA w s) s (ldr (opA w s) s) (wrst (opA w s) s) (w 0 - w (2622 + 49 * s + 5))
def opB (w : Nat → Int32) (s : Nat) (t : Option Nat) : Nat → Int32 := if w (2622 + 49 * s + 3) = 0 then opA w s else match t with
  | none => opA w s
  | some k => wu (opA w s) (2622 + 49 * s + 7) (mn 2000000000 (w (2622 + 49 * s + 7) + smO (opA w s) (3542 + 850 * k) (opF w s) 2))
section Opens
variable {B : am_A} {i j : Nat → Nat → Int32} {w v : Nat → Int32} {d b q n p s k : Nat} {x y z D : Int32} {t : Option Nat}
theorem opA_ne {z : Nat} (h : z ≠ 4 ∧ z ≠ 2622 + 49 * s ∧ z ≠ 2622 + 49 * s + 6) : opA w s z = w z := by
  unfold opA
  simp (disch := omega) only [wu_ne]
theorem opB_ne {z : Nat} (h : z ≠ 4 ∧ z ≠ 2622 + 49 * s ∧ z ≠ 2622 + 49 * s + 6 ∧ z ≠ 2622 + 49 * s + 7) : opB w s t z = w z := by
  unfold opB
  split
  · exact opA_ne (by omega)
  · cases t with
    | none => exact opA_ne (by omega)
    | some k => exact (wu_ne (by omega)).trans (opA_ne (by omega))
theorem Rep_opA (h : Rep B i b w) (hb : b + 260 ≤ 874) (s8 : s < 8) : Rep B (am_up2 (am_up2 (am_up2 i (b + 212 + 6 * s) 3 2) (b + 212 + 6 * s) 6 1) b 14 (w 4 + 1)) b (opA w s) := by
  by_cases hs : s < cn w 2621
  · obtain ⟨a3, a1, a0, a2, a4, a5, a6, a7, a8, a9⟩ := h.2.2.2.1.2 s hs s8
    have h1 : Rep B (am_up2 (am_up2 i (b + 212 + 6 * s) 3 2) (b + 212 + 6 * s) 6 1) b (wu (wu w (2622 + 49 * s) 2) (2622 + 49 * s + 6) 1) := by
      refine Rep_sh h hb s8 (fun q k hq => by simp (disch := omega) only [y_up2]) (fun z hz => by simp (disch := omega) only [wu_ne]) ⟨?_, ?_, ?_, ?_, ?_, ?_, ?_, ?_, ?_, fun m hm m8 => ?_⟩
      · simp (disch := omega) only [y_up1, y_up2, wu_at, wu_ne]
      · simp (disch := omega) only [y_up1, y_up2, wu_at, wu_ne]; exact a1
      · simp (disch := omega) only [y_up1, y_up2, wu_at, wu_ne]; exact a0
      · simp (disch := omega) only [y_up1, y_up2, wu_at, wu_ne]; exact a2
      · simp (disch := omega) only [y_up1, y_up2, wu_at, wu_ne]; exact a4
      · simp (disch := omega) only [y_up1, y_up2, wu_at, wu_ne]; exact a5
      · simp (disch := omega) only [y_up1, y_up2, wu_at, wu_ne]
      · simp (disch := omega) only [y_up1, y_up2, wu_at, wu_ne]; exact a7
      · simp (disch := omega) only [y_up1, y_up2, wu_at, wu_ne]; exact a8
      · have e8 : cn (wu (wu w (2622 + 49 * s) 2) (2622 + 49 * s + 6) 1) (2622 + 49 * s + 8) = cn w (2622 + 49 * s + 8) := by unfold cn; simp (disch := omega) only [wu_ne]
        have := a9 m (by omega) m8
        unfold NdR at this ⊢
        simp (disch := omega) only [y_up2, wu_ne]
        exact this
    obtain ⟨r0, r1, r2, r3, r4, r5, r6, r7, r8⟩ := h1.1
    refine Rep_base h1 (Le.rf B) (by omega) rfl ⟨?_, ?_, ?_, ?_, ?_, fun k hk => ?_, fun k hk => ?_, ?_, fun k hk => ?_⟩ (by intros; simp (disch := omega) only [y_up2]) (by intros; simp (disch := omega) only [y_upr]) (by intros; unfold opA; simp (disch := omega) only [wu_ne])
    · rw [y_up2 (by omega), r0]; exact (wu_ne (by omega)).symm
    · rw [y_up2 (by omega), r1]; exact (wu_ne (by omega)).symm
    · rw [y_up2 (by omega), r2]; exact (wu_ne (by omega)).symm
    · rw [y_up2 (by omega), r3]; exact (wu_ne (by omega)).symm
    · rw [y_up1 rfl rfl]; exact (wu_at rfl).symm
    · rw [y_up2 (by omega), r5 k hk]; exact (wu_ne (by omega)).symm
    · rw [y_up2 (by omega), r6 k hk]; exact (wu_ne (by omega)).symm
    · rw [y_up2 (by omega), r7]; exact (wu_ne (by omega)).symm
    · rw [y_up2 (by omega), r8 k hk]; exact (wu_ne (by omega)).symm
  · have h1 : Rep B (am_up2 (am_up2 i (b + 212 + 6 * s) 3 2) (b + 212 + 6 * s) 6 1) b (wu (wu w (2622 + 49 * s) 2) (2622 + 49 * s + 6) 1) := by
      refine Rep_ship h (Le.rf B) hb rfl ⟨?_, fun u hu u8 => ?_⟩ (fun q k h1 h2 h3 h4 => by simp (disch := omega) only [y_up2]) (by intros; simp (disch := omega) only [y_upr]) (fun z h1 h2 => by simp (disch := omega) only [wu_ne])
      · rw [y_up2 (by omega), y_up2 (by omega), wu_ne (by omega), wu_ne (by omega)]
        exact h.2.2.2.1.1
      · have e21 : cn (wu (wu w (2622 + 49 * s) 2) (2622 + 49 * s + 6) 1) 2621 = cn w 2621 := by unfold cn; simp (disch := omega) only [wu_ne]
        exact ShR_fr (h.2.2.2.1.2 u (by omega) u8) (fun x k hx => by simp (disch := omega) only [y_up2]) fun z hz => by simp (disch := omega) only [wu_ne]
    obtain ⟨r0, r1, r2, r3, r4, r5, r6, r7, r8⟩ := h1.1
    refine Rep_base h1 (Le.rf B) (by omega) rfl ⟨?_, ?_, ?_, ?_, ?_, fun k hk => ?_, fun k hk => ?_, ?_, fun k hk => ?_⟩ (by intros; simp (disch := omega) only [y_up2]) (by intros; simp (disch := omega) only [y_upr]) (by intros; unfold opA; simp (disch := omega) only [wu_ne])
    · rw [y_up2 (by omega), r0]; exact (wu_ne (by omega)).symm
    · rw [y_up2 (by omega), r1]; exact (wu_ne (by omega)).symm
    · rw [y_up2 (by omega), r2]; exact (wu_ne (by omega)).symm
    · rw [y_up2 (by omega), r3]; exact (wu_ne (by omega)).symm
    · rw [y_up1 rfl rfl]; exact (wu_at rfl).symm
    · rw [y_up2 (by omega), r5 k hk]; exact (wu_ne (by omega)).symm
    · rw [y_up2 (by omega), r6 k hk]; exact (wu_ne (by omega)).symm
    · rw [y_up2 (by omega), r7]; exact (wu_ne (by omega)).symm
    · rw [y_up2 (by omega), r8 k hk]; exact (wu_ne (by omega)).symm
theorem Wd_opA (h : Wd w) (hs : s < cn w 2621) (s8 : s < 8) (g4 : w (2622 + 49 * s) = 4) : Wd (opA w s) := by
  obtain ⟨a0, a1, a3, a4, a5, a6, a7, a8, a9⟩ := h.2.2.2.2.1.1 s hs s8
  have h1 : Wd (wu (wu w (2622 + 49 * s) 2) (2622 + 49 * s + 6) 1) := by
    refine Wd_sh8 h hs s8 (fun z hz => by simp (disch := omega) only [wu_ne]) ?_ ?_ ?_ ?_ ?_ ?_ ?_
    · simp (disch := omega) only [wu_at, wu_ne]; decide
    · simp (disch := omega) only [wu_at, wu_ne]; exact a1
    · simp (disch := omega) only [wu_at, wu_ne]; exact a3
    · simp (disch := omega) only [wu_at, wu_ne]; exact fun q => absurd q (by decide)
    · simp (disch := omega) only [wu_at, wu_ne]; exact fun _ => a5 (by rw [g4]; decide)
    · simp (disch := omega) only [wu_at, wu_ne]; exact Or.inr trivial
    · simp (disch := omega) only [wu_at, wu_ne]; exact a7
  refine Wd_base h1 (fun k hk => ?_) fun z h1 h2 h3 => wu_ne (by omega)
  have := h1.2.1 k hk
  unfold opA
  rw [wu_ne (by omega)]
  exact this
theorem Rep_owe (h : Rep B i b w) (hb : b + 260 ≤ 874) (hs : s < cn w 2621) (s8 : s < 8) : Rep B (am_up2 i (b + 212 + 6 * s) 7 x) b (wu w (2622 + 49 * s + 7) x) := by
  obtain ⟨a3, a1, a0, a2, a4, a5, a6, a7, a8, a9⟩ := h.2.2.2.1.2 s hs s8
  refine Rep_sh h hb s8 (fun q k hq => by simp (disch := omega) only [y_up2]) (fun z hz => by simp (disch := omega) only [wu_ne]) ⟨?_, ?_, ?_, ?_, ?_, ?_, ?_, ?_, ?_, fun m hm m8 => ?_⟩
  · simp (disch := omega) only [y_up1, y_up2, wu_at, wu_ne]; exact a3
  · simp (disch := omega) only [y_up1, y_up2, wu_at, wu_ne]; exact a1
  · simp (disch := omega) only [y_up1, y_up2, wu_at, wu_ne]; exact a0
  · simp (disch := omega) only [y_up1, y_up2, wu_at, wu_ne]; exact a2
  · simp (disch := omega) only [y_up1, y_up2, wu_at, wu_ne]; exact a4
  · simp (disch := omega) only [y_up1, y_up2, wu_at, wu_ne]; exact a5
  · simp (disch := omega) only [y_up1, y_up2, wu_at, wu_ne]; exact a6
  · simp (disch := omega) only [y_up1, y_up2, wu_at, wu_ne]
  · simp (disch := omega) only [y_up1, y_up2, wu_at, wu_ne]; exact a8
  · have e8 : cn (wu w (2622 + 49 * s + 7) x) (2622 + 49 * s + 8) = cn w (2622 + 49 * s + 8) := by unfold cn; simp (disch := omega) only [wu_ne]
    have := a9 m (by omega) m8
    unfold NdR at this ⊢
    simp (disch := omega) only [y_up2, wu_ne]
    exact this
theorem Wd_owe (h : Wd w) (hs : s < cn w 2621) (s8 : s < 8) (hx : ¬ x < 0 ∧ x < 2000000001) : Wd (wu w (2622 + 49 * s + 7) x) := by
  obtain ⟨a0, a1, a3, a4, a5, a6, a7, a8, a9⟩ := h.2.2.2.2.1.1 s hs s8
  refine Wd_sh8 h hs s8 (fun z hz => by simp (disch := omega) only [wu_ne]) ?_ ?_ ?_ ?_ ?_ ?_ ?_
  · simp (disch := omega) only [wu_at, wu_ne]; exact a0
  · simp (disch := omega) only [wu_at, wu_ne]; exact a1
  · simp (disch := omega) only [wu_at, wu_ne]; exact a3
  · simp (disch := omega) only [wu_at, wu_ne]; exact a4
  · simp (disch := omega) only [wu_at, wu_ne]; exact a5
  · simp (disch := omega) only [wu_at, wu_ne]; exact a6
  · simp (disch := omega) only [wu_at, wu_ne]; exact hx
theorem owe_r {o : Nat} {fc : Fct} (hW : TxW v o) (h : ¬ x < 0 ∧ x < 2000000001) : (∃ m, x + smO v o fc y = Int32.ofNat m ∧ m < 2147483648) ∧ ¬ mn 2000000000 (x + smO v o fc y) < 0 ∧ mn 2000000000 (x + smO v o fc y) < 2000000001 := by
  obtain ⟨m, em, hm⟩ := smO_lt (fc := fc) (x := y) hW
  obtain ⟨k, ek, hk⟩ := z_lk 2000000001 (by omega) h.1 h.2
  have e : x + smO v o fc y = Int32.ofNat (k + m) := by rw [em, ek]; exact z_add k m
  refine ⟨⟨k + m, e, by omega⟩, ?_⟩
  rw [e]
  by_cases g : Int32.ofNat (k + m) < 2000000000
  · rw [show mn 2000000000 (Int32.ofNat (k + m)) = Int32.ofNat (k + m) from if_pos g]
    rw [show (2000000000 : Int32) = Int32.ofNat 2000000000 from rfl, z_lt (by omega) (by omega)] at g
    rw [z_neg (by omega), show (2000000001 : Int32) = Int32.ofNat 2000000001 from rfl, z_lt (by omega) (by omega)]
    exact ⟨id, by omega⟩
  · rw [show mn 2000000000 (Int32.ofNat (k + m)) = 2000000000 from if_neg g]
    decide
theorem Wd_opB (h : Wd w) (hs : s < cn w 2621) (s8 : s < 8) (g4 : w (2622 + 49 * s) = 4) (ht : ∀ k, t = some k → k < cn w 3541 ∧ k < 10) : Wd (opB w s t) := by
  have hA := Wd_opA h hs s8 g4
  obtain ⟨a0, a1, a3, a4, a5, a6, a7, a8, a9⟩ := h.2.2.2.2.1.1 s hs s8
  have c21 : cn (opA w s) 2621 = cn w 2621 := by unfold cn; rw [opA_ne (by omega)]
  have c41 : cn (opA w s) 3541 = cn w 3541 := by unfold cn; rw [opA_ne (by omega)]
  unfold opB
  split
  · exact hA
  · cases t with
    | none => exact hA
    | some k =>
      obtain ⟨k1, k2⟩ := ht k rfl
      exact Wd_owe hA (by omega) s8 (owe_r (hA.2.2.2.2.2.2.2.2.1 k (by omega) k2) a7).2
end Opens
