/-! WAR: the best set at the end. Made by wip/whole/math/91c.py. -/
theorem sbs_nat : ∀ X, X < 256 → ∀ c, c < 256 → (Int32.ofNat X &&& (Int32.ofNat c ^^^ (-1)) = 0 ↔ X &&& c = X) := by decide +kernel
theorem pcn_0 : ∀ X, X < 256 → pcn X = 0 → X = 0 := by decide +kernel
section WarE
variable {w : Nat → Int32} {X Y c k b n : Nat} {g g' : Nat → Bool}
theorem bt2_tb : bt2 X k ↔ X.testBit k = true := by
  rw [Nat.testBit_eq_decide_div_mod_eq]
  exact decide_eq_true_iff.symm
theorem bt2_ext (h : ∀ k, bt2 X k ↔ bt2 Y k) : X = Y := Nat.eq_of_testBit_eq fun k => by
  have e := h k
  rw [bt2_tb, bt2_tb] at e
  exact Bool.eq_iff_iff.mpr e
theorem sbs_iff (hX : X < 256) (hc : c < 256) : sbs X c ↔ ∀ k, bt2 X k → bt2 c k := by
  unfold sbs
  rw [sbs_nat X hX c hc]
  constructor
  · intro e k hk
    rw [bt2_tb] at hk ⊢
    rw [← e, Nat.testBit_and, Bool.and_eq_true] at hk
    exact hk.2
  · intro e
    refine bt2_ext fun k => ?_
    rw [bt2_tb, bt2_tb, Nat.testBit_and, Bool.and_eq_true]
    exact ⟨fun q => q.1, fun q => ⟨q, bt2_tb.mp (e k (bt2_tb.mpr q))⟩⟩
theorem bt2_0 : ¬ bt2 0 k := by
  show ¬ 0 / 2 ^ k % 2 = 1
  rw [Nat.zero_div]
  decide
theorem flo_0 : flo w 0 := ⟨fun _ => 0, fun u hu => absurd hu.2.1 bt2_0, fun u v hu _ _ => absurd hu.2.1 bt2_0⟩
theorem wbs_ok : ∀ m, m ≤ 256 → ((itr (bsS w) m 0 = 0) ∨ (itr (bsS w) m 0 < m ∧ sbs (itr (bsS w) m 0) (wc1 w) ∧ flo w (itr (bsS w) m 0))) ∧ ∀ X, X < m → sbs X (wc1 w) → flo w X → geq (itr (bsS w) m 0) X := by
  intro m
  induction m with
  | zero => exact fun _ => ⟨Or.inl rfl, fun X q => absurd q (Nat.not_lt_zero _)⟩
  | succ m ih =>
    intro hm
    obtain ⟨h1, h2⟩ := ih (by omega)
    have e : itr (bsS w) (m + 1) 0 = bsS w m (itr (bsS w) m 0) := rfl
    rw [e]
    generalize itr (bsS w) m 0 = A at h1 h2
    by_cases g : sbs m (wc1 w) ∧ pcn A < pcn m ∧ flo w m
    · rw [show bsS w m A = m from if_pos g]
      refine ⟨Or.inr ⟨by omega, g.1, g.2.2⟩, fun X hX s1 s2 => ?_⟩
      by_cases q : X = m
      · rw [q]
        exact geq_r
      · exact geq_t (Or.inl g.2.1) (h2 X (by omega) s1 s2)
    · rw [show bsS w m A = A from if_neg g]
      refine ⟨h1.imp id fun q => ⟨by omega, q.2⟩, fun X hX s1 s2 => ?_⟩
      by_cases q : X = m
      · subst q
        have : ¬ pcn A < pcn X := fun x => g ⟨s1, x, s2⟩
        have hA : A ≤ X := by omega
        unfold geq
        omega
      · exact h2 X (by omega) s1 s2
theorem wbs_in : wbs w < 256 ∧ sbs (wbs w) (wc1 w) ∧ flo w (wbs w) := by
  refine ⟨itr_bs_lt 256 (Nat.le_refl _), ?_⟩
  rcases (wbs_ok (w := w) 256 (Nat.le_refl _)).1 with q | q
  · rw [show wbs w = 0 from q]
    exact ⟨Int32.zero_and, flo_0⟩
  · exact q.2
theorem wf_dis (h1 : wf1 w k = true) (h2 : wf2 w k = true) : False := by
  have e := of_decide_eq_true h1
  have f := of_decide_eq_true h2
  rw [e] at f
  exact f.1 (by decide)
theorem vg_split (hW : Wd w) (hg : VG w g') : cst g' (cn w 2621) = cst (fun k => g' k && wf1 w k) (cn w 2621) + wc2 w ∧ pcn (cst g' (cn w 2621)) = pcn (cst (fun k => g' k && wf1 w k) (cn w 2621)) + pcn (wc2 w) ∧ Int32.ofNat (wc2 w) ||| Int32.ofNat (cst (fun k => g' k && wf1 w k) (cn w 2621)) = Int32.ofNat (cst g' (cn w 2621)) ∧ sbs (cst (fun k => g' k && wf1 w k) (cn w 2621)) (wc1 w) ∧ flo w (cst (fun k => g' k && wf1 w k) (cn w 2621)) := by
  have n8 : cn w 2621 ≤ 8 := hW.1.2.2.2.1.2
  obtain ⟨e1, e2, e3⟩ := (cst_add (f := g') (fa := fun k => g' k && wf1 w k) (fb := wf2 w) (n := cn w 2621) fun k hk => by
    refine ⟨?_, fun a b => wf_dis ((Bool.and_eq_true _ _).mp a).2 b⟩
    have v1 := hg.1.1 k hk
    have v2 := hg.1.2 k hk
    generalize g' k = x at v1 v2 ⊢
    generalize wf1 w k = y at v1 v2 ⊢
    generalize wf2 w k = z at v1 v2 ⊢
    revert v1 v2
    revert x y z
    decide).resolve_right (by omega)
  refine ⟨e1, ?_, ?_, ?_, ?_⟩
  · rw [pcn_cst n8, pcn_cst n8, e2]
    unfold wc2
    rw [pcn_cst n8]
  · rw [Int32.or_comm]
    exact e3
  · refine (sbs_iff (cst_256 n8) (cst_256 n8)).mpr fun k hk => ?_
    obtain ⟨h1, h2⟩ := bt2_cst.mp hk
    exact bt2_cst.mpr ⟨h1, ((Bool.and_eq_true _ _).mp h2).2⟩
  · refine ok_eP.mp (okS_mono (fun u hu => ?_) hg.2)
    obtain ⟨u1, u2, u3⟩ := hu
    obtain ⟨h1, h2⟩ := bt2_cst.mp u2
    obtain ⟨h3, h4⟩ := (Bool.and_eq_true _ _).mp h2
    exact ⟨h1, h3, h4, u3⟩
theorem war_end (hW : Wd w) (h : DO w 0 (fun _ => false) 0 b) : Int32.ofNat b = Int32.ofNat (wc2 w) ||| Int32.ofNat (wbs w) := by
  have n8 : cn w 2621 ≤ 8 := hW.1.2.2.2.1.2
  obtain ⟨b1, b2, b3⟩ := wbs_in (w := w)
  have bk := (sbs_iff b1 (cst_256 n8)).mp b2
  have V : VG w fun k => decide (bt2 (wbs w) k) || wf2 w k := by
    refine ⟨⟨fun k _ q => ?_, fun k hk q => ?_⟩, ok_eP.mpr (okS_mono (fun u hu => ?_) b3)⟩
    · dsimp only
      rw [q, Bool.or_true]
    · rcases (Bool.or_eq_true _ _).mp q with r | r
      · exact Or.inl (bt2_cst.mp (bk k (of_decide_eq_true r))).2
      · exact Or.inr r
    · obtain ⟨u1, u2, u3, u4⟩ := hu
      refine ⟨by omega, ?_, u4⟩
      rcases (Bool.or_eq_true _ _).mp u2 with r | r
      · exact of_decide_eq_true r
      · exact (wf_dis u3 r).elim
  obtain ⟨s1, s2, s3, -, -⟩ := vg_split hW V
  have eb : cst (fun k => (decide (bt2 (wbs w) k) || wf2 w k) && wf1 w k) (cn w 2621) = wbs w := by
    refine bt2_ext fun k => ?_
    rw [bt2_cst]
    constructor
    · rintro ⟨-, q⟩
      obtain ⟨q1, q2⟩ := (Bool.and_eq_true _ _).mp q
      rcases (Bool.or_eq_true _ _).mp q1 with r | r
      · exact of_decide_eq_true r
      · exact (wf_dis q2 r).elim
    · intro q
      obtain ⟨q1, q2⟩ := bt2_cst.mp (bk k q)
      exact ⟨q1, by rw [decide_eq_true q, q2]; rfl⟩
  rw [eb] at s1 s2 s3
  rw [s3]
  have G := h.2.2 _ V fun k q => absurd q (Nat.not_lt_zero _)
  generalize cst (fun k => decide (bt2 (wbs w) k) || wf2 w k) (cn w 2621) = Z at s1 s2 s3 G
  rcases h.1 with q | ⟨g', V', -, q⟩
  · subst q
    have p0 : pcn 0 = 0 := by decide
    have z256 : Z < 256 := by
      have := h.2.2
      rw [s1]
      have a1 : wbs w + wc2 w = cst (fun k => decide (bt2 (wbs w) k) || wf2 w k) (cn w 2621) := by
        rw [(vg_split hW V).1, eb]
      rw [a1]
      exact cst_256 n8
    rcases G with r | r
    · omega
    · rw [pcn_0 Z z256 (by omega)]
  · obtain ⟨t1, t2, -, t4, t5⟩ := vg_split hW V'
    rw [← q] at t1 t2
    have x256 : cst (fun k => g' k && wf1 w k) (cn w 2621) < 256 := cst_256 n8
    have G2 := (wbs_ok (w := w) 256 (Nat.le_refl _)).2 _ x256 t4 t5
    have G3 : geq (wbs w) (cst (fun k => g' k && wf1 w k) (cn w 2621)) := G2
    generalize cst (fun k => g' k && wf1 w k) (cn w 2621) = Q at t1 t2 G3
    unfold geq at G G3
    refine congrArg Int32.ofNat ?_
    omega
end WarE
