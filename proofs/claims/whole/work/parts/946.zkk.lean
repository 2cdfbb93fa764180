/-! The calls that read the tape: out of what the face and the model do. Made by wip/whole/math/946.py. -/
theorem Stx_le {B B' : am_A} {i i' : Nat → Nat → Int32} (h : Stx B i) (hL : Le B B') (hN : 893 ≤ am_N B) (hi : ∀ q k, q < 64 → i' q k = i q k) : Stx B' i' := fun q h1 h2 => by
  obtain ⟨a1, a2, a3⟩ := h q h1 h2
  exact ⟨(hL.K (by omega)).trans a1, (hL.L (by omega)).trans a2, fun k hk => (hi q k (by omega)).trans (a3 k hk)⟩
section Kz
variable {B : am_A} {i : Nat → Nat → Int32} {σ σ' : Sg} {L j d : Nat}
theorem zkk_10 (h : Sim B i σ) (hs : Sc B i L j) (hO : am_K B 892 = 22 ∧ am_L B 892 = 1) (hX : Stx B i) (hS : SW σ') {v : Int32} (hF : FRs B i σ' (am_fx am_P (d + 198) 301 0 [some (.ref 64), some (.int (i 0 (j + 1))), none] [] (am_wI B i)) (.inl (some (.int v)))) (hM : ∀ (B0 : am_A) (i0 : Nat → Nat → Int32), MR B0 i0 σ → (∀ k, i0 875 k = i 875 k) → Stx B0 i0 → MRs B0 i0 σ' (am_fx am_P (d + 199) 56 0 [some (.ref 874), some (.int (i 0 (j + 1))), none, none, none] [] (am_wI B0 i0)) (some (.int v)) 0) : Stq B i d 931 j := by
  obtain ⟨B1, i1, e1, c1, l1, n1, f1⟩ := hF
  obtain ⟨B2, i2, e2, t2, c2, l2, f2⟩ := hM (am_sJ B1 892 0 v.toInt64) i1 (MR_of h.2.1 l1 Le.sJ f1) (fun k => f1 875 k (by omega)) (Stx_le hX (Le.tr l1 Le.sJ) h.2.1.1.2 fun q k hq => f1 q k (by omega))
  have hN := h.2.1.1.2
  have w := Sc_Lw h hs hO
  have w1 := Lw_le w l1 hN
  have hN1 := Nat.le_trans hN l1.1
  have w2 := Lw_le w1 (Le.tr Le.sJ l2.le) hN1
  have e0 : i1 0 = i 0 := funext fun k => f1 0 k (by omega)
  exact ⟨B2, i2, σ', ga_10 w w1 w2 hs.2.2.1 hs.2.2.2 e0 e1 e2 t2 (by rw [l2.2.2.2.2.2.2 892 (by omega)]; exact y_sJJ), fin_k hN hS c1 l1 n1 f1 Le.sJ rfl ⟨rfl, rfl⟩ c2 l2 f2⟩
theorem zkx_10_2 (h : Sim B i σ) (hs : Sc B i L j) (hO : am_K B 892 = 22 ∧ am_L B 892 = 1) (hX : Stx B i) (hS : SW σ') {v : Int32} (hF : FRs B i σ' (am_fx am_P (d + 198) 301 0 [some (.ref 64), some (.int (i 0 (j + 1))), none] [] (am_wI B i)) (.inr 2)) (hM : ∀ (B0 : am_A) (i0 : Nat → Nat → Int32), MR B0 i0 σ → (∀ k, i0 875 k = i 875 k) → Stx B0 i0 → MRs B0 i0 σ' (am_fx am_P (d + 199) 56 0 [some (.ref 874), some (.int (i 0 (j + 1))), none, none, none] [] (am_wI B0 i0)) (some (.int v)) 1) : Stq B i d 931 j := by
  obtain ⟨B1, i1, e1, c1, l1, n1, f1⟩ := hF
  obtain ⟨B2, i2, e2, t2, c2, l2, f2⟩ := hM (am_nx B1) i1 (MR_of h.2.1 l1 Le.nx f1) (fun k => f1 875 k (by omega)) (Stx_le hX (Le.tr l1 Le.nx) h.2.1.1.2 fun q k hq => f1 q k (by omega))
  have hN := h.2.1.1.2
  have w := Sc_Lw h hs hO
  have w1 := Lw_le w l1 hN
  have hN1 := Nat.le_trans hN l1.1
  have w1x := Lw_le w1 Le.nx hN1
  have w2 := Lw_le w1 (Le.tr Le.nx l2.le) hN1
  have e0 : i1 0 = i 0 := funext fun k => f1 0 k (by omega)
  exact ⟨B2, i2, σ', gx_10_2 w w1 w2 hs.2.2.1 hs.2.2.2 e0 w1x e1 e2 t2, fin_k hN hS c1 l1 n1 f1 Le.nx rfl ⟨rfl, rfl⟩ c2 l2 f2⟩
theorem zkx_10_3 (h : Sim B i σ) (hs : Sc B i L j) (hO : am_K B 892 = 22 ∧ am_L B 892 = 1) (hX : Stx B i) (hS : SW σ') {v : Int32} (hF : FRs B i σ' (am_fx am_P (d + 198) 301 0 [some (.ref 64), some (.int (i 0 (j + 1))), none] [] (am_wI B i)) (.inr 3)) (hM : ∀ (B0 : am_A) (i0 : Nat → Nat → Int32), MR B0 i0 σ → (∀ k, i0 875 k = i 875 k) → Stx B0 i0 → MRs B0 i0 σ' (am_fx am_P (d + 199) 56 0 [some (.ref 874), some (.int (i 0 (j + 1))), none, none, none] [] (am_wI B0 i0)) (some (.int v)) 2) : Stq B i d 931 j := by
  obtain ⟨B1, i1, e1, c1, l1, n1, f1⟩ := hF
  obtain ⟨B2, i2, e2, t2, c2, l2, f2⟩ := hM (am_nx B1) i1 (MR_of h.2.1 l1 Le.nx f1) (fun k => f1 875 k (by omega)) (Stx_le hX (Le.tr l1 Le.nx) h.2.1.1.2 fun q k hq => f1 q k (by omega))
  have hN := h.2.1.1.2
  have w := Sc_Lw h hs hO
  have w1 := Lw_le w l1 hN
  have hN1 := Nat.le_trans hN l1.1
  have w1x := Lw_le w1 Le.nx hN1
  have w2 := Lw_le w1 (Le.tr Le.nx l2.le) hN1
  have e0 : i1 0 = i 0 := funext fun k => f1 0 k (by omega)
  exact ⟨B2, i2, σ', gx_10_3 w w1 w2 hs.2.2.1 hs.2.2.2 e0 w1x e1 e2 t2, fin_k hN hS c1 l1 n1 f1 Le.nx rfl ⟨rfl, rfl⟩ c2 l2 f2⟩
theorem zkk_49 (h : Sim B i σ) (hs : Sc B i L j) (hO : am_K B 892 = 22 ∧ am_L B 892 = 1) (hX : Stx B i) (hS : SW σ') {v : Int32} (hF : FRs B i σ' (am_fx am_P (d + 198) 305 0 [some (.ref 64), some (.int (i 0 (j + 1))), some (.int (bt (i 0 (j + 2)))), none, none] [] (am_wI B i)) (.inl (some (.int v)))) (hM : ∀ (B0 : am_A) (i0 : Nat → Nat → Int32), MR B0 i0 σ → (∀ k, i0 875 k = i 875 k) → Stx B0 i0 → MRs B0 i0 σ' (am_fx am_P (d + 199) 65 0 [some (.ref 874), some (.int (i 0 (j + 1))), some (.int (bt (i 0 (j + 2)))), none, none, none, none] [] (am_wI B0 i0)) (some (.int v)) 0) : Stq B i d 3500 j := by
  obtain ⟨B1, i1, e1, c1, l1, n1, f1⟩ := hF
  obtain ⟨B2, i2, e2, t2, c2, l2, f2⟩ := hM (am_sJ B1 892 0 v.toInt64) i1 (MR_of h.2.1 l1 Le.sJ f1) (fun k => f1 875 k (by omega)) (Stx_le hX (Le.tr l1 Le.sJ) h.2.1.1.2 fun q k hq => f1 q k (by omega))
  have hN := h.2.1.1.2
  have w := Sc_Lw h hs hO
  have w1 := Lw_le w l1 hN
  have hN1 := Nat.le_trans hN l1.1
  have w2 := Lw_le w1 (Le.tr Le.sJ l2.le) hN1
  have e0 : i1 0 = i 0 := funext fun k => f1 0 k (by omega)
  exact ⟨B2, i2, σ', ga_49 w w1 w2 hs.2.2.1 hs.2.2.2 e0 e1 e2 t2 (by rw [l2.2.2.2.2.2.2 892 (by omega)]; exact y_sJJ), fin_k hN hS c1 l1 n1 f1 Le.sJ rfl ⟨rfl, rfl⟩ c2 l2 f2⟩
theorem zkx_49_1 (h : Sim B i σ) (hs : Sc B i L j) (hO : am_K B 892 = 22 ∧ am_L B 892 = 1) (hX : Stx B i) (hS : SW σ') {v : Int32} (hF : FRs B i σ' (am_fx am_P (d + 198) 305 0 [some (.ref 64), some (.int (i 0 (j + 1))), some (.int (bt (i 0 (j + 2)))), none, none] [] (am_wI B i)) (.inr 1)) (hM : ∀ (B0 : am_A) (i0 : Nat → Nat → Int32), MR B0 i0 σ → (∀ k, i0 875 k = i 875 k) → Stx B0 i0 → MRs B0 i0 σ' (am_fx am_P (d + 199) 65 0 [some (.ref 874), some (.int (i 0 (j + 1))), some (.int (bt (i 0 (j + 2)))), none, none, none, none] [] (am_wI B0 i0)) (some (.int v)) 1) : Stq B i d 3500 j := by
  obtain ⟨B1, i1, e1, c1, l1, n1, f1⟩ := hF
  obtain ⟨B2, i2, e2, t2, c2, l2, f2⟩ := hM (am_nx B1) i1 (MR_of h.2.1 l1 Le.nx f1) (fun k => f1 875 k (by omega)) (Stx_le hX (Le.tr l1 Le.nx) h.2.1.1.2 fun q k hq => f1 q k (by omega))
  have hN := h.2.1.1.2
  have w := Sc_Lw h hs hO
  have w1 := Lw_le w l1 hN
  have hN1 := Nat.le_trans hN l1.1
  have w1x := Lw_le w1 Le.nx hN1
  have w2 := Lw_le w1 (Le.tr Le.nx l2.le) hN1
  have e0 : i1 0 = i 0 := funext fun k => f1 0 k (by omega)
  exact ⟨B2, i2, σ', gx_49_1 w w1 w2 hs.2.2.1 hs.2.2.2 e0 w1x e1 e2 t2, fin_k hN hS c1 l1 n1 f1 Le.nx rfl ⟨rfl, rfl⟩ c2 l2 f2⟩
theorem zkx_49_2 (h : Sim B i σ) (hs : Sc B i L j) (hO : am_K B 892 = 22 ∧ am_L B 892 = 1) (hX : Stx B i) (hS : SW σ') {v : Int32} (hF : FRs B i σ' (am_fx am_P (d + 198) 305 0 [some (.ref 64), some (.int (i 0 (j + 1))), some (.int (bt (i 0 (j + 2)))), none, none] [] (am_wI B i)) (.inr 2)) (hM : ∀ (B0 : am_A) (i0 : Nat → Nat → Int32), MR B0 i0 σ → (∀ k, i0 875 k = i 875 k) → Stx B0 i0 → MRs B0 i0 σ' (am_fx am_P (d + 199) 65 0 [some (.ref 874), some (.int (i 0 (j + 1))), some (.int (bt (i 0 (j + 2)))), none, none, none, none] [] (am_wI B0 i0)) (some (.int v)) 2) : Stq B i d 3500 j := by
  obtain ⟨B1, i1, e1, c1, l1, n1, f1⟩ := hF
  obtain ⟨B2, i2, e2, t2, c2, l2, f2⟩ := hM (am_nx B1) i1 (MR_of h.2.1 l1 Le.nx f1) (fun k => f1 875 k (by omega)) (Stx_le hX (Le.tr l1 Le.nx) h.2.1.1.2 fun q k hq => f1 q k (by omega))
  have hN := h.2.1.1.2
  have w := Sc_Lw h hs hO
  have w1 := Lw_le w l1 hN
  have hN1 := Nat.le_trans hN l1.1
  have w1x := Lw_le w1 Le.nx hN1
  have w2 := Lw_le w1 (Le.tr Le.nx l2.le) hN1
  have e0 : i1 0 = i 0 := funext fun k => f1 0 k (by omega)
  exact ⟨B2, i2, σ', gx_49_2 w w1 w2 hs.2.2.1 hs.2.2.2 e0 w1x e1 e2 t2, fin_k hN hS c1 l1 n1 f1 Le.nx rfl ⟨rfl, rfl⟩ c2 l2 f2⟩
end Kz
