/-! WHAT A FACE'S CALL AND A MODEL'S CALL GIVE, AND BOTH TOGETHER -/
/-- a call of the face gives o, the class then holds σ' -/
def FRs (B : am_A) (i : Nat → Nat → Int32) (σ' : Sg) (x : am_X) (o : Option Value ⊕ Nat) : Prop := ∃ (B1 : am_A) (i1 : Nat → Nat → Int32), x = some (o, am_wI B1 i1) ∧ CR B1 i1 σ' ∧ Le B B1 ∧ (am_C B1 ≤ am_C B + 9 ∧ am_S B1 ≤ am_S B + 590) ∧ ∀ q k, (q < 64 ∨ (874 ≤ q ∧ q < 893)) → i1 q k = i q k
/-- only longs have changed -/
def Jq (B B' : am_A) : Prop := am_K B' = am_K B ∧ am_L B' = am_L B ∧ am_R B' = am_R B ∧ am_N B' = am_N B ∧ am_C B' = am_C B ∧ am_S B' = am_S B ∧ ∀ a, a ≠ 884 → am_J B' a = am_J B a
theorem Jq.rf (B : am_A) : Jq B B := ⟨rfl, rfl, rfl, rfl, rfl, rfl, fun _ _ => rfl⟩
theorem Jq.tr {B C D : am_A} (h : Jq B C) (k : Jq C D) : Jq B D := by
  obtain ⟨a1, a2, a3, a4, a5, a6, a7⟩ := h
  obtain ⟨b1, b2, b3, b4, b5, b6, b7⟩ := k
  exact ⟨b1.trans a1, b2.trans a2, b3.trans a3, b4.trans a4, b5.trans a5, b6.trans a6, fun a ha => (b7 a ha).trans (a7 a ha)⟩
theorem Jq.le {B B' : am_A} (h : Jq B B') : Le B B' := ⟨by rw [h.2.2.2.1]; exact Nat.le_refl _, fun q _ => ⟨by rw [h.1], by rw [h.2.1], fun _ _ _ => by rw [h.2.2.1]⟩, h.2.2.2.2.2.2 1 (by omega)⟩
/-- a call of the model gives v, what it threw, and the model then holds σ' -/
def MRs (B : am_A) (i : Nat → Nat → Int32) (σ' : Sg) (x : am_X) (v : Option Value) (t : Int32) : Prop := ∃ (B2 : am_A) (i2 : Nat → Nat → Int32), x = some (.inl v, am_wI B2 i2) ∧ i2 874 0 = t ∧ MR B2 i2 σ' ∧ Jq B B2 ∧ ∀ q k, (q < 874 ∨ 893 ≤ q) → i2 q k = i q k
theorem y_sJJ {B : am_A} {a k : Nat} {v : Int64} : am_J (am_sJ B a k v) a k = v := if_pos ⟨rfl, rfl⟩
theorem fin_k {B B1 Bx B2 : am_A} {i i1 i2 : Nat → Nat → Int32} {σ' : Sg} (hN : 893 ≤ am_N B) (hS : SW σ') (h1 : CR B1 i1 σ') (l1 : Le B B1) (c1 : am_C B1 ≤ am_C B + 9 ∧ am_S B1 ≤ am_S B + 590) (f1 : ∀ q k, (q < 64 ∨ (874 ≤ q ∧ q < 893)) → i1 q k = i q k) (lx : Le B1 Bx) (rx : am_R Bx = am_R B1) (cx : am_C Bx = am_C B1 ∧ am_S Bx = am_S B1) (h2 : MR B2 i2 σ') (l2 : Jq Bx B2) (f2 : ∀ q k, (q < 874 ∨ 893 ≤ q) → i2 q k = i1 q k) : Sim B2 i2 σ' ∧ Kp B i B2 i2 := by
  obtain ⟨-, -, r2, -, e5, e6, -⟩ := id l2
  have r : am_R B2 = am_R B1 := r2.trans rx
  refine ⟨⟨CR_fr h1 (Le.tr lx l2.le) ⟨by rw [r], by rw [r], by rw [r]⟩ (fun q k a _ _ _ _ _ _ => f2 q k (by omega)) (fun q a _ => ?_), h2, hS⟩, Le.tr l1 (Le.tr lx l2.le), by omega, by omega, fun q hq => ?_⟩
  · funext k
    exact f2 q k (by omega)
  · funext k
    rw [f2 q k (by omega), f1 q k (by omega)]
theorem MR_of {B B1 Bx : am_A} {i i1 : Nat → Nat → Int32} {σ : Sg} (h : MR B i σ) (l1 : Le B B1) (lx : Le B1 Bx) (f1 : ∀ q k, (q < 64 ∨ (874 ≤ q ∧ q < 893)) → i1 q k = i q k) : MR Bx i1 σ := MR_fr h (Le.tr l1 lx) fun q k hq => f1 q k (by omega)
theorem Sc_Lw {B : am_A} {i : Nat → Nat → Int32} {σ : Sg} {L j : Nat} (h : Sim B i σ) (hs : Sc B i L j) (hO : am_K B 892 = 22 ∧ am_L B 892 = 1) : Lw B L := ⟨hs.1, hs.2.1, h.1.1.1.1.1, h.2.1.1.1.1, hO.1, hO.2⟩

section Kk
variable {B : am_A} {i : Nat → Nat → Int32} {σ σ' : Sg} {L j d : Nat}
theorem kk_0 (h : Sim B i σ) (hs : Sc B i L j) (hO : am_K B 892 = 22 ∧ am_L B 892 = 1) (hS : SW σ') {v : Int32} (hF : FRs B i σ' (am_fx am_P (d + 199) 291 0 [some (.ref 64), some (.int (i 0 (j + 1))), some (.int (i 0 (j + 2))), some (.int (i 0 (j + 3))), some (.int (i 0 (j + 4))), some (.int (i 0 (j + 5)))] [] (am_wI B i)) (.inl (some (.int v)))) (hM : ∀ (B0 : am_A) (i0 : Nat → Nat → Int32), MR B0 i0 σ → MRs B0 i0 σ' (am_fx am_P (d + 199) 36 0 [some (.ref 874), some (.int (i 0 (j + 1))), some (.int (i 0 (j + 2))), some (.int (i 0 (j + 3))), some (.int (i 0 (j + 4))), some (.int (i 0 (j + 5))), none] [] (am_wI B0 i0)) (some (.int v)) 0) : Stq B i d 272 j := by
  obtain ⟨B1, i1, e1, c1, l1, n1, f1⟩ := hF
  obtain ⟨B2, i2, e2, t2, c2, l2, f2⟩ := hM B1 i1 (MR_of h.2.1 l1 (Le.rf B1) f1)
  have hN := h.2.1.1.2
  have w := Sc_Lw h hs hO
  have w1 := Lw_le w l1 hN
  have hN1 := Nat.le_trans hN l1.1
  have w2 := Lw_le w1 (Le.tr (Le.rf B1) l2.le) hN1
  have e0 : i1 0 = i 0 := funext fun k => f1 0 k (by omega)
  exact ⟨B2, i2, σ', ga_0 w w1 w2 hs.2.2.1 hs.2.2.2 e0 e1 e2, fin_k hN hS c1 l1 n1 f1 (Le.rf B1) rfl ⟨rfl, rfl⟩ c2 l2 f2⟩
theorem kk_1 (h : Sim B i σ) (hs : Sc B i L j) (hO : am_K B 892 = 22 ∧ am_L B 892 = 1) (hS : SW σ') {v : Int32} (hF : FRs B i σ' (am_fx am_P (d + 199) 292 0 [some (.ref 64), some (.int (i 0 (j + 1)))] [] (am_wI B i)) (.inl (some (.int v)))) (hM : ∀ (B0 : am_A) (i0 : Nat → Nat → Int32), MR B0 i0 σ → MRs B0 i0 σ' (am_fx am_P (d + 199) 37 0 [some (.ref 874), some (.int (i 0 (j + 1)))] [] (am_wI B0 i0)) (some (.int v)) 0) : Stq B i d 345 j := by
  obtain ⟨B1, i1, e1, c1, l1, n1, f1⟩ := hF
  obtain ⟨B2, i2, e2, t2, c2, l2, f2⟩ := hM B1 i1 (MR_of h.2.1 l1 (Le.rf B1) f1)
  have hN := h.2.1.1.2
  have w := Sc_Lw h hs hO
  have w1 := Lw_le w l1 hN
  have hN1 := Nat.le_trans hN l1.1
  have w2 := Lw_le w1 (Le.tr (Le.rf B1) l2.le) hN1
  have e0 : i1 0 = i 0 := funext fun k => f1 0 k (by omega)
  exact ⟨B2, i2, σ', ga_1 w w1 w2 hs.2.2.1 hs.2.2.2 e0 e1 e2, fin_k hN hS c1 l1 n1 f1 (Le.rf B1) rfl ⟨rfl, rfl⟩ c2 l2 f2⟩
theorem kk_2 (h : Sim B i σ) (hs : Sc B i L j) (hO : am_K B 892 = 22 ∧ am_L B 892 = 1) (hS : SW σ') (hF : FRs B i σ' (am_fx am_P (d + 198) 293 0 [some (.ref 64), some (.int (i 0 (j + 1))), some (.int (i 0 (j + 2)))] [] (am_wI B i)) (.inl none)) (hM : ∀ (B0 : am_A) (i0 : Nat → Nat → Int32), MR B0 i0 σ → MRs B0 i0 σ' (am_fx am_P (d + 199) 19 0 [some (.ref 874), some (.int (i 0 (j + 1))), some (.int (i 0 (j + 2)))] [] (am_wI B0 i0)) none 0) : Stq B i d 370 j := by
  obtain ⟨B1, i1, e1, c1, l1, n1, f1⟩ := hF
  obtain ⟨B2, i2, e2, t2, c2, l2, f2⟩ := hM B1 i1 (MR_of h.2.1 l1 (Le.rf B1) f1)
  have hN := h.2.1.1.2
  have w := Sc_Lw h hs hO
  have w1 := Lw_le w l1 hN
  have hN1 := Nat.le_trans hN l1.1
  have w2 := Lw_le w1 (Le.tr (Le.rf B1) l2.le) hN1
  have e0 : i1 0 = i 0 := funext fun k => f1 0 k (by omega)
  exact ⟨B2, i2, σ', ga_2 w w1 w2 hs.2.2.1 hs.2.2.2 e0 e1 e2 t2, fin_k hN hS c1 l1 n1 f1 (Le.rf B1) rfl ⟨rfl, rfl⟩ c2 l2 f2⟩
theorem kx_2_1 (h : Sim B i σ) (hs : Sc B i L j) (hO : am_K B 892 = 22 ∧ am_L B 892 = 1) (hF : FRs B i σ (am_fx am_P (d + 198) 293 0 [some (.ref 64), some (.int (i 0 (j + 1))), some (.int (i 0 (j + 2)))] [] (am_wI B i)) (.inr 1)) (hM : ∀ (B0 : am_A) (i0 : Nat → Nat → Int32), MR B0 i0 σ → MRs B0 i0 σ (am_fx am_P (d + 199) 19 0 [some (.ref 874), some (.int (i 0 (j + 1))), some (.int (i 0 (j + 2)))] [] (am_wI B0 i0)) none 1) : Stq B i d 370 j := by
  obtain ⟨B1, i1, e1, c1, l1, n1, f1⟩ := hF
  obtain ⟨B2, i2, e2, t2, c2, l2, f2⟩ := hM (am_nx B1) i1 (MR_of h.2.1 l1 Le.nx f1)
  have hN := h.2.1.1.2
  have w := Sc_Lw h hs hO
  have w1 := Lw_le w l1 hN
  have hN1 := Nat.le_trans hN l1.1
  have w1x := Lw_le w1 Le.nx hN1
  have w2 := Lw_le w1 (Le.tr Le.nx l2.le) hN1
  have e0 : i1 0 = i 0 := funext fun k => f1 0 k (by omega)
  exact ⟨B2, i2, σ, gx_2_1 w w1 w2 hs.2.2.1 hs.2.2.2 e0 w1x e1 e2 t2, fin_k hN h.2.2 c1 l1 n1 f1 Le.nx rfl ⟨rfl, rfl⟩ c2 l2 f2⟩
theorem kx_2_2 (h : Sim B i σ) (hs : Sc B i L j) (hO : am_K B 892 = 22 ∧ am_L B 892 = 1) (hF : FRs B i σ (am_fx am_P (d + 198) 293 0 [some (.ref 64), some (.int (i 0 (j + 1))), some (.int (i 0 (j + 2)))] [] (am_wI B i)) (.inr 2)) (hM : ∀ (B0 : am_A) (i0 : Nat → Nat → Int32), MR B0 i0 σ → MRs B0 i0 σ (am_fx am_P (d + 199) 19 0 [some (.ref 874), some (.int (i 0 (j + 1))), some (.int (i 0 (j + 2)))] [] (am_wI B0 i0)) none 2) : Stq B i d 370 j := by
  obtain ⟨B1, i1, e1, c1, l1, n1, f1⟩ := hF
  obtain ⟨B2, i2, e2, t2, c2, l2, f2⟩ := hM (am_nx B1) i1 (MR_of h.2.1 l1 Le.nx f1)
  have hN := h.2.1.1.2
  have w := Sc_Lw h hs hO
  have w1 := Lw_le w l1 hN
  have hN1 := Nat.le_trans hN l1.1
  have w1x := Lw_le w1 Le.nx hN1
  have w2 := Lw_le w1 (Le.tr Le.nx l2.le) hN1
  have e0 : i1 0 = i 0 := funext fun k => f1 0 k (by omega)
  exact ⟨B2, i2, σ, gx_2_2 w w1 w2 hs.2.2.1 hs.2.2.2 e0 w1x e1 e2 t2, fin_k hN h.2.2 c1 l1 n1 f1 Le.nx rfl ⟨rfl, rfl⟩ c2 l2 f2⟩
theorem kk_3 (h : Sim B i σ) (hs : Sc B i L j) (hO : am_K B 892 = 22 ∧ am_L B 892 = 1) (hS : SW σ') {v : Int32} (hF : FRs B i σ' (am_fx am_P (d + 198) 294 0 [some (.ref 64), some (.int (i 0 (j + 1))), some (.int (i 0 (j + 2))), some (.int (i 0 (j + 3))), some (.int (i 0 (j + 4))), some (.int (i 0 (j + 5))), some (.int (i 0 (j + 6))), none] [] (am_wI B i)) (.inl (some (.int v)))) (hM : ∀ (B0 : am_A) (i0 : Nat → Nat → Int32), MR B0 i0 σ → MRs B0 i0 σ' (am_fx am_P (d + 199) 22 0 [some (.ref 874), some (.int (i 0 (j + 1))), some (.int (i 0 (j + 2))), some (.int (i 0 (j + 3))), some (.int (i 0 (j + 4))), some (.int (i 0 (j + 5))), some (.int (i 0 (j + 6))), none, none] [] (am_wI B0 i0)) (some (.int v)) 0) : Stq B i d 418 j := by
  obtain ⟨B1, i1, e1, c1, l1, n1, f1⟩ := hF
  obtain ⟨B2, i2, e2, t2, c2, l2, f2⟩ := hM (am_sJ B1 892 0 v.toInt64) i1 (MR_of h.2.1 l1 Le.sJ f1)
  have hN := h.2.1.1.2
  have w := Sc_Lw h hs hO
  have w1 := Lw_le w l1 hN
  have hN1 := Nat.le_trans hN l1.1
  have w2 := Lw_le w1 (Le.tr Le.sJ l2.le) hN1
  have e0 : i1 0 = i 0 := funext fun k => f1 0 k (by omega)
  exact ⟨B2, i2, σ', ga_3 w w1 w2 hs.2.2.1 hs.2.2.2 e0 e1 e2 t2 (by rw [l2.2.2.2.2.2.2 892 (by omega)]; exact y_sJJ), fin_k hN hS c1 l1 n1 f1 Le.sJ rfl ⟨rfl, rfl⟩ c2 l2 f2⟩
theorem kx_3_1 (h : Sim B i σ) (hs : Sc B i L j) (hO : am_K B 892 = 22 ∧ am_L B 892 = 1) {v : Int32} (hF : FRs B i σ (am_fx am_P (d + 198) 294 0 [some (.ref 64), some (.int (i 0 (j + 1))), some (.int (i 0 (j + 2))), some (.int (i 0 (j + 3))), some (.int (i 0 (j + 4))), some (.int (i 0 (j + 5))), some (.int (i 0 (j + 6))), none] [] (am_wI B i)) (.inr 1)) (hM : ∀ (B0 : am_A) (i0 : Nat → Nat → Int32), MR B0 i0 σ → MRs B0 i0 σ (am_fx am_P (d + 199) 22 0 [some (.ref 874), some (.int (i 0 (j + 1))), some (.int (i 0 (j + 2))), some (.int (i 0 (j + 3))), some (.int (i 0 (j + 4))), some (.int (i 0 (j + 5))), some (.int (i 0 (j + 6))), none, none] [] (am_wI B0 i0)) (some (.int v)) 1) : Stq B i d 418 j := by
  obtain ⟨B1, i1, e1, c1, l1, n1, f1⟩ := hF
  obtain ⟨B2, i2, e2, t2, c2, l2, f2⟩ := hM (am_nx B1) i1 (MR_of h.2.1 l1 Le.nx f1)
  have hN := h.2.1.1.2
  have w := Sc_Lw h hs hO
  have w1 := Lw_le w l1 hN
  have hN1 := Nat.le_trans hN l1.1
  have w1x := Lw_le w1 Le.nx hN1
  have w2 := Lw_le w1 (Le.tr Le.nx l2.le) hN1
  have e0 : i1 0 = i 0 := funext fun k => f1 0 k (by omega)
  exact ⟨B2, i2, σ, gx_3_1 w w1 w2 hs.2.2.1 hs.2.2.2 e0 w1x e1 e2 t2, fin_k hN h.2.2 c1 l1 n1 f1 Le.nx rfl ⟨rfl, rfl⟩ c2 l2 f2⟩
theorem kx_3_2 (h : Sim B i σ) (hs : Sc B i L j) (hO : am_K B 892 = 22 ∧ am_L B 892 = 1) {v : Int32} (hF : FRs B i σ (am_fx am_P (d + 198) 294 0 [some (.ref 64), some (.int (i 0 (j + 1))), some (.int (i 0 (j + 2))), some (.int (i 0 (j + 3))), some (.int (i 0 (j + 4))), some (.int (i 0 (j + 5))), some (.int (i 0 (j + 6))), none] [] (am_wI B i)) (.inr 2)) (hM : ∀ (B0 : am_A) (i0 : Nat → Nat → Int32), MR B0 i0 σ → MRs B0 i0 σ (am_fx am_P (d + 199) 22 0 [some (.ref 874), some (.int (i 0 (j + 1))), some (.int (i 0 (j + 2))), some (.int (i 0 (j + 3))), some (.int (i 0 (j + 4))), some (.int (i 0 (j + 5))), some (.int (i 0 (j + 6))), none, none] [] (am_wI B0 i0)) (some (.int v)) 2) : Stq B i d 418 j := by
  obtain ⟨B1, i1, e1, c1, l1, n1, f1⟩ := hF
  obtain ⟨B2, i2, e2, t2, c2, l2, f2⟩ := hM (am_nx B1) i1 (MR_of h.2.1 l1 Le.nx f1)
  have hN := h.2.1.1.2
  have w := Sc_Lw h hs hO
  have w1 := Lw_le w l1 hN
  have hN1 := Nat.le_trans hN l1.1
  have w1x := Lw_le w1 Le.nx hN1
  have w2 := Lw_le w1 (Le.tr Le.nx l2.le) hN1
  have e0 : i1 0 = i 0 := funext fun k => f1 0 k (by omega)
  exact ⟨B2, i2, σ, gx_3_2 w w1 w2 hs.2.2.1 hs.2.2.2 e0 w1x e1 e2 t2, fin_k hN h.2.2 c1 l1 n1 f1 Le.nx rfl ⟨rfl, rfl⟩ c2 l2 f2⟩
theorem kx_3_3 (h : Sim B i σ) (hs : Sc B i L j) (hO : am_K B 892 = 22 ∧ am_L B 892 = 1) {v : Int32} (hF : FRs B i σ (am_fx am_P (d + 198) 294 0 [some (.ref 64), some (.int (i 0 (j + 1))), some (.int (i 0 (j + 2))), some (.int (i 0 (j + 3))), some (.int (i 0 (j + 4))), some (.int (i 0 (j + 5))), some (.int (i 0 (j + 6))), none] [] (am_wI B i)) (.inr 3)) (hM : ∀ (B0 : am_A) (i0 : Nat → Nat → Int32), MR B0 i0 σ → MRs B0 i0 σ (am_fx am_P (d + 199) 22 0 [some (.ref 874), some (.int (i 0 (j + 1))), some (.int (i 0 (j + 2))), some (.int (i 0 (j + 3))), some (.int (i 0 (j + 4))), some (.int (i 0 (j + 5))), some (.int (i 0 (j + 6))), none, none] [] (am_wI B0 i0)) (some (.int v)) 3) : Stq B i d 418 j := by
  obtain ⟨B1, i1, e1, c1, l1, n1, f1⟩ := hF
  obtain ⟨B2, i2, e2, t2, c2, l2, f2⟩ := hM (am_nx B1) i1 (MR_of h.2.1 l1 Le.nx f1)
  have hN := h.2.1.1.2
  have w := Sc_Lw h hs hO
  have w1 := Lw_le w l1 hN
  have hN1 := Nat.le_trans hN l1.1
  have w1x := Lw_le w1 Le.nx hN1
  have w2 := Lw_le w1 (Le.tr Le.nx l2.le) hN1
  have e0 : i1 0 = i 0 := funext fun k => f1 0 k (by omega)
  exact ⟨B2, i2, σ, gx_3_3 w w1 w2 hs.2.2.1 hs.2.2.2 e0 w1x e1 e2 t2, fin_k hN h.2.2 c1 l1 n1 f1 Le.nx rfl ⟨rfl, rfl⟩ c2 l2 f2⟩
theorem kk_4 (h : Sim B i σ) (hs : Sc B i L j) (hO : am_K B 892 = 22 ∧ am_L B 892 = 1) (hS : SW σ') {v : Int32} (hF : FRs B i σ' (am_fx am_P (d + 198) 295 0 [some (.ref 64), some (.int (i 0 (j + 1))), some (.int (i 0 (j + 2)))] [] (am_wI B i)) (.inl (some (.int v)))) (hM : ∀ (B0 : am_A) (i0 : Nat → Nat → Int32), MR B0 i0 σ → MRs B0 i0 σ' (am_fx am_P (d + 199) 29 0 [some (.ref 874), some (.int (i 0 (j + 1))), some (.int (i 0 (j + 2))), none, none] [] (am_wI B0 i0)) (some (.int v)) 0) : Stq B i d 536 j := by
  obtain ⟨B1, i1, e1, c1, l1, n1, f1⟩ := hF
  obtain ⟨B2, i2, e2, t2, c2, l2, f2⟩ := hM (am_sJ B1 892 0 v.toInt64) i1 (MR_of h.2.1 l1 Le.sJ f1)
  have hN := h.2.1.1.2
  have w := Sc_Lw h hs hO
  have w1 := Lw_le w l1 hN
  have hN1 := Nat.le_trans hN l1.1
  have w2 := Lw_le w1 (Le.tr Le.sJ l2.le) hN1
  have e0 : i1 0 = i 0 := funext fun k => f1 0 k (by omega)
  exact ⟨B2, i2, σ', ga_4 w w1 w2 hs.2.2.1 hs.2.2.2 e0 e1 e2 t2 (by rw [l2.2.2.2.2.2.2 892 (by omega)]; exact y_sJJ), fin_k hN hS c1 l1 n1 f1 Le.sJ rfl ⟨rfl, rfl⟩ c2 l2 f2⟩
theorem kx_4_1 (h : Sim B i σ) (hs : Sc B i L j) (hO : am_K B 892 = 22 ∧ am_L B 892 = 1) {v : Int32} (hF : FRs B i σ (am_fx am_P (d + 198) 295 0 [some (.ref 64), some (.int (i 0 (j + 1))), some (.int (i 0 (j + 2)))] [] (am_wI B i)) (.inr 1)) (hM : ∀ (B0 : am_A) (i0 : Nat → Nat → Int32), MR B0 i0 σ → MRs B0 i0 σ (am_fx am_P (d + 199) 29 0 [some (.ref 874), some (.int (i 0 (j + 1))), some (.int (i 0 (j + 2))), none, none] [] (am_wI B0 i0)) (some (.int v)) 1) : Stq B i d 536 j := by
  obtain ⟨B1, i1, e1, c1, l1, n1, f1⟩ := hF
  obtain ⟨B2, i2, e2, t2, c2, l2, f2⟩ := hM (am_nx B1) i1 (MR_of h.2.1 l1 Le.nx f1)
  have hN := h.2.1.1.2
  have w := Sc_Lw h hs hO
  have w1 := Lw_le w l1 hN
  have hN1 := Nat.le_trans hN l1.1
  have w1x := Lw_le w1 Le.nx hN1
  have w2 := Lw_le w1 (Le.tr Le.nx l2.le) hN1
  have e0 : i1 0 = i 0 := funext fun k => f1 0 k (by omega)
  exact ⟨B2, i2, σ, gx_4_1 w w1 w2 hs.2.2.1 hs.2.2.2 e0 w1x e1 e2 t2, fin_k hN h.2.2 c1 l1 n1 f1 Le.nx rfl ⟨rfl, rfl⟩ c2 l2 f2⟩
theorem kx_4_2 (h : Sim B i σ) (hs : Sc B i L j) (hO : am_K B 892 = 22 ∧ am_L B 892 = 1) {v : Int32} (hF : FRs B i σ (am_fx am_P (d + 198) 295 0 [some (.ref 64), some (.int (i 0 (j + 1))), some (.int (i 0 (j + 2)))] [] (am_wI B i)) (.inr 2)) (hM : ∀ (B0 : am_A) (i0 : Nat → Nat → Int32), MR B0 i0 σ → MRs B0 i0 σ (am_fx am_P (d + 199) 29 0 [some (.ref 874), some (.int (i 0 (j + 1))), some (.int (i 0 (j + 2))), none, none] [] (am_wI B0 i0)) (some (.int v)) 2) : Stq B i d 536 j := by
  obtain ⟨B1, i1, e1, c1, l1, n1, f1⟩ := hF
  obtain ⟨B2, i2, e2, t2, c2, l2, f2⟩ := hM (am_nx B1) i1 (MR_of h.2.1 l1 Le.nx f1)
  have hN := h.2.1.1.2
  have w := Sc_Lw h hs hO
  have w1 := Lw_le w l1 hN
  have hN1 := Nat.le_trans hN l1.1
  have w1x := Lw_le w1 Le.nx hN1
  have w2 := Lw_le w1 (Le.tr Le.nx l2.le) hN1
  have e0 : i1 0 = i 0 := funext fun k => f1 0 k (by omega)
  exact ⟨B2, i2, σ, gx_4_2 w w1 w2 hs.2.2.1 hs.2.2.2 e0 w1x e1 e2 t2, fin_k hN h.2.2 c1 l1 n1 f1 Le.nx rfl ⟨rfl, rfl⟩ c2 l2 f2⟩
theorem kk_5 (h : Sim B i σ) (hs : Sc B i L j) (hO : am_K B 892 = 22 ∧ am_L B 892 = 1) (hS : SW σ') {v : Int32} (hF : FRs B i σ' (am_fx am_P (d + 198) 296 0 [some (.ref 64), some (.int (i 0 (j + 1))), some (.int (i 0 (j + 2))), some (.int (i 0 (j + 3))), some (.int (i 0 (j + 4))), some (.int (i 0 (j + 5))), none] [] (am_wI B i)) (.inl (some (.int v)))) (hM : ∀ (B0 : am_A) (i0 : Nat → Nat → Int32), MR B0 i0 σ → MRs B0 i0 σ' (am_fx am_P (d + 199) 30 0 [some (.ref 874), some (.int (i 0 (j + 1))), some (.int (i 0 (j + 2))), some (.int (i 0 (j + 3))), some (.int (i 0 (j + 4))), some (.int (i 0 (j + 5)))] [] (am_wI B0 i0)) (some (.int v)) 0) : Stq B i d 604 j := by
  obtain ⟨B1, i1, e1, c1, l1, n1, f1⟩ := hF
  obtain ⟨B2, i2, e2, t2, c2, l2, f2⟩ := hM (am_sJ B1 892 0 v.toInt64) i1 (MR_of h.2.1 l1 Le.sJ f1)
  have hN := h.2.1.1.2
  have w := Sc_Lw h hs hO
  have w1 := Lw_le w l1 hN
  have hN1 := Nat.le_trans hN l1.1
  have w2 := Lw_le w1 (Le.tr Le.sJ l2.le) hN1
  have e0 : i1 0 = i 0 := funext fun k => f1 0 k (by omega)
  exact ⟨B2, i2, σ', ga_5 w w1 w2 hs.2.2.1 hs.2.2.2 e0 e1 e2 t2 (by rw [l2.2.2.2.2.2.2 892 (by omega)]; exact y_sJJ), fin_k hN hS c1 l1 n1 f1 Le.sJ rfl ⟨rfl, rfl⟩ c2 l2 f2⟩
theorem kx_5_2 (h : Sim B i σ) (hs : Sc B i L j) (hO : am_K B 892 = 22 ∧ am_L B 892 = 1) {v : Int32} (hF : FRs B i σ (am_fx am_P (d + 198) 296 0 [some (.ref 64), some (.int (i 0 (j + 1))), some (.int (i 0 (j + 2))), some (.int (i 0 (j + 3))), some (.int (i 0 (j + 4))), some (.int (i 0 (j + 5))), none] [] (am_wI B i)) (.inr 2)) (hM : ∀ (B0 : am_A) (i0 : Nat → Nat → Int32), MR B0 i0 σ → MRs B0 i0 σ (am_fx am_P (d + 199) 30 0 [some (.ref 874), some (.int (i 0 (j + 1))), some (.int (i 0 (j + 2))), some (.int (i 0 (j + 3))), some (.int (i 0 (j + 4))), some (.int (i 0 (j + 5)))] [] (am_wI B0 i0)) (some (.int v)) 1) : Stq B i d 604 j := by
  obtain ⟨B1, i1, e1, c1, l1, n1, f1⟩ := hF
  obtain ⟨B2, i2, e2, t2, c2, l2, f2⟩ := hM (am_nx B1) i1 (MR_of h.2.1 l1 Le.nx f1)
  have hN := h.2.1.1.2
  have w := Sc_Lw h hs hO
  have w1 := Lw_le w l1 hN
  have hN1 := Nat.le_trans hN l1.1
  have w1x := Lw_le w1 Le.nx hN1
  have w2 := Lw_le w1 (Le.tr Le.nx l2.le) hN1
  have e0 : i1 0 = i 0 := funext fun k => f1 0 k (by omega)
  exact ⟨B2, i2, σ, gx_5_2 w w1 w2 hs.2.2.1 hs.2.2.2 e0 w1x e1 e2 t2, fin_k hN h.2.2 c1 l1 n1 f1 Le.nx rfl ⟨rfl, rfl⟩ c2 l2 f2⟩
theorem kx_5_3 (h : Sim B i σ) (hs : Sc B i L j) (hO : am_K B 892 = 22 ∧ am_L B 892 = 1) {v : Int32} (hF : FRs B i σ (am_fx am_P (d + 198) 296 0 [some (.ref 64), some (.int (i 0 (j + 1))), some (.int (i 0 (j + 2))), some (.int (i 0 (j + 3))), some (.int (i 0 (j + 4))), some (.int (i 0 (j + 5))), none] [] (am_wI B i)) (.inr 3)) (hM : ∀ (B0 : am_A) (i0 : Nat → Nat → Int32), MR B0 i0 σ → MRs B0 i0 σ (am_fx am_P (d + 199) 30 0 [some (.ref 874), some (.int (i 0 (j + 1))), some (.int (i 0 (j + 2))), some (.int (i 0 (j + 3))), some (.int (i 0 (j + 4))), some (.int (i 0 (j + 5)))] [] (am_wI B0 i0)) (some (.int v)) 2) : Stq B i d 604 j := by
  obtain ⟨B1, i1, e1, c1, l1, n1, f1⟩ := hF
  obtain ⟨B2, i2, e2, t2, c2, l2, f2⟩ := hM (am_nx B1) i1 (MR_of h.2.1 l1 Le.nx f1)
  have hN := h.2.1.1.2
  have w := Sc_Lw h hs hO
  have w1 := Lw_le w l1 hN
  have hN1 := Nat.le_trans hN l1.1
  have w1x := Lw_le w1 Le.nx hN1
  have w2 := Lw_le w1 (Le.tr Le.nx l2.le) hN1
  have e0 : i1 0 = i 0 := funext fun k => f1 0 k (by omega)
  exact ⟨B2, i2, σ, gx_5_3 w w1 w2 hs.2.2.1 hs.2.2.2 e0 w1x e1 e2 t2, fin_k hN h.2.2 c1 l1 n1 f1 Le.nx rfl ⟨rfl, rfl⟩ c2 l2 f2⟩
theorem kk_6 (h : Sim B i σ) (hs : Sc B i L j) (hO : am_K B 892 = 22 ∧ am_L B 892 = 1) (hS : SW σ') (hF : FRs B i σ' (am_fx am_P (d + 198) 297 0 [some (.ref 64), some (.int (i 0 (j + 1)))] [] (am_wI B i)) (.inl none)) (hM : ∀ (B0 : am_A) (i0 : Nat → Nat → Int32), MR B0 i0 σ → MRs B0 i0 σ' (am_fx am_P (d + 199) 31 0 [some (.ref 874), some (.int (i 0 (j + 1)))] [] (am_wI B0 i0)) none 0) : Stq B i d 708 j := by
  obtain ⟨B1, i1, e1, c1, l1, n1, f1⟩ := hF
  obtain ⟨B2, i2, e2, t2, c2, l2, f2⟩ := hM B1 i1 (MR_of h.2.1 l1 (Le.rf B1) f1)
  have hN := h.2.1.1.2
  have w := Sc_Lw h hs hO
  have w1 := Lw_le w l1 hN
  have hN1 := Nat.le_trans hN l1.1
  have w2 := Lw_le w1 (Le.tr (Le.rf B1) l2.le) hN1
  have e0 : i1 0 = i 0 := funext fun k => f1 0 k (by omega)
  exact ⟨B2, i2, σ', ga_6 w w1 w2 hs.2.2.1 hs.2.2.2 e0 e1 e2 t2, fin_k hN hS c1 l1 n1 f1 (Le.rf B1) rfl ⟨rfl, rfl⟩ c2 l2 f2⟩
theorem kx_6_2 (h : Sim B i σ) (hs : Sc B i L j) (hO : am_K B 892 = 22 ∧ am_L B 892 = 1) (hF : FRs B i σ (am_fx am_P (d + 198) 297 0 [some (.ref 64), some (.int (i 0 (j + 1)))] [] (am_wI B i)) (.inr 2)) (hM : ∀ (B0 : am_A) (i0 : Nat → Nat → Int32), MR B0 i0 σ → MRs B0 i0 σ (am_fx am_P (d + 199) 31 0 [some (.ref 874), some (.int (i 0 (j + 1)))] [] (am_wI B0 i0)) none 1) : Stq B i d 708 j := by
  obtain ⟨B1, i1, e1, c1, l1, n1, f1⟩ := hF
  obtain ⟨B2, i2, e2, t2, c2, l2, f2⟩ := hM (am_nx B1) i1 (MR_of h.2.1 l1 Le.nx f1)
  have hN := h.2.1.1.2
  have w := Sc_Lw h hs hO
  have w1 := Lw_le w l1 hN
  have hN1 := Nat.le_trans hN l1.1
  have w1x := Lw_le w1 Le.nx hN1
  have w2 := Lw_le w1 (Le.tr Le.nx l2.le) hN1
  have e0 : i1 0 = i 0 := funext fun k => f1 0 k (by omega)
  exact ⟨B2, i2, σ, gx_6_2 w w1 w2 hs.2.2.1 hs.2.2.2 e0 w1x e1 e2 t2, fin_k hN h.2.2 c1 l1 n1 f1 Le.nx rfl ⟨rfl, rfl⟩ c2 l2 f2⟩
theorem kk_7 (h : Sim B i σ) (hs : Sc B i L j) (hO : am_K B 892 = 22 ∧ am_L B 892 = 1) (hS : SW σ') {v : Int32} (hF : FRs B i σ' (am_fx am_P (d + 198) 298 0 [some (.ref 64), some (.int (i 0 (j + 1))), none] [] (am_wI B i)) (.inl (some (.int v)))) (hM : ∀ (B0 : am_A) (i0 : Nat → Nat → Int32), MR B0 i0 σ → MRs B0 i0 σ' (am_fx am_P (d + 199) 33 0 [some (.ref 874), some (.int (i 0 (j + 1)))] [] (am_wI B0 i0)) (some (.int v)) 0) : Stq B i d 744 j := by
  obtain ⟨B1, i1, e1, c1, l1, n1, f1⟩ := hF
  obtain ⟨B2, i2, e2, t2, c2, l2, f2⟩ := hM (am_sJ B1 892 0 (bl v)) i1 (MR_of h.2.1 l1 Le.sJ f1)
  have hN := h.2.1.1.2
  have w := Sc_Lw h hs hO
  have w1 := Lw_le w l1 hN
  have hN1 := Nat.le_trans hN l1.1
  have w2 := Lw_le w1 (Le.tr Le.sJ l2.le) hN1
  have e0 : i1 0 = i 0 := funext fun k => f1 0 k (by omega)
  exact ⟨B2, i2, σ', ga_7 w w1 w2 hs.2.2.1 hs.2.2.2 e0 e1 e2 t2 (by rw [l2.2.2.2.2.2.2 892 (by omega)]; exact y_sJJ), fin_k hN hS c1 l1 n1 f1 Le.sJ rfl ⟨rfl, rfl⟩ c2 l2 f2⟩
theorem kx_7_1 (h : Sim B i σ) (hs : Sc B i L j) (hO : am_K B 892 = 22 ∧ am_L B 892 = 1) {v : Int32} (hF : FRs B i σ (am_fx am_P (d + 198) 298 0 [some (.ref 64), some (.int (i 0 (j + 1))), none] [] (am_wI B i)) (.inr 1)) (hM : ∀ (B0 : am_A) (i0 : Nat → Nat → Int32), MR B0 i0 σ → MRs B0 i0 σ (am_fx am_P (d + 199) 33 0 [some (.ref 874), some (.int (i 0 (j + 1)))] [] (am_wI B0 i0)) (some (.int v)) 1) : Stq B i d 744 j := by
  obtain ⟨B1, i1, e1, c1, l1, n1, f1⟩ := hF
  obtain ⟨B2, i2, e2, t2, c2, l2, f2⟩ := hM (am_nx B1) i1 (MR_of h.2.1 l1 Le.nx f1)
  have hN := h.2.1.1.2
  have w := Sc_Lw h hs hO
  have w1 := Lw_le w l1 hN
  have hN1 := Nat.le_trans hN l1.1
  have w1x := Lw_le w1 Le.nx hN1
  have w2 := Lw_le w1 (Le.tr Le.nx l2.le) hN1
  have e0 : i1 0 = i 0 := funext fun k => f1 0 k (by omega)
  exact ⟨B2, i2, σ, gx_7_1 w w1 w2 hs.2.2.1 hs.2.2.2 e0 w1x e1 e2 t2, fin_k hN h.2.2 c1 l1 n1 f1 Le.nx rfl ⟨rfl, rfl⟩ c2 l2 f2⟩
theorem kk_8 (h : Sim B i σ) (hs : Sc B i L j) (hO : am_K B 892 = 22 ∧ am_L B 892 = 1) (hS : SW σ') {v : Int32} (hF : FRs B i σ' (am_fx am_P (d + 198) 299 0 [some (.ref 64), some (.int (i 0 (j + 1))), some (.int (i 0 (j + 2))), none] [] (am_wI B i)) (.inl (some (.int v)))) (hM : ∀ (B0 : am_A) (i0 : Nat → Nat → Int32), MR B0 i0 σ → MRs B0 i0 σ' (am_fx am_P (d + 199) 34 0 [some (.ref 874), some (.int (i 0 (j + 1))), some (.int (i 0 (j + 2)))] [] (am_wI B0 i0)) (some (.int v)) 0) : Stq B i d 807 j := by
  obtain ⟨B1, i1, e1, c1, l1, n1, f1⟩ := hF
  obtain ⟨B2, i2, e2, t2, c2, l2, f2⟩ := hM (am_sJ B1 892 0 v.toInt64) i1 (MR_of h.2.1 l1 Le.sJ f1)
  have hN := h.2.1.1.2
  have w := Sc_Lw h hs hO
  have w1 := Lw_le w l1 hN
  have hN1 := Nat.le_trans hN l1.1
  have w2 := Lw_le w1 (Le.tr Le.sJ l2.le) hN1
  have e0 : i1 0 = i 0 := funext fun k => f1 0 k (by omega)
  exact ⟨B2, i2, σ', ga_8 w w1 w2 hs.2.2.1 hs.2.2.2 e0 e1 e2 t2 (by rw [l2.2.2.2.2.2.2 892 (by omega)]; exact y_sJJ), fin_k hN hS c1 l1 n1 f1 Le.sJ rfl ⟨rfl, rfl⟩ c2 l2 f2⟩
theorem kx_8_1 (h : Sim B i σ) (hs : Sc B i L j) (hO : am_K B 892 = 22 ∧ am_L B 892 = 1) {v : Int32} (hF : FRs B i σ (am_fx am_P (d + 198) 299 0 [some (.ref 64), some (.int (i 0 (j + 1))), some (.int (i 0 (j + 2))), none] [] (am_wI B i)) (.inr 1)) (hM : ∀ (B0 : am_A) (i0 : Nat → Nat → Int32), MR B0 i0 σ → MRs B0 i0 σ (am_fx am_P (d + 199) 34 0 [some (.ref 874), some (.int (i 0 (j + 1))), some (.int (i 0 (j + 2)))] [] (am_wI B0 i0)) (some (.int v)) 1) : Stq B i d 807 j := by
  obtain ⟨B1, i1, e1, c1, l1, n1, f1⟩ := hF
  obtain ⟨B2, i2, e2, t2, c2, l2, f2⟩ := hM (am_nx B1) i1 (MR_of h.2.1 l1 Le.nx f1)
  have hN := h.2.1.1.2
  have w := Sc_Lw h hs hO
  have w1 := Lw_le w l1 hN
  have hN1 := Nat.le_trans hN l1.1
  have w1x := Lw_le w1 Le.nx hN1
  have w2 := Lw_le w1 (Le.tr Le.nx l2.le) hN1
  have e0 : i1 0 = i 0 := funext fun k => f1 0 k (by omega)
  exact ⟨B2, i2, σ, gx_8_1 w w1 w2 hs.2.2.1 hs.2.2.2 e0 w1x e1 e2 t2, fin_k hN h.2.2 c1 l1 n1 f1 Le.nx rfl ⟨rfl, rfl⟩ c2 l2 f2⟩
theorem kx_8_5 (h : Sim B i σ) (hs : Sc B i L j) (hO : am_K B 892 = 22 ∧ am_L B 892 = 1) {v : Int32} (hF : FRs B i σ (am_fx am_P (d + 198) 299 0 [some (.ref 64), some (.int (i 0 (j + 1))), some (.int (i 0 (j + 2))), none] [] (am_wI B i)) (.inr 5)) (hM : ∀ (B0 : am_A) (i0 : Nat → Nat → Int32), MR B0 i0 σ → MRs B0 i0 σ (am_fx am_P (d + 199) 34 0 [some (.ref 874), some (.int (i 0 (j + 1))), some (.int (i 0 (j + 2)))] [] (am_wI B0 i0)) (some (.int v)) 2) : Stq B i d 807 j := by
  obtain ⟨B1, i1, e1, c1, l1, n1, f1⟩ := hF
  obtain ⟨B2, i2, e2, t2, c2, l2, f2⟩ := hM (am_nx B1) i1 (MR_of h.2.1 l1 Le.nx f1)
  have hN := h.2.1.1.2
  have w := Sc_Lw h hs hO
  have w1 := Lw_le w l1 hN
  have hN1 := Nat.le_trans hN l1.1
  have w1x := Lw_le w1 Le.nx hN1
  have w2 := Lw_le w1 (Le.tr Le.nx l2.le) hN1
  have e0 : i1 0 = i 0 := funext fun k => f1 0 k (by omega)
  exact ⟨B2, i2, σ, gx_8_5 w w1 w2 hs.2.2.1 hs.2.2.2 e0 w1x e1 e2 t2, fin_k hN h.2.2 c1 l1 n1 f1 Le.nx rfl ⟨rfl, rfl⟩ c2 l2 f2⟩
theorem kk_9 (h : Sim B i σ) (hs : Sc B i L j) (hO : am_K B 892 = 22 ∧ am_L B 892 = 1) (hS : SW σ') {v : Int32} (hF : FRs B i σ' (am_fx am_P (d + 198) 300 0 [some (.ref 64), some (.int (i 0 (j + 1))), none, none] [] (am_wI B i)) (.inl (some (.int v)))) (hM : ∀ (B0 : am_A) (i0 : Nat → Nat → Int32), MR B0 i0 σ → MRs B0 i0 σ' (am_fx am_P (d + 199) 35 0 [some (.ref 874), some (.int (i 0 (j + 1))), none, none, none] [] (am_wI B0 i0)) (some (.int v)) 0) : Stq B i d 875 j := by
  obtain ⟨B1, i1, e1, c1, l1, n1, f1⟩ := hF
  obtain ⟨B2, i2, e2, t2, c2, l2, f2⟩ := hM (am_sJ B1 892 0 v.toInt64) i1 (MR_of h.2.1 l1 Le.sJ f1)
  have hN := h.2.1.1.2
  have w := Sc_Lw h hs hO
  have w1 := Lw_le w l1 hN
  have hN1 := Nat.le_trans hN l1.1
  have w2 := Lw_le w1 (Le.tr Le.sJ l2.le) hN1
  have e0 : i1 0 = i 0 := funext fun k => f1 0 k (by omega)
  exact ⟨B2, i2, σ', ga_9 w w1 w2 hs.2.2.1 hs.2.2.2 e0 e1 e2 t2 (by rw [l2.2.2.2.2.2.2 892 (by omega)]; exact y_sJJ), fin_k hN hS c1 l1 n1 f1 Le.sJ rfl ⟨rfl, rfl⟩ c2 l2 f2⟩
theorem kx_9_1 (h : Sim B i σ) (hs : Sc B i L j) (hO : am_K B 892 = 22 ∧ am_L B 892 = 1) {v : Int32} (hF : FRs B i σ (am_fx am_P (d + 198) 300 0 [some (.ref 64), some (.int (i 0 (j + 1))), none, none] [] (am_wI B i)) (.inr 1)) (hM : ∀ (B0 : am_A) (i0 : Nat → Nat → Int32), MR B0 i0 σ → MRs B0 i0 σ (am_fx am_P (d + 199) 35 0 [some (.ref 874), some (.int (i 0 (j + 1))), none, none, none] [] (am_wI B0 i0)) (some (.int v)) 1) : Stq B i d 875 j := by
  obtain ⟨B1, i1, e1, c1, l1, n1, f1⟩ := hF
  obtain ⟨B2, i2, e2, t2, c2, l2, f2⟩ := hM (am_nx B1) i1 (MR_of h.2.1 l1 Le.nx f1)
  have hN := h.2.1.1.2
  have w := Sc_Lw h hs hO
  have w1 := Lw_le w l1 hN
  have hN1 := Nat.le_trans hN l1.1
  have w1x := Lw_le w1 Le.nx hN1
  have w2 := Lw_le w1 (Le.tr Le.nx l2.le) hN1
  have e0 : i1 0 = i 0 := funext fun k => f1 0 k (by omega)
  exact ⟨B2, i2, σ, gx_9_1 w w1 w2 hs.2.2.1 hs.2.2.2 e0 w1x e1 e2 t2, fin_k hN h.2.2 c1 l1 n1 f1 Le.nx rfl ⟨rfl, rfl⟩ c2 l2 f2⟩
theorem kk_10 (h : Sim B i σ) (hs : Sc B i L j) (hO : am_K B 892 = 22 ∧ am_L B 892 = 1) (hS : SW σ') {v : Int32} (hF : FRs B i σ' (am_fx am_P (d + 198) 301 0 [some (.ref 64), some (.int (i 0 (j + 1))), none] [] (am_wI B i)) (.inl (some (.int v)))) (hM : ∀ (B0 : am_A) (i0 : Nat → Nat → Int32), MR B0 i0 σ → MRs B0 i0 σ' (am_fx am_P (d + 199) 56 0 [some (.ref 874), some (.int (i 0 (j + 1))), none, none, none] [] (am_wI B0 i0)) (some (.int v)) 0) : Stq B i d 931 j := by
  obtain ⟨B1, i1, e1, c1, l1, n1, f1⟩ := hF
  obtain ⟨B2, i2, e2, t2, c2, l2, f2⟩ := hM (am_sJ B1 892 0 v.toInt64) i1 (MR_of h.2.1 l1 Le.sJ f1)
  have hN := h.2.1.1.2
  have w := Sc_Lw h hs hO
  have w1 := Lw_le w l1 hN
  have hN1 := Nat.le_trans hN l1.1
  have w2 := Lw_le w1 (Le.tr Le.sJ l2.le) hN1
  have e0 : i1 0 = i 0 := funext fun k => f1 0 k (by omega)
  exact ⟨B2, i2, σ', ga_10 w w1 w2 hs.2.2.1 hs.2.2.2 e0 e1 e2 t2 (by rw [l2.2.2.2.2.2.2 892 (by omega)]; exact y_sJJ), fin_k hN hS c1 l1 n1 f1 Le.sJ rfl ⟨rfl, rfl⟩ c2 l2 f2⟩
theorem kx_10_2 (h : Sim B i σ) (hs : Sc B i L j) (hO : am_K B 892 = 22 ∧ am_L B 892 = 1) {v : Int32} (hF : FRs B i σ (am_fx am_P (d + 198) 301 0 [some (.ref 64), some (.int (i 0 (j + 1))), none] [] (am_wI B i)) (.inr 2)) (hM : ∀ (B0 : am_A) (i0 : Nat → Nat → Int32), MR B0 i0 σ → MRs B0 i0 σ (am_fx am_P (d + 199) 56 0 [some (.ref 874), some (.int (i 0 (j + 1))), none, none, none] [] (am_wI B0 i0)) (some (.int v)) 1) : Stq B i d 931 j := by
  obtain ⟨B1, i1, e1, c1, l1, n1, f1⟩ := hF
  obtain ⟨B2, i2, e2, t2, c2, l2, f2⟩ := hM (am_nx B1) i1 (MR_of h.2.1 l1 Le.nx f1)
  have hN := h.2.1.1.2
  have w := Sc_Lw h hs hO
  have w1 := Lw_le w l1 hN
  have hN1 := Nat.le_trans hN l1.1
  have w1x := Lw_le w1 Le.nx hN1
  have w2 := Lw_le w1 (Le.tr Le.nx l2.le) hN1
  have e0 : i1 0 = i 0 := funext fun k => f1 0 k (by omega)
  exact ⟨B2, i2, σ, gx_10_2 w w1 w2 hs.2.2.1 hs.2.2.2 e0 w1x e1 e2 t2, fin_k hN h.2.2 c1 l1 n1 f1 Le.nx rfl ⟨rfl, rfl⟩ c2 l2 f2⟩
theorem kx_10_3 (h : Sim B i σ) (hs : Sc B i L j) (hO : am_K B 892 = 22 ∧ am_L B 892 = 1) {v : Int32} (hF : FRs B i σ (am_fx am_P (d + 198) 301 0 [some (.ref 64), some (.int (i 0 (j + 1))), none] [] (am_wI B i)) (.inr 3)) (hM : ∀ (B0 : am_A) (i0 : Nat → Nat → Int32), MR B0 i0 σ → MRs B0 i0 σ (am_fx am_P (d + 199) 56 0 [some (.ref 874), some (.int (i 0 (j + 1))), none, none, none] [] (am_wI B0 i0)) (some (.int v)) 2) : Stq B i d 931 j := by
  obtain ⟨B1, i1, e1, c1, l1, n1, f1⟩ := hF
  obtain ⟨B2, i2, e2, t2, c2, l2, f2⟩ := hM (am_nx B1) i1 (MR_of h.2.1 l1 Le.nx f1)
  have hN := h.2.1.1.2
  have w := Sc_Lw h hs hO
  have w1 := Lw_le w l1 hN
  have hN1 := Nat.le_trans hN l1.1
  have w1x := Lw_le w1 Le.nx hN1
  have w2 := Lw_le w1 (Le.tr Le.nx l2.le) hN1
  have e0 : i1 0 = i 0 := funext fun k => f1 0 k (by omega)
  exact ⟨B2, i2, σ, gx_10_3 w w1 w2 hs.2.2.1 hs.2.2.2 e0 w1x e1 e2 t2, fin_k hN h.2.2 c1 l1 n1 f1 Le.nx rfl ⟨rfl, rfl⟩ c2 l2 f2⟩
theorem kk_11 (h : Sim B i σ) (hs : Sc B i L j) (hO : am_K B 892 = 22 ∧ am_L B 892 = 1) (hS : SW σ') {v : Int32} (hF : FRs B i σ' (am_fx am_P (d + 199) 302 0 [some (.ref 64)] [] (am_wI B i)) (.inl (some (.int v)))) (hM : ∀ (B0 : am_A) (i0 : Nat → Nat → Int32), MR B0 i0 σ → MRs B0 i0 σ' (am_fx am_P (d + 199) 46 0 [some (.ref 874)] [] (am_wI B0 i0)) (some (.int v)) 0) : Stq B i d 987 j := by
  obtain ⟨B1, i1, e1, c1, l1, n1, f1⟩ := hF
  obtain ⟨B2, i2, e2, t2, c2, l2, f2⟩ := hM B1 i1 (MR_of h.2.1 l1 (Le.rf B1) f1)
  have hN := h.2.1.1.2
  have w := Sc_Lw h hs hO
  have w1 := Lw_le w l1 hN
  have hN1 := Nat.le_trans hN l1.1
  have w2 := Lw_le w1 (Le.tr (Le.rf B1) l2.le) hN1
  have e0 : i1 0 = i 0 := funext fun k => f1 0 k (by omega)
  exact ⟨B2, i2, σ', ga_11 w w1 w2 hs.2.2.1 hs.2.2.2 e0 e1 e2, fin_k hN hS c1 l1 n1 f1 (Le.rf B1) rfl ⟨rfl, rfl⟩ c2 l2 f2⟩
theorem kk_12 (h : Sim B i σ) (hs : Sc B i L j) (hO : am_K B 892 = 22 ∧ am_L B 892 = 1) (hS : SW σ') {v : Int32} (hF : FRs B i σ' (am_fx am_P (d + 198) 303 0 [some (.ref 64), some (.int (i 0 (j + 1))), some (.int (i 0 (j + 2))), some (.int (i 0 (j + 3)))] [] (am_wI B i)) (.inl (some (.int v)))) (hM : ∀ (B0 : am_A) (i0 : Nat → Nat → Int32), MR B0 i0 σ → MRs B0 i0 σ' (am_fx am_P (d + 199) 63 0 [some (.ref 874), some (.int (i 0 (j + 1))), some (.int (i 0 (j + 2))), some (.int (i 0 (j + 3)))] [] (am_wI B0 i0)) (some (.int v)) 0) : Stq B i d 1000 j := by
  obtain ⟨B1, i1, e1, c1, l1, n1, f1⟩ := hF
  obtain ⟨B2, i2, e2, t2, c2, l2, f2⟩ := hM (am_sJ B1 892 0 (bl v)) i1 (MR_of h.2.1 l1 Le.sJ f1)
  have hN := h.2.1.1.2
  have w := Sc_Lw h hs hO
  have w1 := Lw_le w l1 hN
  have hN1 := Nat.le_trans hN l1.1
  have w2 := Lw_le w1 (Le.tr Le.sJ l2.le) hN1
  have e0 : i1 0 = i 0 := funext fun k => f1 0 k (by omega)
  exact ⟨B2, i2, σ', ga_12 w w1 w2 hs.2.2.1 hs.2.2.2 e0 e1 e2 t2 (by rw [l2.2.2.2.2.2.2 892 (by omega)]; exact y_sJJ), fin_k hN hS c1 l1 n1 f1 Le.sJ rfl ⟨rfl, rfl⟩ c2 l2 f2⟩
theorem kx_12_1 (h : Sim B i σ) (hs : Sc B i L j) (hO : am_K B 892 = 22 ∧ am_L B 892 = 1) {v : Int32} (hF : FRs B i σ (am_fx am_P (d + 198) 303 0 [some (.ref 64), some (.int (i 0 (j + 1))), some (.int (i 0 (j + 2))), some (.int (i 0 (j + 3)))] [] (am_wI B i)) (.inr 1)) (hM : ∀ (B0 : am_A) (i0 : Nat → Nat → Int32), MR B0 i0 σ → MRs B0 i0 σ (am_fx am_P (d + 199) 63 0 [some (.ref 874), some (.int (i 0 (j + 1))), some (.int (i 0 (j + 2))), some (.int (i 0 (j + 3)))] [] (am_wI B0 i0)) (some (.int v)) 1) : Stq B i d 1000 j := by
  obtain ⟨B1, i1, e1, c1, l1, n1, f1⟩ := hF
  obtain ⟨B2, i2, e2, t2, c2, l2, f2⟩ := hM (am_nx B1) i1 (MR_of h.2.1 l1 Le.nx f1)
  have hN := h.2.1.1.2
  have w := Sc_Lw h hs hO
  have w1 := Lw_le w l1 hN
  have hN1 := Nat.le_trans hN l1.1
  have w1x := Lw_le w1 Le.nx hN1
  have w2 := Lw_le w1 (Le.tr Le.nx l2.le) hN1
  have e0 : i1 0 = i 0 := funext fun k => f1 0 k (by omega)
  exact ⟨B2, i2, σ, gx_12_1 w w1 w2 hs.2.2.1 hs.2.2.2 e0 w1x e1 e2 t2, fin_k hN h.2.2 c1 l1 n1 f1 Le.nx rfl ⟨rfl, rfl⟩ c2 l2 f2⟩
theorem kk_13 (h : Sim B i σ) (hs : Sc B i L j) (hO : am_K B 892 = 22 ∧ am_L B 892 = 1) (hS : SW σ') {v : Int32} (hF : FRs B i σ' (am_fx am_P (d + 198) 304 0 [some (.ref 64), some (.int (i 0 (j + 1))), some (.int (i 0 (j + 2))), some (.int (i 0 (j + 3)))] [] (am_wI B i)) (.inl (some (.int v)))) (hM : ∀ (B0 : am_A) (i0 : Nat → Nat → Int32), MR B0 i0 σ → MRs B0 i0 σ' (am_fx am_P (d + 199) 64 0 [some (.ref 874), some (.int (i 0 (j + 1))), some (.int (i 0 (j + 2))), some (.int (i 0 (j + 3)))] [] (am_wI B0 i0)) (some (.int v)) 0) : Stq B i d 1087 j := by
  obtain ⟨B1, i1, e1, c1, l1, n1, f1⟩ := hF
  obtain ⟨B2, i2, e2, t2, c2, l2, f2⟩ := hM (am_sJ B1 892 0 v.toInt64) i1 (MR_of h.2.1 l1 Le.sJ f1)
  have hN := h.2.1.1.2
  have w := Sc_Lw h hs hO
  have w1 := Lw_le w l1 hN
  have hN1 := Nat.le_trans hN l1.1
  have w2 := Lw_le w1 (Le.tr Le.sJ l2.le) hN1
  have e0 : i1 0 = i 0 := funext fun k => f1 0 k (by omega)
  exact ⟨B2, i2, σ', ga_13 w w1 w2 hs.2.2.1 hs.2.2.2 e0 e1 e2 t2 (by rw [l2.2.2.2.2.2.2 892 (by omega)]; exact y_sJJ), fin_k hN hS c1 l1 n1 f1 Le.sJ rfl ⟨rfl, rfl⟩ c2 l2 f2⟩
theorem kx_13_1 (h : Sim B i σ) (hs : Sc B i L j) (hO : am_K B 892 = 22 ∧ am_L B 892 = 1) {v : Int32} (hF : FRs B i σ (am_fx am_P (d + 198) 304 0 [some (.ref 64), some (.int (i 0 (j + 1))), some (.int (i 0 (j + 2))), some (.int (i 0 (j + 3)))] [] (am_wI B i)) (.inr 1)) (hM : ∀ (B0 : am_A) (i0 : Nat → Nat → Int32), MR B0 i0 σ → MRs B0 i0 σ (am_fx am_P (d + 199) 64 0 [some (.ref 874), some (.int (i 0 (j + 1))), some (.int (i 0 (j + 2))), some (.int (i 0 (j + 3)))] [] (am_wI B0 i0)) (some (.int v)) 1) : Stq B i d 1087 j := by
  obtain ⟨B1, i1, e1, c1, l1, n1, f1⟩ := hF
  obtain ⟨B2, i2, e2, t2, c2, l2, f2⟩ := hM (am_nx B1) i1 (MR_of h.2.1 l1 Le.nx f1)
  have hN := h.2.1.1.2
  have w := Sc_Lw h hs hO
  have w1 := Lw_le w l1 hN
  have hN1 := Nat.le_trans hN l1.1
  have w1x := Lw_le w1 Le.nx hN1
  have w2 := Lw_le w1 (Le.tr Le.nx l2.le) hN1
  have e0 : i1 0 = i 0 := funext fun k => f1 0 k (by omega)
  exact ⟨B2, i2, σ, gx_13_1 w w1 w2 hs.2.2.1 hs.2.2.2 e0 w1x e1 e2 t2, fin_k hN h.2.2 c1 l1 n1 f1 Le.nx rfl ⟨rfl, rfl⟩ c2 l2 f2⟩
theorem kk_14 (h : Sim B i σ) (hs : Sc B i L j) (hO : am_K B 892 = 22 ∧ am_L B 892 = 1) (hS : SW σ') {v : Int32} (hF : FRs B i σ' (am_fx am_P (d + 198) 306 0 [some (.ref 64), some (.int (i 0 (j + 1))), some (.int (i 0 (j + 2))), some (.int (bt (i 0 (j + 3)))), none] [] (am_wI B i)) (.inl (some (.int v)))) (hM : ∀ (B0 : am_A) (i0 : Nat → Nat → Int32), MR B0 i0 σ → MRs B0 i0 σ' (am_fx am_P (d + 199) 72 0 [some (.ref 874), some (.int (i 0 (j + 1))), some (.int (i 0 (j + 2))), some (.int (bt (i 0 (j + 3)))), none] [] (am_wI B0 i0)) (some (.int v)) 0) : Stq B i d 1167 j := by
  obtain ⟨B1, i1, e1, c1, l1, n1, f1⟩ := hF
  obtain ⟨B2, i2, e2, t2, c2, l2, f2⟩ := hM (am_sJ B1 892 0 v.toInt64) i1 (MR_of h.2.1 l1 Le.sJ f1)
  have hN := h.2.1.1.2
  have w := Sc_Lw h hs hO
  have w1 := Lw_le w l1 hN
  have hN1 := Nat.le_trans hN l1.1
  have w2 := Lw_le w1 (Le.tr Le.sJ l2.le) hN1
  have e0 : i1 0 = i 0 := funext fun k => f1 0 k (by omega)
  exact ⟨B2, i2, σ', ga_14 w w1 w2 hs.2.2.1 hs.2.2.2 e0 e1 e2 t2 (by rw [l2.2.2.2.2.2.2 892 (by omega)]; exact y_sJJ), fin_k hN hS c1 l1 n1 f1 Le.sJ rfl ⟨rfl, rfl⟩ c2 l2 f2⟩
theorem kx_14_2 (h : Sim B i σ) (hs : Sc B i L j) (hO : am_K B 892 = 22 ∧ am_L B 892 = 1) {v : Int32} (hF : FRs B i σ (am_fx am_P (d + 198) 306 0 [some (.ref 64), some (.int (i 0 (j + 1))), some (.int (i 0 (j + 2))), some (.int (bt (i 0 (j + 3)))), none] [] (am_wI B i)) (.inr 2)) (hM : ∀ (B0 : am_A) (i0 : Nat → Nat → Int32), MR B0 i0 σ → MRs B0 i0 σ (am_fx am_P (d + 199) 72 0 [some (.ref 874), some (.int (i 0 (j + 1))), some (.int (i 0 (j + 2))), some (.int (bt (i 0 (j + 3)))), none] [] (am_wI B0 i0)) (some (.int v)) 1) : Stq B i d 1167 j := by
  obtain ⟨B1, i1, e1, c1, l1, n1, f1⟩ := hF
  obtain ⟨B2, i2, e2, t2, c2, l2, f2⟩ := hM (am_nx B1) i1 (MR_of h.2.1 l1 Le.nx f1)
  have hN := h.2.1.1.2
  have w := Sc_Lw h hs hO
  have w1 := Lw_le w l1 hN
  have hN1 := Nat.le_trans hN l1.1
  have w1x := Lw_le w1 Le.nx hN1
  have w2 := Lw_le w1 (Le.tr Le.nx l2.le) hN1
  have e0 : i1 0 = i 0 := funext fun k => f1 0 k (by omega)
  exact ⟨B2, i2, σ, gx_14_2 w w1 w2 hs.2.2.1 hs.2.2.2 e0 w1x e1 e2 t2, fin_k hN h.2.2 c1 l1 n1 f1 Le.nx rfl ⟨rfl, rfl⟩ c2 l2 f2⟩
theorem kx_14_3 (h : Sim B i σ) (hs : Sc B i L j) (hO : am_K B 892 = 22 ∧ am_L B 892 = 1) {v : Int32} (hF : FRs B i σ (am_fx am_P (d + 198) 306 0 [some (.ref 64), some (.int (i 0 (j + 1))), some (.int (i 0 (j + 2))), some (.int (bt (i 0 (j + 3)))), none] [] (am_wI B i)) (.inr 3)) (hM : ∀ (B0 : am_A) (i0 : Nat → Nat → Int32), MR B0 i0 σ → MRs B0 i0 σ (am_fx am_P (d + 199) 72 0 [some (.ref 874), some (.int (i 0 (j + 1))), some (.int (i 0 (j + 2))), some (.int (bt (i 0 (j + 3)))), none] [] (am_wI B0 i0)) (some (.int v)) 2) : Stq B i d 1167 j := by
  obtain ⟨B1, i1, e1, c1, l1, n1, f1⟩ := hF
  obtain ⟨B2, i2, e2, t2, c2, l2, f2⟩ := hM (am_nx B1) i1 (MR_of h.2.1 l1 Le.nx f1)
  have hN := h.2.1.1.2
  have w := Sc_Lw h hs hO
  have w1 := Lw_le w l1 hN
  have hN1 := Nat.le_trans hN l1.1
  have w1x := Lw_le w1 Le.nx hN1
  have w2 := Lw_le w1 (Le.tr Le.nx l2.le) hN1
  have e0 : i1 0 = i 0 := funext fun k => f1 0 k (by omega)
  exact ⟨B2, i2, σ, gx_14_3 w w1 w2 hs.2.2.1 hs.2.2.2 e0 w1x e1 e2 t2, fin_k hN h.2.2 c1 l1 n1 f1 Le.nx rfl ⟨rfl, rfl⟩ c2 l2 f2⟩
theorem kk_15 (h : Sim B i σ) (hs : Sc B i L j) (hO : am_K B 892 = 22 ∧ am_L B 892 = 1) (hS : SW σ') {v : Int32} (hF : FRs B i σ' (am_fx am_P (d + 198) 307 0 [some (.ref 64), some (.int (i 0 (j + 1))), some (.int (i 0 (j + 2))), some (.int (i 0 (j + 3))), some (.int (i 0 (j + 4))), some (.int (i 0 (j + 5))), none] [] (am_wI B i)) (.inl (some (.int v)))) (hM : ∀ (B0 : am_A) (i0 : Nat → Nat → Int32), MR B0 i0 σ → MRs B0 i0 σ' (am_fx am_P (d + 199) 73 0 [some (.ref 874), some (.int (i 0 (j + 1))), some (.int (i 0 (j + 2))), some (.int (i 0 (j + 3))), some (.int (i 0 (j + 4))), some (.int (i 0 (j + 5))), none, none] [] (am_wI B0 i0)) (some (.int v)) 0) : Stq B i d 1263 j := by
  obtain ⟨B1, i1, e1, c1, l1, n1, f1⟩ := hF
  obtain ⟨B2, i2, e2, t2, c2, l2, f2⟩ := hM (am_sJ B1 892 0 v.toInt64) i1 (MR_of h.2.1 l1 Le.sJ f1)
  have hN := h.2.1.1.2
  have w := Sc_Lw h hs hO
  have w1 := Lw_le w l1 hN
  have hN1 := Nat.le_trans hN l1.1
  have w2 := Lw_le w1 (Le.tr Le.sJ l2.le) hN1
  have e0 : i1 0 = i 0 := funext fun k => f1 0 k (by omega)
  exact ⟨B2, i2, σ', ga_15 w w1 w2 hs.2.2.1 hs.2.2.2 e0 e1 e2 t2 (by rw [l2.2.2.2.2.2.2 892 (by omega)]; exact y_sJJ), fin_k hN hS c1 l1 n1 f1 Le.sJ rfl ⟨rfl, rfl⟩ c2 l2 f2⟩
theorem kx_15_1 (h : Sim B i σ) (hs : Sc B i L j) (hO : am_K B 892 = 22 ∧ am_L B 892 = 1) {v : Int32} (hF : FRs B i σ (am_fx am_P (d + 198) 307 0 [some (.ref 64), some (.int (i 0 (j + 1))), some (.int (i 0 (j + 2))), some (.int (i 0 (j + 3))), some (.int (i 0 (j + 4))), some (.int (i 0 (j + 5))), none] [] (am_wI B i)) (.inr 1)) (hM : ∀ (B0 : am_A) (i0 : Nat → Nat → Int32), MR B0 i0 σ → MRs B0 i0 σ (am_fx am_P (d + 199) 73 0 [some (.ref 874), some (.int (i 0 (j + 1))), some (.int (i 0 (j + 2))), some (.int (i 0 (j + 3))), some (.int (i 0 (j + 4))), some (.int (i 0 (j + 5))), none, none] [] (am_wI B0 i0)) (some (.int v)) 1) : Stq B i d 1263 j := by
  obtain ⟨B1, i1, e1, c1, l1, n1, f1⟩ := hF
  obtain ⟨B2, i2, e2, t2, c2, l2, f2⟩ := hM (am_nx B1) i1 (MR_of h.2.1 l1 Le.nx f1)
  have hN := h.2.1.1.2
  have w := Sc_Lw h hs hO
  have w1 := Lw_le w l1 hN
  have hN1 := Nat.le_trans hN l1.1
  have w1x := Lw_le w1 Le.nx hN1
  have w2 := Lw_le w1 (Le.tr Le.nx l2.le) hN1
  have e0 : i1 0 = i 0 := funext fun k => f1 0 k (by omega)
  exact ⟨B2, i2, σ, gx_15_1 w w1 w2 hs.2.2.1 hs.2.2.2 e0 w1x e1 e2 t2, fin_k hN h.2.2 c1 l1 n1 f1 Le.nx rfl ⟨rfl, rfl⟩ c2 l2 f2⟩
theorem kx_15_2 (h : Sim B i σ) (hs : Sc B i L j) (hO : am_K B 892 = 22 ∧ am_L B 892 = 1) {v : Int32} (hF : FRs B i σ (am_fx am_P (d + 198) 307 0 [some (.ref 64), some (.int (i 0 (j + 1))), some (.int (i 0 (j + 2))), some (.int (i 0 (j + 3))), some (.int (i 0 (j + 4))), some (.int (i 0 (j + 5))), none] [] (am_wI B i)) (.inr 2)) (hM : ∀ (B0 : am_A) (i0 : Nat → Nat → Int32), MR B0 i0 σ → MRs B0 i0 σ (am_fx am_P (d + 199) 73 0 [some (.ref 874), some (.int (i 0 (j + 1))), some (.int (i 0 (j + 2))), some (.int (i 0 (j + 3))), some (.int (i 0 (j + 4))), some (.int (i 0 (j + 5))), none, none] [] (am_wI B0 i0)) (some (.int v)) 2) : Stq B i d 1263 j := by
  obtain ⟨B1, i1, e1, c1, l1, n1, f1⟩ := hF
  obtain ⟨B2, i2, e2, t2, c2, l2, f2⟩ := hM (am_nx B1) i1 (MR_of h.2.1 l1 Le.nx f1)
  have hN := h.2.1.1.2
  have w := Sc_Lw h hs hO
  have w1 := Lw_le w l1 hN
  have hN1 := Nat.le_trans hN l1.1
  have w1x := Lw_le w1 Le.nx hN1
  have w2 := Lw_le w1 (Le.tr Le.nx l2.le) hN1
  have e0 : i1 0 = i 0 := funext fun k => f1 0 k (by omega)
  exact ⟨B2, i2, σ, gx_15_2 w w1 w2 hs.2.2.1 hs.2.2.2 e0 w1x e1 e2 t2, fin_k hN h.2.2 c1 l1 n1 f1 Le.nx rfl ⟨rfl, rfl⟩ c2 l2 f2⟩
theorem kx_15_4 (h : Sim B i σ) (hs : Sc B i L j) (hO : am_K B 892 = 22 ∧ am_L B 892 = 1) {v : Int32} (hF : FRs B i σ (am_fx am_P (d + 198) 307 0 [some (.ref 64), some (.int (i 0 (j + 1))), some (.int (i 0 (j + 2))), some (.int (i 0 (j + 3))), some (.int (i 0 (j + 4))), some (.int (i 0 (j + 5))), none] [] (am_wI B i)) (.inr 4)) (hM : ∀ (B0 : am_A) (i0 : Nat → Nat → Int32), MR B0 i0 σ → MRs B0 i0 σ (am_fx am_P (d + 199) 73 0 [some (.ref 874), some (.int (i 0 (j + 1))), some (.int (i 0 (j + 2))), some (.int (i 0 (j + 3))), some (.int (i 0 (j + 4))), some (.int (i 0 (j + 5))), none, none] [] (am_wI B0 i0)) (some (.int v)) 3) : Stq B i d 1263 j := by
  obtain ⟨B1, i1, e1, c1, l1, n1, f1⟩ := hF
  obtain ⟨B2, i2, e2, t2, c2, l2, f2⟩ := hM (am_nx B1) i1 (MR_of h.2.1 l1 Le.nx f1)
  have hN := h.2.1.1.2
  have w := Sc_Lw h hs hO
  have w1 := Lw_le w l1 hN
  have hN1 := Nat.le_trans hN l1.1
  have w1x := Lw_le w1 Le.nx hN1
  have w2 := Lw_le w1 (Le.tr Le.nx l2.le) hN1
  have e0 : i1 0 = i 0 := funext fun k => f1 0 k (by omega)
  exact ⟨B2, i2, σ, gx_15_4 w w1 w2 hs.2.2.1 hs.2.2.2 e0 w1x e1 e2 t2, fin_k hN h.2.2 c1 l1 n1 f1 Le.nx rfl ⟨rfl, rfl⟩ c2 l2 f2⟩
theorem kk_16 (h : Sim B i σ) (hs : Sc B i L j) (hO : am_K B 892 = 22 ∧ am_L B 892 = 1) (hS : SW σ') (hF : FRs B i σ' (am_fx am_P (d + 198) 308 0 [some (.ref 64), some (.int (i 0 (j + 1)))] [] (am_wI B i)) (.inl none)) (hM : ∀ (B0 : am_A) (i0 : Nat → Nat → Int32), MR B0 i0 σ → MRs B0 i0 σ' (am_fx am_P (d + 199) 74 0 [some (.ref 874), some (.int (i 0 (j + 1)))] [] (am_wI B0 i0)) none 0) : Stq B i d 1367 j := by
  obtain ⟨B1, i1, e1, c1, l1, n1, f1⟩ := hF
  obtain ⟨B2, i2, e2, t2, c2, l2, f2⟩ := hM B1 i1 (MR_of h.2.1 l1 (Le.rf B1) f1)
  have hN := h.2.1.1.2
  have w := Sc_Lw h hs hO
  have w1 := Lw_le w l1 hN
  have hN1 := Nat.le_trans hN l1.1
  have w2 := Lw_le w1 (Le.tr (Le.rf B1) l2.le) hN1
  have e0 : i1 0 = i 0 := funext fun k => f1 0 k (by omega)
  exact ⟨B2, i2, σ', ga_16 w w1 w2 hs.2.2.1 hs.2.2.2 e0 e1 e2 t2, fin_k hN hS c1 l1 n1 f1 (Le.rf B1) rfl ⟨rfl, rfl⟩ c2 l2 f2⟩
theorem kx_16_2 (h : Sim B i σ) (hs : Sc B i L j) (hO : am_K B 892 = 22 ∧ am_L B 892 = 1) (hF : FRs B i σ (am_fx am_P (d + 198) 308 0 [some (.ref 64), some (.int (i 0 (j + 1)))] [] (am_wI B i)) (.inr 2)) (hM : ∀ (B0 : am_A) (i0 : Nat → Nat → Int32), MR B0 i0 σ → MRs B0 i0 σ (am_fx am_P (d + 199) 74 0 [some (.ref 874), some (.int (i 0 (j + 1)))] [] (am_wI B0 i0)) none 1) : Stq B i d 1367 j := by
  obtain ⟨B1, i1, e1, c1, l1, n1, f1⟩ := hF
  obtain ⟨B2, i2, e2, t2, c2, l2, f2⟩ := hM (am_nx B1) i1 (MR_of h.2.1 l1 Le.nx f1)
  have hN := h.2.1.1.2
  have w := Sc_Lw h hs hO
  have w1 := Lw_le w l1 hN
  have hN1 := Nat.le_trans hN l1.1
  have w1x := Lw_le w1 Le.nx hN1
  have w2 := Lw_le w1 (Le.tr Le.nx l2.le) hN1
  have e0 : i1 0 = i 0 := funext fun k => f1 0 k (by omega)
  exact ⟨B2, i2, σ, gx_16_2 w w1 w2 hs.2.2.1 hs.2.2.2 e0 w1x e1 e2 t2, fin_k hN h.2.2 c1 l1 n1 f1 Le.nx rfl ⟨rfl, rfl⟩ c2 l2 f2⟩
theorem kk_17 (h : Sim B i σ) (hs : Sc B i L j) (hO : am_K B 892 = 22 ∧ am_L B 892 = 1) (hS : SW σ') {v : Int32} (hF : FRs B i σ' (am_fx am_P (d + 198) 309 0 [some (.ref 64), some (.int (i 0 (j + 1))), none] [] (am_wI B i)) (.inl (some (.int v)))) (hM : ∀ (B0 : am_A) (i0 : Nat → Nat → Int32), MR B0 i0 σ → MRs B0 i0 σ' (am_fx am_P (d + 199) 76 0 [some (.ref 874), some (.int (i 0 (j + 1)))] [] (am_wI B0 i0)) (some (.int v)) 0) : Stq B i d 1403 j := by
  obtain ⟨B1, i1, e1, c1, l1, n1, f1⟩ := hF
  obtain ⟨B2, i2, e2, t2, c2, l2, f2⟩ := hM (am_sJ B1 892 0 (bl v)) i1 (MR_of h.2.1 l1 Le.sJ f1)
  have hN := h.2.1.1.2
  have w := Sc_Lw h hs hO
  have w1 := Lw_le w l1 hN
  have hN1 := Nat.le_trans hN l1.1
  have w2 := Lw_le w1 (Le.tr Le.sJ l2.le) hN1
  have e0 : i1 0 = i 0 := funext fun k => f1 0 k (by omega)
  exact ⟨B2, i2, σ', ga_17 w w1 w2 hs.2.2.1 hs.2.2.2 e0 e1 e2 t2 (by rw [l2.2.2.2.2.2.2 892 (by omega)]; exact y_sJJ), fin_k hN hS c1 l1 n1 f1 Le.sJ rfl ⟨rfl, rfl⟩ c2 l2 f2⟩
theorem kx_17_1 (h : Sim B i σ) (hs : Sc B i L j) (hO : am_K B 892 = 22 ∧ am_L B 892 = 1) {v : Int32} (hF : FRs B i σ (am_fx am_P (d + 198) 309 0 [some (.ref 64), some (.int (i 0 (j + 1))), none] [] (am_wI B i)) (.inr 1)) (hM : ∀ (B0 : am_A) (i0 : Nat → Nat → Int32), MR B0 i0 σ → MRs B0 i0 σ (am_fx am_P (d + 199) 76 0 [some (.ref 874), some (.int (i 0 (j + 1)))] [] (am_wI B0 i0)) (some (.int v)) 1) : Stq B i d 1403 j := by
  obtain ⟨B1, i1, e1, c1, l1, n1, f1⟩ := hF
  obtain ⟨B2, i2, e2, t2, c2, l2, f2⟩ := hM (am_nx B1) i1 (MR_of h.2.1 l1 Le.nx f1)
  have hN := h.2.1.1.2
  have w := Sc_Lw h hs hO
  have w1 := Lw_le w l1 hN
  have hN1 := Nat.le_trans hN l1.1
  have w1x := Lw_le w1 Le.nx hN1
  have w2 := Lw_le w1 (Le.tr Le.nx l2.le) hN1
  have e0 : i1 0 = i 0 := funext fun k => f1 0 k (by omega)
  exact ⟨B2, i2, σ, gx_17_1 w w1 w2 hs.2.2.1 hs.2.2.2 e0 w1x e1 e2 t2, fin_k hN h.2.2 c1 l1 n1 f1 Le.nx rfl ⟨rfl, rfl⟩ c2 l2 f2⟩
theorem kk_18 (h : Sim B i σ) (hs : Sc B i L j) (hO : am_K B 892 = 22 ∧ am_L B 892 = 1) (hS : SW σ') {v : Int32} (hF : FRs B i σ' (am_fx am_P (d + 198) 310 0 [some (.ref 64), some (.int (i 0 (j + 1))), some (.int (i 0 (j + 2))), some (.int (i 0 (j + 3))), some (.int (bt (i 0 (j + 4)))), none, none, none] [] (am_wI B i)) (.inl (some (.int v)))) (hM : ∀ (B0 : am_A) (i0 : Nat → Nat → Int32), MR B0 i0 σ → MRs B0 i0 σ' (am_fx am_P (d + 199) 80 0 [some (.ref 874), some (.int (i 0 (j + 1))), some (.int (i 0 (j + 2))), some (.int (i 0 (j + 3))), some (.int (bt (i 0 (j + 4)))), none, none] [] (am_wI B0 i0)) (some (.int v)) 0) : Stq B i d 1466 j := by
  obtain ⟨B1, i1, e1, c1, l1, n1, f1⟩ := hF
  obtain ⟨B2, i2, e2, t2, c2, l2, f2⟩ := hM (am_sJ B1 892 0 (bl v)) i1 (MR_of h.2.1 l1 Le.sJ f1)
  have hN := h.2.1.1.2
  have w := Sc_Lw h hs hO
  have w1 := Lw_le w l1 hN
  have hN1 := Nat.le_trans hN l1.1
  have w2 := Lw_le w1 (Le.tr Le.sJ l2.le) hN1
  have e0 : i1 0 = i 0 := funext fun k => f1 0 k (by omega)
  exact ⟨B2, i2, σ', ga_18 w w1 w2 hs.2.2.1 hs.2.2.2 e0 e1 e2 t2 (by rw [l2.2.2.2.2.2.2 892 (by omega)]; exact y_sJJ), fin_k hN hS c1 l1 n1 f1 Le.sJ rfl ⟨rfl, rfl⟩ c2 l2 f2⟩
theorem kx_18_1 (h : Sim B i σ) (hs : Sc B i L j) (hO : am_K B 892 = 22 ∧ am_L B 892 = 1) {v : Int32} (hF : FRs B i σ (am_fx am_P (d + 198) 310 0 [some (.ref 64), some (.int (i 0 (j + 1))), some (.int (i 0 (j + 2))), some (.int (i 0 (j + 3))), some (.int (bt (i 0 (j + 4)))), none, none, none] [] (am_wI B i)) (.inr 1)) (hM : ∀ (B0 : am_A) (i0 : Nat → Nat → Int32), MR B0 i0 σ → MRs B0 i0 σ (am_fx am_P (d + 199) 80 0 [some (.ref 874), some (.int (i 0 (j + 1))), some (.int (i 0 (j + 2))), some (.int (i 0 (j + 3))), some (.int (bt (i 0 (j + 4)))), none, none] [] (am_wI B0 i0)) (some (.int v)) 1) : Stq B i d 1466 j := by
  obtain ⟨B1, i1, e1, c1, l1, n1, f1⟩ := hF
  obtain ⟨B2, i2, e2, t2, c2, l2, f2⟩ := hM (am_nx B1) i1 (MR_of h.2.1 l1 Le.nx f1)
  have hN := h.2.1.1.2
  have w := Sc_Lw h hs hO
  have w1 := Lw_le w l1 hN
  have hN1 := Nat.le_trans hN l1.1
  have w1x := Lw_le w1 Le.nx hN1
  have w2 := Lw_le w1 (Le.tr Le.nx l2.le) hN1
  have e0 : i1 0 = i 0 := funext fun k => f1 0 k (by omega)
  exact ⟨B2, i2, σ, gx_18_1 w w1 w2 hs.2.2.1 hs.2.2.2 e0 w1x e1 e2 t2, fin_k hN h.2.2 c1 l1 n1 f1 Le.nx rfl ⟨rfl, rfl⟩ c2 l2 f2⟩
theorem kk_19 (h : Sim B i σ) (hs : Sc B i L j) (hO : am_K B 892 = 22 ∧ am_L B 892 = 1) (hS : SW σ') {v : Int32} (hF : FRs B i σ' (am_fx am_P (d + 198) 311 0 [some (.ref 64), some (.int (i 0 (j + 1))), some (.int (i 0 (j + 2))), none, none] [] (am_wI B i)) (.inl (some (.int v)))) (hM : ∀ (B0 : am_A) (i0 : Nat → Nat → Int32), MR B0 i0 σ → MRs B0 i0 σ' (am_fx am_P (d + 199) 82 0 [some (.ref 874), some (.int (i 0 (j + 1))), some (.int (i 0 (j + 2))), none, none] [] (am_wI B0 i0)) (some (.int v)) 0) : Stq B i d 1581 j := by
  obtain ⟨B1, i1, e1, c1, l1, n1, f1⟩ := hF
  obtain ⟨B2, i2, e2, t2, c2, l2, f2⟩ := hM (am_sJ B1 892 0 v.toInt64) i1 (MR_of h.2.1 l1 Le.sJ f1)
  have hN := h.2.1.1.2
  have w := Sc_Lw h hs hO
  have w1 := Lw_le w l1 hN
  have hN1 := Nat.le_trans hN l1.1
  have w2 := Lw_le w1 (Le.tr Le.sJ l2.le) hN1
  have e0 : i1 0 = i 0 := funext fun k => f1 0 k (by omega)
  exact ⟨B2, i2, σ', ga_19 w w1 w2 hs.2.2.1 hs.2.2.2 e0 e1 e2 t2 (by rw [l2.2.2.2.2.2.2 892 (by omega)]; exact y_sJJ), fin_k hN hS c1 l1 n1 f1 Le.sJ rfl ⟨rfl, rfl⟩ c2 l2 f2⟩
theorem kx_19_1 (h : Sim B i σ) (hs : Sc B i L j) (hO : am_K B 892 = 22 ∧ am_L B 892 = 1) {v : Int32} (hF : FRs B i σ (am_fx am_P (d + 198) 311 0 [some (.ref 64), some (.int (i 0 (j + 1))), some (.int (i 0 (j + 2))), none, none] [] (am_wI B i)) (.inr 1)) (hM : ∀ (B0 : am_A) (i0 : Nat → Nat → Int32), MR B0 i0 σ → MRs B0 i0 σ (am_fx am_P (d + 199) 82 0 [some (.ref 874), some (.int (i 0 (j + 1))), some (.int (i 0 (j + 2))), none, none] [] (am_wI B0 i0)) (some (.int v)) 1) : Stq B i d 1581 j := by
  obtain ⟨B1, i1, e1, c1, l1, n1, f1⟩ := hF
  obtain ⟨B2, i2, e2, t2, c2, l2, f2⟩ := hM (am_nx B1) i1 (MR_of h.2.1 l1 Le.nx f1)
  have hN := h.2.1.1.2
  have w := Sc_Lw h hs hO
  have w1 := Lw_le w l1 hN
  have hN1 := Nat.le_trans hN l1.1
  have w1x := Lw_le w1 Le.nx hN1
  have w2 := Lw_le w1 (Le.tr Le.nx l2.le) hN1
  have e0 : i1 0 = i 0 := funext fun k => f1 0 k (by omega)
  exact ⟨B2, i2, σ, gx_19_1 w w1 w2 hs.2.2.1 hs.2.2.2 e0 w1x e1 e2 t2, fin_k hN h.2.2 c1 l1 n1 f1 Le.nx rfl ⟨rfl, rfl⟩ c2 l2 f2⟩
theorem kk_20 (h : Sim B i σ) (hs : Sc B i L j) (hO : am_K B 892 = 22 ∧ am_L B 892 = 1) (hS : SW σ') {v : Int32} (hF : FRs B i σ' (am_fx am_P (d + 198) 312 0 [some (.ref 64), some (.int (i 0 (j + 1))), some (.int (bt (i 0 (j + 2))))] [] (am_wI B i)) (.inl (some (.int v)))) (hM : ∀ (B0 : am_A) (i0 : Nat → Nat → Int32), MR B0 i0 σ → MRs B0 i0 σ' (am_fx am_P (d + 199) 88 0 [some (.ref 874), some (.int (i 0 (j + 1))), some (.int (bt (i 0 (j + 2))))] [] (am_wI B0 i0)) (some (.int v)) 0) : Stq B i d 1649 j := by
  obtain ⟨B1, i1, e1, c1, l1, n1, f1⟩ := hF
  obtain ⟨B2, i2, e2, t2, c2, l2, f2⟩ := hM (am_sJ B1 892 0 v.toInt64) i1 (MR_of h.2.1 l1 Le.sJ f1)
  have hN := h.2.1.1.2
  have w := Sc_Lw h hs hO
  have w1 := Lw_le w l1 hN
  have hN1 := Nat.le_trans hN l1.1
  have w2 := Lw_le w1 (Le.tr Le.sJ l2.le) hN1
  have e0 : i1 0 = i 0 := funext fun k => f1 0 k (by omega)
  exact ⟨B2, i2, σ', ga_20 w w1 w2 hs.2.2.1 hs.2.2.2 e0 e1 e2 t2 (by rw [l2.2.2.2.2.2.2 892 (by omega)]; exact y_sJJ), fin_k hN hS c1 l1 n1 f1 Le.sJ rfl ⟨rfl, rfl⟩ c2 l2 f2⟩
theorem kx_20_1 (h : Sim B i σ) (hs : Sc B i L j) (hO : am_K B 892 = 22 ∧ am_L B 892 = 1) {v : Int32} (hF : FRs B i σ (am_fx am_P (d + 198) 312 0 [some (.ref 64), some (.int (i 0 (j + 1))), some (.int (bt (i 0 (j + 2))))] [] (am_wI B i)) (.inr 1)) (hM : ∀ (B0 : am_A) (i0 : Nat → Nat → Int32), MR B0 i0 σ → MRs B0 i0 σ (am_fx am_P (d + 199) 88 0 [some (.ref 874), some (.int (i 0 (j + 1))), some (.int (bt (i 0 (j + 2))))] [] (am_wI B0 i0)) (some (.int v)) 1) : Stq B i d 1649 j := by
  obtain ⟨B1, i1, e1, c1, l1, n1, f1⟩ := hF
  obtain ⟨B2, i2, e2, t2, c2, l2, f2⟩ := hM (am_nx B1) i1 (MR_of h.2.1 l1 Le.nx f1)
  have hN := h.2.1.1.2
  have w := Sc_Lw h hs hO
  have w1 := Lw_le w l1 hN
  have hN1 := Nat.le_trans hN l1.1
  have w1x := Lw_le w1 Le.nx hN1
  have w2 := Lw_le w1 (Le.tr Le.nx l2.le) hN1
  have e0 : i1 0 = i 0 := funext fun k => f1 0 k (by omega)
  exact ⟨B2, i2, σ, gx_20_1 w w1 w2 hs.2.2.1 hs.2.2.2 e0 w1x e1 e2 t2, fin_k hN h.2.2 c1 l1 n1 f1 Le.nx rfl ⟨rfl, rfl⟩ c2 l2 f2⟩
theorem kk_21 (h : Sim B i σ) (hs : Sc B i L j) (hO : am_K B 892 = 22 ∧ am_L B 892 = 1) (hS : SW σ') {v : Int32} (hF : FRs B i σ' (am_fx am_P (d + 198) 313 0 [some (.ref 64), some (.int (i 0 (j + 1))), some (.int (i 0 (j + 2))), some (.int (bt (i 0 (j + 3))))] [] (am_wI B i)) (.inl (some (.int v)))) (hM : ∀ (B0 : am_A) (i0 : Nat → Nat → Int32), MR B0 i0 σ → MRs B0 i0 σ' (am_fx am_P (d + 199) 89 0 [some (.ref 874), some (.int (i 0 (j + 1))), some (.int (i 0 (j + 2))), some (.int (bt (i 0 (j + 3)))), none, none] [] (am_wI B0 i0)) (some (.int v)) 0) : Stq B i d 1733 j := by
  obtain ⟨B1, i1, e1, c1, l1, n1, f1⟩ := hF
  obtain ⟨B2, i2, e2, t2, c2, l2, f2⟩ := hM (am_sJ B1 892 0 v.toInt64) i1 (MR_of h.2.1 l1 Le.sJ f1)
  have hN := h.2.1.1.2
  have w := Sc_Lw h hs hO
  have w1 := Lw_le w l1 hN
  have hN1 := Nat.le_trans hN l1.1
  have w2 := Lw_le w1 (Le.tr Le.sJ l2.le) hN1
  have e0 : i1 0 = i 0 := funext fun k => f1 0 k (by omega)
  exact ⟨B2, i2, σ', ga_21 w w1 w2 hs.2.2.1 hs.2.2.2 e0 e1 e2 t2 (by rw [l2.2.2.2.2.2.2 892 (by omega)]; exact y_sJJ), fin_k hN hS c1 l1 n1 f1 Le.sJ rfl ⟨rfl, rfl⟩ c2 l2 f2⟩
theorem kx_21_1 (h : Sim B i σ) (hs : Sc B i L j) (hO : am_K B 892 = 22 ∧ am_L B 892 = 1) {v : Int32} (hF : FRs B i σ (am_fx am_P (d + 198) 313 0 [some (.ref 64), some (.int (i 0 (j + 1))), some (.int (i 0 (j + 2))), some (.int (bt (i 0 (j + 3))))] [] (am_wI B i)) (.inr 1)) (hM : ∀ (B0 : am_A) (i0 : Nat → Nat → Int32), MR B0 i0 σ → MRs B0 i0 σ (am_fx am_P (d + 199) 89 0 [some (.ref 874), some (.int (i 0 (j + 1))), some (.int (i 0 (j + 2))), some (.int (bt (i 0 (j + 3)))), none, none] [] (am_wI B0 i0)) (some (.int v)) 1) : Stq B i d 1733 j := by
  obtain ⟨B1, i1, e1, c1, l1, n1, f1⟩ := hF
  obtain ⟨B2, i2, e2, t2, c2, l2, f2⟩ := hM (am_nx B1) i1 (MR_of h.2.1 l1 Le.nx f1)
  have hN := h.2.1.1.2
  have w := Sc_Lw h hs hO
  have w1 := Lw_le w l1 hN
  have hN1 := Nat.le_trans hN l1.1
  have w1x := Lw_le w1 Le.nx hN1
  have w2 := Lw_le w1 (Le.tr Le.nx l2.le) hN1
  have e0 : i1 0 = i 0 := funext fun k => f1 0 k (by omega)
  exact ⟨B2, i2, σ, gx_21_1 w w1 w2 hs.2.2.1 hs.2.2.2 e0 w1x e1 e2 t2, fin_k hN h.2.2 c1 l1 n1 f1 Le.nx rfl ⟨rfl, rfl⟩ c2 l2 f2⟩
theorem kk_22 (h : Sim B i σ) (hs : Sc B i L j) (hO : am_K B 892 = 22 ∧ am_L B 892 = 1) (hS : SW σ') {v : Int32} (hF : FRs B i σ' (am_fx am_P (d + 198) 314 0 [some (.ref 64), some (.int (i 0 (j + 1))), some (.int (i 0 (j + 2))), none] [] (am_wI B i)) (.inl (some (.int v)))) (hM : ∀ (B0 : am_A) (i0 : Nat → Nat → Int32), MR B0 i0 σ → MRs B0 i0 σ' (am_fx am_P (d + 199) 93 0 [some (.ref 874), some (.int (i 0 (j + 1))), some (.int (i 0 (j + 2)))] [] (am_wI B0 i0)) (some (.int v)) 0) : Stq B i d 1829 j := by
  obtain ⟨B1, i1, e1, c1, l1, n1, f1⟩ := hF
  obtain ⟨B2, i2, e2, t2, c2, l2, f2⟩ := hM (am_sJ B1 892 0 v.toInt64) i1 (MR_of h.2.1 l1 Le.sJ f1)
  have hN := h.2.1.1.2
  have w := Sc_Lw h hs hO
  have w1 := Lw_le w l1 hN
  have hN1 := Nat.le_trans hN l1.1
  have w2 := Lw_le w1 (Le.tr Le.sJ l2.le) hN1
  have e0 : i1 0 = i 0 := funext fun k => f1 0 k (by omega)
  exact ⟨B2, i2, σ', ga_22 w w1 w2 hs.2.2.1 hs.2.2.2 e0 e1 e2 t2 (by rw [l2.2.2.2.2.2.2 892 (by omega)]; exact y_sJJ), fin_k hN hS c1 l1 n1 f1 Le.sJ rfl ⟨rfl, rfl⟩ c2 l2 f2⟩
theorem kx_22_1 (h : Sim B i σ) (hs : Sc B i L j) (hO : am_K B 892 = 22 ∧ am_L B 892 = 1) {v : Int32} (hF : FRs B i σ (am_fx am_P (d + 198) 314 0 [some (.ref 64), some (.int (i 0 (j + 1))), some (.int (i 0 (j + 2))), none] [] (am_wI B i)) (.inr 1)) (hM : ∀ (B0 : am_A) (i0 : Nat → Nat → Int32), MR B0 i0 σ → MRs B0 i0 σ (am_fx am_P (d + 199) 93 0 [some (.ref 874), some (.int (i 0 (j + 1))), some (.int (i 0 (j + 2)))] [] (am_wI B0 i0)) (some (.int v)) 1) : Stq B i d 1829 j := by
  obtain ⟨B1, i1, e1, c1, l1, n1, f1⟩ := hF
  obtain ⟨B2, i2, e2, t2, c2, l2, f2⟩ := hM (am_nx B1) i1 (MR_of h.2.1 l1 Le.nx f1)
  have hN := h.2.1.1.2
  have w := Sc_Lw h hs hO
  have w1 := Lw_le w l1 hN
  have hN1 := Nat.le_trans hN l1.1
  have w1x := Lw_le w1 Le.nx hN1
  have w2 := Lw_le w1 (Le.tr Le.nx l2.le) hN1
  have e0 : i1 0 = i 0 := funext fun k => f1 0 k (by omega)
  exact ⟨B2, i2, σ, gx_22_1 w w1 w2 hs.2.2.1 hs.2.2.2 e0 w1x e1 e2 t2, fin_k hN h.2.2 c1 l1 n1 f1 Le.nx rfl ⟨rfl, rfl⟩ c2 l2 f2⟩
theorem kk_23 (h : Sim B i σ) (hs : Sc B i L j) (hO : am_K B 892 = 22 ∧ am_L B 892 = 1) (hS : SW σ') {v : Int32} (hF : FRs B i σ' (am_fx am_P (d + 198) 315 0 [some (.ref 64), some (.int (i 0 (j + 1))), some (.int (i 0 (j + 2))), none, none] [] (am_wI B i)) (.inl (some (.int v)))) (hM : ∀ (B0 : am_A) (i0 : Nat → Nat → Int32), MR B0 i0 σ → MRs B0 i0 σ' (am_fx am_P (d + 199) 94 0 [some (.ref 874), some (.int (i 0 (j + 1))), some (.int (i 0 (j + 2))), none, none, none, none] [] (am_wI B0 i0)) (some (.int v)) 0) : Stq B i d 1897 j := by
  obtain ⟨B1, i1, e1, c1, l1, n1, f1⟩ := hF
  obtain ⟨B2, i2, e2, t2, c2, l2, f2⟩ := hM (am_sJ B1 892 0 v.toInt64) i1 (MR_of h.2.1 l1 Le.sJ f1)
  have hN := h.2.1.1.2
  have w := Sc_Lw h hs hO
  have w1 := Lw_le w l1 hN
  have hN1 := Nat.le_trans hN l1.1
  have w2 := Lw_le w1 (Le.tr Le.sJ l2.le) hN1
  have e0 : i1 0 = i 0 := funext fun k => f1 0 k (by omega)
  exact ⟨B2, i2, σ', ga_23 w w1 w2 hs.2.2.1 hs.2.2.2 e0 e1 e2 t2 (by rw [l2.2.2.2.2.2.2 892 (by omega)]; exact y_sJJ), fin_k hN hS c1 l1 n1 f1 Le.sJ rfl ⟨rfl, rfl⟩ c2 l2 f2⟩
theorem kx_23_1 (h : Sim B i σ) (hs : Sc B i L j) (hO : am_K B 892 = 22 ∧ am_L B 892 = 1) {v : Int32} (hF : FRs B i σ (am_fx am_P (d + 198) 315 0 [some (.ref 64), some (.int (i 0 (j + 1))), some (.int (i 0 (j + 2))), none, none] [] (am_wI B i)) (.inr 1)) (hM : ∀ (B0 : am_A) (i0 : Nat → Nat → Int32), MR B0 i0 σ → MRs B0 i0 σ (am_fx am_P (d + 199) 94 0 [some (.ref 874), some (.int (i 0 (j + 1))), some (.int (i 0 (j + 2))), none, none, none, none] [] (am_wI B0 i0)) (some (.int v)) 1) : Stq B i d 1897 j := by
  obtain ⟨B1, i1, e1, c1, l1, n1, f1⟩ := hF
  obtain ⟨B2, i2, e2, t2, c2, l2, f2⟩ := hM (am_nx B1) i1 (MR_of h.2.1 l1 Le.nx f1)
  have hN := h.2.1.1.2
  have w := Sc_Lw h hs hO
  have w1 := Lw_le w l1 hN
  have hN1 := Nat.le_trans hN l1.1
  have w1x := Lw_le w1 Le.nx hN1
  have w2 := Lw_le w1 (Le.tr Le.nx l2.le) hN1
  have e0 : i1 0 = i 0 := funext fun k => f1 0 k (by omega)
  exact ⟨B2, i2, σ, gx_23_1 w w1 w2 hs.2.2.1 hs.2.2.2 e0 w1x e1 e2 t2, fin_k hN h.2.2 c1 l1 n1 f1 Le.nx rfl ⟨rfl, rfl⟩ c2 l2 f2⟩
theorem kk_24 (h : Sim B i σ) (hs : Sc B i L j) (hO : am_K B 892 = 22 ∧ am_L B 892 = 1) (hS : SW σ') {v : Int32} (hF : FRs B i σ' (am_fx am_P (d + 198) 316 0 [some (.ref 64), some (.int (i 0 (j + 1))), none] [] (am_wI B i)) (.inl (some (.int v)))) (hM : ∀ (B0 : am_A) (i0 : Nat → Nat → Int32), MR B0 i0 σ → MRs B0 i0 σ' (am_fx am_P (d + 199) 95 0 [some (.ref 874), some (.int (i 0 (j + 1)))] [] (am_wI B0 i0)) (some (.int v)) 0) : Stq B i d 1965 j := by
  obtain ⟨B1, i1, e1, c1, l1, n1, f1⟩ := hF
  obtain ⟨B2, i2, e2, t2, c2, l2, f2⟩ := hM (am_sJ B1 892 0 (bl v)) i1 (MR_of h.2.1 l1 Le.sJ f1)
  have hN := h.2.1.1.2
  have w := Sc_Lw h hs hO
  have w1 := Lw_le w l1 hN
  have hN1 := Nat.le_trans hN l1.1
  have w2 := Lw_le w1 (Le.tr Le.sJ l2.le) hN1
  have e0 : i1 0 = i 0 := funext fun k => f1 0 k (by omega)
  exact ⟨B2, i2, σ', ga_24 w w1 w2 hs.2.2.1 hs.2.2.2 e0 e1 e2 t2 (by rw [l2.2.2.2.2.2.2 892 (by omega)]; exact y_sJJ), fin_k hN hS c1 l1 n1 f1 Le.sJ rfl ⟨rfl, rfl⟩ c2 l2 f2⟩
theorem kx_24_1 (h : Sim B i σ) (hs : Sc B i L j) (hO : am_K B 892 = 22 ∧ am_L B 892 = 1) {v : Int32} (hF : FRs B i σ (am_fx am_P (d + 198) 316 0 [some (.ref 64), some (.int (i 0 (j + 1))), none] [] (am_wI B i)) (.inr 1)) (hM : ∀ (B0 : am_A) (i0 : Nat → Nat → Int32), MR B0 i0 σ → MRs B0 i0 σ (am_fx am_P (d + 199) 95 0 [some (.ref 874), some (.int (i 0 (j + 1)))] [] (am_wI B0 i0)) (some (.int v)) 1) : Stq B i d 1965 j := by
  obtain ⟨B1, i1, e1, c1, l1, n1, f1⟩ := hF
  obtain ⟨B2, i2, e2, t2, c2, l2, f2⟩ := hM (am_nx B1) i1 (MR_of h.2.1 l1 Le.nx f1)
  have hN := h.2.1.1.2
  have w := Sc_Lw h hs hO
  have w1 := Lw_le w l1 hN
  have hN1 := Nat.le_trans hN l1.1
  have w1x := Lw_le w1 Le.nx hN1
  have w2 := Lw_le w1 (Le.tr Le.nx l2.le) hN1
  have e0 : i1 0 = i 0 := funext fun k => f1 0 k (by omega)
  exact ⟨B2, i2, σ, gx_24_1 w w1 w2 hs.2.2.1 hs.2.2.2 e0 w1x e1 e2 t2, fin_k hN h.2.2 c1 l1 n1 f1 Le.nx rfl ⟨rfl, rfl⟩ c2 l2 f2⟩
theorem kk_25 (h : Sim B i σ) (hs : Sc B i L j) (hO : am_K B 892 = 22 ∧ am_L B 892 = 1) (hS : SW σ') {v : Int32} (hF : FRs B i σ' (am_fx am_P (d + 198) 317 0 [some (.ref 64), some (.int (i 0 (j + 1)))] [] (am_wI B i)) (.inl (some (.int v)))) (hM : ∀ (B0 : am_A) (i0 : Nat → Nat → Int32), MR B0 i0 σ → MRs B0 i0 σ' (am_fx am_P (d + 199) 97 0 [some (.ref 874), some (.int (i 0 (j + 1)))] [] (am_wI B0 i0)) (some (.int v)) 0) : Stq B i d 2028 j := by
  obtain ⟨B1, i1, e1, c1, l1, n1, f1⟩ := hF
  obtain ⟨B2, i2, e2, t2, c2, l2, f2⟩ := hM (am_sJ B1 892 0 v.toInt64) i1 (MR_of h.2.1 l1 Le.sJ f1)
  have hN := h.2.1.1.2
  have w := Sc_Lw h hs hO
  have w1 := Lw_le w l1 hN
  have hN1 := Nat.le_trans hN l1.1
  have w2 := Lw_le w1 (Le.tr Le.sJ l2.le) hN1
  have e0 : i1 0 = i 0 := funext fun k => f1 0 k (by omega)
  exact ⟨B2, i2, σ', ga_25 w w1 w2 hs.2.2.1 hs.2.2.2 e0 e1 e2 t2 (by rw [l2.2.2.2.2.2.2 892 (by omega)]; exact y_sJJ), fin_k hN hS c1 l1 n1 f1 Le.sJ rfl ⟨rfl, rfl⟩ c2 l2 f2⟩
theorem kx_25_2 (h : Sim B i σ) (hs : Sc B i L j) (hO : am_K B 892 = 22 ∧ am_L B 892 = 1) {v : Int32} (hF : FRs B i σ (am_fx am_P (d + 198) 317 0 [some (.ref 64), some (.int (i 0 (j + 1)))] [] (am_wI B i)) (.inr 2)) (hM : ∀ (B0 : am_A) (i0 : Nat → Nat → Int32), MR B0 i0 σ → MRs B0 i0 σ (am_fx am_P (d + 199) 97 0 [some (.ref 874), some (.int (i 0 (j + 1)))] [] (am_wI B0 i0)) (some (.int v)) 1) : Stq B i d 2028 j := by
  obtain ⟨B1, i1, e1, c1, l1, n1, f1⟩ := hF
  obtain ⟨B2, i2, e2, t2, c2, l2, f2⟩ := hM (am_nx B1) i1 (MR_of h.2.1 l1 Le.nx f1)
  have hN := h.2.1.1.2
  have w := Sc_Lw h hs hO
  have w1 := Lw_le w l1 hN
  have hN1 := Nat.le_trans hN l1.1
  have w1x := Lw_le w1 Le.nx hN1
  have w2 := Lw_le w1 (Le.tr Le.nx l2.le) hN1
  have e0 : i1 0 = i 0 := funext fun k => f1 0 k (by omega)
  exact ⟨B2, i2, σ, gx_25_2 w w1 w2 hs.2.2.1 hs.2.2.2 e0 w1x e1 e2 t2, fin_k hN h.2.2 c1 l1 n1 f1 Le.nx rfl ⟨rfl, rfl⟩ c2 l2 f2⟩
theorem kx_25_3 (h : Sim B i σ) (hs : Sc B i L j) (hO : am_K B 892 = 22 ∧ am_L B 892 = 1) {v : Int32} (hF : FRs B i σ (am_fx am_P (d + 198) 317 0 [some (.ref 64), some (.int (i 0 (j + 1)))] [] (am_wI B i)) (.inr 3)) (hM : ∀ (B0 : am_A) (i0 : Nat → Nat → Int32), MR B0 i0 σ → MRs B0 i0 σ (am_fx am_P (d + 199) 97 0 [some (.ref 874), some (.int (i 0 (j + 1)))] [] (am_wI B0 i0)) (some (.int v)) 2) : Stq B i d 2028 j := by
  obtain ⟨B1, i1, e1, c1, l1, n1, f1⟩ := hF
  obtain ⟨B2, i2, e2, t2, c2, l2, f2⟩ := hM (am_nx B1) i1 (MR_of h.2.1 l1 Le.nx f1)
  have hN := h.2.1.1.2
  have w := Sc_Lw h hs hO
  have w1 := Lw_le w l1 hN
  have hN1 := Nat.le_trans hN l1.1
  have w1x := Lw_le w1 Le.nx hN1
  have w2 := Lw_le w1 (Le.tr Le.nx l2.le) hN1
  have e0 : i1 0 = i 0 := funext fun k => f1 0 k (by omega)
  exact ⟨B2, i2, σ, gx_25_3 w w1 w2 hs.2.2.1 hs.2.2.2 e0 w1x e1 e2 t2, fin_k hN h.2.2 c1 l1 n1 f1 Le.nx rfl ⟨rfl, rfl⟩ c2 l2 f2⟩
theorem kk_26 (h : Sim B i σ) (hs : Sc B i L j) (hO : am_K B 892 = 22 ∧ am_L B 892 = 1) (hS : SW σ') (hF : FRs B i σ' (am_fx am_P (d + 198) 318 0 [some (.ref 64), some (.int (i 0 (j + 1))), some (.int (i 0 (j + 2)))] [] (am_wI B i)) (.inl none)) (hM : ∀ (B0 : am_A) (i0 : Nat → Nat → Int32), MR B0 i0 σ → MRs B0 i0 σ' (am_fx am_P (d + 199) 98 0 [some (.ref 874), some (.int (i 0 (j + 1))), some (.int (i 0 (j + 2)))] [] (am_wI B0 i0)) none 0) : Stq B i d 2084 j := by
  obtain ⟨B1, i1, e1, c1, l1, n1, f1⟩ := hF
  obtain ⟨B2, i2, e2, t2, c2, l2, f2⟩ := hM B1 i1 (MR_of h.2.1 l1 (Le.rf B1) f1)
  have hN := h.2.1.1.2
  have w := Sc_Lw h hs hO
  have w1 := Lw_le w l1 hN
  have hN1 := Nat.le_trans hN l1.1
  have w2 := Lw_le w1 (Le.tr (Le.rf B1) l2.le) hN1
  have e0 : i1 0 = i 0 := funext fun k => f1 0 k (by omega)
  exact ⟨B2, i2, σ', ga_26 w w1 w2 hs.2.2.1 hs.2.2.2 e0 e1 e2 t2, fin_k hN hS c1 l1 n1 f1 (Le.rf B1) rfl ⟨rfl, rfl⟩ c2 l2 f2⟩
theorem kx_26_2 (h : Sim B i σ) (hs : Sc B i L j) (hO : am_K B 892 = 22 ∧ am_L B 892 = 1) (hF : FRs B i σ (am_fx am_P (d + 198) 318 0 [some (.ref 64), some (.int (i 0 (j + 1))), some (.int (i 0 (j + 2)))] [] (am_wI B i)) (.inr 2)) (hM : ∀ (B0 : am_A) (i0 : Nat → Nat → Int32), MR B0 i0 σ → MRs B0 i0 σ (am_fx am_P (d + 199) 98 0 [some (.ref 874), some (.int (i 0 (j + 1))), some (.int (i 0 (j + 2)))] [] (am_wI B0 i0)) none 1) : Stq B i d 2084 j := by
  obtain ⟨B1, i1, e1, c1, l1, n1, f1⟩ := hF
  obtain ⟨B2, i2, e2, t2, c2, l2, f2⟩ := hM (am_nx B1) i1 (MR_of h.2.1 l1 Le.nx f1)
  have hN := h.2.1.1.2
  have w := Sc_Lw h hs hO
  have w1 := Lw_le w l1 hN
  have hN1 := Nat.le_trans hN l1.1
  have w1x := Lw_le w1 Le.nx hN1
  have w2 := Lw_le w1 (Le.tr Le.nx l2.le) hN1
  have e0 : i1 0 = i 0 := funext fun k => f1 0 k (by omega)
  exact ⟨B2, i2, σ, gx_26_2 w w1 w2 hs.2.2.1 hs.2.2.2 e0 w1x e1 e2 t2, fin_k hN h.2.2 c1 l1 n1 f1 Le.nx rfl ⟨rfl, rfl⟩ c2 l2 f2⟩
theorem kk_27 (h : Sim B i σ) (hs : Sc B i L j) (hO : am_K B 892 = 22 ∧ am_L B 892 = 1) (hS : SW σ') {v : Int32} (hF : FRs B i σ' (am_fx am_P (d + 198) 319 0 [some (.ref 64), some (.int (i 0 (j + 1))), some (.int (i 0 (j + 2))), some (.int (bt (i 0 (j + 3)))), none, none] [] (am_wI B i)) (.inl (some (.int v)))) (hM : ∀ (B0 : am_A) (i0 : Nat → Nat → Int32), MR B0 i0 σ → MRs B0 i0 σ' (am_fx am_P (d + 199) 101 0 [some (.ref 874), some (.int (i 0 (j + 1))), some (.int (i 0 (j + 2))), some (.int (bt (i 0 (j + 3)))), none] [] (am_wI B0 i0)) (some (.int v)) 0) : Stq B i d 2132 j := by
  obtain ⟨B1, i1, e1, c1, l1, n1, f1⟩ := hF
  obtain ⟨B2, i2, e2, t2, c2, l2, f2⟩ := hM (am_sJ B1 892 0 (bl v)) i1 (MR_of h.2.1 l1 Le.sJ f1)
  have hN := h.2.1.1.2
  have w := Sc_Lw h hs hO
  have w1 := Lw_le w l1 hN
  have hN1 := Nat.le_trans hN l1.1
  have w2 := Lw_le w1 (Le.tr Le.sJ l2.le) hN1
  have e0 : i1 0 = i 0 := funext fun k => f1 0 k (by omega)
  exact ⟨B2, i2, σ', ga_27 w w1 w2 hs.2.2.1 hs.2.2.2 e0 e1 e2 t2 (by rw [l2.2.2.2.2.2.2 892 (by omega)]; exact y_sJJ), fin_k hN hS c1 l1 n1 f1 Le.sJ rfl ⟨rfl, rfl⟩ c2 l2 f2⟩
theorem kx_27_1 (h : Sim B i σ) (hs : Sc B i L j) (hO : am_K B 892 = 22 ∧ am_L B 892 = 1) {v : Int32} (hF : FRs B i σ (am_fx am_P (d + 198) 319 0 [some (.ref 64), some (.int (i 0 (j + 1))), some (.int (i 0 (j + 2))), some (.int (bt (i 0 (j + 3)))), none, none] [] (am_wI B i)) (.inr 1)) (hM : ∀ (B0 : am_A) (i0 : Nat → Nat → Int32), MR B0 i0 σ → MRs B0 i0 σ (am_fx am_P (d + 199) 101 0 [some (.ref 874), some (.int (i 0 (j + 1))), some (.int (i 0 (j + 2))), some (.int (bt (i 0 (j + 3)))), none] [] (am_wI B0 i0)) (some (.int v)) 1) : Stq B i d 2132 j := by
  obtain ⟨B1, i1, e1, c1, l1, n1, f1⟩ := hF
  obtain ⟨B2, i2, e2, t2, c2, l2, f2⟩ := hM (am_nx B1) i1 (MR_of h.2.1 l1 Le.nx f1)
  have hN := h.2.1.1.2
  have w := Sc_Lw h hs hO
  have w1 := Lw_le w l1 hN
  have hN1 := Nat.le_trans hN l1.1
  have w1x := Lw_le w1 Le.nx hN1
  have w2 := Lw_le w1 (Le.tr Le.nx l2.le) hN1
  have e0 : i1 0 = i 0 := funext fun k => f1 0 k (by omega)
  exact ⟨B2, i2, σ, gx_27_1 w w1 w2 hs.2.2.1 hs.2.2.2 e0 w1x e1 e2 t2, fin_k hN h.2.2 c1 l1 n1 f1 Le.nx rfl ⟨rfl, rfl⟩ c2 l2 f2⟩
theorem kk_28 (h : Sim B i σ) (hs : Sc B i L j) (hO : am_K B 892 = 22 ∧ am_L B 892 = 1) (hS : SW σ') {v : Int32} (hF : FRs B i σ' (am_fx am_P (d + 198) 320 0 [some (.ref 64), some (.int (i 0 (j + 1))), some (.int (bt (i 0 (j + 2)))), none, none] [] (am_wI B i)) (.inl (some (.int v)))) (hM : ∀ (B0 : am_A) (i0 : Nat → Nat → Int32), MR B0 i0 σ → MRs B0 i0 σ' (am_fx am_P (d + 199) 102 0 [some (.ref 874), some (.int (i 0 (j + 1))), some (.int (bt (i 0 (j + 2))))] [] (am_wI B0 i0)) (some (.int v)) 0) : Stq B i d 2235 j := by
  obtain ⟨B1, i1, e1, c1, l1, n1, f1⟩ := hF
  obtain ⟨B2, i2, e2, t2, c2, l2, f2⟩ := hM (am_sJ B1 892 0 (bl v)) i1 (MR_of h.2.1 l1 Le.sJ f1)
  have hN := h.2.1.1.2
  have w := Sc_Lw h hs hO
  have w1 := Lw_le w l1 hN
  have hN1 := Nat.le_trans hN l1.1
  have w2 := Lw_le w1 (Le.tr Le.sJ l2.le) hN1
  have e0 : i1 0 = i 0 := funext fun k => f1 0 k (by omega)
  exact ⟨B2, i2, σ', ga_28 w w1 w2 hs.2.2.1 hs.2.2.2 e0 e1 e2 t2 (by rw [l2.2.2.2.2.2.2 892 (by omega)]; exact y_sJJ), fin_k hN hS c1 l1 n1 f1 Le.sJ rfl ⟨rfl, rfl⟩ c2 l2 f2⟩
theorem kx_28_1 (h : Sim B i σ) (hs : Sc B i L j) (hO : am_K B 892 = 22 ∧ am_L B 892 = 1) {v : Int32} (hF : FRs B i σ (am_fx am_P (d + 198) 320 0 [some (.ref 64), some (.int (i 0 (j + 1))), some (.int (bt (i 0 (j + 2)))), none, none] [] (am_wI B i)) (.inr 1)) (hM : ∀ (B0 : am_A) (i0 : Nat → Nat → Int32), MR B0 i0 σ → MRs B0 i0 σ (am_fx am_P (d + 199) 102 0 [some (.ref 874), some (.int (i 0 (j + 1))), some (.int (bt (i 0 (j + 2))))] [] (am_wI B0 i0)) (some (.int v)) 1) : Stq B i d 2235 j := by
  obtain ⟨B1, i1, e1, c1, l1, n1, f1⟩ := hF
  obtain ⟨B2, i2, e2, t2, c2, l2, f2⟩ := hM (am_nx B1) i1 (MR_of h.2.1 l1 Le.nx f1)
  have hN := h.2.1.1.2
  have w := Sc_Lw h hs hO
  have w1 := Lw_le w l1 hN
  have hN1 := Nat.le_trans hN l1.1
  have w1x := Lw_le w1 Le.nx hN1
  have w2 := Lw_le w1 (Le.tr Le.nx l2.le) hN1
  have e0 : i1 0 = i 0 := funext fun k => f1 0 k (by omega)
  exact ⟨B2, i2, σ, gx_28_1 w w1 w2 hs.2.2.1 hs.2.2.2 e0 w1x e1 e2 t2, fin_k hN h.2.2 c1 l1 n1 f1 Le.nx rfl ⟨rfl, rfl⟩ c2 l2 f2⟩
theorem kk_29 (h : Sim B i σ) (hs : Sc B i L j) (hO : am_K B 892 = 22 ∧ am_L B 892 = 1) (hS : SW σ') {v : Int32} (hF : FRs B i σ' (am_fx am_P (d + 198) 321 0 [some (.ref 64), some (.int (i 0 (j + 1))), none] [] (am_wI B i)) (.inl (some (.int v)))) (hM : ∀ (B0 : am_A) (i0 : Nat → Nat → Int32), MR B0 i0 σ → MRs B0 i0 σ' (am_fx am_P (d + 199) 104 0 [some (.ref 874), some (.int (i 0 (j + 1)))] [] (am_wI B0 i0)) (some (.int v)) 0) : Stq B i d 2326 j := by
  obtain ⟨B1, i1, e1, c1, l1, n1, f1⟩ := hF
  obtain ⟨B2, i2, e2, t2, c2, l2, f2⟩ := hM (am_sJ B1 892 0 (bl v)) i1 (MR_of h.2.1 l1 Le.sJ f1)
  have hN := h.2.1.1.2
  have w := Sc_Lw h hs hO
  have w1 := Lw_le w l1 hN
  have hN1 := Nat.le_trans hN l1.1
  have w2 := Lw_le w1 (Le.tr Le.sJ l2.le) hN1
  have e0 : i1 0 = i 0 := funext fun k => f1 0 k (by omega)
  exact ⟨B2, i2, σ', ga_29 w w1 w2 hs.2.2.1 hs.2.2.2 e0 e1 e2 t2 (by rw [l2.2.2.2.2.2.2 892 (by omega)]; exact y_sJJ), fin_k hN hS c1 l1 n1 f1 Le.sJ rfl ⟨rfl, rfl⟩ c2 l2 f2⟩
theorem kx_29_1 (h : Sim B i σ) (hs : Sc B i L j) (hO : am_K B 892 = 22 ∧ am_L B 892 = 1) {v : Int32} (hF : FRs B i σ (am_fx am_P (d + 198) 321 0 [some (.ref 64), some (.int (i 0 (j + 1))), none] [] (am_wI B i)) (.inr 1)) (hM : ∀ (B0 : am_A) (i0 : Nat → Nat → Int32), MR B0 i0 σ → MRs B0 i0 σ (am_fx am_P (d + 199) 104 0 [some (.ref 874), some (.int (i 0 (j + 1)))] [] (am_wI B0 i0)) (some (.int v)) 1) : Stq B i d 2326 j := by
  obtain ⟨B1, i1, e1, c1, l1, n1, f1⟩ := hF
  obtain ⟨B2, i2, e2, t2, c2, l2, f2⟩ := hM (am_nx B1) i1 (MR_of h.2.1 l1 Le.nx f1)
  have hN := h.2.1.1.2
  have w := Sc_Lw h hs hO
  have w1 := Lw_le w l1 hN
  have hN1 := Nat.le_trans hN l1.1
  have w1x := Lw_le w1 Le.nx hN1
  have w2 := Lw_le w1 (Le.tr Le.nx l2.le) hN1
  have e0 : i1 0 = i 0 := funext fun k => f1 0 k (by omega)
  exact ⟨B2, i2, σ, gx_29_1 w w1 w2 hs.2.2.1 hs.2.2.2 e0 w1x e1 e2 t2, fin_k hN h.2.2 c1 l1 n1 f1 Le.nx rfl ⟨rfl, rfl⟩ c2 l2 f2⟩
theorem kk_30 (h : Sim B i σ) (hs : Sc B i L j) (hO : am_K B 892 = 22 ∧ am_L B 892 = 1) (hS : SW σ') {v : Int32} (hF : FRs B i σ' (am_fx am_P (d + 198) 322 0 [some (.ref 64), some (.int (i 0 (j + 1))), none] [] (am_wI B i)) (.inl (some (.int v)))) (hM : ∀ (B0 : am_A) (i0 : Nat → Nat → Int32), MR B0 i0 σ → MRs B0 i0 σ' (am_fx am_P (d + 199) 105 0 [some (.ref 874), some (.int (i 0 (j + 1))), none, none] [] (am_wI B0 i0)) (some (.int v)) 0) : Stq B i d 2389 j := by
  obtain ⟨B1, i1, e1, c1, l1, n1, f1⟩ := hF
  obtain ⟨B2, i2, e2, t2, c2, l2, f2⟩ := hM (am_sJ B1 892 0 v.toInt64) i1 (MR_of h.2.1 l1 Le.sJ f1)
  have hN := h.2.1.1.2
  have w := Sc_Lw h hs hO
  have w1 := Lw_le w l1 hN
  have hN1 := Nat.le_trans hN l1.1
  have w2 := Lw_le w1 (Le.tr Le.sJ l2.le) hN1
  have e0 : i1 0 = i 0 := funext fun k => f1 0 k (by omega)
  exact ⟨B2, i2, σ', ga_30 w w1 w2 hs.2.2.1 hs.2.2.2 e0 e1 e2 t2 (by rw [l2.2.2.2.2.2.2 892 (by omega)]; exact y_sJJ), fin_k hN hS c1 l1 n1 f1 Le.sJ rfl ⟨rfl, rfl⟩ c2 l2 f2⟩
theorem kx_30_1 (h : Sim B i σ) (hs : Sc B i L j) (hO : am_K B 892 = 22 ∧ am_L B 892 = 1) {v : Int32} (hF : FRs B i σ (am_fx am_P (d + 198) 322 0 [some (.ref 64), some (.int (i 0 (j + 1))), none] [] (am_wI B i)) (.inr 1)) (hM : ∀ (B0 : am_A) (i0 : Nat → Nat → Int32), MR B0 i0 σ → MRs B0 i0 σ (am_fx am_P (d + 199) 105 0 [some (.ref 874), some (.int (i 0 (j + 1))), none, none] [] (am_wI B0 i0)) (some (.int v)) 1) : Stq B i d 2389 j := by
  obtain ⟨B1, i1, e1, c1, l1, n1, f1⟩ := hF
  obtain ⟨B2, i2, e2, t2, c2, l2, f2⟩ := hM (am_nx B1) i1 (MR_of h.2.1 l1 Le.nx f1)
  have hN := h.2.1.1.2
  have w := Sc_Lw h hs hO
  have w1 := Lw_le w l1 hN
  have hN1 := Nat.le_trans hN l1.1
  have w1x := Lw_le w1 Le.nx hN1
  have w2 := Lw_le w1 (Le.tr Le.nx l2.le) hN1
  have e0 : i1 0 = i 0 := funext fun k => f1 0 k (by omega)
  exact ⟨B2, i2, σ, gx_30_1 w w1 w2 hs.2.2.1 hs.2.2.2 e0 w1x e1 e2 t2, fin_k hN h.2.2 c1 l1 n1 f1 Le.nx rfl ⟨rfl, rfl⟩ c2 l2 f2⟩
theorem kk_31 (h : Sim B i σ) (hs : Sc B i L j) (hO : am_K B 892 = 22 ∧ am_L B 892 = 1) (hS : SW σ') {v : Int32} (hF : FRs B i σ' (am_fx am_P (d + 198) 323 0 [some (.ref 64), some (.int (i 0 (j + 1))), some (.int (i 0 (j + 2))), none] [] (am_wI B i)) (.inl (some (.int v)))) (hM : ∀ (B0 : am_A) (i0 : Nat → Nat → Int32), MR B0 i0 σ → MRs B0 i0 σ' (am_fx am_P (d + 199) 106 0 [some (.ref 874), some (.int (i 0 (j + 1))), some (.int (i 0 (j + 2))), none, none] [] (am_wI B0 i0)) (some (.int v)) 0) : Stq B i d 2445 j := by
  obtain ⟨B1, i1, e1, c1, l1, n1, f1⟩ := hF
  obtain ⟨B2, i2, e2, t2, c2, l2, f2⟩ := hM (am_sJ B1 892 0 v.toInt64) i1 (MR_of h.2.1 l1 Le.sJ f1)
  have hN := h.2.1.1.2
  have w := Sc_Lw h hs hO
  have w1 := Lw_le w l1 hN
  have hN1 := Nat.le_trans hN l1.1
  have w2 := Lw_le w1 (Le.tr Le.sJ l2.le) hN1
  have e0 : i1 0 = i 0 := funext fun k => f1 0 k (by omega)
  exact ⟨B2, i2, σ', ga_31 w w1 w2 hs.2.2.1 hs.2.2.2 e0 e1 e2 t2 (by rw [l2.2.2.2.2.2.2 892 (by omega)]; exact y_sJJ), fin_k hN hS c1 l1 n1 f1 Le.sJ rfl ⟨rfl, rfl⟩ c2 l2 f2⟩
theorem kx_31_1 (h : Sim B i σ) (hs : Sc B i L j) (hO : am_K B 892 = 22 ∧ am_L B 892 = 1) {v : Int32} (hF : FRs B i σ (am_fx am_P (d + 198) 323 0 [some (.ref 64), some (.int (i 0 (j + 1))), some (.int (i 0 (j + 2))), none] [] (am_wI B i)) (.inr 1)) (hM : ∀ (B0 : am_A) (i0 : Nat → Nat → Int32), MR B0 i0 σ → MRs B0 i0 σ (am_fx am_P (d + 199) 106 0 [some (.ref 874), some (.int (i 0 (j + 1))), some (.int (i 0 (j + 2))), none, none] [] (am_wI B0 i0)) (some (.int v)) 1) : Stq B i d 2445 j := by
  obtain ⟨B1, i1, e1, c1, l1, n1, f1⟩ := hF
  obtain ⟨B2, i2, e2, t2, c2, l2, f2⟩ := hM (am_nx B1) i1 (MR_of h.2.1 l1 Le.nx f1)
  have hN := h.2.1.1.2
  have w := Sc_Lw h hs hO
  have w1 := Lw_le w l1 hN
  have hN1 := Nat.le_trans hN l1.1
  have w1x := Lw_le w1 Le.nx hN1
  have w2 := Lw_le w1 (Le.tr Le.nx l2.le) hN1
  have e0 : i1 0 = i 0 := funext fun k => f1 0 k (by omega)
  exact ⟨B2, i2, σ, gx_31_1 w w1 w2 hs.2.2.1 hs.2.2.2 e0 w1x e1 e2 t2, fin_k hN h.2.2 c1 l1 n1 f1 Le.nx rfl ⟨rfl, rfl⟩ c2 l2 f2⟩
theorem kx_31_5 (h : Sim B i σ) (hs : Sc B i L j) (hO : am_K B 892 = 22 ∧ am_L B 892 = 1) {v : Int32} (hF : FRs B i σ (am_fx am_P (d + 198) 323 0 [some (.ref 64), some (.int (i 0 (j + 1))), some (.int (i 0 (j + 2))), none] [] (am_wI B i)) (.inr 5)) (hM : ∀ (B0 : am_A) (i0 : Nat → Nat → Int32), MR B0 i0 σ → MRs B0 i0 σ (am_fx am_P (d + 199) 106 0 [some (.ref 874), some (.int (i 0 (j + 1))), some (.int (i 0 (j + 2))), none, none] [] (am_wI B0 i0)) (some (.int v)) 2) : Stq B i d 2445 j := by
  obtain ⟨B1, i1, e1, c1, l1, n1, f1⟩ := hF
  obtain ⟨B2, i2, e2, t2, c2, l2, f2⟩ := hM (am_nx B1) i1 (MR_of h.2.1 l1 Le.nx f1)
  have hN := h.2.1.1.2
  have w := Sc_Lw h hs hO
  have w1 := Lw_le w l1 hN
  have hN1 := Nat.le_trans hN l1.1
  have w1x := Lw_le w1 Le.nx hN1
  have w2 := Lw_le w1 (Le.tr Le.nx l2.le) hN1
  have e0 : i1 0 = i 0 := funext fun k => f1 0 k (by omega)
  exact ⟨B2, i2, σ, gx_31_5 w w1 w2 hs.2.2.1 hs.2.2.2 e0 w1x e1 e2 t2, fin_k hN h.2.2 c1 l1 n1 f1 Le.nx rfl ⟨rfl, rfl⟩ c2 l2 f2⟩
theorem kk_32 (h : Sim B i σ) (hs : Sc B i L j) (hO : am_K B 892 = 22 ∧ am_L B 892 = 1) (hS : SW σ') {v : Int32} (hF : FRs B i σ' (am_fx am_P (d + 198) 324 0 [some (.ref 64), some (.int (i 0 (j + 1))), some (.int (i 0 (j + 2))), some (.int (i 0 (j + 3))), none] [] (am_wI B i)) (.inl (some (.int v)))) (hM : ∀ (B0 : am_A) (i0 : Nat → Nat → Int32), MR B0 i0 σ → MRs B0 i0 σ' (am_fx am_P (d + 199) 107 0 [some (.ref 874), some (.int (i 0 (j + 1))), some (.int (i 0 (j + 2))), some (.int (i 0 (j + 3))), none] [] (am_wI B0 i0)) (some (.int v)) 0) : Stq B i d 2513 j := by
  obtain ⟨B1, i1, e1, c1, l1, n1, f1⟩ := hF
  obtain ⟨B2, i2, e2, t2, c2, l2, f2⟩ := hM (am_sJ B1 892 0 v.toInt64) i1 (MR_of h.2.1 l1 Le.sJ f1)
  have hN := h.2.1.1.2
  have w := Sc_Lw h hs hO
  have w1 := Lw_le w l1 hN
  have hN1 := Nat.le_trans hN l1.1
  have w2 := Lw_le w1 (Le.tr Le.sJ l2.le) hN1
  have e0 : i1 0 = i 0 := funext fun k => f1 0 k (by omega)
  exact ⟨B2, i2, σ', ga_32 w w1 w2 hs.2.2.1 hs.2.2.2 e0 e1 e2 t2 (by rw [l2.2.2.2.2.2.2 892 (by omega)]; exact y_sJJ), fin_k hN hS c1 l1 n1 f1 Le.sJ rfl ⟨rfl, rfl⟩ c2 l2 f2⟩
theorem kx_32_1 (h : Sim B i σ) (hs : Sc B i L j) (hO : am_K B 892 = 22 ∧ am_L B 892 = 1) {v : Int32} (hF : FRs B i σ (am_fx am_P (d + 198) 324 0 [some (.ref 64), some (.int (i 0 (j + 1))), some (.int (i 0 (j + 2))), some (.int (i 0 (j + 3))), none] [] (am_wI B i)) (.inr 1)) (hM : ∀ (B0 : am_A) (i0 : Nat → Nat → Int32), MR B0 i0 σ → MRs B0 i0 σ (am_fx am_P (d + 199) 107 0 [some (.ref 874), some (.int (i 0 (j + 1))), some (.int (i 0 (j + 2))), some (.int (i 0 (j + 3))), none] [] (am_wI B0 i0)) (some (.int v)) 1) : Stq B i d 2513 j := by
  obtain ⟨B1, i1, e1, c1, l1, n1, f1⟩ := hF
  obtain ⟨B2, i2, e2, t2, c2, l2, f2⟩ := hM (am_nx B1) i1 (MR_of h.2.1 l1 Le.nx f1)
  have hN := h.2.1.1.2
  have w := Sc_Lw h hs hO
  have w1 := Lw_le w l1 hN
  have hN1 := Nat.le_trans hN l1.1
  have w1x := Lw_le w1 Le.nx hN1
  have w2 := Lw_le w1 (Le.tr Le.nx l2.le) hN1
  have e0 : i1 0 = i 0 := funext fun k => f1 0 k (by omega)
  exact ⟨B2, i2, σ, gx_32_1 w w1 w2 hs.2.2.1 hs.2.2.2 e0 w1x e1 e2 t2, fin_k hN h.2.2 c1 l1 n1 f1 Le.nx rfl ⟨rfl, rfl⟩ c2 l2 f2⟩
theorem kk_33 (h : Sim B i σ) (hs : Sc B i L j) (hO : am_K B 892 = 22 ∧ am_L B 892 = 1) (hS : SW σ') {v : Int32} (hF : FRs B i σ' (am_fx am_P (d + 198) 325 0 [some (.ref 64), some (.int (i 0 (j + 1))), some (.int (i 0 (j + 2))), some (.int (i 0 (j + 3)))] [] (am_wI B i)) (.inl (some (.int v)))) (hM : ∀ (B0 : am_A) (i0 : Nat → Nat → Int32), MR B0 i0 σ → MRs B0 i0 σ' (am_fx am_P (d + 199) 109 0 [some (.ref 874), some (.int (i 0 (j + 1))), some (.int (i 0 (j + 2))), some (.int (i 0 (j + 3))), none] [] (am_wI B0 i0)) (some (.int v)) 0) : Stq B i d 2593 j := by
  obtain ⟨B1, i1, e1, c1, l1, n1, f1⟩ := hF
  obtain ⟨B2, i2, e2, t2, c2, l2, f2⟩ := hM (am_sJ B1 892 0 v.toInt64) i1 (MR_of h.2.1 l1 Le.sJ f1)
  have hN := h.2.1.1.2
  have w := Sc_Lw h hs hO
  have w1 := Lw_le w l1 hN
  have hN1 := Nat.le_trans hN l1.1
  have w2 := Lw_le w1 (Le.tr Le.sJ l2.le) hN1
  have e0 : i1 0 = i 0 := funext fun k => f1 0 k (by omega)
  exact ⟨B2, i2, σ', ga_33 w w1 w2 hs.2.2.1 hs.2.2.2 e0 e1 e2 t2 (by rw [l2.2.2.2.2.2.2 892 (by omega)]; exact y_sJJ), fin_k hN hS c1 l1 n1 f1 Le.sJ rfl ⟨rfl, rfl⟩ c2 l2 f2⟩
theorem kx_33_1 (h : Sim B i σ) (hs : Sc B i L j) (hO : am_K B 892 = 22 ∧ am_L B 892 = 1) {v : Int32} (hF : FRs B i σ (am_fx am_P (d + 198) 325 0 [some (.ref 64), some (.int (i 0 (j + 1))), some (.int (i 0 (j + 2))), some (.int (i 0 (j + 3)))] [] (am_wI B i)) (.inr 1)) (hM : ∀ (B0 : am_A) (i0 : Nat → Nat → Int32), MR B0 i0 σ → MRs B0 i0 σ (am_fx am_P (d + 199) 109 0 [some (.ref 874), some (.int (i 0 (j + 1))), some (.int (i 0 (j + 2))), some (.int (i 0 (j + 3))), none] [] (am_wI B0 i0)) (some (.int v)) 1) : Stq B i d 2593 j := by
  obtain ⟨B1, i1, e1, c1, l1, n1, f1⟩ := hF
  obtain ⟨B2, i2, e2, t2, c2, l2, f2⟩ := hM (am_nx B1) i1 (MR_of h.2.1 l1 Le.nx f1)
  have hN := h.2.1.1.2
  have w := Sc_Lw h hs hO
  have w1 := Lw_le w l1 hN
  have hN1 := Nat.le_trans hN l1.1
  have w1x := Lw_le w1 Le.nx hN1
  have w2 := Lw_le w1 (Le.tr Le.nx l2.le) hN1
  have e0 : i1 0 = i 0 := funext fun k => f1 0 k (by omega)
  exact ⟨B2, i2, σ, gx_33_1 w w1 w2 hs.2.2.1 hs.2.2.2 e0 w1x e1 e2 t2, fin_k hN h.2.2 c1 l1 n1 f1 Le.nx rfl ⟨rfl, rfl⟩ c2 l2 f2⟩
theorem kx_33_2 (h : Sim B i σ) (hs : Sc B i L j) (hO : am_K B 892 = 22 ∧ am_L B 892 = 1) {v : Int32} (hF : FRs B i σ (am_fx am_P (d + 198) 325 0 [some (.ref 64), some (.int (i 0 (j + 1))), some (.int (i 0 (j + 2))), some (.int (i 0 (j + 3)))] [] (am_wI B i)) (.inr 2)) (hM : ∀ (B0 : am_A) (i0 : Nat → Nat → Int32), MR B0 i0 σ → MRs B0 i0 σ (am_fx am_P (d + 199) 109 0 [some (.ref 874), some (.int (i 0 (j + 1))), some (.int (i 0 (j + 2))), some (.int (i 0 (j + 3))), none] [] (am_wI B0 i0)) (some (.int v)) 2) : Stq B i d 2593 j := by
  obtain ⟨B1, i1, e1, c1, l1, n1, f1⟩ := hF
  obtain ⟨B2, i2, e2, t2, c2, l2, f2⟩ := hM (am_nx B1) i1 (MR_of h.2.1 l1 Le.nx f1)
  have hN := h.2.1.1.2
  have w := Sc_Lw h hs hO
  have w1 := Lw_le w l1 hN
  have hN1 := Nat.le_trans hN l1.1
  have w1x := Lw_le w1 Le.nx hN1
  have w2 := Lw_le w1 (Le.tr Le.nx l2.le) hN1
  have e0 : i1 0 = i 0 := funext fun k => f1 0 k (by omega)
  exact ⟨B2, i2, σ, gx_33_2 w w1 w2 hs.2.2.1 hs.2.2.2 e0 w1x e1 e2 t2, fin_k hN h.2.2 c1 l1 n1 f1 Le.nx rfl ⟨rfl, rfl⟩ c2 l2 f2⟩
theorem kk_34 (h : Sim B i σ) (hs : Sc B i L j) (hO : am_K B 892 = 22 ∧ am_L B 892 = 1) (hS : SW σ') {v : Int32} (hF : FRs B i σ' (am_fx am_P (d + 198) 326 0 [some (.ref 64), some (.int (i 0 (j + 1)))] [] (am_wI B i)) (.inl (some (.int v)))) (hM : ∀ (B0 : am_A) (i0 : Nat → Nat → Int32), MR B0 i0 σ → MRs B0 i0 σ' (am_fx am_P (d + 199) 111 0 [some (.ref 874), some (.int (i 0 (j + 1))), none] [] (am_wI B0 i0)) (some (.int v)) 0) : Stq B i d 2673 j := by
  obtain ⟨B1, i1, e1, c1, l1, n1, f1⟩ := hF
  obtain ⟨B2, i2, e2, t2, c2, l2, f2⟩ := hM (am_sJ B1 892 0 v.toInt64) i1 (MR_of h.2.1 l1 Le.sJ f1)
  have hN := h.2.1.1.2
  have w := Sc_Lw h hs hO
  have w1 := Lw_le w l1 hN
  have hN1 := Nat.le_trans hN l1.1
  have w2 := Lw_le w1 (Le.tr Le.sJ l2.le) hN1
  have e0 : i1 0 = i 0 := funext fun k => f1 0 k (by omega)
  exact ⟨B2, i2, σ', ga_34 w w1 w2 hs.2.2.1 hs.2.2.2 e0 e1 e2 t2 (by rw [l2.2.2.2.2.2.2 892 (by omega)]; exact y_sJJ), fin_k hN hS c1 l1 n1 f1 Le.sJ rfl ⟨rfl, rfl⟩ c2 l2 f2⟩
theorem kx_34_2 (h : Sim B i σ) (hs : Sc B i L j) (hO : am_K B 892 = 22 ∧ am_L B 892 = 1) {v : Int32} (hF : FRs B i σ (am_fx am_P (d + 198) 326 0 [some (.ref 64), some (.int (i 0 (j + 1)))] [] (am_wI B i)) (.inr 2)) (hM : ∀ (B0 : am_A) (i0 : Nat → Nat → Int32), MR B0 i0 σ → MRs B0 i0 σ (am_fx am_P (d + 199) 111 0 [some (.ref 874), some (.int (i 0 (j + 1))), none] [] (am_wI B0 i0)) (some (.int v)) 1) : Stq B i d 2673 j := by
  obtain ⟨B1, i1, e1, c1, l1, n1, f1⟩ := hF
  obtain ⟨B2, i2, e2, t2, c2, l2, f2⟩ := hM (am_nx B1) i1 (MR_of h.2.1 l1 Le.nx f1)
  have hN := h.2.1.1.2
  have w := Sc_Lw h hs hO
  have w1 := Lw_le w l1 hN
  have hN1 := Nat.le_trans hN l1.1
  have w1x := Lw_le w1 Le.nx hN1
  have w2 := Lw_le w1 (Le.tr Le.nx l2.le) hN1
  have e0 : i1 0 = i 0 := funext fun k => f1 0 k (by omega)
  exact ⟨B2, i2, σ, gx_34_2 w w1 w2 hs.2.2.1 hs.2.2.2 e0 w1x e1 e2 t2, fin_k hN h.2.2 c1 l1 n1 f1 Le.nx rfl ⟨rfl, rfl⟩ c2 l2 f2⟩
theorem kx_34_3 (h : Sim B i σ) (hs : Sc B i L j) (hO : am_K B 892 = 22 ∧ am_L B 892 = 1) {v : Int32} (hF : FRs B i σ (am_fx am_P (d + 198) 326 0 [some (.ref 64), some (.int (i 0 (j + 1)))] [] (am_wI B i)) (.inr 3)) (hM : ∀ (B0 : am_A) (i0 : Nat → Nat → Int32), MR B0 i0 σ → MRs B0 i0 σ (am_fx am_P (d + 199) 111 0 [some (.ref 874), some (.int (i 0 (j + 1))), none] [] (am_wI B0 i0)) (some (.int v)) 2) : Stq B i d 2673 j := by
  obtain ⟨B1, i1, e1, c1, l1, n1, f1⟩ := hF
  obtain ⟨B2, i2, e2, t2, c2, l2, f2⟩ := hM (am_nx B1) i1 (MR_of h.2.1 l1 Le.nx f1)
  have hN := h.2.1.1.2
  have w := Sc_Lw h hs hO
  have w1 := Lw_le w l1 hN
  have hN1 := Nat.le_trans hN l1.1
  have w1x := Lw_le w1 Le.nx hN1
  have w2 := Lw_le w1 (Le.tr Le.nx l2.le) hN1
  have e0 : i1 0 = i 0 := funext fun k => f1 0 k (by omega)
  exact ⟨B2, i2, σ, gx_34_3 w w1 w2 hs.2.2.1 hs.2.2.2 e0 w1x e1 e2 t2, fin_k hN h.2.2 c1 l1 n1 f1 Le.nx rfl ⟨rfl, rfl⟩ c2 l2 f2⟩
theorem kk_35 (h : Sim B i σ) (hs : Sc B i L j) (hO : am_K B 892 = 22 ∧ am_L B 892 = 1) (hS : SW σ') {v : Int32} (hF : FRs B i σ' (am_fx am_P (d + 198) 327 0 [some (.ref 64), some (.int (i 0 (j + 1))), some (.int (i 0 (j + 2))), none] [] (am_wI B i)) (.inl (some (.int v)))) (hM : ∀ (B0 : am_A) (i0 : Nat → Nat → Int32), MR B0 i0 σ → MRs B0 i0 σ' (am_fx am_P (d + 199) 112 0 [some (.ref 874), some (.int (i 0 (j + 1))), some (.int (i 0 (j + 2))), none] [] (am_wI B0 i0)) (some (.int v)) 0) : Stq B i d 2729 j := by
  obtain ⟨B1, i1, e1, c1, l1, n1, f1⟩ := hF
  obtain ⟨B2, i2, e2, t2, c2, l2, f2⟩ := hM (am_sJ B1 892 0 (bl v)) i1 (MR_of h.2.1 l1 Le.sJ f1)
  have hN := h.2.1.1.2
  have w := Sc_Lw h hs hO
  have w1 := Lw_le w l1 hN
  have hN1 := Nat.le_trans hN l1.1
  have w2 := Lw_le w1 (Le.tr Le.sJ l2.le) hN1
  have e0 : i1 0 = i 0 := funext fun k => f1 0 k (by omega)
  exact ⟨B2, i2, σ', ga_35 w w1 w2 hs.2.2.1 hs.2.2.2 e0 e1 e2 t2 (by rw [l2.2.2.2.2.2.2 892 (by omega)]; exact y_sJJ), fin_k hN hS c1 l1 n1 f1 Le.sJ rfl ⟨rfl, rfl⟩ c2 l2 f2⟩
theorem kx_35_1 (h : Sim B i σ) (hs : Sc B i L j) (hO : am_K B 892 = 22 ∧ am_L B 892 = 1) {v : Int32} (hF : FRs B i σ (am_fx am_P (d + 198) 327 0 [some (.ref 64), some (.int (i 0 (j + 1))), some (.int (i 0 (j + 2))), none] [] (am_wI B i)) (.inr 1)) (hM : ∀ (B0 : am_A) (i0 : Nat → Nat → Int32), MR B0 i0 σ → MRs B0 i0 σ (am_fx am_P (d + 199) 112 0 [some (.ref 874), some (.int (i 0 (j + 1))), some (.int (i 0 (j + 2))), none] [] (am_wI B0 i0)) (some (.int v)) 1) : Stq B i d 2729 j := by
  obtain ⟨B1, i1, e1, c1, l1, n1, f1⟩ := hF
  obtain ⟨B2, i2, e2, t2, c2, l2, f2⟩ := hM (am_nx B1) i1 (MR_of h.2.1 l1 Le.nx f1)
  have hN := h.2.1.1.2
  have w := Sc_Lw h hs hO
  have w1 := Lw_le w l1 hN
  have hN1 := Nat.le_trans hN l1.1
  have w1x := Lw_le w1 Le.nx hN1
  have w2 := Lw_le w1 (Le.tr Le.nx l2.le) hN1
  have e0 : i1 0 = i 0 := funext fun k => f1 0 k (by omega)
  exact ⟨B2, i2, σ, gx_35_1 w w1 w2 hs.2.2.1 hs.2.2.2 e0 w1x e1 e2 t2, fin_k hN h.2.2 c1 l1 n1 f1 Le.nx rfl ⟨rfl, rfl⟩ c2 l2 f2⟩
theorem kk_36 (h : Sim B i σ) (hs : Sc B i L j) (hO : am_K B 892 = 22 ∧ am_L B 892 = 1) (hS : SW σ') {v : Int32} (hF : FRs B i σ' (am_fx am_P (d + 199) 328 0 [some (.ref 64)] [] (am_wI B i)) (.inl (some (.int v)))) (hM : ∀ (B0 : am_A) (i0 : Nat → Nat → Int32), MR B0 i0 σ → MRs B0 i0 σ' (am_fx am_P (d + 199) 114 0 [some (.ref 874), none, none, none, none, none, none, none, none] [] (am_wI B0 i0)) (some (.int v)) 0) : Stq B i d 2804 j := by
  obtain ⟨B1, i1, e1, c1, l1, n1, f1⟩ := hF
  obtain ⟨B2, i2, e2, t2, c2, l2, f2⟩ := hM B1 i1 (MR_of h.2.1 l1 (Le.rf B1) f1)
  have hN := h.2.1.1.2
  have w := Sc_Lw h hs hO
  have w1 := Lw_le w l1 hN
  have hN1 := Nat.le_trans hN l1.1
  have w2 := Lw_le w1 (Le.tr (Le.rf B1) l2.le) hN1
  have e0 : i1 0 = i 0 := funext fun k => f1 0 k (by omega)
  exact ⟨B2, i2, σ', ga_36 w w1 w2 hs.2.2.1 hs.2.2.2 e0 e1 e2, fin_k hN hS c1 l1 n1 f1 (Le.rf B1) rfl ⟨rfl, rfl⟩ c2 l2 f2⟩
theorem kk_37 (h : Sim B i σ) (hs : Sc B i L j) (hO : am_K B 892 = 22 ∧ am_L B 892 = 1) (hS : SW σ') {v : Int32} (hF : FRs B i σ' (am_fx am_P (d + 198) 329 0 [some (.ref 64), some (.int (i 0 (j + 1))), none, none] [] (am_wI B i)) (.inl (some (.int v)))) (hM : ∀ (B0 : am_A) (i0 : Nat → Nat → Int32), MR B0 i0 σ → MRs B0 i0 σ' (am_fx am_P (d + 199) 121 0 [some (.ref 874), some (.int (i 0 (j + 1))), none] [] (am_wI B0 i0)) (some (.int v)) 0) : Stq B i d 2817 j := by
  obtain ⟨B1, i1, e1, c1, l1, n1, f1⟩ := hF
  obtain ⟨B2, i2, e2, t2, c2, l2, f2⟩ := hM (am_sJ B1 892 0 v.toInt64) i1 (MR_of h.2.1 l1 Le.sJ f1)
  have hN := h.2.1.1.2
  have w := Sc_Lw h hs hO
  have w1 := Lw_le w l1 hN
  have hN1 := Nat.le_trans hN l1.1
  have w2 := Lw_le w1 (Le.tr Le.sJ l2.le) hN1
  have e0 : i1 0 = i 0 := funext fun k => f1 0 k (by omega)
  exact ⟨B2, i2, σ', ga_37 w w1 w2 hs.2.2.1 hs.2.2.2 e0 e1 e2 t2 (by rw [l2.2.2.2.2.2.2 892 (by omega)]; exact y_sJJ), fin_k hN hS c1 l1 n1 f1 Le.sJ rfl ⟨rfl, rfl⟩ c2 l2 f2⟩
theorem kx_37_2 (h : Sim B i σ) (hs : Sc B i L j) (hO : am_K B 892 = 22 ∧ am_L B 892 = 1) {v : Int32} (hF : FRs B i σ (am_fx am_P (d + 198) 329 0 [some (.ref 64), some (.int (i 0 (j + 1))), none, none] [] (am_wI B i)) (.inr 2)) (hM : ∀ (B0 : am_A) (i0 : Nat → Nat → Int32), MR B0 i0 σ → MRs B0 i0 σ (am_fx am_P (d + 199) 121 0 [some (.ref 874), some (.int (i 0 (j + 1))), none] [] (am_wI B0 i0)) (some (.int v)) 1) : Stq B i d 2817 j := by
  obtain ⟨B1, i1, e1, c1, l1, n1, f1⟩ := hF
  obtain ⟨B2, i2, e2, t2, c2, l2, f2⟩ := hM (am_nx B1) i1 (MR_of h.2.1 l1 Le.nx f1)
  have hN := h.2.1.1.2
  have w := Sc_Lw h hs hO
  have w1 := Lw_le w l1 hN
  have hN1 := Nat.le_trans hN l1.1
  have w1x := Lw_le w1 Le.nx hN1
  have w2 := Lw_le w1 (Le.tr Le.nx l2.le) hN1
  have e0 : i1 0 = i 0 := funext fun k => f1 0 k (by omega)
  exact ⟨B2, i2, σ, gx_37_2 w w1 w2 hs.2.2.1 hs.2.2.2 e0 w1x e1 e2 t2, fin_k hN h.2.2 c1 l1 n1 f1 Le.nx rfl ⟨rfl, rfl⟩ c2 l2 f2⟩
theorem kk_38 (h : Sim B i σ) (hs : Sc B i L j) (hO : am_K B 892 = 22 ∧ am_L B 892 = 1) (hS : SW σ') {v : Int32} (hF : FRs B i σ' (am_fx am_P (d + 198) 330 0 [some (.ref 64), some (.int (i 0 (j + 1))), some (.int (bt (i 0 (j + 2))))] [] (am_wI B i)) (.inl (some (.int v)))) (hM : ∀ (B0 : am_A) (i0 : Nat → Nat → Int32), MR B0 i0 σ → MRs B0 i0 σ' (am_fx am_P (d + 199) 122 0 [some (.ref 874), some (.int (i 0 (j + 1))), some (.int (bt (i 0 (j + 2)))), none, none, none] [] (am_wI B0 i0)) (some (.int v)) 0) : Stq B i d 2873 j := by
  obtain ⟨B1, i1, e1, c1, l1, n1, f1⟩ := hF
  obtain ⟨B2, i2, e2, t2, c2, l2, f2⟩ := hM (am_sJ B1 892 0 v.toInt64) i1 (MR_of h.2.1 l1 Le.sJ f1)
  have hN := h.2.1.1.2
  have w := Sc_Lw h hs hO
  have w1 := Lw_le w l1 hN
  have hN1 := Nat.le_trans hN l1.1
  have w2 := Lw_le w1 (Le.tr Le.sJ l2.le) hN1
  have e0 : i1 0 = i 0 := funext fun k => f1 0 k (by omega)
  exact ⟨B2, i2, σ', ga_38 w w1 w2 hs.2.2.1 hs.2.2.2 e0 e1 e2 t2 (by rw [l2.2.2.2.2.2.2 892 (by omega)]; exact y_sJJ), fin_k hN hS c1 l1 n1 f1 Le.sJ rfl ⟨rfl, rfl⟩ c2 l2 f2⟩
theorem kx_38_1 (h : Sim B i σ) (hs : Sc B i L j) (hO : am_K B 892 = 22 ∧ am_L B 892 = 1) {v : Int32} (hF : FRs B i σ (am_fx am_P (d + 198) 330 0 [some (.ref 64), some (.int (i 0 (j + 1))), some (.int (bt (i 0 (j + 2))))] [] (am_wI B i)) (.inr 1)) (hM : ∀ (B0 : am_A) (i0 : Nat → Nat → Int32), MR B0 i0 σ → MRs B0 i0 σ (am_fx am_P (d + 199) 122 0 [some (.ref 874), some (.int (i 0 (j + 1))), some (.int (bt (i 0 (j + 2)))), none, none, none] [] (am_wI B0 i0)) (some (.int v)) 1) : Stq B i d 2873 j := by
  obtain ⟨B1, i1, e1, c1, l1, n1, f1⟩ := hF
  obtain ⟨B2, i2, e2, t2, c2, l2, f2⟩ := hM (am_nx B1) i1 (MR_of h.2.1 l1 Le.nx f1)
  have hN := h.2.1.1.2
  have w := Sc_Lw h hs hO
  have w1 := Lw_le w l1 hN
  have hN1 := Nat.le_trans hN l1.1
  have w1x := Lw_le w1 Le.nx hN1
  have w2 := Lw_le w1 (Le.tr Le.nx l2.le) hN1
  have e0 : i1 0 = i 0 := funext fun k => f1 0 k (by omega)
  exact ⟨B2, i2, σ, gx_38_1 w w1 w2 hs.2.2.1 hs.2.2.2 e0 w1x e1 e2 t2, fin_k hN h.2.2 c1 l1 n1 f1 Le.nx rfl ⟨rfl, rfl⟩ c2 l2 f2⟩
theorem kk_39 (h : Sim B i σ) (hs : Sc B i L j) (hO : am_K B 892 = 22 ∧ am_L B 892 = 1) (hS : SW σ') {v : Int32} (hF : FRs B i σ' (am_fx am_P (d + 198) 331 0 [some (.ref 64), some (.int (i 0 (j + 1)))] [] (am_wI B i)) (.inl (some (.int v)))) (hM : ∀ (B0 : am_A) (i0 : Nat → Nat → Int32), MR B0 i0 σ → MRs B0 i0 σ' (am_fx am_P (d + 199) 123 0 [some (.ref 874), some (.int (i 0 (j + 1))), none, none] [] (am_wI B0 i0)) (some (.int v)) 0) : Stq B i d 2957 j := by
  obtain ⟨B1, i1, e1, c1, l1, n1, f1⟩ := hF
  obtain ⟨B2, i2, e2, t2, c2, l2, f2⟩ := hM (am_sJ B1 892 0 v.toInt64) i1 (MR_of h.2.1 l1 Le.sJ f1)
  have hN := h.2.1.1.2
  have w := Sc_Lw h hs hO
  have w1 := Lw_le w l1 hN
  have hN1 := Nat.le_trans hN l1.1
  have w2 := Lw_le w1 (Le.tr Le.sJ l2.le) hN1
  have e0 : i1 0 = i 0 := funext fun k => f1 0 k (by omega)
  exact ⟨B2, i2, σ', ga_39 w w1 w2 hs.2.2.1 hs.2.2.2 e0 e1 e2 t2 (by rw [l2.2.2.2.2.2.2 892 (by omega)]; exact y_sJJ), fin_k hN hS c1 l1 n1 f1 Le.sJ rfl ⟨rfl, rfl⟩ c2 l2 f2⟩
theorem kx_39_1 (h : Sim B i σ) (hs : Sc B i L j) (hO : am_K B 892 = 22 ∧ am_L B 892 = 1) {v : Int32} (hF : FRs B i σ (am_fx am_P (d + 198) 331 0 [some (.ref 64), some (.int (i 0 (j + 1)))] [] (am_wI B i)) (.inr 1)) (hM : ∀ (B0 : am_A) (i0 : Nat → Nat → Int32), MR B0 i0 σ → MRs B0 i0 σ (am_fx am_P (d + 199) 123 0 [some (.ref 874), some (.int (i 0 (j + 1))), none, none] [] (am_wI B0 i0)) (some (.int v)) 1) : Stq B i d 2957 j := by
  obtain ⟨B1, i1, e1, c1, l1, n1, f1⟩ := hF
  obtain ⟨B2, i2, e2, t2, c2, l2, f2⟩ := hM (am_nx B1) i1 (MR_of h.2.1 l1 Le.nx f1)
  have hN := h.2.1.1.2
  have w := Sc_Lw h hs hO
  have w1 := Lw_le w l1 hN
  have hN1 := Nat.le_trans hN l1.1
  have w1x := Lw_le w1 Le.nx hN1
  have w2 := Lw_le w1 (Le.tr Le.nx l2.le) hN1
  have e0 : i1 0 = i 0 := funext fun k => f1 0 k (by omega)
  exact ⟨B2, i2, σ, gx_39_1 w w1 w2 hs.2.2.1 hs.2.2.2 e0 w1x e1 e2 t2, fin_k hN h.2.2 c1 l1 n1 f1 Le.nx rfl ⟨rfl, rfl⟩ c2 l2 f2⟩
theorem kk_40 (h : Sim B i σ) (hs : Sc B i L j) (hO : am_K B 892 = 22 ∧ am_L B 892 = 1) (hS : SW σ') {v : Int32} (hF : FRs B i σ' (am_fx am_P (d + 199) 332 0 [some (.ref 64)] [] (am_wI B i)) (.inl (some (.int v)))) (hM : ∀ (B0 : am_A) (i0 : Nat → Nat → Int32), MR B0 i0 σ → MRs B0 i0 σ' (am_fx am_P (d + 199) 127 0 [some (.ref 874), none, none, none, none] [] (am_wI B0 i0)) (some (.int v)) 0) : Stq B i d 3013 j := by
  obtain ⟨B1, i1, e1, c1, l1, n1, f1⟩ := hF
  obtain ⟨B2, i2, e2, t2, c2, l2, f2⟩ := hM B1 i1 (MR_of h.2.1 l1 (Le.rf B1) f1)
  have hN := h.2.1.1.2
  have w := Sc_Lw h hs hO
  have w1 := Lw_le w l1 hN
  have hN1 := Nat.le_trans hN l1.1
  have w2 := Lw_le w1 (Le.tr (Le.rf B1) l2.le) hN1
  have e0 : i1 0 = i 0 := funext fun k => f1 0 k (by omega)
  exact ⟨B2, i2, σ', ga_40 w w1 w2 hs.2.2.1 hs.2.2.2 e0 e1 e2, fin_k hN hS c1 l1 n1 f1 (Le.rf B1) rfl ⟨rfl, rfl⟩ c2 l2 f2⟩
theorem kk_41 (h : Sim B i σ) (hs : Sc B i L j) (hO : am_K B 892 = 22 ∧ am_L B 892 = 1) (hS : SW σ') {v : Int32} (hF : FRs B i σ' (am_fx am_P (d + 198) 333 0 [some (.ref 64), some (.int (i 0 (j + 1))), some (.int (i 0 (j + 2))), some (.int (i 0 (j + 3))), some (.int (i 0 (j + 4)))] [] (am_wI B i)) (.inl (some (.int v)))) (hM : ∀ (B0 : am_A) (i0 : Nat → Nat → Int32), MR B0 i0 σ → MRs B0 i0 σ' (am_fx am_P (d + 199) 128 0 [some (.ref 874), some (.int (i 0 (j + 1))), some (.int (i 0 (j + 2))), some (.int (i 0 (j + 3))), some (.int (i 0 (j + 4))), none] [] (am_wI B0 i0)) (some (.int v)) 0) : Stq B i d 3026 j := by
  obtain ⟨B1, i1, e1, c1, l1, n1, f1⟩ := hF
  obtain ⟨B2, i2, e2, t2, c2, l2, f2⟩ := hM (am_sJ B1 892 0 v.toInt64) i1 (MR_of h.2.1 l1 Le.sJ f1)
  have hN := h.2.1.1.2
  have w := Sc_Lw h hs hO
  have w1 := Lw_le w l1 hN
  have hN1 := Nat.le_trans hN l1.1
  have w2 := Lw_le w1 (Le.tr Le.sJ l2.le) hN1
  have e0 : i1 0 = i 0 := funext fun k => f1 0 k (by omega)
  exact ⟨B2, i2, σ', ga_41 w w1 w2 hs.2.2.1 hs.2.2.2 e0 e1 e2 t2 (by rw [l2.2.2.2.2.2.2 892 (by omega)]; exact y_sJJ), fin_k hN hS c1 l1 n1 f1 Le.sJ rfl ⟨rfl, rfl⟩ c2 l2 f2⟩
theorem kx_41_2 (h : Sim B i σ) (hs : Sc B i L j) (hO : am_K B 892 = 22 ∧ am_L B 892 = 1) {v : Int32} (hF : FRs B i σ (am_fx am_P (d + 198) 333 0 [some (.ref 64), some (.int (i 0 (j + 1))), some (.int (i 0 (j + 2))), some (.int (i 0 (j + 3))), some (.int (i 0 (j + 4)))] [] (am_wI B i)) (.inr 2)) (hM : ∀ (B0 : am_A) (i0 : Nat → Nat → Int32), MR B0 i0 σ → MRs B0 i0 σ (am_fx am_P (d + 199) 128 0 [some (.ref 874), some (.int (i 0 (j + 1))), some (.int (i 0 (j + 2))), some (.int (i 0 (j + 3))), some (.int (i 0 (j + 4))), none] [] (am_wI B0 i0)) (some (.int v)) 1) : Stq B i d 3026 j := by
  obtain ⟨B1, i1, e1, c1, l1, n1, f1⟩ := hF
  obtain ⟨B2, i2, e2, t2, c2, l2, f2⟩ := hM (am_nx B1) i1 (MR_of h.2.1 l1 Le.nx f1)
  have hN := h.2.1.1.2
  have w := Sc_Lw h hs hO
  have w1 := Lw_le w l1 hN
  have hN1 := Nat.le_trans hN l1.1
  have w1x := Lw_le w1 Le.nx hN1
  have w2 := Lw_le w1 (Le.tr Le.nx l2.le) hN1
  have e0 : i1 0 = i 0 := funext fun k => f1 0 k (by omega)
  exact ⟨B2, i2, σ, gx_41_2 w w1 w2 hs.2.2.1 hs.2.2.2 e0 w1x e1 e2 t2, fin_k hN h.2.2 c1 l1 n1 f1 Le.nx rfl ⟨rfl, rfl⟩ c2 l2 f2⟩
theorem kk_42 (h : Sim B i σ) (hs : Sc B i L j) (hO : am_K B 892 = 22 ∧ am_L B 892 = 1) (hS : SW σ') {v : Int32} (hF : FRs B i σ' (am_fx am_P (d + 198) 334 0 [some (.ref 64), some (.int (i 0 (j + 1))), some (.int (i 0 (j + 2)))] [] (am_wI B i)) (.inl (some (.int v)))) (hM : ∀ (B0 : am_A) (i0 : Nat → Nat → Int32), MR B0 i0 σ → MRs B0 i0 σ' (am_fx am_P (d + 199) 129 0 [some (.ref 874), some (.int (i 0 (j + 1))), some (.int (i 0 (j + 2))), none] [] (am_wI B0 i0)) (some (.int v)) 0) : Stq B i d 3118 j := by
  obtain ⟨B1, i1, e1, c1, l1, n1, f1⟩ := hF
  obtain ⟨B2, i2, e2, t2, c2, l2, f2⟩ := hM (am_sJ B1 892 0 v.toInt64) i1 (MR_of h.2.1 l1 Le.sJ f1)
  have hN := h.2.1.1.2
  have w := Sc_Lw h hs hO
  have w1 := Lw_le w l1 hN
  have hN1 := Nat.le_trans hN l1.1
  have w2 := Lw_le w1 (Le.tr Le.sJ l2.le) hN1
  have e0 : i1 0 = i 0 := funext fun k => f1 0 k (by omega)
  exact ⟨B2, i2, σ', ga_42 w w1 w2 hs.2.2.1 hs.2.2.2 e0 e1 e2 t2 (by rw [l2.2.2.2.2.2.2 892 (by omega)]; exact y_sJJ), fin_k hN hS c1 l1 n1 f1 Le.sJ rfl ⟨rfl, rfl⟩ c2 l2 f2⟩
theorem kx_42_2 (h : Sim B i σ) (hs : Sc B i L j) (hO : am_K B 892 = 22 ∧ am_L B 892 = 1) {v : Int32} (hF : FRs B i σ (am_fx am_P (d + 198) 334 0 [some (.ref 64), some (.int (i 0 (j + 1))), some (.int (i 0 (j + 2)))] [] (am_wI B i)) (.inr 2)) (hM : ∀ (B0 : am_A) (i0 : Nat → Nat → Int32), MR B0 i0 σ → MRs B0 i0 σ (am_fx am_P (d + 199) 129 0 [some (.ref 874), some (.int (i 0 (j + 1))), some (.int (i 0 (j + 2))), none] [] (am_wI B0 i0)) (some (.int v)) 1) : Stq B i d 3118 j := by
  obtain ⟨B1, i1, e1, c1, l1, n1, f1⟩ := hF
  obtain ⟨B2, i2, e2, t2, c2, l2, f2⟩ := hM (am_nx B1) i1 (MR_of h.2.1 l1 Le.nx f1)
  have hN := h.2.1.1.2
  have w := Sc_Lw h hs hO
  have w1 := Lw_le w l1 hN
  have hN1 := Nat.le_trans hN l1.1
  have w1x := Lw_le w1 Le.nx hN1
  have w2 := Lw_le w1 (Le.tr Le.nx l2.le) hN1
  have e0 : i1 0 = i 0 := funext fun k => f1 0 k (by omega)
  exact ⟨B2, i2, σ, gx_42_2 w w1 w2 hs.2.2.1 hs.2.2.2 e0 w1x e1 e2 t2, fin_k hN h.2.2 c1 l1 n1 f1 Le.nx rfl ⟨rfl, rfl⟩ c2 l2 f2⟩
theorem kk_43 (h : Sim B i σ) (hs : Sc B i L j) (hO : am_K B 892 = 22 ∧ am_L B 892 = 1) (hS : SW σ') {v : Int32} (hF : FRs B i σ' (am_fx am_P (d + 198) 335 0 [some (.ref 64), some (.int (i 0 (j + 1)))] [] (am_wI B i)) (.inl (some (.int v)))) (hM : ∀ (B0 : am_A) (i0 : Nat → Nat → Int32), MR B0 i0 σ → MRs B0 i0 σ' (am_fx am_P (d + 199) 133 0 [some (.ref 874), some (.int (i 0 (j + 1)))] [] (am_wI B0 i0)) (some (.int v)) 0) : Stq B i d 3186 j := by
  obtain ⟨B1, i1, e1, c1, l1, n1, f1⟩ := hF
  obtain ⟨B2, i2, e2, t2, c2, l2, f2⟩ := hM (am_sJ B1 892 0 v.toInt64) i1 (MR_of h.2.1 l1 Le.sJ f1)
  have hN := h.2.1.1.2
  have w := Sc_Lw h hs hO
  have w1 := Lw_le w l1 hN
  have hN1 := Nat.le_trans hN l1.1
  have w2 := Lw_le w1 (Le.tr Le.sJ l2.le) hN1
  have e0 : i1 0 = i 0 := funext fun k => f1 0 k (by omega)
  exact ⟨B2, i2, σ', ga_43 w w1 w2 hs.2.2.1 hs.2.2.2 e0 e1 e2 t2 (by rw [l2.2.2.2.2.2.2 892 (by omega)]; exact y_sJJ), fin_k hN hS c1 l1 n1 f1 Le.sJ rfl ⟨rfl, rfl⟩ c2 l2 f2⟩
theorem kx_43_2 (h : Sim B i σ) (hs : Sc B i L j) (hO : am_K B 892 = 22 ∧ am_L B 892 = 1) {v : Int32} (hF : FRs B i σ (am_fx am_P (d + 198) 335 0 [some (.ref 64), some (.int (i 0 (j + 1)))] [] (am_wI B i)) (.inr 2)) (hM : ∀ (B0 : am_A) (i0 : Nat → Nat → Int32), MR B0 i0 σ → MRs B0 i0 σ (am_fx am_P (d + 199) 133 0 [some (.ref 874), some (.int (i 0 (j + 1)))] [] (am_wI B0 i0)) (some (.int v)) 1) : Stq B i d 3186 j := by
  obtain ⟨B1, i1, e1, c1, l1, n1, f1⟩ := hF
  obtain ⟨B2, i2, e2, t2, c2, l2, f2⟩ := hM (am_nx B1) i1 (MR_of h.2.1 l1 Le.nx f1)
  have hN := h.2.1.1.2
  have w := Sc_Lw h hs hO
  have w1 := Lw_le w l1 hN
  have hN1 := Nat.le_trans hN l1.1
  have w1x := Lw_le w1 Le.nx hN1
  have w2 := Lw_le w1 (Le.tr Le.nx l2.le) hN1
  have e0 : i1 0 = i 0 := funext fun k => f1 0 k (by omega)
  exact ⟨B2, i2, σ, gx_43_2 w w1 w2 hs.2.2.1 hs.2.2.2 e0 w1x e1 e2 t2, fin_k hN h.2.2 c1 l1 n1 f1 Le.nx rfl ⟨rfl, rfl⟩ c2 l2 f2⟩
theorem kk_44 (h : Sim B i σ) (hs : Sc B i L j) (hO : am_K B 892 = 22 ∧ am_L B 892 = 1) (hS : SW σ') {v : Int32} (hF : FRs B i σ' (am_fx am_P (d + 198) 336 0 [some (.ref 64), some (.int (i 0 (j + 1)))] [] (am_wI B i)) (.inl (some (.int v)))) (hM : ∀ (B0 : am_A) (i0 : Nat → Nat → Int32), MR B0 i0 σ → MRs B0 i0 σ' (am_fx am_P (d + 199) 134 0 [some (.ref 874), some (.int (i 0 (j + 1))), none, none, none, none] [] (am_wI B0 i0)) (some (.int v)) 0) : Stq B i d 3242 j := by
  obtain ⟨B1, i1, e1, c1, l1, n1, f1⟩ := hF
  obtain ⟨B2, i2, e2, t2, c2, l2, f2⟩ := hM (am_sJ B1 892 0 v.toInt64) i1 (MR_of h.2.1 l1 Le.sJ f1)
  have hN := h.2.1.1.2
  have w := Sc_Lw h hs hO
  have w1 := Lw_le w l1 hN
  have hN1 := Nat.le_trans hN l1.1
  have w2 := Lw_le w1 (Le.tr Le.sJ l2.le) hN1
  have e0 : i1 0 = i 0 := funext fun k => f1 0 k (by omega)
  exact ⟨B2, i2, σ', ga_44 w w1 w2 hs.2.2.1 hs.2.2.2 e0 e1 e2 t2 (by rw [l2.2.2.2.2.2.2 892 (by omega)]; exact y_sJJ), fin_k hN hS c1 l1 n1 f1 Le.sJ rfl ⟨rfl, rfl⟩ c2 l2 f2⟩
theorem kx_44_2 (h : Sim B i σ) (hs : Sc B i L j) (hO : am_K B 892 = 22 ∧ am_L B 892 = 1) {v : Int32} (hF : FRs B i σ (am_fx am_P (d + 198) 336 0 [some (.ref 64), some (.int (i 0 (j + 1)))] [] (am_wI B i)) (.inr 2)) (hM : ∀ (B0 : am_A) (i0 : Nat → Nat → Int32), MR B0 i0 σ → MRs B0 i0 σ (am_fx am_P (d + 199) 134 0 [some (.ref 874), some (.int (i 0 (j + 1))), none, none, none, none] [] (am_wI B0 i0)) (some (.int v)) 1) : Stq B i d 3242 j := by
  obtain ⟨B1, i1, e1, c1, l1, n1, f1⟩ := hF
  obtain ⟨B2, i2, e2, t2, c2, l2, f2⟩ := hM (am_nx B1) i1 (MR_of h.2.1 l1 Le.nx f1)
  have hN := h.2.1.1.2
  have w := Sc_Lw h hs hO
  have w1 := Lw_le w l1 hN
  have hN1 := Nat.le_trans hN l1.1
  have w1x := Lw_le w1 Le.nx hN1
  have w2 := Lw_le w1 (Le.tr Le.nx l2.le) hN1
  have e0 : i1 0 = i 0 := funext fun k => f1 0 k (by omega)
  exact ⟨B2, i2, σ, gx_44_2 w w1 w2 hs.2.2.1 hs.2.2.2 e0 w1x e1 e2 t2, fin_k hN h.2.2 c1 l1 n1 f1 Le.nx rfl ⟨rfl, rfl⟩ c2 l2 f2⟩
theorem kk_45 (h : Sim B i σ) (hs : Sc B i L j) (hO : am_K B 892 = 22 ∧ am_L B 892 = 1) (hS : SW σ') {v : Int32} (hF : FRs B i σ' (am_fx am_P (d + 198) 337 0 [some (.ref 64), some (.int (i 0 (j + 1))), some (.int (i 0 (j + 2))), some (.int (i 0 (j + 3))), some (.int (i 0 (j + 4)))] [] (am_wI B i)) (.inl (some (.int v)))) (hM : ∀ (B0 : am_A) (i0 : Nat → Nat → Int32), MR B0 i0 σ → MRs B0 i0 σ' (am_fx am_P (d + 199) 135 0 [some (.ref 874), some (.int (i 0 (j + 1))), some (.int (i 0 (j + 2))), some (.int (i 0 (j + 3))), some (.int (i 0 (j + 4))), none] [] (am_wI B0 i0)) (some (.int v)) 0) : Stq B i d 3298 j := by
  obtain ⟨B1, i1, e1, c1, l1, n1, f1⟩ := hF
  obtain ⟨B2, i2, e2, t2, c2, l2, f2⟩ := hM (am_sJ B1 892 0 v.toInt64) i1 (MR_of h.2.1 l1 Le.sJ f1)
  have hN := h.2.1.1.2
  have w := Sc_Lw h hs hO
  have w1 := Lw_le w l1 hN
  have hN1 := Nat.le_trans hN l1.1
  have w2 := Lw_le w1 (Le.tr Le.sJ l2.le) hN1
  have e0 : i1 0 = i 0 := funext fun k => f1 0 k (by omega)
  exact ⟨B2, i2, σ', ga_45 w w1 w2 hs.2.2.1 hs.2.2.2 e0 e1 e2 t2 (by rw [l2.2.2.2.2.2.2 892 (by omega)]; exact y_sJJ), fin_k hN hS c1 l1 n1 f1 Le.sJ rfl ⟨rfl, rfl⟩ c2 l2 f2⟩
theorem kx_45_2 (h : Sim B i σ) (hs : Sc B i L j) (hO : am_K B 892 = 22 ∧ am_L B 892 = 1) {v : Int32} (hF : FRs B i σ (am_fx am_P (d + 198) 337 0 [some (.ref 64), some (.int (i 0 (j + 1))), some (.int (i 0 (j + 2))), some (.int (i 0 (j + 3))), some (.int (i 0 (j + 4)))] [] (am_wI B i)) (.inr 2)) (hM : ∀ (B0 : am_A) (i0 : Nat → Nat → Int32), MR B0 i0 σ → MRs B0 i0 σ (am_fx am_P (d + 199) 135 0 [some (.ref 874), some (.int (i 0 (j + 1))), some (.int (i 0 (j + 2))), some (.int (i 0 (j + 3))), some (.int (i 0 (j + 4))), none] [] (am_wI B0 i0)) (some (.int v)) 1) : Stq B i d 3298 j := by
  obtain ⟨B1, i1, e1, c1, l1, n1, f1⟩ := hF
  obtain ⟨B2, i2, e2, t2, c2, l2, f2⟩ := hM (am_nx B1) i1 (MR_of h.2.1 l1 Le.nx f1)
  have hN := h.2.1.1.2
  have w := Sc_Lw h hs hO
  have w1 := Lw_le w l1 hN
  have hN1 := Nat.le_trans hN l1.1
  have w1x := Lw_le w1 Le.nx hN1
  have w2 := Lw_le w1 (Le.tr Le.nx l2.le) hN1
  have e0 : i1 0 = i 0 := funext fun k => f1 0 k (by omega)
  exact ⟨B2, i2, σ, gx_45_2 w w1 w2 hs.2.2.1 hs.2.2.2 e0 w1x e1 e2 t2, fin_k hN h.2.2 c1 l1 n1 f1 Le.nx rfl ⟨rfl, rfl⟩ c2 l2 f2⟩
theorem kk_46 (h : Sim B i σ) (hs : Sc B i L j) (hO : am_K B 892 = 22 ∧ am_L B 892 = 1) (hS : SW σ') (hF : FRs B i σ' (am_fx am_P (d + 198) 338 0 [some (.ref 64), some (.int (i 0 (j + 1))), some (.int (i 0 (j + 2))), some (.int (i 0 (j + 3)))] [] (am_wI B i)) (.inl none)) (hM : ∀ (B0 : am_A) (i0 : Nat → Nat → Int32), MR B0 i0 σ → MRs B0 i0 σ' (am_fx am_P (d + 199) 136 0 [some (.ref 874), some (.int (i 0 (j + 1))), some (.int (i 0 (j + 2))), some (.int (i 0 (j + 3)))] [] (am_wI B0 i0)) none 0) : Stq B i d 3390 j := by
  obtain ⟨B1, i1, e1, c1, l1, n1, f1⟩ := hF
  obtain ⟨B2, i2, e2, t2, c2, l2, f2⟩ := hM B1 i1 (MR_of h.2.1 l1 (Le.rf B1) f1)
  have hN := h.2.1.1.2
  have w := Sc_Lw h hs hO
  have w1 := Lw_le w l1 hN
  have hN1 := Nat.le_trans hN l1.1
  have w2 := Lw_le w1 (Le.tr (Le.rf B1) l2.le) hN1
  have e0 : i1 0 = i 0 := funext fun k => f1 0 k (by omega)
  exact ⟨B2, i2, σ', ga_46 w w1 w2 hs.2.2.1 hs.2.2.2 e0 e1 e2 t2, fin_k hN hS c1 l1 n1 f1 (Le.rf B1) rfl ⟨rfl, rfl⟩ c2 l2 f2⟩
theorem kx_46_2 (h : Sim B i σ) (hs : Sc B i L j) (hO : am_K B 892 = 22 ∧ am_L B 892 = 1) (hF : FRs B i σ (am_fx am_P (d + 198) 338 0 [some (.ref 64), some (.int (i 0 (j + 1))), some (.int (i 0 (j + 2))), some (.int (i 0 (j + 3)))] [] (am_wI B i)) (.inr 2)) (hM : ∀ (B0 : am_A) (i0 : Nat → Nat → Int32), MR B0 i0 σ → MRs B0 i0 σ (am_fx am_P (d + 199) 136 0 [some (.ref 874), some (.int (i 0 (j + 1))), some (.int (i 0 (j + 2))), some (.int (i 0 (j + 3)))] [] (am_wI B0 i0)) none 1) : Stq B i d 3390 j := by
  obtain ⟨B1, i1, e1, c1, l1, n1, f1⟩ := hF
  obtain ⟨B2, i2, e2, t2, c2, l2, f2⟩ := hM (am_nx B1) i1 (MR_of h.2.1 l1 Le.nx f1)
  have hN := h.2.1.1.2
  have w := Sc_Lw h hs hO
  have w1 := Lw_le w l1 hN
  have hN1 := Nat.le_trans hN l1.1
  have w1x := Lw_le w1 Le.nx hN1
  have w2 := Lw_le w1 (Le.tr Le.nx l2.le) hN1
  have e0 : i1 0 = i 0 := funext fun k => f1 0 k (by omega)
  exact ⟨B2, i2, σ, gx_46_2 w w1 w2 hs.2.2.1 hs.2.2.2 e0 w1x e1 e2 t2, fin_k hN h.2.2 c1 l1 n1 f1 Le.nx rfl ⟨rfl, rfl⟩ c2 l2 f2⟩
theorem kk_47 (h : Sim B i σ) (hs : Sc B i L j) (hO : am_K B 892 = 22 ∧ am_L B 892 = 1) (hS : SW σ') {v : Int32} (hF : FRs B i σ' (am_fx am_P (d + 199) 339 0 [some (.ref 64), some (.int (i 0 (j + 1)))] [] (am_wI B i)) (.inl (some (.int v)))) (hM : ∀ (B0 : am_A) (i0 : Nat → Nat → Int32), MR B0 i0 σ → MRs B0 i0 σ' (am_fx am_P (d + 199) 139 0 [some (.ref 874), some (.int (i 0 (j + 1)))] [] (am_wI B0 i0)) (some (.int v)) 0) : Stq B i d 3450 j := by
  obtain ⟨B1, i1, e1, c1, l1, n1, f1⟩ := hF
  obtain ⟨B2, i2, e2, t2, c2, l2, f2⟩ := hM B1 i1 (MR_of h.2.1 l1 (Le.rf B1) f1)
  have hN := h.2.1.1.2
  have w := Sc_Lw h hs hO
  have w1 := Lw_le w l1 hN
  have hN1 := Nat.le_trans hN l1.1
  have w2 := Lw_le w1 (Le.tr (Le.rf B1) l2.le) hN1
  have e0 : i1 0 = i 0 := funext fun k => f1 0 k (by omega)
  exact ⟨B2, i2, σ', ga_47 w w1 w2 hs.2.2.1 hs.2.2.2 e0 e1 e2, fin_k hN hS c1 l1 n1 f1 (Le.rf B1) rfl ⟨rfl, rfl⟩ c2 l2 f2⟩
theorem kk_48 (h : Sim B i σ) (hs : Sc B i L j) (hO : am_K B 892 = 22 ∧ am_L B 892 = 1) (hS : SW σ') {v : Int32} (hF : FRs B i σ' (am_fx am_P (d + 199) 340 0 [some (.ref 64), some (.int (i 0 (j + 1)))] [] (am_wI B i)) (.inl (some (.int v)))) (hM : ∀ (B0 : am_A) (i0 : Nat → Nat → Int32), MR B0 i0 σ → MRs B0 i0 σ' (am_fx am_P (d + 199) 141 0 [some (.ref 874), some (.int (i 0 (j + 1))), none, none, none, none] [] (am_wI B0 i0)) (some (.int v)) 0) : Stq B i d 3475 j := by
  obtain ⟨B1, i1, e1, c1, l1, n1, f1⟩ := hF
  obtain ⟨B2, i2, e2, t2, c2, l2, f2⟩ := hM B1 i1 (MR_of h.2.1 l1 (Le.rf B1) f1)
  have hN := h.2.1.1.2
  have w := Sc_Lw h hs hO
  have w1 := Lw_le w l1 hN
  have hN1 := Nat.le_trans hN l1.1
  have w2 := Lw_le w1 (Le.tr (Le.rf B1) l2.le) hN1
  have e0 : i1 0 = i 0 := funext fun k => f1 0 k (by omega)
  exact ⟨B2, i2, σ', ga_48 w w1 w2 hs.2.2.1 hs.2.2.2 e0 e1 e2, fin_k hN hS c1 l1 n1 f1 (Le.rf B1) rfl ⟨rfl, rfl⟩ c2 l2 f2⟩
theorem kk_49 (h : Sim B i σ) (hs : Sc B i L j) (hO : am_K B 892 = 22 ∧ am_L B 892 = 1) (hS : SW σ') {v : Int32} (hF : FRs B i σ' (am_fx am_P (d + 198) 305 0 [some (.ref 64), some (.int (i 0 (j + 1))), some (.int (bt (i 0 (j + 2)))), none, none] [] (am_wI B i)) (.inl (some (.int v)))) (hM : ∀ (B0 : am_A) (i0 : Nat → Nat → Int32), MR B0 i0 σ → MRs B0 i0 σ' (am_fx am_P (d + 199) 65 0 [some (.ref 874), some (.int (i 0 (j + 1))), some (.int (bt (i 0 (j + 2)))), none, none, none, none] [] (am_wI B0 i0)) (some (.int v)) 0) : Stq B i d 3500 j := by
  obtain ⟨B1, i1, e1, c1, l1, n1, f1⟩ := hF
  obtain ⟨B2, i2, e2, t2, c2, l2, f2⟩ := hM (am_sJ B1 892 0 v.toInt64) i1 (MR_of h.2.1 l1 Le.sJ f1)
  have hN := h.2.1.1.2
  have w := Sc_Lw h hs hO
  have w1 := Lw_le w l1 hN
  have hN1 := Nat.le_trans hN l1.1
  have w2 := Lw_le w1 (Le.tr Le.sJ l2.le) hN1
  have e0 : i1 0 = i 0 := funext fun k => f1 0 k (by omega)
  exact ⟨B2, i2, σ', ga_49 w w1 w2 hs.2.2.1 hs.2.2.2 e0 e1 e2 t2 (by rw [l2.2.2.2.2.2.2 892 (by omega)]; exact y_sJJ), fin_k hN hS c1 l1 n1 f1 Le.sJ rfl ⟨rfl, rfl⟩ c2 l2 f2⟩
theorem kx_49_1 (h : Sim B i σ) (hs : Sc B i L j) (hO : am_K B 892 = 22 ∧ am_L B 892 = 1) {v : Int32} (hF : FRs B i σ (am_fx am_P (d + 198) 305 0 [some (.ref 64), some (.int (i 0 (j + 1))), some (.int (bt (i 0 (j + 2)))), none, none] [] (am_wI B i)) (.inr 1)) (hM : ∀ (B0 : am_A) (i0 : Nat → Nat → Int32), MR B0 i0 σ → MRs B0 i0 σ (am_fx am_P (d + 199) 65 0 [some (.ref 874), some (.int (i 0 (j + 1))), some (.int (bt (i 0 (j + 2)))), none, none, none, none] [] (am_wI B0 i0)) (some (.int v)) 1) : Stq B i d 3500 j := by
  obtain ⟨B1, i1, e1, c1, l1, n1, f1⟩ := hF
  obtain ⟨B2, i2, e2, t2, c2, l2, f2⟩ := hM (am_nx B1) i1 (MR_of h.2.1 l1 Le.nx f1)
  have hN := h.2.1.1.2
  have w := Sc_Lw h hs hO
  have w1 := Lw_le w l1 hN
  have hN1 := Nat.le_trans hN l1.1
  have w1x := Lw_le w1 Le.nx hN1
  have w2 := Lw_le w1 (Le.tr Le.nx l2.le) hN1
  have e0 : i1 0 = i 0 := funext fun k => f1 0 k (by omega)
  exact ⟨B2, i2, σ, gx_49_1 w w1 w2 hs.2.2.1 hs.2.2.2 e0 w1x e1 e2 t2, fin_k hN h.2.2 c1 l1 n1 f1 Le.nx rfl ⟨rfl, rfl⟩ c2 l2 f2⟩
theorem kx_49_2 (h : Sim B i σ) (hs : Sc B i L j) (hO : am_K B 892 = 22 ∧ am_L B 892 = 1) {v : Int32} (hF : FRs B i σ (am_fx am_P (d + 198) 305 0 [some (.ref 64), some (.int (i 0 (j + 1))), some (.int (bt (i 0 (j + 2)))), none, none] [] (am_wI B i)) (.inr 2)) (hM : ∀ (B0 : am_A) (i0 : Nat → Nat → Int32), MR B0 i0 σ → MRs B0 i0 σ (am_fx am_P (d + 199) 65 0 [some (.ref 874), some (.int (i 0 (j + 1))), some (.int (bt (i 0 (j + 2)))), none, none, none, none] [] (am_wI B0 i0)) (some (.int v)) 2) : Stq B i d 3500 j := by
  obtain ⟨B1, i1, e1, c1, l1, n1, f1⟩ := hF
  obtain ⟨B2, i2, e2, t2, c2, l2, f2⟩ := hM (am_nx B1) i1 (MR_of h.2.1 l1 Le.nx f1)
  have hN := h.2.1.1.2
  have w := Sc_Lw h hs hO
  have w1 := Lw_le w l1 hN
  have hN1 := Nat.le_trans hN l1.1
  have w1x := Lw_le w1 Le.nx hN1
  have w2 := Lw_le w1 (Le.tr Le.nx l2.le) hN1
  have e0 : i1 0 = i 0 := funext fun k => f1 0 k (by omega)
  exact ⟨B2, i2, σ, gx_49_2 w w1 w2 hs.2.2.1 hs.2.2.2 e0 w1x e1 e2 t2, fin_k hN h.2.2 c1 l1 n1 f1 Le.nx rfl ⟨rfl, rfl⟩ c2 l2 f2⟩
theorem kk_50 (h : Sim B i σ) (hs : Sc B i L j) (hO : am_K B 892 = 22 ∧ am_L B 892 = 1) (hS : SW σ') {v : Int32} (hF : FRs B i σ' (am_fx am_P (d + 199) 341 0 [some (.ref 64)] [] (am_wI B i)) (.inl (some (.int v)))) (hM : ∀ (B0 : am_A) (i0 : Nat → Nat → Int32), MR B0 i0 σ → MRs B0 i0 σ' (am_fx am_P (d + 199) 15 0 [some (.ref 874), none] [] (am_wI B0 i0)) (some (.int v)) 0) : Stq B i d 3584 j := by
  obtain ⟨B1, i1, e1, c1, l1, n1, f1⟩ := hF
  obtain ⟨B2, i2, e2, t2, c2, l2, f2⟩ := hM B1 i1 (MR_of h.2.1 l1 (Le.rf B1) f1)
  have hN := h.2.1.1.2
  have w := Sc_Lw h hs hO
  have w1 := Lw_le w l1 hN
  have hN1 := Nat.le_trans hN l1.1
  have w2 := Lw_le w1 (Le.tr (Le.rf B1) l2.le) hN1
  have e0 : i1 0 = i 0 := funext fun k => f1 0 k (by omega)
  exact ⟨B2, i2, σ', ga_50 w w1 w2 hs.2.2.1 hs.2.2.2 e0 e1 e2, fin_k hN hS c1 l1 n1 f1 (Le.rf B1) rfl ⟨rfl, rfl⟩ c2 l2 f2⟩
theorem kk_51 (h : Sim B i σ) (hs : Sc B i L j) (hO : am_K B 892 = 22 ∧ am_L B 892 = 1) (hS : SW σ') (hF : FRs B i σ' (am_fx am_P (d + 199) 342 0 [some (.ref 64)] [] (am_wI B i)) (.inl none)) (hM : ∀ (B0 : am_A) (i0 : Nat → Nat → Int32), MR B0 i0 σ → MRs B0 i0 σ' (am_fx am_P (d + 199) 16 0 [some (.ref 874), none] [] (am_wI B0 i0)) none 0) : Stq B i d 3597 j := by
  obtain ⟨B1, i1, e1, c1, l1, n1, f1⟩ := hF
  obtain ⟨B2, i2, e2, t2, c2, l2, f2⟩ := hM B1 i1 (MR_of h.2.1 l1 (Le.rf B1) f1)
  have hN := h.2.1.1.2
  have w := Sc_Lw h hs hO
  have w1 := Lw_le w l1 hN
  have hN1 := Nat.le_trans hN l1.1
  have w2 := Lw_le w1 (Le.tr (Le.rf B1) l2.le) hN1
  have e0 : i1 0 = i 0 := funext fun k => f1 0 k (by omega)
  exact ⟨B2, i2, σ', ga_51 w w1 w2 hs.2.2.1 hs.2.2.2 e0 e1 e2, fin_k hN hS c1 l1 n1 f1 (Le.rf B1) rfl ⟨rfl, rfl⟩ c2 l2 f2⟩
theorem kk_52 (h : Sim B i σ) (hs : Sc B i L j) (hO : am_K B 892 = 22 ∧ am_L B 892 = 1) (hS : SW σ') {v : Int32} (hF : FRs B i σ' (am_fx am_P (d + 199) 343 0 [some (.ref 64)] [] (am_wI B i)) (.inl (some (.int v)))) (hM : ∀ (B0 : am_A) (i0 : Nat → Nat → Int32), MR B0 i0 σ → MRs B0 i0 σ' (am_fx am_P (d + 199) 17 0 [some (.ref 874), none] [] (am_wI B0 i0)) (some (.int v)) 0) : Stq B i d 3608 j := by
  obtain ⟨B1, i1, e1, c1, l1, n1, f1⟩ := hF
  obtain ⟨B2, i2, e2, t2, c2, l2, f2⟩ := hM B1 i1 (MR_of h.2.1 l1 (Le.rf B1) f1)
  have hN := h.2.1.1.2
  have w := Sc_Lw h hs hO
  have w1 := Lw_le w l1 hN
  have hN1 := Nat.le_trans hN l1.1
  have w2 := Lw_le w1 (Le.tr (Le.rf B1) l2.le) hN1
  have e0 : i1 0 = i 0 := funext fun k => f1 0 k (by omega)
  exact ⟨B2, i2, σ', ga_52 w w1 w2 hs.2.2.1 hs.2.2.2 e0 e1 e2, fin_k hN hS c1 l1 n1 f1 (Le.rf B1) rfl ⟨rfl, rfl⟩ c2 l2 f2⟩
theorem kk_53 (h : Sim B i σ) (hs : Sc B i L j) (hO : am_K B 892 = 22 ∧ am_L B 892 = 1) (hS : SW σ') {v : Int32} (hF : FRs B i σ' (am_fx am_P (d + 199) 344 0 [some (.ref 64), some (.int (i 0 (j + 1)))] [] (am_wI B i)) (.inl (some (.int v)))) (hM : ∀ (B0 : am_A) (i0 : Nat → Nat → Int32), MR B0 i0 σ → MRs B0 i0 σ' (am_fx am_P (d + 199) 142 0 [some (.ref 874), some (.int (i 0 (j + 1))), none, none] [] (am_wI B0 i0)) (some (.int v)) 0) : Stq B i d 3621 j := by
  obtain ⟨B1, i1, e1, c1, l1, n1, f1⟩ := hF
  obtain ⟨B2, i2, e2, t2, c2, l2, f2⟩ := hM B1 i1 (MR_of h.2.1 l1 (Le.rf B1) f1)
  have hN := h.2.1.1.2
  have w := Sc_Lw h hs hO
  have w1 := Lw_le w l1 hN
  have hN1 := Nat.le_trans hN l1.1
  have w2 := Lw_le w1 (Le.tr (Le.rf B1) l2.le) hN1
  have e0 : i1 0 = i 0 := funext fun k => f1 0 k (by omega)
  exact ⟨B2, i2, σ', ga_53 w w1 w2 hs.2.2.1 hs.2.2.2 e0 e1 e2, fin_k hN hS c1 l1 n1 f1 (Le.rf B1) rfl ⟨rfl, rfl⟩ c2 l2 f2⟩
end Kk
