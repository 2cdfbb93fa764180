/-! WARRANT: a world with one text more. Made by wip/whole/math/948.py. -/
/-- the world with one text more -/
def wtx (w u : Nat → Int32) (day : Int32) : Nat → Int32 := fun z => if z = 3541 then Int32.ofNat (cn w 3541 + 1) else if 3542 + 850 * cn w 3541 ≤ z ∧ z < 3542 + 850 * cn w 3541 + 850 then (if z = 3542 + 850 * cn w 3541 then day else u (12042 + (z - (3542 + 850 * cn w 3541)))) else w z
section Wtx
variable {B B1 : am_A} {i i1 : Nat → Nat → Int32} {N : Nat → Nat} {w u v w' : Nat → Int32} {L o n q k t : Nat} {day : Int32} {r : Nat × PS}
theorem wtx_lo {z : Nat} (h : z < 3541) : wtx w u day z = w z := by
  unfold wtx
  rw [if_neg (by omega), if_neg (by omega)]
theorem wtx_n : wtx w u day 3541 = Int32.ofNat (cn w 3541 + 1) := if_pos rfl
theorem wtx_old {z : Nat} (h : 3542 ≤ z) (h2 : z < 3542 + 850 * cn w 3541) : wtx w u day z = w z := by
  unfold wtx
  rw [if_neg (by omega), if_neg (by omega)]
theorem wtx_0 : wtx w u day (3542 + 850 * cn w 3541) = day := by
  unfold wtx
  rw [if_neg (by omega), if_pos ⟨Nat.le_refl _, by omega⟩, if_pos rfl]
theorem wtx_z {z : Nat} (h1 : 1 ≤ z) (h2 : z < 850) : wtx w u day (3542 + 850 * cn w 3541 + z) = u (12042 + z) := by
  unfold wtx
  rw [if_neg (by omega), if_pos ⟨by omega, by omega⟩, if_neg (by omega), Nat.add_sub_cancel_left]
theorem TxD_of {a e : Nat} (h : a = e ∨ (a < e ∧ CE u a e 15)) (hae : a ≤ e) (h4 : e ≤ 400) (hw : ∀ z, 2 ≤ z → z < 850 → w (o + z) = u (12042 + z)) : TxD w o a e := by
  refine ⟨hae, h4, ?_⟩
  rcases h with h | ⟨h, dp, d0, d1, d⟩
  · exact ⟨fun _ => 0, rfl, fun q => by omega, fun i h1 h2 => by omega⟩
  · refine ⟨dp, d0, fun _ => d1, fun i h1 h2 => ?_⟩
    obtain ⟨c1, c2, c3⟩ := d i h1 h2
    unfold stO at c3
    rw [show w (o + 50 + 2 * i) = u (12092 + 2 * i) by rw [Nat.add_assoc, hw _ (by omega) (by omega)]; congr 1; omega, show w (o + 50 + 2 * i + 1) = u (12092 + 2 * i + 1) by rw [show o + 50 + 2 * i + 1 = o + (50 + 2 * i + 1) by omega, hw _ (by omega) (by omega)]; congr 1; omega]
    exact ⟨by omega, by omega, c3⟩
theorem TxW_new (hd : ¬ day < 0 ∧ day < 4001) (h : txtS N L u = .inr r) (l400 : L ≤ 400) (h0 : w o = day) (hw : ∀ z, 1 ≤ z → z < 850 → w (o + z) = wu r.2.2.2 12043 (Int32.ofNat r.1) (12042 + z)) : TxW w o := by
  obtain ⟨e, e0, e1, r12, rL, ek⟩ := txt_pr h
  have w1 : w (o + 1) = Int32.ofNat r.1 := by rw [hw 1 (by omega) (by omega)]; exact wu_at rfl
  have cn1 : cn w (o + 1) = r.1 := by
    unfold cn
    rw [w1, z_nat (by omega)]
  have w2 : ∀ z, 2 ≤ z → z < 850 → w (o + z) = r.2.2.2 (12042 + z) := fun z h1 h2 => by
    rw [hw z (by omega) h2]
    exact wu_ne (by omega)
  have key : ∀ n, n < r.1 → w (o + 2 + 4 * n) = r.2.2.2 (12044 + 4 * n) ∧ w (o + 2 + 4 * n + 1) = r.2.2.2 (12044 + 4 * n + 1) ∧ w (o + 2 + 4 * n + 2) = r.2.2.2 (12044 + 4 * n + 2) ∧ w (o + 2 + 4 * n + 3) = r.2.2.2 (12044 + 4 * n + 3) := fun n hn => by
    refine ⟨?_, ?_, ?_, ?_⟩
    · rw [show o + 2 + 4 * n = o + (2 + 4 * n) by omega, w2 _ (by omega) (by omega)]
      exact congrArg r.2.2.2 (by omega)
    · rw [show o + 2 + 4 * n + 1 = o + (2 + 4 * n + 1) by omega, w2 _ (by omega) (by omega)]
      exact congrArg r.2.2.2 (by omega)
    · rw [show o + 2 + 4 * n + 2 = o + (2 + 4 * n + 2) by omega, w2 _ (by omega) (by omega)]
      exact congrArg r.2.2.2 (by omega)
    · rw [show o + 2 + 4 * n + 3 = o + (2 + 4 * n + 3) by omega, w2 _ (by omega) (by omega)]
      exact congrArg r.2.2.2 (by omega)
  refine ⟨by rw [h0]; exact hd, ⟨by rw [cn1]; exact w1, by rw [cn1]; exact r12⟩, fun n hn => ?_⟩
  rw [cn1] at hn
  obtain ⟨k1, k2, k3, k4⟩ := key n hn
  obtain ⟨c1, c2, v, y, hv, hy, l0, l1, l2, l3, l4⟩ := ek n hn
  have f2 : cn w (o + 2 + 4 * n + 2) = e n := by
    unfold cn
    rw [k3, l2, z_nat (by omega)]
  have f3 : cn w (o + 2 + 4 * n + 3) = e (n + 1) := by
    unfold cn
    rw [k4, l3, z_nat (by omega)]
  rw [f2, f3, k1, k2, k3, k4, l0, l1, l2, l3]
  refine ⟨⟨by rw [z_neg (by omega)]; exact id, by rw [z_ltl (by omega) (by decide)]; exact hv⟩, ⟨by rw [z_neg (by omega)]; exact id, by rw [z_ltl (by omega) (by decide)]; exact hy⟩, ⟨rfl, rfl⟩, ?_, TxD_of l4 c1 (by omega) w2⟩
  by_cases g : n = 0
  · rw [if_pos g, g, e0]
  · rw [if_neg g]
    obtain ⟨-, -, v', y', -, -, -, -, -, m3, -⟩ := ek (n - 1) (by omega)
    obtain ⟨-, -, -, j4⟩ := key (n - 1) (by omega)
    unfold cn
    rw [j4, m3, show n - 1 + 1 = n by omega, z_nat (by omega)]
theorem Wd_text (hW : Wd w) (h10 : cn w 3541 < 10) (hX : TxW (wtx w u day) (3542 + 850 * cn w 3541)) : Wd (wtx w u day) := by
  obtain ⟨hC, hR, hT, hP, hS, hG, hE, hM, hX0, hZ, hI⟩ := hW
  have cnn : cn (wtx w u day) 3541 = cn w 3541 + 1 := by
    unfold cn
    rw [wtx_n, z_nat (by omega)]
    rfl
  have l460 := hC.2.2.1.2
  obtain ⟨a1, a2, a3, a4, a5, a6, a7, a8, a9, a10⟩ := hC
  refine ⟨⟨isc_fr a1 (wtx_lo (by omega)), isc_fr a2 (wtx_lo (by omega)), isc_fr a3 (wtx_lo (by omega)), isc_fr a4 (wtx_lo (by omega)), isc_fr a5 (wtx_lo (by omega)), isc_fr a6 (wtx_lo (by omega)), isc_fr a7 (wtx_lo (by omega)), isc_fr a8 (wtx_lo (by omega)), isc_fr a9 (wtx_lo (by omega)), ⟨by rw [cnn]; exact wtx_n, by rw [cnn]; omega⟩⟩, WdR_fr hR fun s hs => wtx_lo (by omega), WdT_fr hT fun s hs => wtx_lo (by omega), WdP_fr hP l460 fun s hs => wtx_lo (by omega), WdS_fr hS fun s hs => wtx_lo (by omega), WdG_fr hG fun s hs => wtx_lo (by omega), WdE_fr hE fun s hs => wtx_lo (by omega), WdM_fr hM fun s hs => wtx_lo (by omega), fun t ht h6 => ?_, WdZ_fr hZ fun s hs => wtx_lo (by omega), WdI_fr hI fun s hs => wtx_lo (by omega)⟩
  rw [cnn] at ht
  by_cases q : t = cn w 3541
  · rw [q]
    exact hX
  · exact TxW_fr (hX0 t (by omega) h6) fun s hs => wtx_old (by omega) (by omega)
/-- a text is the same at another place -/
theorem TxR_mv {o' : Nat} (h : TxR B i q w o) (hN : am_N B ≤ am_N B1) (hK : ∀ x, q ≤ x → x < q + 5 → am_K B1 x = am_K B x ∧ am_L B1 x = am_L B x ∧ am_R B1 x = am_R B x) (hi : ∀ x k, q ≤ x → x < q + 5 → i1 x k = i x k) (hc : cn w (o + 1) ≤ 12) (hl : am_L B (q + 4) ≤ 400) (hw : ∀ z, 1 ≤ z → z < 850 → w' (o' + z) = w (o + z)) : TxR B1 i1 q w' o' := by
  obtain ⟨b1, b2, b3, b4, b5, b6, b7, b8, b9, b10⟩ := h
  have c1 : cn w' (o' + 1) = cn w (o + 1) := by unfold cn; rw [hw 1 (by omega) (by omega)]
  refine ⟨b1, by omega, ?_, ?_, ?_, ?_, ?_, ?_, fun n hn h12 => ?_, fun k hk h4 => ?_⟩
  · rw [(hK q (by omega) (by omega)).1, (hK q (by omega) (by omega)).2.2]
    exact b3
  · rw [hi _ _ (by omega) (by omega), hw 1 (by omega) (by omega)]
    exact b4
  · rw [(hK (q + 1) (by omega) (by omega)).1, (hK (q + 1) (by omega) (by omega)).2.1, c1]
    exact b5
  · rw [(hK (q + 2) (by omega) (by omega)).1, (hK (q + 2) (by omega) (by omega)).2.1, c1]
    exact b6
  · rw [(hK (q + 3) (by omega) (by omega)).1, (hK (q + 3) (by omega) (by omega)).2.1, c1]
    exact b7
  · rw [(hK (q + 4) (by omega) (by omega)).1]
    exact b8
  · rw [c1] at hn
    obtain ⟨d1, d2, d3, d4⟩ := b9 n hn h12
    have e0 : w' (o' + 2 + 4 * n) = w (o + 2 + 4 * n) := by rw [show o' + 2 + 4 * n = o' + (2 + 4 * n) by omega, hw _ (by omega) (by omega), ← Nat.add_assoc]
    have e1 : w' (o' + 2 + 4 * n + 1) = w (o + 2 + 4 * n + 1) := by rw [show o' + 2 + 4 * n + 1 = o' + (2 + 4 * n + 1) by omega, hw _ (by omega) (by omega), ← Nat.add_assoc, ← Nat.add_assoc]
    have e3 : w' (o' + 2 + 4 * n + 3) = w (o + 2 + 4 * n + 3) := by rw [show o' + 2 + 4 * n + 3 = o' + (2 + 4 * n + 3) by omega, hw _ (by omega) (by omega), ← Nat.add_assoc, ← Nat.add_assoc]
    rw [hi _ _ (by omega) (by omega), hi _ _ (by omega) (by omega), hi _ _ (by omega) (by omega), e0, e1, e3, (hK (q + 4) (by omega) (by omega)).2.1]
    refine ⟨d1, d2, d3, ?_⟩
    unfold cn
    rw [e3]
    exact d4
  · rw [(hK (q + 4) (by omega) (by omega)).2.1] at hk
    have e0 : w' (o' + 50 + 2 * k) = w (o + 50 + 2 * k) := by rw [show o' + 50 + 2 * k = o' + (50 + 2 * k) by omega, hw _ (by omega) (by omega), ← Nat.add_assoc]
    have e1 : w' (o' + 50 + 2 * k + 1) = w (o + 50 + 2 * k + 1) := by rw [show o' + 50 + 2 * k + 1 = o' + (50 + 2 * k + 1) by omega, hw _ (by omega) (by omega), ← Nat.add_assoc, ← Nat.add_assoc]
    rw [hi _ _ (by omega) (by omega), e0, e1]
    exact b10 k hk h4
end Wtx
