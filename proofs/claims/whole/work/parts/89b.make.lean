/-! MAKE: the world when a mast is made. Made by wip/whole/math/89b.py. -/
section Make1
variable {B B1 : am_A} {i i1 : Nat → Nat → Int32} {σ σ' : Sg} {w : Nat → Int32} {L j d b m n c s T p k : Nat} {x y z : Int32} {f : Nat → Nat}
/-- the masts of a set are used up -/
def usw (w : Nat → Int32) (f : Nat → Nat) (T c : Nat) : Nat → Int32 := fun s => if ∃ k, k < c ∧ bt2 T k ∧ s = 461 + 18 * f k + 1 then 5 else w s
theorem usw_at {k : Nat} (hk : k < c) (hb : bt2 T k) : usw w f T c (461 + 18 * f k + 1) = 5 := if_pos ⟨k, hk, hb, rfl⟩
theorem usw_ne {s : Nat} (h : ∀ k, k < c → bt2 T k → s ≠ 461 + 18 * f k + 1) : usw w f T c s = w s := if_neg fun ⟨k, a, b, e⟩ => h k a b e
theorem usw_r {p r : Nat} (h1 : r ≠ 1) (h2 : r < 18) : usw w f T c (461 + 18 * p + r) = w (461 + 18 * p + r) := usw_ne fun k _ _ e => by omega
theorem usw_out {s : Nat} (h : s < 461 ∨ 2621 ≤ s) (hf : ∀ k, k < c → f k < 120) : usw w f T c s = w s := usw_ne fun k hk _ e => by have := hf k hk; omega
theorem usw_0 : usw w f T 0 = w := funext fun s => usw_ne fun k hk _ => absurd hk (Nat.not_lt_zero k)
theorem usw_s : usw w f T (k + 1) = if bt2 T k then wu (usw w f T k) (461 + 18 * f k + 1) 5 else usw w f T k := by
  funext s
  by_cases g : bt2 T k
  · rw [if_pos g]
    by_cases e : s = 461 + 18 * f k + 1
    · rw [e, usw_at (by omega) g, wu_at rfl]
    · rw [wu_ne e]
      by_cases q : ∃ r, r < k ∧ bt2 T r ∧ s = 461 + 18 * f r + 1
      · obtain ⟨r, a, b, e2⟩ := q
        rw [e2, usw_at (by omega) b, usw_at a b]
      · rw [usw_ne fun r a b e2 => q ⟨r, a, b, e2⟩, usw_ne fun r a b e2 => ?_]
        by_cases h : r = k
        · exact e (by rw [e2, h])
        · exact q ⟨r, by omega, b, e2⟩
  · rw [if_neg g]
    by_cases q : ∃ r, r < k ∧ bt2 T r ∧ s = 461 + 18 * f r + 1
    · obtain ⟨r, a, b, e2⟩ := q
      rw [e2, usw_at (by omega) b, usw_at a b]
    · rw [usw_ne fun r a b e2 => q ⟨r, a, b, e2⟩, usw_ne fun r a b e2 => ?_]
      by_cases h : r = k
      · exact g (by rw [← h]; exact b)
      · exact q ⟨r, by omega, b, e2⟩
theorem mf_lt (hW : Wd w) {a k : Nat} (h : a < k) (hk : k < mc w) : mf w a < mf w k := (mst_ok (w := w) (cn w 460)).2.2 a k h hk
theorem Wd_usw {w : Nat → Int32} {T : Nat} (hW : Wd w) : ∀ k, k ≤ mc w → Wd (usw w (mf w) T k)
  | 0, _ => by rw [usw_0]; exact hW
  | k + 1, hk => by
    have ih := Wd_usw (T := T) hW k (by omega)
    rw [usw_s]
    by_cases g : bt2 T k
    rotate_left
    · rw [if_neg g]
      exact ih
    rw [if_pos g]
    obtain ⟨m8, hm⟩ := mf_ok hW
    have h120 := hW.1.2.2.1.2
    obtain ⟨p1, p2, -, -⟩ := hm k (by omega)
    have hcn : ∀ s, s < 461 ∨ 2621 ≤ s → usw w (mf w) T k s = w s := fun s hs => usw_out hs fun r hr => by have := (hm r (by omega)).1; omega
    have e460 : cn (usw w (mf w) T k) 460 = cn w 460 := by unfold cn; rw [hcn _ (by omega)]
    have epl : usw w (mf w) T k (461 + 18 * mf w k + 1) = w (461 + 18 * mf w k + 1) := usw_ne fun r hr _ e => by
      have := mf_lt hW hr (by omega)
      omega
    have hP := ih.2.2.2.1.1 (mf w k) (by rw [e460]; exact p1) (by omega)
    refine Wd_pc ih (p := mf w k) (by rw [e460]; exact p1) (by omega) (fun z hz => wu_ne (by omega)) ?_ ?_ ?_
    · obtain ⟨a1, a2, a3, a4, a5, a6, a7, a8, a9, a10, a11, a12, a13⟩ := hP
      have e2 : cn (wu (usw w (mf w) T k) (461 + 18 * mf w k + 1) 5) (461 + 18 * mf w k + 2) = cn (usw w (mf w) T k) (461 + 18 * mf w k + 2) := by unfold cn; rw [wu_ne (by omega)]
      refine ⟨?_, ?_, ?_, ?_, ?_, ?_, ?_, ?_, ?_, ?_, ?_, ?_, ?_⟩
      · rw [e2, wu_ne (by omega), wu_ne (by omega)]
        exact a1
      · rw [wu_ne (by omega)]
        exact a2
      · rw [wu_at rfl]
        decide
      · rw [wu_ne (by omega)]
        exact a4
      · rw [wu_ne (by omega)]
        exact a5
      · rw [wu_ne (by omega), wu_ne (by omega)]
        exact a6
      · rw [wu_ne (by omega)]
        exact a7
      · rw [wu_ne (by omega), wu_ne (by omega)]
        exact a8
      · rw [wu_ne (by omega), wu_ne (by omega)]
        exact a9
      · rw [wu_at rfl]
        exact fun q => absurd q (by decide)
      · rw [wu_ne (by omega)]
        exact a11
      · rw [wu_ne (by omega)]
        exact a12
      · rw [wu_ne (by omega)]
        exact a13
    · unfold lnt
      rw [if_neg (fun q => q.2 (wu_at rfl))]
      exact Nat.zero_le _
    · intro s n hs s8 hn n8 g1 e
      have q := (ih.2.2.2.2.2.2.2.2.2.2 s hs s8 n hn n8 g1 (by rw [e]; omega)).1
      rw [e, epl] at q
      rcases p2.2 with r | r <;> rw [r] at q <;> exact absurd q (by decide)
/-- how long the masts of a set are together, by their numbers -/
abbrev usd (w : Nat → Int32) (T p : Nat) : Prop := ∃ k, k < mc w ∧ bt2 T k ∧ p = mf w k
abbrev sPf (w : Nat → Int32) (T p a : Nat) : Nat := a + if usd w T p then cn w (461 + 18 * p + 2) else 0
theorem lng_usw {w : Nat → Int32} {T : Nat} (hW : Wd w) : ∀ n, itr (fun p a => a + lnt (usw w (mf w) T (mc w)) p) n 0 + itr (sPf w T) n 0 = itr (fun p a => a + lnt w p) n 0
  | 0 => rfl
  | n + 1 => by
    have ih := lng_usw (T := T) hW n
    show (_ + lnt (usw w (mf w) T (mc w)) n) + (itr (sPf w T) n 0 + if usd w T n then cn w (461 + 18 * n + 2) else 0) = _ + lnt w n
    have key : lnt (usw w (mf w) T (mc w)) n + (if usd w T n then cn w (461 + 18 * n + 2) else 0) = lnt w n := by
      have e0 : usw w (mf w) T (mc w) (461 + 18 * n) = w (461 + 18 * n) := usw_r (r := 0) (by omega) (by omega)
      have e2 : cn (usw w (mf w) T (mc w)) (461 + 18 * n + 2) = cn w (461 + 18 * n + 2) := by unfold cn; rw [usw_r (by omega) (by omega)]
      by_cases q : usd w T n
      · rw [if_pos q]
        obtain ⟨k, hk, hb, e⟩ := q
        have p2 := ((mf_ok hW).2 k hk).2.1
        rw [← e] at p2
        have e1 : usw w (mf w) T (mc w) (461 + 18 * n + 1) = 5 := by rw [e]; exact usw_at hk hb
        unfold lnt
        rw [if_neg (fun r => r.2 e1), if_pos ⟨p2.1, fun r => by rcases p2.2 with u | u <;> rw [u] at r <;> exact absurd r (by decide)⟩, Nat.zero_add]
      · rw [if_neg q]
        have e1 : usw w (mf w) T (mc w) (461 + 18 * n + 1) = w (461 + 18 * n + 1) := usw_ne fun k hk hb e => q ⟨k, hk, hb, by omega⟩
        unfold lnt
        rw [e0, e1, e2, Nat.add_zero]
    omega
theorem itr_mon {g : Nat → Nat} {n N : Nat} (h : n ≤ N) : itr (fun p a => a + g p) n 0 ≤ itr (fun p a => a + g p) N 0 := by
  induction N with
  | zero => rw [show n = 0 by omega]; exact Nat.le_refl _
  | succ N ih =>
    rcases Nat.lt_or_ge N n with q | q
    · rw [show n = N + 1 by omega]
      exact Nat.le_refl _
    · exact Nat.le_trans (ih q) (Nat.le_add_right _ _)
theorem sN_sP {w : Nat → Int32} {T : Nat} (hW : Wd w) : ∀ k, k ≤ mc w → ∀ n, (∀ r, r < k → mf w r < n) → sN w (mf w) T k ≤ itr (sPf w T) n 0
  | 0, _, _, _ => Nat.zero_le _
  | k + 1, hk, n, h => by
    have ih := sN_sP (T := T) hW k (by omega) (mf w k) fun r hr => mf_lt hW hr (by omega)
    have h1 : itr (sPf w T) (mf w k + 1) 0 ≤ itr (sPf w T) n 0 := itr_mon (g := fun p => if usd w T p then cn w (461 + 18 * p + 2) else 0) (h k (by omega))
    have e : itr (sPf w T) (mf w k + 1) 0 = itr (sPf w T) (mf w k) 0 + if usd w T (mf w k) then cn w (461 + 18 * mf w k + 2) else 0 := rfl
    show fsn w (mf w) T k (sN w (mf w) T k) ≤ _
    unfold fsn
    by_cases g : bt2 T k
    · rw [if_pos (show usd w T (mf w k) from ⟨k, by omega, g, rfl⟩)] at e
      rw [if_pos g]
      omega
    · rw [if_neg g]
      omega
theorem lng_use (hW : Wd w) : lng (usw w (mf w) T (mc w)) + sN w (mf w) T (mc w) ≤ lng w := by
  obtain ⟨m8, hm⟩ := mf_ok hW
  have h120 := hW.1.2.2.1.2
  have e460 : cn (usw w (mf w) T (mc w)) 460 = cn w 460 := by unfold cn; rw [usw_out (by omega) fun r hr => by have := (hm r hr).1; omega]
  have h1 := lng_usw (T := T) hW (cn w 460)
  have h2 := sN_sP (T := T) hW (mc w) (Nat.le_refl _) (cn w 460) fun r hr => (hm r hr).1
  rw [lng_lnt, lng_lnt, e460]
  omega
/-- the least DRY, the greatest ROT of a set; its first -/
abbrev fdy (w : Nat → Int32) (f : Nat → Nat) (T k : Nat) (a : Int32) : Int32 := if bt2 T k then mn a (w (461 + 18 * f k + 6)) else a
def dyf (w : Nat → Int32) (f : Nat → Nat) (T c : Nat) (a : Int32) : Int32 := itr (fdy w f T) c a
abbrev frt (w : Nat → Int32) (f : Nat → Nat) (T k : Nat) (a : Int32) : Int32 := if bt2 T k then mx a (w (461 + 18 * f k + 7)) else a
def rtf (w : Nat → Int32) (f : Nat → Nat) (T c : Nat) : Int32 := itr (frt w f T) c 0
theorem dyf_s : dyf w f T (c + 1) x = fdy w f T c (dyf w f T c x) := rfl
theorem rtf_s : rtf w f T (c + 1) = frt w f T c (rtf w f T c) := rfl
def fb (T : Nat) : Nat := match fst0 (fun k => decide (bt2 T k)) 8 with
  | some k => k
  | none => 0
theorem fb_a : ∀ c, c < 9 → ∀ T, T < 2 ^ c → 0 < T → fb T < c ∧ bt2 T (fb T) := by decide +kernel
theorem fb_b : ∀ T, T < 256 → ∀ r, r < 8 → r < fb T → ¬ bt2 T r := by decide +kernel
theorem fb_ok {c T : Nat} (hc : c < 9) (hT : T < 2 ^ c) (h0 : 0 < T) : fb T < c ∧ bt2 T (fb T) ∧ ∀ r, r < fb T → ¬ bt2 T r := by
  obtain ⟨h1, h2⟩ := fb_a c hc T hT h0
  have := Nat.pow_le_pow_right (n := 2) (by omega) (show c ≤ 8 by omega)
  exact ⟨h1, h2, fun r hr => fb_b T (by omega) r (by omega) hr⟩
/-- what is made of a set T -/
abbrev mkf (w : Nat → Int32) (T : Nat) : Nat → Int32 := npf 2 2 (lM w T) (tM w T) 0 (w (461 + 18 * mf w (fb T) + 5)) (dyf w (mf w) T (mc w) (w (461 + 18 * mf w (fb T) + 6))) (rtf w (mf w) T (mc w)) (w (461 + 18 * mf w (fb T) + 9)) (w (461 + 18 * mf w (fb T) + 10)) (w 0) 0
abbrev mkw (w : Nat → Int32) (T c : Nat) : Nat → Int32 := pcw (usw w (mf w) T (mc w)) c (mkf w T)
theorem Wd_make {c : Nat} (hW : Wd w) (hc : w 460 = Int32.ofNat c) (c6 : c < 120) (hT : T < 2 ^ mc w) (h0 : 0 < T) : Wd (mkw w T c) := by
  obtain ⟨m8, hm⟩ := mf_ok hW
  have hb := pcn_bit (mc w) (by omega) T hT h0
  obtain ⟨f1, f2, -⟩ := fb_ok (c := mc w) (by omega) hT h0
  obtain ⟨p1, p2, -, t1, t2⟩ := hm (fb T) f1
  obtain ⟨l, el, l5, ls, l12⟩ := jl_ok hW hb
  obtain ⟨u, eu, hu⟩ := jt_v (T := T) hW
  have k0 := hW.1.1
  have k02 := k0.2
  obtain ⟨b1, b2, b3, b4, b5, b6, b7, b8, b9, b10, b11, b12, b13⟩ := hW.2.2.2.1.1 (mf w (fb T)) p1 (by have := cn_of hc (by omega); omega)
  have hcu : usw w (mf w) T (mc w) 460 = Int32.ofNat c := by rw [usw_out (by omega) fun r hr => by have := (hm r hr).1; have := cn_of hc (by omega); omega]; exact hc
  have o0 : ∀ s, s < 460 ∨ 2621 ≤ s → usw w (mf w) T (mc w) s = w s := fun s hs => usw_out (by omega) fun r hr => by have := (hm r hr).1; have := cn_of hc (by omega); omega
  have c2 : cn (mkw w T c) (461 + 18 * c + 2) = l := cn_of ((pcw_at (by omega)).trans (show lM w T = _ from el)) (by omega)
  have hd : ∀ r, r ≤ mc w → ¬ dyf w (mf w) T r (w (461 + 18 * mf w (fb T) + 6)) < 0 ∧ ¬ w 0 < dyf w (mf w) T r (w (461 + 18 * mf w (fb T) + 6)) := by
    intro r
    induction r with
    | zero => exact fun _ => b6
    | succ r ih =>
      intro hr
      have ih := ih (by omega)
      rw [dyf_s]
      unfold fdy mn
      split
      · split
        · have := (hm r (by omega)).1
          exact (hW.2.2.2.1.1 (mf w r) this (by have := cn_of hc (by omega); omega)).2.2.2.2.2.1
        · exact ih
      · exact ih
  have hr : ∀ r, r ≤ mc w → ¬ rtf w (mf w) T r < 0 ∧ rtf w (mf w) T r < 101 := by
    intro r
    induction r with
    | zero => exact fun _ => by show ¬ (0 : Int32) < 0 ∧ (0 : Int32) < 101; decide
    | succ r ih =>
      intro hr
      have ih := ih (by omega)
      rw [rtf_s]
      unfold frt mx
      split
      · split
        · have := (hm r (by omega)).1
          exact (hW.2.2.2.1.1 (mf w r) this (by have := cn_of hc (by omega); omega)).2.2.2.2.2.2.1
        · exact ih
      · exact ih
  refine Wd_new (Wd_usw hW _ (Nat.le_refl _)) hcu c6 ⟨?_, ?_, ?_, ?_, ?_, ?_, ?_, ?_, ?_, ?_, ?_, ?_, ?_⟩ ?_
  · rw [c2, pcw_at (by omega), pcw_0]
    exact ⟨el, l5, l12, fun q => absurd rfl q⟩
  · rw [pcw_0]
    show ¬ (2 : Int32) < 0 ∧ (2 : Int32) < 4
    decide
  · rw [pcw_at (by omega)]
    show ¬ (2 : Int32) < 0 ∧ (2 : Int32) < 7
    decide
  · rw [pcw_at (by omega)]
    show ¬ tM w T < 0 ∧ tM w T < 61
    rw [show tM w T = Int32.ofNat u from eu, z_neg (by omega), show (61 : Int32) = Int32.ofNat 61 from rfl, z_lt (by omega) (by omega)]
    exact ⟨id, by omega⟩
  · rw [pcw_at (by omega)]
    exact b5
  · rw [pcw_at (by omega), pcw_ne (by omega), o0 _ (by omega)]
    exact hd _ (Nat.le_refl _)
  · rw [pcw_at (by omega)]
    exact hr _ (Nat.le_refl _)
  · rw [pcw_at (by omega), pcw_ne (by omega), o0 _ (by omega)]
    exact b8
  · rw [pcw_at (by omega)]
    exact Or.inl rfl
  · rw [pcw_at (by omega)]
    exact fun q => absurd (show (2 : Int32) = 3 from q) (by decide)
  · rw [pcw_at (by omega)]
    exact Or.inl rfl
  · rw [pcw_at (by omega)]
    refine Or.inr ?_
    show ¬ w 0 < 0 ∧ w 0 < 4001
    rw [k0.1, z_neg (by omega), show (4001 : Int32) = Int32.ofNat 4001 from rfl, z_lt (by omega) (by omega)]
    exact ⟨id, by omega⟩
  · rw [pcw_at (by omega)]
    exact Or.inl rfl
  · rw [lng_new hcu c6]
    have h1 := lng_use (T := T) hW
    have h2 := hW.2.2.2.1.2
    rw [cn_of hc (by omega)] at h2
    have h3 : lnt (mkw w T c) c ≤ l := by
      unfold lnt
      rw [c2]
      split <;> omega
    have h3 : lnt (pcw (usw w (mf w) T (mc w)) c (mkf w T)) c ≤ l := h3
    omega
end Make1
