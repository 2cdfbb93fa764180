/-! STEPS that read and write cells -/
theorem rl_nth_ge (ls : List (Option Value)) : ∀ k, ls.length ≤ k → am_nth ls k = none := by
  induction ls with
  | nil => intro k _; rfl
  | cons x r ih =>
    intro k hk
    cases k with
    | zero => simp at hk
    | succ k => exact ih k (by simpa using hk)
theorem rl_store2' {ρ : Nat → Nat} {arr' : Array Slot} {nL : Nat} {ls : List (Option Value)} {i : Nat} {v : Value} (hp : ∀ (j : Nat) (w : Value), i = j + 1 → am_nth ls j = some (some w) → w.category ≠ 2)
    (h : lv_has arr' nL ((i, rl_cv ρ v) :: (rl_lv ρ 0 ls).filter (fun q => !(q.1 == i) && (!(q.1 == i + 1) && !(q.1 + 1 == i && q.2.category == 2))))) : rl_has ρ arr' nL ((ls.set i (some v)).set (i + 1) none) := by
  rcases Nat.lt_or_ge i ls.length with hl | hl
  · exact rl_store2 hp hl h
  · rw [List.set_eq_of_length_le (by rw [List.length_set]; omega), List.set_eq_of_length_le hl]
    refine rl_has_of h fun j w hj => List.mem_cons_of_mem _ (List.mem_filter.mpr ⟨(rl_lv_mem ls 0 j _).mpr ⟨j, w, by omega, hj, rfl⟩, ?_⟩)
    have hlt : j < ls.length := by
      rcases Nat.lt_or_ge j ls.length with q | q
      · exact q
      · rw [rl_nth_ge ls j q] at hj
        cases hj
    have h1 : (j == i) = false := by simp; omega
    have h3 : (j == i + 1) = false := by simp; omega
    have hcat : (rl_cv ρ w).category = w.category := by cases w <;> rfl
    by_cases h2 : j + 1 = i
    · have := hp j w h2.symm hj
      simp [h1, h3, hcat, this]
    · simp [h1, h3, h2]
theorem rl_fset {n b : Nat} (hb : b < n) (F F' : Nat → Value) (h : ∀ j, j ≠ b → F' j = F j) : ((List.range n).map F).set b (F' b) = (List.range n).map F' :=
  rl_upd (List.range n) List.nodup_range (by simp [hb]) F F' h
theorem rl_el_o {dA : Nat → ClassId} {ρ : Nat → Nat} {A : am_A} {a : Nat} (h : am_K A a < 20) : rl_el dA ρ A a = .inr (am_K A a - 1, (List.range (rl_n (am_K A a))).map (rl_fv ρ A a)) := by
  unfold rl_el
  rw [if_pos h]
theorem rl_el_i {dA : Nat → ClassId} {ρ : Nat → Nat} {A : am_A} {a : Nat} (h : am_K A a = 21 ∨ am_K A a = 23 ∨ am_K A a = 24) : rl_el dA ρ A a = .inl (dA (am_K A a - 21), am_L A a, .inl (am_I A a)) := by
  unfold rl_el
  rw [if_neg (by omega), if_neg (by omega), if_pos (by omega)]
theorem rl_el_j {dA : Nat → ClassId} {ρ : Nat → Nat} {A : am_A} {a : Nat} (h : am_K A a = 22) : rl_el dA ρ A a = .inl (dA 1, am_L A a, .inr (.inl (am_J A a))) := by
  unfold rl_el
  rw [if_neg (by omega), if_pos h]
theorem rl_el_q {dA : Nat → ClassId} {ρ : Nat → Nat} {A : am_A} {a : Nat} (h : 25 ≤ am_K A a) : rl_el dA ρ A a = .inl (dA (am_K A a - 21), am_L A a, .inr (.inr (.inr (.inr (fun j => (am_R A a j).map ρ))))) := by
  unfold rl_el
  rw [if_neg (by omega), if_neg (by omega), if_neg (by omega)]
theorem am_sI_self (A : am_A) (a k : Nat) (v : Int32) : am_I (am_sI A a k v) a = upd (am_I A a) k v := by
  funext j
  show am_up2 (am_I A) a k v a j = _
  simp [am_up2, upd]
theorem am_sI_ne {A : am_A} {a k b : Nat} {v : Int32} (h : b ≠ a) : am_I (am_sI A a k v) b = am_I A b := by
  funext j
  show am_up2 (am_I A) a k v b j = _
  simp [am_up2, h]
theorem am_sJ_self (A : am_A) (a k : Nat) (v : Int64) : am_J (am_sJ A a k v) a = vp_updL (am_J A a) k v := by
  funext j
  show am_up2 (am_J A) a k v a j = _
  simp [am_up2, vp_updL]
theorem am_sJ_ne {A : am_A} {a k b : Nat} {v : Int64} (h : b ≠ a) : am_J (am_sJ A a k v) b = am_J A b := by
  funext j
  show am_up2 (am_J A) a k v b j = _
  simp [am_up2, h]
theorem so_big {Z : so_Z} {ρ : Nat → Nat} {A : am_A} {H : Heap} (hk : so_k Z) (hR : so_R Z ρ A H) {a : Nat} (h0 : am_K A a ≠ 0) (h1 : am_K A a < 41) : 64 ≤ a := by
  rcases Nat.lt_or_ge a 64 with q | q
  · have e := (hR.2.2.2.1 a q).1
    rcases (hk a q).1 with h | h <;> omega
  · exact q
/-- one cell has changed -/
theorem so_put {Z : so_Z} {ρ : Nat → Nat} {A A' : am_A} {H H' : Heap} (hR : so_R Z ρ A H) {a q0 : Nat} (ha : 64 ≤ a) (hq : (rl_ids A)[q0]? = some a) (hK : am_K A' = am_K A) (hN : am_N A' = am_N A) (hL : am_L A' = am_L A) (hI : ∀ b, b ≠ a → am_I A' b = am_I A b) (hJ : ∀ b, b ≠ a → am_J A' b = am_J A b) (hne : ∀ b, b ≠ a → rl_el (zA Z) ρ A' b = rl_el (zA Z) ρ A b)
    (hP : va_P (zD Z) rl_cl ((rl_ws (zA Z) ρ A).set q0 (ρ a, rl_el (zA Z) ρ A' a)) H') (hD : va_D (so_A Z) ((rl_ws (zA Z) ρ A).set q0 (ρ a, rl_el (zA Z) ρ A' a))) (hs : zb Z ≤ H'.size) : so_R Z ρ A' H' := by
  refine ⟨rl_put hR.1 hq hK hN hne hP hD hs, hR.2.1, by rw [hN]; exact hR.2.2.1, fun i hi => ?_, by rw [hK]; exact hR.2.2.2.2⟩
  obtain ⟨h1, h2, h3, h4⟩ := hR.2.2.2.1 i hi
  exact ⟨by rw [hK]; exact h1, by rw [hL]; exact h2, by rw [hI i (by omega)]; exact h3, by rw [hJ i (by omega)]; exact h4⟩
theorem so_C_at {Z : so_Z} {l : Launch} {m : Nat} {p : Program} {s : State} {mid : MethodId} {args : Array Value} {meth : Method} {c : Code} (hM : so_M Z l m p s mid args meth c) : so_C Z s s.heap := hM.2.2.2.2.2.2.2.1
/-- what a field's row asks -/
def so_fl (Z : so_Z) (own : String) (idx a b : Nat) : Prop := ∃ (C : String) (T : u_T) (N : Nat) (ty0 : Nat → FieldType), rl_cl[a - 1]? = some (C, T, N) ∧ 0 < a ∧ a < 20 ∧ rl_n a = N ∧ b < N ∧ (∀ w ∈ u_ws C T N, w ∈ zT Z) ∧ (∀ k, k < N → parseFieldDescriptor (T k).2.2.1 = some (ty0 k)) ∧ (∀ x, x < N → ∀ y, y < N → x ≠ y → (T x).2.1 ≠ (T y).2.1) ∧ (T b).1 = C ∧
  (Cond.fieldLink own idx C (T b).2.1 (T b).2.2.1 ∈ zT Z ∨ ((T b).2.2.2 = false ∧ ∃ host, Cond.fieldLinkNest own idx C (T b).2.1 (T b).2.2.1 host ∈ zT Z) ∨ ∃ host, Cond.fieldLinkNest own idx C (T b).2.1 (T b).2.2.1 host ∈ zT Z) ∧
  (rl_c a b = 0 → ty0 b = .int) ∧ (rl_c a b = 1 → ty0 b = .boolean) ∧ (rl_c a b = 2 → ty0 b = .long) ∧ (rl_c a b = 4 → (∃ n, ty0 b = .object n) ∨ ∃ t, ty0 b = .array t)
/-- a field may be written here: it isn't final, or this is its own constructor -/
def so_ff (Z : so_Z) (m idx a b : Nat) : Prop := ∃ (C : String) (T : u_T) (N : Nat), rl_cl[a - 1]? = some (C, T, N) ∧ ((T b).2.2.2 = false ∨ ((zY Z m).name = "<init>" ∧ C = (zY Z m).cls ∧ Cond.fieldLink (zY Z m).cls idx C (T b).2.1 (T b).2.2.1 ∈ zT Z))
section Heap
variable {Z : so_Z} {l : Launch} {g : am_G} {d m pc : Nat} {ls : List (Option Value)} {st : List Value} {A : am_A} {r : (Option Value ⊕ Nat) × am_A} {d1 d2 : List Nat}
/-- a field is read: what it holds is pushed -/
theorem so_getf {idx a b q : Nat} {rest : List Value} (hf : so_fl Z (zY Z m).cls idx a b) (hdg : decode (zB Z m) pc = .ok (.getfield idx, 3)) (hq : am_K A q = a) {v : Value} (ho : so_W A → so_v (am_N A) v) (hv : ∀ ρ, rl_fv ρ A q b = rl_cv ρ v) (h : so_T Z l d m (pc + 3) (am_dead d2 ls) (v :: rest) A r) : so_T Z l d m pc ls (.ref q :: rest) A r := by
  refine so_gs h (fun hw h => so_cs (ho hw) (so_t1 h)) fun p e R s mid args below meth c Q H locs cells slots arr ρ hM hR hV kk => ?_
  obtain ⟨hx, hb, -, -, hown, hts, hK, -⟩ := hM
  obtain ⟨C, T, N, ty0, hc, h0, h20, hn, hbN, hin, hty, hnm, hT, hl, -⟩ := hf
  obtain ⟨q0, -, hw⟩ := rl_get hR.1 (a := q) (by omega) (by omega)
  rw [rl_el_o (by omega), hq] at hw
  have hfs : ((List.range (rl_n a)).map (rl_fv ρ A q))[b]? = some (rl_cv ρ v) := by
    rw [List.getElem?_map, List.getElem?_range (by omega), ← hv ρ]
    rfl
  rcases hl with hl | ⟨-, host, hl⟩ | ⟨host, hl⟩
  · exact va_get hx hb hts hin hown hK hR.1.2.1 q0 hw hc b hbN (hts _ hl) (fun x hx => hT ▸ hx) hfs hdg kk
  · exact va_getN hx hb hts hin hown hK hR.1.2.1 q0 hw hc b hbN (hts _ hl) (fun x hx => hT ▸ hx) hfs hdg kk
  · exact va_getN hx hb hts hin hown hK hR.1.2.1 q0 hw hc b hbN (hts _ hl) (fun x hx => hT ▸ hx) hfs hdg kk
/-- a field is written -/
theorem so_putf {idx a b q : Nat} {v : Value} {A' : am_A} {rest : List Value} (hZ : so_k Z) (hf : so_fl Z (zY Z m).cls idx a b) (hff : so_ff Z m idx a b) (hdg : decode (zB Z m) pc = .ok (.putfield idx, 3)) (hq : am_K A q = a)
    (hfit : ∀ (ty : FieldType) (ρ : Nat → Nat), (rl_c a b = 0 → ty = .int) → (rl_c a b = 1 → ty = .boolean) → (rl_c a b = 2 → ty = .long) → (rl_c a b = 4 → (∃ n, ty = .object n) ∨ ∃ t, ty = .array t) → narrow ty (rl_cv ρ v) = rl_cv ρ v ∧ fits ty (rl_cv ρ v) = true)
    (hK' : am_K A' = am_K A) (hN' : am_N A' = am_N A) (hL' : am_L A' = am_L A) (hC' : am_C A' = am_C A) (hS' : am_S A' = am_S A) (hI : ∀ b, b ≠ q → am_I A' b = am_I A b) (hJ : ∀ b, b ≠ q → am_J A' b = am_J A b) (hne : ∀ ρ b, b ≠ q → rl_el (zA Z) ρ A' b = rl_el (zA Z) ρ A b)
    (hv : ∀ ρ, rl_fv ρ A' q b = rl_cv ρ v) (hv' : ∀ ρ j, j ≠ b → rl_fv ρ A' q j = rl_fv ρ A q j) (hW : so_W A → so_v (am_N A) v → so_W A') (h : so_T Z l d m (pc + 3) (am_dead d2 ls) rest A' r) : so_T Z l d m pc ls (v :: .ref q :: rest) A r := by
  refine so_go h hN' hC' hS' (fun hw hL => ⟨hW hw (so_h1 hL.2), so_dead1 (st := []) (ls := []) d2 (by rw [hN']; exact hL.1), by rw [hN']; exact so_t1 (so_t1 hL.2)⟩) fun p e R s mid args below meth c Q H locs cells slots arr ρ hM hd hl hR hV hls kk => ?_
  obtain ⟨hx, hb, -, -, hown, hts, hK, -, hbs, -, hnm2, -⟩ := hM
  obtain ⟨C, T, N, ty0, hc, h0, h20, hn, hbN, hin, hty, hnm, hT, hlk, g0, g1, g2, g4⟩ := hf
  obtain ⟨C', T', N', hc', hfin⟩ := hff
  cases Option.some.inj (hc'.symm.trans hc)
  obtain ⟨q0, hi, hw⟩ := rl_get hR.1 (a := q) (by omega) (by omega)
  have hw0 := hw
  rw [rl_el_o (by omega), hq] at hw
  have hlen : b < ((List.range (rl_n a)).map (rl_fv ρ A q)).length := by simp; omega
  have hset : ((List.range (rl_n a)).map (rl_fv ρ A q)).set b (rl_cv ρ v) = (List.range (rl_n a)).map (rl_fv ρ A' q) := by
    rw [← hv ρ]
    exact rl_fset (by omega) _ _ (hv' ρ)
  have he' : rl_el (zA Z) ρ A' q = .inr (a - 1, (List.range (rl_n a)).map (rl_fv ρ A' q)) := by rw [rl_el_o (by rw [hK']; omega), hK', hq]
  obtain ⟨hna, hfi⟩ := hfit (ty0 b) ρ g0 g1 g2 g4
  have key : ∀ (H1 : Heap) (locs1 : List Loc), va_P (zD Z) rl_cl ((rl_ws (zA Z) ρ A).set q0 (ρ q, .inr (a - 1, ((List.range (rl_n a)).map (rl_fv ρ A q)).set b (rl_cv ρ v)))) H1 → va_D (so_A Z) ((rl_ws (zA Z) ρ A).set q0 (ρ q, .inr (a - 1, ((List.range (rl_n a)).map (rl_fv ρ A q)).set b (rl_cv ρ v)))) → va_S (so_A Z) s.heap H1 locs1 → W p l e R s mid args below meth c H1 locs1 cells slots Q (F0 mid (pc + 3) arr (rest.map (rl_cv ρ))) := by
    intro H1 locs1 hP hD hS
    rw [hset, ← he'] at hP hD
    exact kk H1 locs1 arr (so_put hR (so_big hZ hR (by omega) (by omega)) hi hK' hN' hL' hI hJ (hne ρ) hP hD (Nat.le_trans hbs hS.1)) hS (rl_dead d2 hls)
  rcases hfin with hfin | ⟨hin1, hC1, hl1⟩
  · rcases hlk with hl | ⟨-, host, hl⟩ | ⟨host, hl⟩
    · exact va_put hx hb hts hin ty0 hty hnm hown hK hR.1.2.1 hR.1.2.2.1 hV q0 hw hc b hbN (hts _ hl) (fun x hx => hT ▸ hx) hfin (hty b hbN) hna hfi hlen hdg key
    · exact va_putN hx hb hts hin ty0 hty hnm hown hK hR.1.2.1 hR.1.2.2.1 hV q0 hw hc b hbN (hts _ hl) (fun x hx => hT ▸ hx) hfin (hty b hbN) hna hfi hlen hdg key
    · exact va_putN hx hb hts hin ty0 hty hnm hown hK hR.1.2.1 hR.1.2.2.1 hV q0 hw hc b hbN (hts _ hl) (fun x hx => hT ▸ hx) hfin (hty b hbN) hna hfi hlen hdg key
  · by_cases hfi2 : (T b).2.2.2 = true
    · exact va_putF hx hb hts hin ty0 hty hnm hown hK hR.1.2.1 hR.1.2.2.1 hV q0 hw hc b hbN (hts _ hl1) (fun x hx => hT ▸ hx) hfi2 (hnm2.trans hin1) (hT.trans hC1) (hty b hbN) hna hfi hlen hdg key
    · exact va_put hx hb hts hin ty0 hty hnm hown hK hR.1.2.1 hR.1.2.2.1 hV q0 hw hc b hbN (hts _ hl1) (fun x hx => hT ▸ hx) (by simpa using hfi2) (hty b hbN) hna hfi hlen hdg key
/-- an array's place is written -/
theorem so_iast {q : Nat} {j x : Int32} {rest : List Value} (hZ : so_k Z) (hdg : decode (zB Z m) pc = .ok (.iastore, 1)) (hq : am_K A q = 21) (hin : ¬ (j < 0 ∨ am_L A q ≤ j.toNatClampNeg)) (h : so_T Z l d m (pc + 1) (am_dead d2 ls) rest (am_sI A q j.toNatClampNeg x) r) : so_T Z l d m pc ls (.int x :: .int j :: .ref q :: rest) A r := by
  refine so_go h rfl rfl rfl (fun hw hL => ⟨hw, so_dead1 (st := []) (ls := []) d2 hL.1, so_t1 (so_t1 (so_t1 hL.2))⟩) fun p e R s mid args below meth c Q H locs cells slots arr ρ hM hd hl hR hV hls kk => ?_
  obtain ⟨hx, hb, -, -, hown, hts, hK, -, hbs, -⟩ := hM
  obtain ⟨q0, hi, hw⟩ := rl_get hR.1 (a := q) (by omega) (by omega)
  rw [rl_el_i (Or.inl hq), hq] at hw
  have he' : rl_el (zA Z) ρ (am_sI A q j.toNatClampNeg x) q = .inl (zA Z 0, am_L A q, .inl (upd (am_I A q) j.toNatClampNeg x)) := by
    rw [rl_el_i (A := am_sI A q j.toNatClampNeg x) (Or.inl hq), am_sI_self]
    show Sum.inl (zA Z (am_K A q - 21), _) = _
    rw [hq]
    rfl
  refine va_iast hx hb hK hR.1.2.1 hR.1.2.2.1 hV q0 0 hw rfl hin hdg fun H1 locs1 hP hD hS => ?_
  rw [← he'] at hP hD
  exact kk H1 locs1 arr (so_put hR (so_big hZ hR (by omega) (by omega)) hi rfl rfl rfl (fun b hb => am_sI_ne hb) (fun b hb => rfl) (fun b hb => rl_elI hb) hP hD (Nat.le_trans hbs hS.1)) hS (rl_dead d2 hls)
theorem so_last {q : Nat} {j : Int32} {x : Int64} {rest : List Value} (hZ : so_k Z) (hdg : decode (zB Z m) pc = .ok (.lastore, 1)) (hq : am_K A q = 22) (hin : ¬ (j < 0 ∨ am_L A q ≤ j.toNatClampNeg)) (h : so_T Z l d m (pc + 1) (am_dead d2 ls) rest (am_sJ A q j.toNatClampNeg x) r) : so_T Z l d m pc ls (.long x :: .int j :: .ref q :: rest) A r := by
  refine so_go h rfl rfl rfl (fun hw hL => ⟨hw, so_dead1 (st := []) (ls := []) d2 hL.1, so_t1 (so_t1 (so_t1 hL.2))⟩) fun p e R s mid args below meth c Q H locs cells slots arr ρ hM hd hl hR hV hls kk => ?_
  obtain ⟨hx, hb, -, -, hown, hts, hK, -, hbs, -⟩ := hM
  obtain ⟨q0, hi, hw⟩ := rl_get hR.1 (a := q) (by omega) (by omega)
  rw [rl_el_j hq] at hw
  have he' : rl_el (zA Z) ρ (am_sJ A q j.toNatClampNeg x) q = .inl (zA Z 1, am_L A q, .inr (.inl (vp_updL (am_J A q) j.toNatClampNeg x))) := by
    rw [rl_el_j (A := am_sJ A q j.toNatClampNeg x) hq, am_sJ_self]
    rfl
  refine va_last hx hb hK hR.1.2.1 hR.1.2.2.1 hV q0 1 hw rfl hin hdg fun H1 locs1 hP hD hS => ?_
  rw [← he'] at hP hD
  exact kk H1 locs1 arr (so_put hR (so_big hZ hR (by omega) (by omega)) hi rfl rfl rfl (fun b hb => rfl) (fun b hb => am_sJ_ne hb) (fun b hb => rl_elJ hb) hP hD (Nat.le_trans hbs hS.1)) hS (rl_dead d2 hls)
theorem so_bast {q : Nat} {j x : Int32} {rest : List Value} (hZ : so_k Z) (hdg : decode (zB Z m) pc = .ok (.bastore, 1)) (hq : am_K A q = 23) (hin : ¬ (j < 0 ∨ am_L A q ≤ j.toNatClampNeg)) (h : so_T Z l d m (pc + 1) (am_dead d2 ls) rest (am_sI A q j.toNatClampNeg x.toInt8.toInt32) r) : so_T Z l d m pc ls (.int x :: .int j :: .ref q :: rest) A r := by
  refine so_go h rfl rfl rfl (fun hw hL => ⟨hw, so_dead1 (st := []) (ls := []) d2 hL.1, so_t1 (so_t1 (so_t1 hL.2))⟩) fun p e R s mid args below meth c Q H locs cells slots arr ρ hM hd hl hR hV hls kk => ?_
  obtain ⟨hx, hb, -, -, hown, hts, hK, -, hbs, -⟩ := hM
  obtain ⟨q0, hi, hw⟩ := rl_get hR.1 (a := q) (by omega) (by omega)
  rw [rl_el_i (Or.inr (Or.inl hq)), hq] at hw
  have he' : rl_el (zA Z) ρ (am_sI A q j.toNatClampNeg x.toInt8.toInt32) q = .inl (zA Z 2, am_L A q, .inl (upd (am_I A q) j.toNatClampNeg (vp_nar .byte x))) := by
    rw [rl_el_i (A := am_sI A q j.toNatClampNeg x.toInt8.toInt32) (Or.inr (Or.inl hq)), am_sI_self, vp_nar_byte]
    show Sum.inl (zA Z (am_K A q - 21), _) = _
    rw [hq]
    rfl
  refine va_bast hx hb hK hR.1.2.1 hR.1.2.2.1 hV q0 2 hw rfl hin hdg fun H1 locs1 hP hD hS => ?_
  rw [← he'] at hP hD
  exact kk H1 locs1 arr (so_put hR (so_big hZ hR (by omega) (by omega)) hi rfl rfl rfl (fun b hb => am_sI_ne hb) (fun b hb => rfl) (fun b hb => rl_elI hb) hP hD (Nat.le_trans hbs hS.1)) hS (rl_dead d2 hls)
theorem so_zast {q : Nat} {j x : Int32} {rest : List Value} (hZ : so_k Z) (hdg : decode (zB Z m) pc = .ok (.bastore, 1)) (hq : am_K A q = 24) (hx01 : x = 0 ∨ x = 1) (hin : ¬ (j < 0 ∨ am_L A q ≤ j.toNatClampNeg)) (h : so_T Z l d m (pc + 1) (am_dead d2 ls) rest (am_sI A q j.toNatClampNeg x) r) : so_T Z l d m pc ls (.int x :: .int j :: .ref q :: rest) A r := by
  refine so_go h rfl rfl rfl (fun hw hL => ⟨hw, so_dead1 (st := []) (ls := []) d2 hL.1, so_t1 (so_t1 (so_t1 hL.2))⟩) fun p e R s mid args below meth c Q H locs cells slots arr ρ hM hd hl hR hV hls kk => ?_
  obtain ⟨hx, hb, -, -, hown, hts, hK, -, hbs, -⟩ := hM
  obtain ⟨q0, hi, hw⟩ := rl_get hR.1 (a := q) (by omega) (by omega)
  rw [rl_el_i (Or.inr (Or.inr hq)), hq] at hw
  have hnar : vp_nar .boolean x = x := by rcases hx01 with h | h <;> (subst h; decide +kernel)
  have he' : rl_el (zA Z) ρ (am_sI A q j.toNatClampNeg x) q = .inl (zA Z 3, am_L A q, .inl (upd (am_I A q) j.toNatClampNeg (vp_nar .boolean x))) := by
    rw [rl_el_i (A := am_sI A q j.toNatClampNeg x) (Or.inr (Or.inr hq)), am_sI_self, hnar]
    show Sum.inl (zA Z (am_K A q - 21), _) = _
    rw [hq]
    rfl
  refine va_zast hx hb hK hR.1.2.1 hR.1.2.2.1 hV q0 3 hw rfl hin hdg fun H1 locs1 hP hD hS => ?_
  rw [← he'] at hP hD
  exact kk H1 locs1 arr (so_put hR (so_big hZ hR (by omega) (by omega)) hi rfl rfl rfl (fun b hb => am_sI_ne hb) (fun b hb => rfl) (fun b hb => rl_elI hb) hP hD (Nat.le_trans hbs hS.1)) hS (rl_dead d2 hls)
end Heap
