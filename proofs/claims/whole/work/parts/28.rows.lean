/-! EVERY ROW OF CODE IS RIGHT -/
def swb (pc : Nat) (lo : Int) (offs : List Int) : List (Int32 × Nat) → Bool
  | [] => offs.isEmpty
  | (v, t) :: r => decide (v.toInt = lo) && match offs with
    | [] => false
    | o :: os => decide ((pc : Int) + o = (t : Int)) && swb pc (lo + 1) os r
theorem swb_ok {pc : Nat} (ts : List (Int32 × Nat)) : ∀ (lo : Int) (offs : List Int), swb pc lo offs ts = true → so_sw pc lo offs ts := by
  induction ts with
  | nil =>
    intro lo offs h
    cases offs with
    | nil => rfl
    | cons o os => cases h
  | cons y r ih =>
    obtain ⟨v, t⟩ := y
    intro lo offs h
    cases offs with
    | nil =>
      unfold swb at h
      simp at h
    | cons o os =>
      unfold swb at h
      simp only [Bool.and_eq_true, decide_eq_true_eq] at h
      exact ⟨h.1, o, os, rfl, h.2.1, ih _ _ h.2.2⟩
def rb_q (a : Nat) : String := match a with
  | 26 => "OakYard$Tree"
  | 27 => "OakYard$Piece"
  | 28 => "OakYard$Ship"
  | _ => "OakYard$Text"
def rb_fc (a b c : Nat) : Bool := decide ((c = 0 → rl_c a b = 0) ∧ (c = 1 → rl_c a b = 1) ∧ (c = 2 → rl_c a b = 2) ∧ (3 ≤ c → rl_c a b = 4))
theorem rb_fc_ok {a b c : Nat} (h : rb_fc a b c = true) : so_fc a b c := of_decide_eq_true (p := (c = 0 → rl_c a b = 0) ∧ (c = 1 → rl_c a b = 1) ∧ (c = 2 → rl_c a b = 2) ∧ (3 ≤ c → rl_c a b = 4)) h
/-- the raise at pc: the pool's place of its constructor -/
def rb_ic (m pc : Nat) : Nat := match decode (sq_b m) (pc + 4) with
  | .ok (.invokespecial ic, _) => ic
  | _ => 0
def rb (m pc : Nat) (w : am_row) : Bool := decide (decode (sq_b m) pc = .ok (w.1, w.2.1)) && match w with
  | (i, len, a, b, c, e, v0, u0, ts, _, _) => match i with
    | .aload _ => decide (len = 2)
    | .aload_n _ => decide (len = 1)
    | .iload _ => decide (len = 2)
    | .iload_n _ => decide (len = 1)
    | .lload _ => decide (len = 2)
    | .lload_n _ => decide (len = 1)
    | .istore n => decide (len = 2 ∧ n < so_ml sq_0 m)
    | .istore_n n => decide (len = 1 ∧ n.val < so_ml sq_0 m)
    | .lstore n => decide (len = 2 ∧ n + 1 < so_ml sq_0 m)
    | .lstore_n n => decide (len = 1 ∧ n.val + 1 < so_ml sq_0 m)
    | .astore n => decide (len = 2 ∧ n < so_ml sq_0 m)
    | .astore_n n => decide (len = 1 ∧ n.val < so_ml sq_0 m)
    | .iinc n k => decide (len = 3 ∧ Int32.ofInt k = v0 ∧ n < so_ml sq_0 m)
    | .iconst n => decide (len = 1 ∧ Int32.ofInt n = v0)
    | .bipush n => decide (len = 2 ∧ (Int8.ofInt n).toInt32 = v0)
    | .sipush n => decide (len = 3 ∧ (Int16.ofInt n).toInt32 = v0)
    | .lconst n => decide (len = 1 ∧ Int64.ofNat n.val = u0)
    | .aconst_null => decide (len = 1)
    | .ldc idx => decide (len = 2) && (decide (a = 0 ∧ (sq_o m, idx, v0) ∈ sqLC) || (decide (a ≠ 0 ∧ b < 64) && so_tx.any (fun t => decide (t.1 = sq_ow (sq_o m) ∧ t.2.1 = idx ∧ t.2.2.2 = b))))
    | .ldc_w idx => decide (len = 3) && (decide (a = 0 ∧ (sq_o m, idx, v0) ∈ sqLC) || (decide (a ≠ 0 ∧ b < 64) && so_tx.any (fun t => decide (t.1 = sq_ow (sq_o m) ∧ t.2.1 = idx ∧ t.2.2.2 = b))))
    | .ldc2_w idx => decide (len = 3 ∧ (sq_o m, idx, u0) ∈ LL)
    | .goto off => decide ((pc : Int) + off = (a : Int) ∧ len = 3)
    | .ifCond _ off => decide ((pc : Int) + off = (a : Int) ∧ len = 3)
    | .if_icmp _ off => decide ((pc : Int) + off = (a : Int) ∧ len = 3)
    | .ifnull off => decide ((pc : Int) + off = (a : Int) ∧ len = 3)
    | .ifnonnull off => decide ((pc : Int) + off = (a : Int) ∧ len = 3)
    | .tableswitch dflt lo hi offs => decide ((pc : Int) + dflt = (a : Int)) && (swb pc lo offs.toList ts && decide (hi = lo + offs.toList.length - 1))
    | .getfield idx => decide (len = 3) && (decide ((sq_o m, idx, a, b) ∈ LF) && rb_fc a b c)
    | .putfield idx => decide (len = 3) && (decide ((sq_o m, idx, a, b) ∈ LF) && (rb_fc a b c && (match rl_cl[a - 1]? with
      | some (C, T, _) => decide ((T b).2.2.2 = false) || (decide ((sq_y m).name = "<init>" ∧ C = sq_ow (sq_o m)) && decide (Cond.fieldLink (sq_ow (sq_o m)) idx C (T b).2.1 (T b).2.2.1 ∈ sq_T))
      | none => false)))
    | .getstatic idx => decide (len = 3 ∧ b = 1 ∧ sq_o m = 4 ∧ idx = 156)
    | .new idx => (decide (b = 0 ∧ len = 3 ∧ (sq_o m, idx, a, c) ∈ LN)) || decide (b ≠ 0 ∧ len = 3 ∧ 0 < a ∧ a < 6 ∧ am_hs am_P m = [] ∧ (sq_o m, idx, a, rb_ic m pc) ∈ LT ∧ decode (sq_b m) (pc + 3) = .ok (.dup, 1) ∧ decode (sq_b m) (pc + 4) = .ok (.invokespecial (rb_ic m pc), 3) ∧ decode (sq_b m) (pc + 7) = .ok (.athrow, 1))
    | .newarray ty => decide (len = 2) && (match ty with
      | .int => true
      | .long => true
      | .byte => true
      | .boolean => true
      | _ => false)
    | .anewarray idx => decide (len = 3 ∧ 26 ≤ a ∧ a ≤ 29) && decide (Cond.arrayOver (.object (rb_q a)) ∈ sq_T ∧ Cond.classLink (sq_ow (sq_o m)) idx (rb_q a) ∈ sq_T)
    | .multianewarray idx dm => decide (len = 4 ∧ dm = 2) && decide (Cond.classLink (sq_ow (sq_o m)) idx "[[I" ∈ sq_T)
    | .aaload => decide (len = 1 ∧ 25 ≤ a ∧ a < 30)
    | .bastore => decide (len = 1 ∧ (a = 23 ∨ a = 24))
    | .aastore => decide (len = 1 ∧ ((a = 26 ∧ b = 10) ∨ (a = 27 ∧ b = 5) ∨ (a = 28 ∧ b = 7) ∨ (a = 29 ∧ b = 9)))
    | .checkcast idx => decide (len = 3 ∧ a = 21 ∧ sq_o m = 16 ∧ idx = 317)
    | .ireturn => decide (len = 1 ∧ ((c = 0 ∧ sq_r m = some .int) ∨ (c ≠ 0 ∧ sq_r m = some .boolean)))
    | .lreturn => decide (len = 1 ∧ sq_r m = some .long)
    | .areturn => decide (len = 1) && (match sq_r m with
      | some (.object _) => true
      | some (.array _) => true
      | _ => false)
    | .return_ => decide (len = 1 ∧ sq_r m = none)
    | .invokevirtual idx => decide (len = 3) && (decide (a = 0 ∧ (sq_o m, idx, 0, b, c, e) ∈ LM) || (decide (a = 5 ∧ (sq_o m, idx) ∈ L5) || (decide (a = 6 ∧ (sq_o m, idx) ∈ L6) || decide (a = 7 ∧ sq_o m = 16 ∧ idx = 316))))
    | .invokestatic idx => decide (len = 3) && (decide (a = 1 ∧ (sq_o m, idx, 1, b, c, e) ∈ LM) || decide (a = 4 ∧ (sq_o m, idx) ∈ L4))
    | .invokespecial idx => decide (len = 3) && (decide (a = 2 ∧ (sq_o m, idx, 2, b, c, e) ∈ LM) || decide (a = 3 ∧ (sq_o m, idx) ∈ L3))
    | _ => decide (len = 1)
/-- words of no class's own -/
theorem w_ai : Cond.arrayClass .int ∈ sq_T := by decide +kernel
theorem w_al : Cond.arrayClass .long ∈ sq_T := by decide +kernel
theorem w_ab : Cond.arrayClass .byte ∈ sq_T := by decide +kernel
theorem w_az : Cond.arrayClass .boolean ∈ sq_T := by decide +kernel
theorem w_gs : Cond.fieldLink "OakYard$Finder" 156 "OakYard$Finder" "PLACES" "[J" ∈ sq_T := by decide +kernel
theorem w_cc : Cond.classLink "java/util/Arrays" 317 "[I" ∈ sq_T := by decide +kernel
theorem w_cl : Cond.methodLink "java/util/Arrays" 316 ⟨"[I", "clone", "()Ljava/lang/Object;"⟩ ∈ sq_T ∧ Cond.sameMethod "[I" "java/lang/Object" "clone" "()Ljava/lang/Object;" ∈ sq_T ∧ Cond.native ⟨"java/lang/Object", "clone", "()Ljava/lang/Object;"⟩ ∈ sq_T ∧ Cond.instanceMethod ⟨"java/lang/Object", "clone", "()Ljava/lang/Object;"⟩ ∈ sq_T ∧ Cond.selects "[I" ⟨"[I", "clone", "()Ljava/lang/Object;"⟩ ⟨"java/lang/Object", "clone", "()Ljava/lang/Object;"⟩ ∈ sq_T ∧ Cond.castable "[I" "java/lang/Cloneable" ∈ sq_T := by decide +kernel
theorem w_ac : Cond.native arraycopyName ∈ sq_T ∧ Cond.static arraycopyName ∈ sq_T ∧ Cond.initialized "java/lang/System" ∈ sq_T := by decide +kernel
theorem w_oi : Cond.instanceMethod objectInit ∈ sq_T ∧ Cond.code objectInit ⟨#[0xb1]⟩ 1 none ∈ sq_T := by decide +kernel
set_option maxHeartbeats 4000000 in
theorem rb_ok {m pc : Nat} {w : am_row} (ho : (sq_y m).cls = sq_ow (sq_o m)) (h : rb m pc w = true) : so_ok sq_0 m pc w := by
  obtain ⟨i, len, a, b, c, e, v0, u0, ts, d1, d2⟩ := w
  have ho' : (zY sq_0 m).cls = sq_ow (sq_o m) := ho
  simp only [rb, Bool.and_eq_true] at h
  refine ⟨of_decide_eq_true h.1, ?_⟩
  have h := h.2
  cases i <;> (try simp only [Bool.and_eq_true, Bool.or_eq_true, decide_eq_true_eq] at h) <;> (try dsimp only)
  case ldc idx =>
    refine ⟨h.1, ?_⟩
    rw [ho']
    rcases h.2 with ⟨h1, h2⟩ | ⟨⟨h1, h2⟩, h3⟩
    · exact Or.inl ⟨h1, LC_ok _ h2⟩
    · obtain ⟨t, t1, t2⟩ := List.any_eq_true.mp h3
      obtain ⟨q1, q2, q3⟩ := of_decide_eq_true t2
      obtain ⟨x1, x2, x3, x4⟩ := t
      dsimp only at q1 q2 q3
      subst q1; subst q2; subst q3
      exact Or.inr ⟨h1, h2, x3, t1⟩
  case ldc_w idx =>
    refine ⟨h.1, ?_⟩
    rw [ho']
    rcases h.2 with ⟨h1, h2⟩ | ⟨⟨h1, h2⟩, h3⟩
    · exact Or.inl ⟨h1, LC_ok _ h2⟩
    · obtain ⟨t, t1, t2⟩ := List.any_eq_true.mp h3
      obtain ⟨q1, q2, q3⟩ := of_decide_eq_true t2
      obtain ⟨x1, x2, x3, x4⟩ := t
      dsimp only at q1 q2 q3
      subst q1; subst q2; subst q3
      exact Or.inr ⟨h1, h2, x3, t1⟩
  case ldc2_w idx => rw [ho']; exact ⟨h.1, LL_ok _ h.2⟩
  case tableswitch dflt lo hi offs => exact ⟨h.1, swb_ok _ _ _ h.2.1, h.2.2⟩
  case getfield idx => rw [ho']; exact ⟨h.1, LF_ok _ h.2.1, rb_fc_ok h.2.2⟩
  case putfield idx =>
    obtain ⟨h1, h2, h3, h4⟩ := h
    refine ⟨h1, by rw [ho']; exact LF_ok _ h2, ?_, rb_fc_ok h3⟩
    split at h4
    · rename_i C T N hc
      simp only [Bool.or_eq_true, Bool.and_eq_true, decide_eq_true_eq] at h4
      refine ⟨C, T, N, hc, ?_⟩
      rcases h4 with h4 | ⟨⟨g1, g2⟩, g3⟩
      · exact Or.inl h4
      · exact Or.inr ⟨g1, g2.trans ho'.symm, by rw [ho']; exact g3⟩
    · cases h4
  case getstatic idx =>
    obtain ⟨h1, h2, h3, rfl⟩ := h
    refine ⟨h1, h2, ?_⟩
    rw [ho', h3]
    exact w_gs
  case new idx =>
    rcases h with ⟨h1, h2, h3⟩ | ⟨h1, h2, h3, h4, h5, h6, h7, h8, h9⟩
    · exact Or.inl ⟨h1, h2, by rw [ho']; exact LN_ok _ h3⟩
    · obtain ⟨t1, t2, t3⟩ := LT_ok _ h6
      exact Or.inr ⟨h1, h2, h3, h4, h5, rb_ic m pc, ["java/lang/RuntimeException", "java/lang/Exception"], t1, t2, by decide, by rw [ho']; exact t3, h7, h8, h9⟩
  case newarray ty hh0 =>
    obtain ⟨h1, h2⟩ := h
    refine ⟨h1, ?_⟩
    cases ty with
    | int => exact w_ai
    | long => exact w_al
    | byte => exact w_ab
    | boolean => exact w_az
    | _ => exact absurd (show false = true from h2) (by decide)
  case anewarray idx =>
    obtain ⟨⟨h1, h2, h3⟩, h4, h5⟩ := h
    refine ⟨h1, ?_, ?_, h2, h3⟩
    · exact h4
    · rw [ho']; exact h5
  case multianewarray idx dm => rw [ho']; exact ⟨h.1.1, h.1.2, h.2⟩
  case checkcast idx =>
    obtain ⟨h1, h2, h3, rfl⟩ := h
    refine ⟨h1, h2, ?_⟩
    rw [ho', h3]
    exact w_cc
  case areturn =>
    refine ⟨h.1, ?_⟩
    have h2 := h.2
    split at h2
    · rename_i n hn
      exact ⟨_, hn, Or.inl ⟨n, rfl⟩⟩
    · rename_i n hn
      exact ⟨_, hn, Or.inr ⟨n, rfl⟩⟩
    · cases h2
  case invokevirtual idx =>
    refine ⟨h.1, ?_⟩
    rw [ho']
    rcases h.2 with ⟨h1, h2⟩ | ⟨h1, h2⟩ | ⟨h1, h2⟩ | ⟨h1, h2, rfl⟩
    · exact Or.inl ⟨h1, LM_ok _ h2⟩
    · exact Or.inr (Or.inl ⟨h1, L5_ok _ h2⟩)
    · exact Or.inr (Or.inr (Or.inl ⟨h1, L6_ok _ h2⟩))
    · refine Or.inr (Or.inr (Or.inr ⟨h1, ?_⟩))
      rw [h2]
      exact w_cl
  case invokestatic idx =>
    refine ⟨h.1, ?_⟩
    rw [ho']
    rcases h.2 with ⟨h1, h2⟩ | ⟨h1, h2⟩
    · exact Or.inl ⟨h1, LM_ok _ h2⟩
    · exact Or.inr ⟨h1, L4_ok _ h2, w_ac.1, w_ac.2.1, w_ac.2.2⟩
  case invokespecial idx =>
    refine ⟨h.1, ?_⟩
    rw [ho']
    rcases h.2 with ⟨h1, h2⟩ | ⟨h1, h2⟩
    · exact Or.inl ⟨h1, LM_ok _ h2⟩
    · exact Or.inr ⟨h1, L3_ok _ h2, w_oi.1, w_oi.2⟩
  all_goals exact h
/-- a method's rows, one after the other -/
def rb_r (m : Nat) : Nat → List (Option am_row) → Bool
  | _, [] => true
  | pc, none :: r => rb_r m (pc + 1) r
  | pc, some w :: r => rb m pc w && rb_r m (pc + 1) r
def rb_t (m : Nat) : Nat → List (List (Option am_row)) → Bool
  | _, [] => true
  | k, r :: t => decide (r.length ≤ 16) && (rb_r m (16 * k) r && rb_t m (k + 1) t)
def rb_l : Nat → List am_M → Bool
  | _, [] => true
  | m, M :: r => decide ((sq_y m).cls = sq_ow (sq_o m)) && (rb_t m 0 M.1 && rb_l (m + 1) r)
theorem rb_r_at {m : Nat} (l : List (Option am_row)) : ∀ (pc j : Nat) (w : am_row), rb_r m pc l = true → am_nth l j = some (some w) → rb m (pc + j) w = true := by
  induction l with
  | nil => intro pc j w _ h; cases h
  | cons x l ih =>
    intro pc j w h hj
    cases x with
    | none =>
      cases j with
      | zero => cases hj
      | succ j =>
        have := ih (pc + 1) j w h hj
        rwa [show pc + 1 + j = pc + (j + 1) by omega] at this
    | some x =>
      simp only [rb_r, Bool.and_eq_true] at h
      cases j with
      | zero =>
        cases hj
        exact h.1
      | succ j =>
        have := ih (pc + 1) j w h.2 hj
        rwa [show pc + 1 + j = pc + (j + 1) by omega] at this
theorem rb_t_at {m : Nat} (t : List (List (Option am_row))) : ∀ (k i j : Nat) (r : List (Option am_row)) (w : am_row), rb_t m k t = true → am_nth t i = some r → am_nth r j = some (some w) → rb m (16 * (k + i) + j) w = true := by
  induction t with
  | nil => intro k i j r w _ h; cases h
  | cons x t ih =>
    intro k i j r w h hi hj
    simp only [rb_t, Bool.and_eq_true] at h
    cases i with
    | zero =>
      cases hi
      exact rb_r_at _ _ j w h.2.1 hj
    | succ i =>
      have := ih (k + 1) i j r w h.2.2 hi hj
      rwa [show k + 1 + i = k + (i + 1) by omega] at this
theorem rb_l_at (l : List am_M) : ∀ (m j : Nat) (M : am_M), rb_l m l = true → am_nth l j = some M → (sq_y (m + j)).cls = sq_ow (sq_o (m + j)) ∧ rb_t (m + j) 0 M.1 = true := by
  induction l with
  | nil => intro m j M _ h; cases h
  | cons x l ih =>
    intro m j M h hj
    simp only [rb_l, Bool.and_eq_true, decide_eq_true_eq] at h
    cases j with
    | zero =>
      cases hj
      exact ⟨h.1, h.2.1⟩
    | succ j =>
      have := ih (m + 1) j M h.2.2 hj
      rwa [show m + 1 + j = m + (j + 1) by omega] at this
