/-! CALLS of the three sorts -/
theorem so_popd : ∀ (n : Nat) (acc st : List Value) (As rest : List Value), am_pop n acc st = some (As, rest) → ∃ B : List Value, B.length = n ∧ As = B.reverse ++ acc ∧ st = B ++ rest := by
  intro n
  induction n with
  | zero =>
    intro acc st As rest h
    cases h
    exact ⟨[], rfl, rfl, rfl⟩
  | succ n ih =>
    intro acc st As rest h
    cases st with
    | nil => cases h
    | cons v st =>
      obtain ⟨B, h1, h2, h3⟩ := ih (v :: acc) st As rest h
      exact ⟨v :: B, by simp [h1], by rw [h2]; simp, by rw [h3]; rfl⟩
/-! rows of calls with twelve places below -/
section Twelve
variable {p : Program} {l : Launch} {e : Env} {R : Room} {s : State} {m : MethodId} {args : Array Value} {below : List Frame} {meth : Method} {c : Code} {H : Heap} {locs : List Loc} {cells slots : Nat}
theorem so_room12 {pc : Nat} {ls : Array Slot} {rest st : List Value} (h : (st.map fun v => v.category).sum ≤ 12) : 2 * (F0 m pc ls rest).monitorRoom + (st.map fun v => v.category).sum ≤ 12 := by
  show 2 * 0 + _ ≤ 12
  omega
variable {y : MethodName} {bytes cc : ByteArray} {maxL nL mc ms n index : Nat} {ret : Option FieldType} {ws : List Cond} {rm : Room} {Pc : Array Value → State → Prop} {Qc : Array Value → State → Outcome → State → Prop} {XC : String → State → State → Prop} {free : Addr → Prop} {Ts : List Cond} {own C : String} {b : Addr} {As rest : List Value} {g : JFrame}
theorem so_runV (h12 : 12 + (maxL + 11) + rm.locals ≤ R.locals) (S : CallFix p m c cc nL s args Ts own) (hM : vx_Met l y ws rm Pc Qc XC mc ms free) (cw : CallW R s args own C index y bytes maxL ret ws rm mc ms n) (hp : PreV s H C b Pc As)
    (hg : g.method = m) (hn : As.length = n) (hsize : g.locals.size = nL) (hstack : g.stack = As.reverse ++ .ref b :: rest) (hW : 2 * g.monitorRoom + (rest.map fun v => v.category).sum ≤ 12) (hdg : decode cc g.pc = .ok (.invokevirtual index, 3)) (hf : cells + mc ≤ R.cells ∧ slots + ms ≤ R.slots) :
    vx_Run p l e R s m args below meth c H locs cells slots mc ms g rest (Qc (Value.ref b :: As).toArray) XC free := by
  have hK : vx_Back l R p e below s args y 3 12 (PreOf R mc ms Pc) (PostOf Qc mc ms free) (vx_Post XC mc ms free) := vx_back (bytes := bytes) (maxL := maxL) (ret := ret) hM hp.1 cw.1.1 cw.1.2.1 cw.1.2.2.1 h12 cw.1.2.2.2.2.1 cw.1.2.2.2.2.2.1 (fun a' U hW => word_at hW (Or.inl (by first | rfl | simp [Cond.onTables, Cond.keeps, Cond.steady])) cw.1.2.2.2.2.2.2.2.1)
  obtain ⟨⟨-, -, -, -, -, -, hcode, -, hy, hlen, hl⟩, hin, hse⟩ := cw
  obtain ⟨hx, hb, hml, ho, -⟩ := S
  obtain ⟨-, ⟨cellB, hcB, hoB, hclB⟩, hPc⟩ := hp
  intro T hT X
  rcases vx_callV X hx (C := C) (bytes := bytes) (maxL := maxL) (ret := ret) ho hl hin hse hcode hy hK (by rw [hT]; exact hcB) hoB hclB hg (hsize.trans hml.symm) (argsL := As) (rest := rest) (fun sig h => hn.trans (hlen sig h)) hstack hW (by rw [hb]; exact hdg)
    (fun vm₁ hW₁ => ⟨hf.1, hf.2, hPc (T.setVm vm₁) hT hW₁⟩) with ⟨v, vm₁, ⟨U', l2, c2, s2⟩, hW₁, X', ⟨g', mk, t, L, e1, e2, hq, h1, hL, h2, h3⟩, st⟩ | ⟨q, vm₁, ⟨U', l2, c2, s2⟩, hW₁, X', ⟨g', mk, t, L, E, ce, e1, e2, hq, hce, hcv, hcl, h1, hL, h2, h3⟩, st⟩
  · dsimp only [Pt.U, Pt.locs, Pt.cells, Pt.slots] at X' e1 e2 h1 h2 h3 st
    subst h1; subst h2; subst h3
    exact Or.inl ⟨v, (T.setVm vm₁).calling g' mk (Value.ref b :: As).toArray, t, U', L, hT, X', hL, e1, e2, hq, st⟩
  · dsimp only [Pt.U, Pt.locs, Pt.cells, Pt.slots] at X' e1 e2 h1 h2 h3 st hcl
    subst h1; subst h2; subst h3
    exact Or.inr ⟨q, (T.setVm vm₁).calling g' mk (Value.ref b :: As).toArray, t, U', L, E, ce, hT, X', hL, e1, e2, hq, hce, hcv, vx_cls hW₁ hcl, st⟩
end Twelve
section TwelveN
variable {p : Program} {l : Launch} {e : Env} {R : Room} {s : State} {m : MethodId} {args : Array Value} {below : List Frame} {meth : Method} {c : Code} {H : Heap} {locs : List Loc} {cells slots : Nat}
theorem so_runVN {y : MethodName} {bytes cc : ByteArray} {maxL nL mc ms n index : Nat} {ret : Option FieldType} {ws : List Cond} {rm : Room} {Pc : Array Value → State → Prop} {Qc : Array Value → State → Outcome → State → Prop} {XC : String → State → State → Prop} {free : Addr → Prop} {Ts : List Cond} {own C host : String} {b : Addr} {As rest : List Value} {g : JFrame}
    (h12 : 12 + (maxL + 11) + rm.locals ≤ R.locals) (S : CallFix p m c cc nL s args Ts own) (hM : vx_Met l y ws rm Pc Qc XC mc ms free) (cw : va_CN R s args own index y host bytes maxL ret ws rm mc ms n ∧ (Cond.instanceMethod y).before args s = true ∧ (Cond.selects C y y).before args s = true) (hp : PreV s H C b Pc As)
    (hg : g.method = m) (hn : As.length = n) (hsize : g.locals.size = nL) (hstack : g.stack = As.reverse ++ .ref b :: rest) (hW : 2 * g.monitorRoom + (rest.map fun v => v.category).sum ≤ 12) (hdg : decode cc g.pc = .ok (.invokevirtual index, 3)) (hf : cells + mc ≤ R.cells ∧ slots + ms ≤ R.slots) :
    vx_Run p l e R s m args below meth c H locs cells slots mc ms g rest (Qc (Value.ref b :: As).toArray) XC free := by
  obtain ⟨⟨⟨hrc, hrs, hfr, hlo, hws, hcw⟩, hcode, hini, hy, hlen, hl⟩, hx1, hx2⟩ := cw
  have hK : vx_Back l R p e below s args y 3 12 (PreOf R mc ms Pc) (PostOf Qc mc ms free) (vx_Post XC mc ms free) := vx_back (bytes := bytes) (maxL := maxL) (ret := ret) hM hp.1 hrc hrs hfr h12 hws hcw (fun a' U hW => word_at hW (Or.inl (by first | rfl | simp [Cond.onTables, Cond.keeps, Cond.steady])) hini)
  obtain ⟨hx, hb, hml, ho, -⟩ := S
  obtain ⟨-, ⟨cellB, hcB, hoB, hclB⟩, hPc⟩ := hp
  intro T hT X
  rcases vx_callVN X hx (C := C) (bytes := bytes) (maxL := maxL) (ret := ret) ho hl hx1 hx2 hcode hy hK (by rw [hT]; exact hcB) hoB hclB hg (hsize.trans hml.symm) (argsL := As) (rest := rest) (fun sig h => hn.trans (hlen sig h)) hstack hW (by rw [hb]; exact hdg)
    (fun vm₁ hW₁ => ⟨hf.1, hf.2, hPc (T.setVm vm₁) hT hW₁⟩) with ⟨v, vm₁, ⟨U', l2, c2, s2⟩, hW₁, X', ⟨g', mk, t, L, e1, e2, hq, h1, hL, h2, h3⟩, st⟩ | ⟨q, vm₁, ⟨U', l2, c2, s2⟩, hW₁, X', ⟨g', mk, t, L, E, ce, e1, e2, hq, hce, hcv, hcl, h1, hL, h2, h3⟩, st⟩
  · dsimp only [Pt.U, Pt.locs, Pt.cells, Pt.slots] at X' e1 e2 h1 h2 h3 st
    subst h1; subst h2; subst h3
    exact Or.inl ⟨v, (T.setVm vm₁).calling g' mk (Value.ref b :: As).toArray, t, U', L, hT, X', hL, e1, e2, hq, st⟩
  · dsimp only [Pt.U, Pt.locs, Pt.cells, Pt.slots] at X' e1 e2 h1 h2 h3 st hcl
    subst h1; subst h2; subst h3
    exact Or.inr ⟨q, (T.setVm vm₁).calling g' mk (Value.ref b :: As).toArray, t, U', L, E, ce, hT, X', hL, e1, e2, hq, hce, hcv, vx_cls hW₁ hcl, st⟩
end TwelveN
section Calls3
variable {Z : so_Z} {l : Launch} {g : am_G} {d m pc : Nat} {ls : List (Option Value)} {st : List Value} {A : am_A} {r : (Option Value ⊕ Nat) × am_A} {d1 d2 : List Nat}
theorem so_blind (hgw : so_gw Z) {ρ : Nat → Nat} {H : Heap} {As : List Value} : FrameBlind (so_Pc Z ρ H As) := fun a U g mk q => by
  obtain ⟨h1, h2, h3, h4, h5⟩ := q
  exact ⟨h1, h2, va_K.moved (u := U) (U := U.calling g mk a) (Vm.Alike.refl U.vm) h3, so_C_mv (u := U) (U := U.calling g mk a) (Vm.Alike.refl U.vm) (fun own k tx a h => vk_R.same rfl h) h4, fun w hw hg => (hgw w hw hg).1 #[] #[] U _ rfl (h5 w hw hg)⟩
theorem so_pre {p : Program} {s : State} {mid : MethodId} {args : Array Value} {meth : Method} {c : Code} {H : Heap} {locs : List Loc} {ρ : Nat → Nat} {As : List Value} (hZ : so_k Z) (hgw : so_gw Z) (hM : so_M Z l m p s mid args meth c) (hV : va_S (so_A Z) s.heap H locs) (U : State) (hU : U.heap = H) (hW : s.WarmedH U.vm) : so_Pc Z ρ H As (As.map (rl_cv ρ)).toArray U := by
  have hC := so_C_at hM
  obtain ⟨-, -, -, -, -, hts, hK, -, hbs, -⟩ := hM
  have hz := (hZ 0 (by omega)).2.2.2.2
  exact ⟨rfl, hU, va_K.moved hW.alike hK, so_C_mv hW.alike (fun own k tx a h => vk_R.warm hW h) (so_C_kept ⟨Nat.lt_of_lt_of_le hz hbs, Nat.not_le.mpr hz⟩ hV.2.1 hC), fun w hw hg => (hgw w hw hg).2 _ _ hW ((hgw w hw hg).1 _ #[] s s rfl (hts w hw))⟩
theorem so_good {w : Cond} (hw : w ∈ zT Z) (hg : goodWord w = true) : GoodIn (zT Z) (w :: zG Z) := fun x hx => by
  rcases List.mem_cons.mp hx with rfl | hx
  · exact ⟨hw, good_of_word hg⟩
  · exact ⟨(List.mem_filter.mp hx).1, good_of_word (List.mem_filter.mp hx).2⟩
theorem so_cb {idx k y n z : Nat} {p : Program} {R : Room} {s : State} {mid : MethodId} {args : Array Value} {meth : Method} {c : Code} {rm : Room} {mc ms : Nat} (hgw : so_gw Z) (hiv : so_iv Z (zY Z m).cls idx k y n z) (hM : so_M Z l m p s mid args meth c) (hcw : Cond.code (zY Z y) (zB Z y) (so_ml Z y) (zR Z y) ∈ zT Z) (hl : Cond.methodLink (zY Z m).cls idx (zY Z y) ∈ zT Z) (e1 : rm.cells = mc) (e2 : rm.slots = ms) (e3 : rm.frames + 1 ≤ R.frames) (e4 : 8 + (so_ml Z y + 11) + rm.locals ≤ R.locals) :
    CallB R s args (zY Z m).cls idx (zY Z y) (zB Z y) (so_ml Z y) (zR Z y) (Cond.code (zY Z y) (zB Z y) (so_ml Z y) (zR Z y) :: zG Z) rm mc ms n := by
  have hts := hM.2.2.2.2.2.1
  exact callB_of n hts (so_good hcw rfl) rfl e1 e2 (hts _ hiv.2.2.1) (hts _ hl) hiv.2.2.2.1 ⟨e3, e4⟩
theorem so_cn {idx k y n z : Nat} {host : String} {p : Program} {R : Room} {s : State} {mid : MethodId} {args : Array Value} {meth : Method} {c : Code} {rm : Room} {mc ms : Nat} (hgw : so_gw Z) (hiv : so_iv Z (zY Z m).cls idx k y n z) (hM : so_M Z l m p s mid args meth c) (hcw : Cond.code (zY Z y) (zB Z y) (so_ml Z y) (zR Z y) ∈ zT Z) (hl : Cond.methodLinkNest (zY Z m).cls idx (zY Z y) host ∈ zT Z) (e1 : rm.cells = mc) (e2 : rm.slots = ms) (e3 : rm.frames + 1 ≤ R.frames) (e4 : 8 + (so_ml Z y + 11) + rm.locals ≤ R.locals) :
    va_CN R s args (zY Z m).cls idx (zY Z y) host (zB Z y) (so_ml Z y) (zR Z y) (Cond.code (zY Z y) (zB Z y) (so_ml Z y) (zR Z y) :: zG Z) rm mc ms n := by
  have hts := hM.2.2.2.2.2.1
  exact va_cnB n hts (so_good hcw rfl) rfl e1 e2 (va_Nw.of rfl (hts _ hl)) (hts _ hiv.2.2.1) hiv.2.2.2.1 ⟨e3, e4⟩
theorem so_lim {rest : List Value} {x : am_X} (h : (if am_cat rest ≤ 8 then x else none) = some r) : am_cat rest ≤ 8 := by
  by_cases hc : am_cat rest ≤ 8
  · exact hc
  · rw [if_neg hc] at h
    cases h
theorem so_inv {idx k y n z : Nat} (hZ : so_k Z) (hgw : so_gw Z) (hiv : so_iv Z (zY Z m).cls idx k y n z) (hk : k ≤ 2) (hdg : (k = 0 → decode (zB Z m) pc = .ok (.invokevirtual idx, 3)) ∧ (k = 1 → decode (zB Z m) pc = .ok (.invokestatic idx, 3)) ∧ (k = 2 → decode (zB Z m) pc = .ok (.invokespecial idx, 3))) (hg : so_G Z l g) (hs : am_invk (zP Z) g d m pc 3 k y n z d1 d2 ls st A = some r) : so_T Z l d m pc ls st A r := by
  have hk3 : k = 0 ∨ k = 1 ∨ k = 2 := by omega
  rcases hk3 with rfl | rfl | rfl
  · -- of an object
    simp only [am_invk] at hs
    split at hs
    · rename_i As q rest hp
      obtain ⟨B, b1, b2, b3⟩ := so_popd _ _ _ _ _ hp
      rw [List.append_nil] at b2
      by_cases hq : am_K A q = z
      · rw [am_ck, if_pos hq] at hs
        obtain ⟨d', r1, rfl, hcat, hlen, hT1, hret, hexc⟩ := so_ways hg hs
        obtain ⟨i1, i2, hz0, hz20, T, N, hcl⟩ := hiv.2.2.2.2.2.2.2.1 rfl
        have hno : am_hs (zP Z) y = [] := by
          cases hh : am_hs (zP Z) y with
          | nil => rfl
          | cons a b => have := hiv.2.2.2.2.2.1 (by rw [hh]; simp); omega
        refine so_step hgw hiv hlen hcat hT1 (fun P h => ?_) ?_ hret hexc
        · rw [b3] at h
          refine ⟨so_cs (h _ (by simp)) fun v hv => h v ?_, fun v hv => h v ?_⟩
          · rw [b2] at hv
            simp only [List.mem_reverse] at hv
            simp [hv]
          · simp [hv]
        · intro p e R s mid args below meth c H locs cells slots arr ρ mc ms rm Qc XC hM hR hV hsz e1 e2 e3 e4 e5 e6 hmet
          have hcat2 := am_cat_eq ρ rest
          obtain ⟨q0, hi, hw⟩ := rl_get hR.1 (a := q) (by omega) (by omega)
          rw [rl_el_o (by omega), hq] at hw
          have hts := hM.2.2.2.2.2.1
          have hstk : st.map (rl_cv ρ) = (As.map (rl_cv ρ)).reverse ++ .ref (ρ q) :: rest.map (rl_cv ρ) := by
            rw [b3, b2, List.map_append, List.map_cons, ← List.map_reverse, List.reverse_reverse]
            rfl
          have hpv : PreV s H (zY Z y).cls (ρ q) (so_Pc Z ρ H (.ref q :: As)) (As.map (rl_cv ρ)) := ⟨so_blind hgw, va_recv hM.2.2.2.2.2.2.1 hR.1.2.1 hcl hw, fun U hU hW => so_pre hZ hgw hM hV U hU hW⟩
          have hAn : (As.map (rl_cv ρ)).length = n := by rw [b2]; simp [b1]
          rcases hmet with ⟨hm1, hcw⟩ | ⟨hh, hm1, hcw, hne⟩
          · rcases hiv.2.2.2.2.1 with hl | ⟨-, host, hl⟩
            · exact so_runV e4 ⟨hM.1, hM.2.1, hM.2.2.1, hM.2.2.2.2.1, hts⟩ hm1 ⟨so_cb hgw hiv hM hcw hl e1 e2 e3 (by omega), hts _ i1, hts _ i2⟩ hpv rfl hAn hsz hstk (so_room12 (by rw [hcat2]; exact hcat)) (hdg.1 rfl) ⟨e5, e6⟩
            · exact so_runVN e4 ⟨hM.1, hM.2.1, hM.2.2.1, hM.2.2.2.2.1, hts⟩ hm1 ⟨so_cn hgw hiv hM hcw hl e1 e2 e3 (by omega), hts _ i1, hts _ i2⟩ hpv rfl hAn hsz hstk (so_room12 (by rw [hcat2]; exact hcat)) (hdg.1 rfl) ⟨e5, e6⟩
          · exact absurd hno hne
      · rw [am_ck, if_neg hq] at hs
        cases hs
    · cases hs
  · -- of none
    simp only [am_invk] at hs
    split at hs
    · rename_i As rest hp
      obtain ⟨B, b1, b2, b3⟩ := so_popd _ _ _ _ _ hp
      rw [List.append_nil] at b2
      have hcat8 := so_lim hs
      rw [if_pos hcat8] at hs
      obtain ⟨d', r1, rfl, hcat, hlen, hT1, hret, hexc⟩ := so_ways hg hs
      have i1 := hiv.2.2.2.2.2.2.1 rfl
      refine so_step hgw hiv hlen hcat hT1 (fun P h => ?_) ?_ hret hexc
      · rw [b3] at h
        refine ⟨fun v hv => h v ?_, fun v hv => h v ?_⟩
        · rw [b2] at hv
          simp only [List.mem_reverse] at hv
          simp [hv]
        · simp [hv]
      · intro p e R s mid args below meth c H locs cells slots arr ρ mc ms rm Qc XC hM hR hV hsz e1 e2 e3 e4 e5 e6 hmet
        have hcat2 := am_cat_eq ρ rest
        have hts := hM.2.2.2.2.2.1
        have hstk : st.map (rl_cv ρ) = (As.map (rl_cv ρ)).reverse ++ rest.map (rl_cv ρ) := by
          rw [b3, b2, List.map_append, ← List.map_reverse, List.reverse_reverse]
        have hpv : PreS s H (so_Pc Z ρ H As) (As.map (rl_cv ρ)) := ⟨so_blind hgw, fun U hU hW => so_pre hZ hgw hM hV U hU hW⟩
        have hAn : (As.map (rl_cv ρ)).length = n := by rw [b2]; simp [b1]
        rcases hmet with ⟨hm1, hcw⟩ | ⟨hh, hm1, hcw, hne⟩
        · rcases hiv.2.2.2.2.1 with hl | ⟨-, host, hl⟩
          · exact vx_runS ⟨hM.1, hM.2.1, hM.2.2.1, hM.2.2.2.2.1, hts⟩ hm1 ⟨so_cb hgw hiv hM hcw hl e1 e2 e3 (by omega), hts _ i1⟩ hpv rfl hAn hsz hstk (lv_room (by rw [hcat2]; exact hcat8)) (hdg.2.1 rfl) ⟨e5, e6⟩
          · exact vx_runSN ⟨hM.1, hM.2.1, hM.2.2.1, hM.2.2.2.2.1, hts⟩ hm1 ⟨so_cn hgw hiv hM hcw hl e1 e2 e3 (by omega), hts _ i1, trivial⟩ hpv rfl hAn hsz hstk (lv_room (by rw [hcat2]; exact hcat8)) (hdg.2.1 rfl) ⟨e5, e6⟩
        · rcases hiv.2.2.2.2.1 with hl | ⟨h0, host, hl⟩
          · have hd := hiv.2.2.2.1
            have hGI := so_good hcw rfl
            refine vx_runSX (hh := hh) ⟨hM.1, hM.2.1, hM.2.2.1, hM.2.2.2.2.1, hts⟩ hm1 ⟨⟨e1, e2, e3, (by omega), pay_in hts hGI, List.mem_cons_self⟩, hts _ hcw, hts _ hiv.2.2.1, ⟨hd.1, hd.2.1⟩, fun sig h => ?_, hts _ hl, hts _ i1⟩ hpv rfl hAn hsz hstk (lv_room (by rw [hcat2]; exact hcat8)) (hdg.2.1 rfl) ⟨e5, e6⟩
            have h2 := hd.2.2
            rw [h] at h2
            exact (Option.some.inj h2).symm
          · exact absurd h0 hne
    · cases hs
  · -- a constructor
    simp only [am_invk] at hs
    split at hs
    · rename_i As q rest hp
      obtain ⟨B, b1, b2, b3⟩ := so_popd _ _ _ _ _ hp
      rw [List.append_nil] at b2
      by_cases hq : am_K A q = z
      · rw [am_ck, if_pos hq] at hs
        have hcat8 := so_lim hs
        rw [if_pos hcat8] at hs
        obtain ⟨d', r1, rfl, hcat, hlen, hT1, hret, hexc⟩ := so_ways hg hs
        obtain ⟨i1, i2, i3⟩ := hiv.2.2.2.2.2.2.2.2 rfl
        refine so_step hgw hiv hlen hcat hT1 (fun P h => ?_) ?_ hret hexc
        · rw [b3] at h
          refine ⟨so_cs (h _ (by simp)) fun v hv => h v ?_, fun v hv => h v ?_⟩
          · rw [b2] at hv
            simp only [List.mem_reverse] at hv
            simp [hv]
          · simp [hv]
        · intro p e R s mid args below meth c H locs cells slots arr ρ mc ms rm Qc XC hM hR hV hsz e1 e2 e3 e4 e5 e6 hmet
          have hcat2 := am_cat_eq ρ rest
          have hts := hM.2.2.2.2.2.1
          have hstk : st.map (rl_cv ρ) = (As.map (rl_cv ρ)).reverse ++ .ref (ρ q) :: rest.map (rl_cv ρ) := by
            rw [b3, b2, List.map_append, List.map_cons, ← List.map_reverse, List.reverse_reverse]
            rfl
          have hpv : PreS s H (so_Pc Z ρ H (.ref q :: As)) (.ref (ρ q) :: As.map (rl_cv ρ)) := ⟨so_blind hgw, fun U hU hW => so_pre hZ hgw hM hV U hU hW⟩
          have hAn : (As.map (rl_cv ρ)).length = n := by rw [b2]; simp [b1]
          rcases hmet with ⟨hm1, hcw⟩ | ⟨hh, hm1, hcw, hne⟩
          · rcases hiv.2.2.2.2.1 with hl | ⟨-, host, hl⟩
            · have cb := so_cb (R := R) hgw hiv hM hcw hl e1 e2 e3 (by omega)
              rw [i2] at cb hm1
              exact vx_runI ⟨hM.1, hM.2.1, hM.2.2.1, hM.2.2.2.2.1, hts⟩ hm1 ⟨cb, i1, hts _ i3⟩ hpv rfl hAn hsz hstk (lv_room (by rw [hcat2]; exact hcat8)) (hdg.2.2 rfl) ⟨e5, e6⟩
            · have cb := so_cn (R := R) hgw hiv hM hcw hl e1 e2 e3 (by omega)
              rw [i2] at cb hm1
              exact vx_runIN ⟨hM.1, hM.2.1, hM.2.2.1, hM.2.2.2.2.1, hts⟩ hm1 ⟨cb, i1, hts _ i3⟩ hpv rfl hAn hsz hstk (lv_room (by rw [hcat2]; exact hcat8)) (hdg.2.2 rfl) ⟨e5, e6⟩
          · have := hiv.2.2.2.2.2.1 hne
            omega
      · rw [am_ck, if_neg hq] at hs
        cases hs
    · cases hs
end Calls3
