/-! NEED, TREE: made by wip/whole/math/60.py. -/
section Makes2
variable {B : am_A} {i : Nat → Nat → Int32} {σ : Sg} {w w' : Nat → Int32} {L j d : Nat} {x y z u v t : Int32}
/-- a bend that a kind may have -/
def bnd (y v : Int32) : Prop := (y = 1 → ¬ v < -9 ∧ ¬ 9 < v) ∧ (¬ y = 1 → v = 0)
theorem c_bend1 (h : bnd y v) {A : am_A} : am_fx am_P (d + 1) 353 0 [some (.int y), some (.int v)] [] A = some (.inl (some (.int 1)), A) := by
  rw [bk_353_0]
  by_cases g : y = 1
  · rw [if_pos g, c_within1 (h.1 g), y_oI, y_b1]
  · rw [if_neg g, if_pos (h.2 g), y_b1]
theorem c_bend0 (h : ¬ bnd y v) {A : am_A} : am_fx am_P (d + 1) 353 0 [some (.int y), some (.int v)] [] A = some (.inl (some (.int 0)), A) := by
  rw [bk_353_0]
  by_cases g : y = 1
  · rw [if_pos g, c_within0 (fun q => h ⟨fun _ => q, fun e => absurd g e⟩), y_oI, y_b0]
  · rw [if_neg g, if_neg (fun q => h ⟨fun e => absurd e g, fun _ => q⟩), y_b0]
theorem z_eq0 {v : Int32} : (¬ v < 0 ∧ ¬ 0 < v) = (v = 0) := by
  refine propext ⟨fun h => ?_, fun h => by subst h; decide⟩
  rw [Int32.lt_iff_toInt_lt, Int32.lt_iff_toInt_lt] at h
  have e : (0 : Int32).toInt = 0 := by decide
  exact Int32.toInt_inj.mp (by omega)
theorem bnd1 (g : y = 1) : bnd y v = (¬ v < -9 ∧ ¬ 9 < v) := propext ⟨fun h => h.1 g, fun h => ⟨fun _ => h, fun e => absurd g e⟩⟩
theorem bnd2 (g : ¬ y = 1) : bnd y v = (v = 0) := propext ⟨fun h => h.2 g, fun h => ⟨fun e => absurd e g, fun _ => h⟩⟩
end Makes2
