/-! THE ABSTRACT MACHINE: a heap of typed tables by numbers (ids), one step of a method as a function of 'what the rest does' (g), its least fixed point am_ev, and its unrolling. -/
abbrev am_A : Type := (Nat → Nat) × (Nat → Nat) × (Nat → Nat → Int32) × (Nat → Nat → Int64) × (Nat → Nat → Option Nat) × Nat × Nat × Nat
/-- kind of a cell: 0 unknown; 1.. an object's sort; 21 int[], 22 long[], 23 byte[], 24 boolean[], 25 int[][], 26.. rows of objects; 41 the script, 42 a fixed long[], 43 a text -/
def am_K (A : am_A) : Nat → Nat := A.1
def am_L (A : am_A) : Nat → Nat := A.2.1
def am_I (A : am_A) : Nat → Nat → Int32 := A.2.2.1
def am_J (A : am_A) : Nat → Nat → Int64 := A.2.2.2.1
def am_R (A : am_A) : Nat → Nat → Option Nat := A.2.2.2.2.1
/-- the next number; how many cells, how many slots were made -/
def am_N (A : am_A) : Nat := A.2.2.2.2.2.1
def am_C (A : am_A) : Nat := A.2.2.2.2.2.2.1
def am_S (A : am_A) : Nat := A.2.2.2.2.2.2.2
def am_up1 {α : Type} (f : Nat → α) (k : Nat) (v : α) : Nat → α := fun j => if j = k then v else f j
def am_up2 {α : Type} (f : Nat → Nat → α) (a k : Nat) (v : α) : Nat → Nat → α := fun b j => if b = a ∧ j = k then v else f b j
def am_sI (A : am_A) (a k : Nat) (v : Int32) : am_A := (A.1, A.2.1, am_up2 A.2.2.1 a k v, A.2.2.2)
def am_sJ (A : am_A) (a k : Nat) (v : Int64) : am_A := (A.1, A.2.1, A.2.2.1, am_up2 A.2.2.2.1 a k v, A.2.2.2.2)
def am_sR (A : am_A) (a k : Nat) (v : Option Nat) : am_A := (A.1, A.2.1, A.2.2.1, A.2.2.2.1, am_up2 A.2.2.2.2.1 a k v, A.2.2.2.2.2)
/-- a new cell of kind t, with len places that hold 0, 0, null -/
def am_nw (A : am_A) (t len sl : Nat) : am_A :=
  (am_up1 A.1 (am_N A) t, am_up1 A.2.1 (am_N A) len, am_up1 A.2.2.1 (am_N A) (fun _ => 0), am_up1 A.2.2.2.1 (am_N A) (fun _ => 0), am_up1 A.2.2.2.2.1 (am_N A) (fun _ => none), am_N A + 1, am_C A + 1, am_S A + sl)
/-- some cells that nobody knows (an exception's): the numbers stay -/
def am_xx (A : am_A) (c s : Nat) : am_A := (A.1, A.2.1, A.2.2.1, A.2.2.2.1, A.2.2.2.2.1, am_N A, am_C A + c, am_S A + s)
/-- a number for what nobody knows -/
def am_nx (A : am_A) : am_A := (am_up1 A.1 (am_N A) 0, A.2.1, A.2.2.1, A.2.2.2.1, A.2.2.2.2.1, am_N A + 1, am_C A, am_S A)
/-- n places of the int[] b from d on are those of a from s on -/
def am_cp (A : am_A) (a s b d n : Nat) : am_A := (A.1, A.2.1, (fun c j => if c = b ∧ d ≤ j ∧ j < d + n then am_I A a (s + (j - d)) else am_I A c j), A.2.2.2)
/-- a new int[] that holds what a holds -/
def am_cl (A : am_A) (a : Nat) : am_A :=
  (am_up1 A.1 (am_N A) 21, am_up1 A.2.1 (am_N A) (am_L A a), am_up1 A.2.2.1 (am_N A) (am_I A a), am_up1 A.2.2.2.1 (am_N A) (fun _ => 0), am_up1 A.2.2.2.2.1 (am_N A) (fun _ => none), am_N A + 1, am_C A + 1, am_S A + am_L A a)
/-- rows of an int[][] : n new int[] of len places, the row o's places from i on hold them -/
def am_gr (len o : Nat) : Nat → Nat → am_A → am_A
  | 0, _, A => A
  | n + 1, i, A => am_gr len o n (i + 1) (am_sR (am_nw A 21 len len) o i (some (am_N A)))
abbrev am_X : Type := Option ((Option Value ⊕ Nat) × am_A)
abbrev am_G : Type := Nat → Nat → Nat → List (Option Value) → List Value → am_A → am_X
/-- a row of code: what, its length, four numbers, an int, a long, targets, what is dead at the target, what is dead behind -/
abbrev am_row : Type := Instr × Nat × Nat × Nat × Nat × Nat × Int32 × Int64 × List (Int32 × Nat) × List Nat × List Nat
def am_nth {α : Type} : List α → Nat → Option α
  | [], _ => none
  | x :: _, 0 => some x
  | _ :: xs, n + 1 => am_nth xs n
def am_dead : List Nat → List (Option Value) → List (Option Value)
  | [], ls => ls
  | i :: is, ls => am_dead is (ls.set i none)
def am_ck (A : am_A) (a t : Nat) (r : am_X) : am_X := if am_K A a = t then r else none
def am_ck2 (A : am_A) (a t u : Nat) (r : am_X) : am_X := if am_K A a = t ∨ am_K A a = u then r else none
def am_in (j : Int32) (n : Nat) (r : am_X) : am_X := if j < 0 ∨ n ≤ j.toNatClampNeg then none else r
def am_on (o : Option Nat) (n : am_X) (s : Nat → am_X) : am_X := match o with
  | none => n
  | some q => s q
def am_nz (x : Int32) (r : am_X) : am_X := if x = 0 then none else r
def am_nzl (x : Int64) (r : am_X) : am_X := if x = 0 then none else r
def am_b (x : Int32) (r : am_X) : am_X := if x = 0 ∨ x = 1 then r else none
/-- what a call gives: an int, a long, nothing, a reference (or null), an exception -/
def am_oI (r : am_X) (x : Nat → am_A → am_X) (k : Int32 → am_A → am_X) : am_X := match r with
  | some (.inl (some (.int v)), A) => k v A
  | some (.inr e, A) => x e A
  | _ => none
def am_oJ (r : am_X) (x : Nat → am_A → am_X) (k : Int64 → am_A → am_X) : am_X := match r with
  | some (.inl (some (.long v)), A) => k v A
  | some (.inr e, A) => x e A
  | _ => none
def am_oV (r : am_X) (x : Nat → am_A → am_X) (k : am_A → am_X) : am_X := match r with
  | some (.inl none, A) => k A
  | some (.inr e, A) => x e A
  | _ => none
def am_oR (r : am_X) (x : Nat → am_A → am_X) (n : am_A → am_X) (k : Nat → am_A → am_X) : am_X := match r with
  | some (.inl (some .null), A) => n A
  | some (.inl (some (.ref q)), A) => k q A
  | some (.inr e, A) => x e A
  | _ => none
/-- the places of a method's arguments -/
def am_ent : List Value → List (Option Value)
  | [] => []
  | .long v :: r => some (.long v) :: none :: am_ent r
  | .double v :: r => some (.double v) :: none :: am_ent r
  | v :: r => some v :: am_ent r
def am_pad (n : Nat) (l : List (Option Value)) : List (Option Value) := l ++ List.replicate (n - l.length) none
def am_cat : List Value → Nat
  | [] => 0
  | .long _ :: r => 2 + am_cat r
  | .double _ :: r => 2 + am_cat r
  | _ :: r => 1 + am_cat r
def am_cond (c : Jvm.ClassFile.Cond) (x y : Int32) (a b : am_X) : am_X := match c with
  | .eq => if x = y then a else b
  | .ne => if x = y then b else a
  | .lt => if x < y then a else b
  | .ge => if x < y then b else a
  | .gt => if y < x then a else b
  | .le => if y < x then b else a
def am_ld (ls : List (Option Value)) (i : Nat) (k : Value → am_X) : am_X := match am_nth ls i with
  | some (some v) => k v
  | _ => none
/-- storing at i: what stands just ahead may be no long -/
def am_st (ls : List (Option Value)) (i : Nat) (v : Value) (k : List (Option Value) → am_X) : am_X := match i with
  | 0 => k (ls.set 0 (some v))
  | j + 1 => match am_nth ls j with
    | some (some (.long _)) => none
    | some (some (.double _)) => none
    | _ => k (ls.set (j + 1) (some v))
def am_ldI (v : Value) (k : am_X) : am_X := match v with
  | .int _ => k
  | _ => none
def am_ldL (v : Value) (k : am_X) : am_X := match v with
  | .long _ => k
  | _ => none
def am_ldA (v : Value) (k : am_X) : am_X := match v with
  | .ref _ => k
  | .null => k
  | _ => none
