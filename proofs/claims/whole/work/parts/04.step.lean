/-! ONE STEP. A method: its rows of code (sixteen places a row), how many places, what it gives (0 nothing, 1 int, 2 long, 3 a reference), its handlers (from, to, which exception, where). -/
abbrev am_M : Type := List (List (Option am_row)) × Nat × Nat × List (Nat × Nat × Nat × Nat)
def am_code (P : Nat → Option am_M) (m pc : Nat) : Option am_row := match P m with
  | none => none
  | some M => match am_nth M.1 (pc / 16) with
    | none => none
    | some r => match am_nth r (pc % 16) with
      | some (some x) => some x
      | _ => none
def am_hs (P : Nat → Option am_M) (m : Nat) : List (Nat × Nat × Nat × Nat) := match P m with
  | none => []
  | some M => M.2.2.2
def am_exh (g : am_G) (d m pc : Nat) (d1 : List Nat) (ls : List (Option Value)) : List (Nat × Nat × Nat × Nat) → Nat → am_A → am_X
  | [], _, _ => none
  | (s, t, x, h) :: r, e, A => match Nat.ble s pc && Nat.blt pc t with
    | true => if e = x then g d m h (am_dead d1 ls) [.ref (am_N A)] (am_nx A) else am_exh g d m pc d1 ls r e A
    | false => am_exh g d m pc d1 ls r e A
def am_exc (P : Nat → Option am_M) (g : am_G) (d m pc : Nat) (d1 : List Nat) (ls : List (Option Value)) : Nat → am_A → am_X := match am_hs P m with
  | [] => fun e A => some (.inr e, A)
  | h :: r => fun e A => am_exh g d m pc d1 ls (h :: r) e A
def am_sw (g : am_G) (d m : Nat) (d1 : List Nat) (ls : List (Option Value)) (r : List Value) (A : am_A) (x : Int32) (df : Nat) : List (Int32 × Nat) → am_X
  | [] => g d m df (am_dead d1 ls) r A
  | (v, t) :: ts => if x = v then g d m t (am_dead d1 ls) r A else am_sw g d m d1 ls r A x df ts
/-- an exception that a callee gives: none does that has handlers of its own -/
def am_excY (P : Nat → Option am_M) (g : am_G) (d m pc : Nat) (d1 : List Nat) (ls : List (Option Value)) (hs : List (Nat × Nat × Nat × Nat)) : Nat → am_A → am_X := match hs with
  | [] => am_exc P g d m pc d1 ls
  | _ :: _ => fun _ _ => none
/-- a call of y with these arguments; r: the stack below them -/
def am_call (P : Nat → Option am_M) (g : am_G) (d m pc len y : Nat) (d1 d2 : List Nat) (ls : List (Option Value)) (As r : List Value) (A : am_A) : am_X :=
  if am_cat r ≤ 12 then match d with
    | 0 => none
    | d' + 1 => match P y with
      | none => none
      | some M => if (am_ent As).length ≤ M.2.1 then (match M.2.2.1 with
        | 0 => am_oV (g d' y 0 (am_pad M.2.1 (am_ent As)) [] A) (am_excY P g (d' + 1) m pc d1 ls M.2.2.2) (fun A' => g (d' + 1) m (pc + len) (am_dead d2 ls) r A')
        | 1 => am_oI (g d' y 0 (am_pad M.2.1 (am_ent As)) [] A) (am_excY P g (d' + 1) m pc d1 ls M.2.2.2) (fun v A' => g (d' + 1) m (pc + len) (am_dead d2 ls) (.int v :: r) A')
        | 2 => am_oJ (g d' y 0 (am_pad M.2.1 (am_ent As)) [] A) (am_excY P g (d' + 1) m pc d1 ls M.2.2.2) (fun v A' => g (d' + 1) m (pc + len) (am_dead d2 ls) (.long v :: r) A')
        | 4 => am_oR (g d' y 0 (am_pad M.2.1 (am_ent As)) [] A) (am_excY P g (d' + 1) m pc d1 ls M.2.2.2) (fun _ => none) (fun q A' => g (d' + 1) m (pc + len) (am_dead d2 ls) (.ref q :: r) A')
        | _ => am_oR (g d' y 0 (am_pad M.2.1 (am_ent As)) [] A) (am_excY P g (d' + 1) m pc d1 ls M.2.2.2) (fun A' => g (d' + 1) m (pc + len) (am_dead d2 ls) (.null :: r) A') (fun q A' => g (d' + 1) m (pc + len) (am_dead d2 ls) (.ref q :: r) A')) else none
  else none
def am_pop : Nat → List Value → List Value → Option (List Value × List Value)
  | 0, acc, st => some (acc, st)
  | n + 1, acc, v :: st => am_pop n (v :: acc) st
  | _ + 1, _, [] => none
def am_invk (P : Nat → Option am_M) (g : am_G) (d m pc len k y n z : Nat) (d1 d2 : List Nat) (ls : List (Option Value)) (st : List Value) (A : am_A) : am_X := match k with
  | 0 => match am_pop n [] st with
    | some (As, .ref q :: r) => am_ck A q z (am_call P g d m pc len y d1 d2 ls (.ref q :: As) r A)
    | _ => none
  | 1 => match am_pop n [] st with
    | some (As, r) => if am_cat r ≤ 8 then am_call P g d m pc len y d1 d2 ls As r A else none
    | _ => none
  | 2 => match am_pop n [] st with
    | some (As, .ref q :: r) => am_ck A q z (if am_cat r ≤ 8 then am_call P g d m pc len y d1 d2 ls (.ref q :: As) r A else none)
    | _ => none
  | 3 => match st with
    | .ref _ :: r => if am_cat r ≤ 8 then g d m (pc + len) (am_dead d2 ls) r A else none
    | _ => none
  | 4 => match st with
    | .int l :: .int dp :: .ref b :: .int sp :: .ref a :: r => am_ck A a 21 (am_ck A b 21 (
        if 8 < am_cat r ∨ l < 0 ∨ dp < 0 ∨ sp < 0 ∨ am_L A a < sp.toNatClampNeg + l.toNatClampNeg ∨ am_L A b < dp.toNatClampNeg + l.toNatClampNeg then none
        else g d m (pc + len) (am_dead d2 ls) r (am_cp A a sp.toNatClampNeg b dp.toNatClampNeg l.toNatClampNeg)))
    | _ => none
  | 5 => match st with
    | .ref a :: r => if am_cat r ≤ 8 then am_ck A a 43 (g d m (pc + len) (am_dead d2 ls) (.int (Int32.ofNat (am_L A a)) :: r) A) else none
    | _ => none
  | 6 => match st with
    | .int j :: .ref a :: r => if am_cat r ≤ 8 then am_ck A a 43 (am_in j (am_L A a) (g d m (pc + len) (am_dead d2 ls) (.int (am_I A a j.toNatClampNeg) :: r) A)) else none
    | _ => none
  | 7 => match st with
    | .ref a :: r => if am_cat r ≤ 8 then am_ck A a 21 (g d m (pc + len) (am_dead d2 ls) (.ref (am_N A) :: r) (am_cl A a)) else none
    | _ => none
  | _ => none
/-- a row of numbers, made of n places -/
def am_new (g : am_G) (d m pc len : Nat) (d2 : List Nat) (ls : List (Option Value)) (r : List Value) (A : am_A) (t w : Nat) (n : Int32) : am_X :=
  if n < 0 ∨ 536870912 < n.toNatClampNeg * w then none else g d m (pc + len) (am_dead d2 ls) (.ref (am_N A) :: r) (am_nw A t n.toNatClampNeg n.toNatClampNeg)
def am_step (P : Nat → Option am_M) (g : am_G) (d m pc : Nat) (ls : List (Option Value)) (st : List Value) (A : am_A) (w : am_row) : am_X := match w with
  | (i, len, a, b, c, e, v0, u0, ts, d1, d2) => match i with
    | .aload n => am_ld ls n fun v => am_ldA v (g d m (pc + len) (am_dead d2 ls) (v :: st) A)
    | .aload_n n => am_ld ls n.val fun v => am_ldA v (g d m (pc + len) (am_dead d2 ls) (v :: st) A)
    | .iload n => am_ld ls n fun v => am_ldI v (g d m (pc + len) (am_dead d2 ls) (v :: st) A)
    | .iload_n n => am_ld ls n.val fun v => am_ldI v (g d m (pc + len) (am_dead d2 ls) (v :: st) A)
    | .lload n => am_ld ls n fun v => am_ldL v (g d m (pc + len) (am_dead d2 ls) (v :: st) A)
    | .lload_n n => am_ld ls n.val fun v => am_ldL v (g d m (pc + len) (am_dead d2 ls) (v :: st) A)
    | .istore n => match st with
      | .int x :: r => am_st ls n (.int x) fun l => g d m (pc + len) (am_dead d2 l) r A
      | _ => none
    | .istore_n n => match st with
      | .int x :: r => am_st ls n.val (.int x) fun l => g d m (pc + len) (am_dead d2 l) r A
      | _ => none
    | .lstore n => match st with
      | .long x :: r => am_st ls n (.long x) fun l => g d m (pc + len) (am_dead d2 (l.set (n + 1) none)) r A
      | _ => none
    | .lstore_n n => match st with
      | .long x :: r => am_st ls n.val (.long x) fun l => g d m (pc + len) (am_dead d2 (l.set (n.val + 1) none)) r A
      | _ => none
    | .astore n => match st with
      | .ref x :: r => am_st ls n (.ref x) fun l => g d m (pc + len) (am_dead d2 l) r A
      | .null :: r => am_st ls n .null fun l => g d m (pc + len) (am_dead d2 l) r A
      | _ => none
    | .astore_n n => match st with
      | .ref x :: r => am_st ls n.val (.ref x) fun l => g d m (pc + len) (am_dead d2 l) r A
      | .null :: r => am_st ls n.val .null fun l => g d m (pc + len) (am_dead d2 l) r A
      | _ => none
    | .iinc n _ => am_ld ls n fun v => match v with
      | .int x => g d m (pc + len) (am_dead d2 (ls.set n (some (.int (x + v0))))) st A
      | _ => none
    | .iconst _ => g d m (pc + len) (am_dead d2 ls) (.int v0 :: st) A
    | .bipush _ => g d m (pc + len) (am_dead d2 ls) (.int v0 :: st) A
    | .sipush _ => g d m (pc + len) (am_dead d2 ls) (.int v0 :: st) A
    | .lconst _ => g d m (pc + len) (am_dead d2 ls) (.long u0 :: st) A
    | .aconst_null => g d m (pc + len) (am_dead d2 ls) (.null :: st) A
    | .ldc _ => match a with
      | 0 => g d m (pc + len) (am_dead d2 ls) (.int v0 :: st) A
      | _ => am_ck A b 43 (g d m (pc + len) (am_dead d2 ls) (.ref b :: st) A)
    | .ldc_w _ => match a with
      | 0 => g d m (pc + len) (am_dead d2 ls) (.int v0 :: st) A
      | _ => am_ck A b 43 (g d m (pc + len) (am_dead d2 ls) (.ref b :: st) A)
    | .ldc2_w _ => g d m (pc + len) (am_dead d2 ls) (.long u0 :: st) A
    | .iadd => match st with
      | .int y :: .int x :: r => g d m (pc + len) (am_dead d2 ls) (.int (x + y) :: r) A
      | _ => none
    | .isub => match st with
      | .int y :: .int x :: r => g d m (pc + len) (am_dead d2 ls) (.int (x - y) :: r) A
      | _ => none
    | .imul => match st with
      | .int y :: .int x :: r => g d m (pc + len) (am_dead d2 ls) (.int (x * y) :: r) A
      | _ => none
    | .idiv => match st with
      | .int y :: .int x :: r => am_nz y (g d m (pc + len) (am_dead d2 ls) (.int (x / y) :: r) A)
      | _ => none
    | .irem => match st with
      | .int y :: .int x :: r => am_nz y (g d m (pc + len) (am_dead d2 ls) (.int (x - x / y * y) :: r) A)
      | _ => none
    | .ineg => match st with
      | .int x :: r => g d m (pc + len) (am_dead d2 ls) (.int (-x) :: r) A
      | _ => none
    | .ishl => match st with
      | .int y :: .int x :: r => g d m (pc + len) (am_dead d2 ls) (.int (x <<< (y &&& 31)) :: r) A
      | _ => none
    | .ishr => match st with
      | .int y :: .int x :: r => g d m (pc + len) (am_dead d2 ls) (.int (x >>> (y &&& 31)) :: r) A
      | _ => none
    | .iushr => match st with
      | .int y :: .int x :: r => g d m (pc + len) (am_dead d2 ls) (.int (x.toUInt32 >>> (y.toUInt32 &&& Int32.toUInt32 31)).toInt32 :: r) A
      | _ => none
    | .iand => match st with
      | .int y :: .int x :: r => g d m (pc + len) (am_dead d2 ls) (.int (x &&& y) :: r) A
      | _ => none
    | .ior => match st with
      | .int y :: .int x :: r => g d m (pc + len) (am_dead d2 ls) (.int (x ||| y) :: r) A
      | _ => none
    | .ixor => match st with
      | .int y :: .int x :: r => g d m (pc + len) (am_dead d2 ls) (.int (x ^^^ y) :: r) A
      | _ => none
    | .ladd => match st with
      | .long y :: .long x :: r => g d m (pc + len) (am_dead d2 ls) (.long (x + y) :: r) A
      | _ => none
    | .lmul => match st with
      | .long y :: .long x :: r => g d m (pc + len) (am_dead d2 ls) (.long (x * y) :: r) A
      | _ => none
    | .ldiv => match st with
      | .long y :: .long x :: r => am_nzl y (g d m (pc + len) (am_dead d2 ls) (.long (x / y) :: r) A)
      | _ => none
    | .lrem => match st with
      | .long y :: .long x :: r => am_nzl y (g d m (pc + len) (am_dead d2 ls) (.long (x - x / y * y) :: r) A)
      | _ => none
    | .lcmp => match st with
      | .long y :: .long x :: r => g d m (pc + len) (am_dead d2 ls) (.int (if x < y then -1 else if x = y then 0 else 1) :: r) A
      | _ => none
    | .i2l => match st with
      | .int x :: r => g d m (pc + len) (am_dead d2 ls) (.long x.toInt64 :: r) A
      | _ => none
    | .l2i => match st with
      | .long x :: r => g d m (pc + len) (am_dead d2 ls) (.int x.toInt32 :: r) A
      | _ => none
    | .i2b => match st with
      | .int x :: r => g d m (pc + len) (am_dead d2 ls) (.int x.toInt8.toInt32 :: r) A
      | _ => none
    | .dup => match st with
      | .int x :: r => g d m (pc + len) (am_dead d2 ls) (.int x :: .int x :: r) A
      | .ref x :: r => g d m (pc + len) (am_dead d2 ls) (.ref x :: .ref x :: r) A
      | _ => none
    | .dup_x1 => match st with
      | .int x :: .ref y :: r => g d m (pc + len) (am_dead d2 ls) (.int x :: .ref y :: .int x :: r) A
      | .int x :: .int y :: r => g d m (pc + len) (am_dead d2 ls) (.int x :: .int y :: .int x :: r) A
      | _ => none
    | .dup2 => match st with
      | .int x :: .ref y :: r => g d m (pc + len) (am_dead d2 ls) (.int x :: .ref y :: .int x :: .ref y :: r) A
      | .int x :: .int y :: r => g d m (pc + len) (am_dead d2 ls) (.int x :: .int y :: .int x :: .int y :: r) A
      | _ => none
    | .pop => match st with
      | .int _ :: r => g d m (pc + len) (am_dead d2 ls) r A
      | .ref _ :: r => g d m (pc + len) (am_dead d2 ls) r A
      | _ => none
    | .goto _ => g d m a (am_dead d1 ls) st A
    | .ifCond k _ => match st with
      | .int x :: r => am_cond k x 0 (g d m a (am_dead d1 ls) r A) (g d m (pc + len) (am_dead d2 ls) r A)
      | _ => none
    | .if_icmp k _ => match st with
      | .int y :: .int x :: r => am_cond k x y (g d m a (am_dead d1 ls) r A) (g d m (pc + len) (am_dead d2 ls) r A)
      | _ => none
    | .ifnull _ => match st with
      | .null :: r => g d m a (am_dead d1 ls) r A
      | .ref _ :: r => g d m (pc + len) (am_dead d2 ls) r A
      | _ => none
    | .ifnonnull _ => match st with
      | .ref _ :: r => g d m a (am_dead d1 ls) r A
      | .null :: r => g d m (pc + len) (am_dead d2 ls) r A
      | _ => none
    | .tableswitch _ _ _ _ => match st with
      | .int x :: r => am_sw g d m d1 ls r A x a ts
      | _ => none
    | .getfield _ => match st with
      | .ref q :: r => am_ck A q a (match c with
        | 0 => g d m (pc + len) (am_dead d2 ls) (.int (am_I A q b) :: r) A
        | 1 => g d m (pc + len) (am_dead d2 ls) (.int (am_I A q b) :: r) A
        | 2 => g d m (pc + len) (am_dead d2 ls) (.long (am_J A q b) :: r) A
        | 3 => am_on (am_R A q b) (g d m (pc + len) (am_dead d2 ls) (.null :: r) A) (fun x => g d m (pc + len) (am_dead d2 ls) (.ref x :: r) A)
        | _ => am_on (am_R A q b) none (fun x => g d m (pc + len) (am_dead d2 ls) (.ref x :: r) A))
      | _ => none
    | .putfield _ => match c with
      | 0 => match st with
        | .int x :: .ref q :: r => am_ck A q a (g d m (pc + len) (am_dead d2 ls) r (am_sI A q b x))
        | _ => none
      | 1 => match st with
        | .int x :: .ref q :: r => am_ck A q a (am_b x (g d m (pc + len) (am_dead d2 ls) r (am_sI A q b x)))
        | _ => none
      | 2 => match st with
        | .long x :: .ref q :: r => am_ck A q a (g d m (pc + len) (am_dead d2 ls) r (am_sJ A q b x))
        | _ => none
      | _ => match st with
        | .ref x :: .ref q :: r => am_ck A q a (g d m (pc + len) (am_dead d2 ls) r (am_sR A q b (some x)))
        | .null :: .ref q :: r => am_ck A q a (g d m (pc + len) (am_dead d2 ls) r (am_sR A q b none))
        | _ => none
    | .getstatic _ => am_ck A b 42 (g d m (pc + len) (am_dead d2 ls) (.ref b :: st) A)
    | .new _ => match b with
      | 0 => g d m (pc + len) (am_dead d2 ls) (.ref (am_N A) :: st) (am_nw A a 0 c)
      | _ => if am_cat st ≤ 8 then some (.inr a, am_xx A 1 6) else none
    | .newarray ty => match st with
      | .int n :: r => match ty with
        | .int => am_new g d m pc len d2 ls r A 21 4 n
        | .long => am_new g d m pc len d2 ls r A 22 8 n
        | .byte => am_new g d m pc len d2 ls r A 23 1 n
        | .boolean => am_new g d m pc len d2 ls r A 24 1 n
        | _ => none
      | _ => none
    | .anewarray _ => match st with
      | .int n :: r => am_new g d m pc len d2 ls r A a 4 n
      | _ => none
    | .multianewarray _ _ => match st with
      | .int k :: .int n :: r => if n < 0 ∨ k < 0 ∨ 1000 < n.toNatClampNeg ∨ 1000 < k.toNatClampNeg then none else
          g d m (pc + len) (am_dead d2 ls) (.ref (am_N A) :: r) (am_gr k.toNatClampNeg (am_N A) n.toNatClampNeg 0 (am_nw A 25 n.toNatClampNeg n.toNatClampNeg))
      | _ => none
    | .arraylength => match st with
      | .ref q :: r => if 21 ≤ am_K A q ∧ am_K A q ≤ 29 ∨ am_K A q = 41 then g d m (pc + len) (am_dead d2 ls) (.int (Int32.ofNat (am_L A q)) :: r) A else none
      | _ => none
    | .iaload => match st with
      | .int j :: .ref q :: r => am_ck2 A q 21 41 (am_in j (am_L A q) (g d m (pc + len) (am_dead d2 ls) (.int (am_I A q j.toNatClampNeg) :: r) A))
      | _ => none
    | .laload => match st with
      | .int j :: .ref q :: r => am_ck2 A q 22 42 (am_in j (am_L A q) (g d m (pc + len) (am_dead d2 ls) (.long (am_J A q j.toNatClampNeg) :: r) A))
      | _ => none
    | .baload => match st with
      | .int j :: .ref q :: r => am_ck2 A q 23 24 (am_in j (am_L A q) (g d m (pc + len) (am_dead d2 ls) (.int (am_I A q j.toNatClampNeg) :: r) A))
      | _ => none
    | .aaload => match st with
      | .int j :: .ref q :: r => am_ck A q a (am_in j (am_L A q) (am_on (am_R A q j.toNatClampNeg) (match c with
        | 0 => none
        | _ => g d m (pc + len) (am_dead d2 ls) (.null :: r) A) (fun x => g d m (pc + len) (am_dead d2 ls) (.ref x :: r) A)))
      | _ => none
    | .iastore => match st with
      | .int x :: .int j :: .ref q :: r => am_ck A q 21 (am_in j (am_L A q) (g d m (pc + len) (am_dead d2 ls) r (am_sI A q j.toNatClampNeg x)))
      | _ => none
    | .lastore => match st with
      | .long x :: .int j :: .ref q :: r => am_ck A q 22 (am_in j (am_L A q) (g d m (pc + len) (am_dead d2 ls) r (am_sJ A q j.toNatClampNeg x)))
      | _ => none
    | .bastore => match st with
      | .int x :: .int j :: .ref q :: r => am_ck A q a (am_in j (am_L A q) (match a with
        | 23 => g d m (pc + len) (am_dead d2 ls) r (am_sI A q j.toNatClampNeg x.toInt8.toInt32)
        | 24 => am_b x (g d m (pc + len) (am_dead d2 ls) r (am_sI A q j.toNatClampNeg x))
        | _ => none))
      | _ => none
    | .aastore => match st with
      | .ref x :: .int j :: .ref q :: r => am_ck A q a (am_ck A x b (am_in j (am_L A q) (g d m (pc + len) (am_dead d2 ls) r (am_sR A q j.toNatClampNeg (some x)))))
      | _ => none
    | .checkcast _ => match st with
      | .ref q :: r => am_ck A q a (g d m (pc + len) (am_dead d2 ls) (.ref q :: r) A)
      | _ => none
    | .ireturn => match st with
      | [.int x] => match c with
        | 0 => some (.inl (some (.int x)), A)
        | _ => am_b x (some (.inl (some (.int x)), A))
      | _ => none
    | .invokevirtual _ => am_invk P g d m pc len a b c e d1 d2 ls st A
    | .invokestatic _ => am_invk P g d m pc len a b c e d1 d2 ls st A
    | .invokespecial _ => am_invk P g d m pc len a b c e d1 d2 ls st A
    | .lreturn => match st with
      | [.long x] => some (.inl (some (.long x)), A)
      | _ => none
    | .areturn => match st with
      | [.ref x] => some (.inl (some (.ref x)), A)
      | [.null] => some (.inl (some .null), A)
      | _ => none
    | .return_ => match st with
      | [] => some (.inl none, A)
      | _ => none
    | _ => none
def am_F (P : Nat → Option am_M) (g : am_G) : am_G := fun d m pc ls st A => match am_code P m pc with
  | none => none
  | some w => am_step P g d m pc ls st A w
/-- less: where the one says something the other says the same -/
def am_le (r r' : am_X) : Prop := ∀ v, r = some v → r' = some v
theorem am_le_rf (r : am_X) : am_le r r := fun _ h => h
theorem am_le_ck {A : am_A} {a t : Nat} {r r' : am_X} (h : am_le r r') : am_le (am_ck A a t r) (am_ck A a t r') := by
  intro v e
  by_cases hc : am_K A a = t
  · exact (if_pos hc).trans (h v ((if_pos hc).symm.trans e))
  · exact absurd ((if_neg hc).symm.trans e) (by simp)
theorem am_le_ck2 {A : am_A} {a t u : Nat} {r r' : am_X} (h : am_le r r') : am_le (am_ck2 A a t u r) (am_ck2 A a t u r') := by
  intro v e
  by_cases hc : am_K A a = t ∨ am_K A a = u
  · exact (if_pos hc).trans (h v ((if_pos hc).symm.trans e))
  · exact absurd ((if_neg hc).symm.trans e) (by simp)
theorem am_le_in {j : Int32} {n : Nat} {r r' : am_X} (h : am_le r r') : am_le (am_in j n r) (am_in j n r') := by
  intro v e
  by_cases hc : j < 0 ∨ n ≤ j.toNatClampNeg
  · exact absurd ((if_pos hc).symm.trans e) (by simp)
  · exact (if_neg hc).trans (h v ((if_neg hc).symm.trans e))
theorem am_le_nz {x : Int32} {r r' : am_X} (h : am_le r r') : am_le (am_nz x r) (am_nz x r') := by
  intro v e
  by_cases hc : x = 0
  · exact absurd ((if_pos hc).symm.trans e) (by simp)
  · exact (if_neg hc).trans (h v ((if_neg hc).symm.trans e))
theorem am_le_nzl {x : Int64} {r r' : am_X} (h : am_le r r') : am_le (am_nzl x r) (am_nzl x r') := by
  intro v e
  by_cases hc : x = 0
  · exact absurd ((if_pos hc).symm.trans e) (by simp)
  · exact (if_neg hc).trans (h v ((if_neg hc).symm.trans e))
theorem am_le_b {x : Int32} {r r' : am_X} (h : am_le r r') : am_le (am_b x r) (am_b x r') := by
  intro v e
  by_cases hc : x = 0 ∨ x = 1
  · exact (if_pos hc).trans (h v ((if_pos hc).symm.trans e))
  · exact absurd ((if_neg hc).symm.trans e) (by simp)
theorem am_le_ldI {x : Value} {r r' : am_X} (h : am_le r r') : am_le (am_ldI x r) (am_ldI x r') := by
  cases x <;> first | exact h | exact am_le_rf _
theorem am_le_ldL {x : Value} {r r' : am_X} (h : am_le r r') : am_le (am_ldL x r) (am_ldL x r') := by
  cases x <;> first | exact h | exact am_le_rf _
theorem am_le_ldA {x : Value} {r r' : am_X} (h : am_le r r') : am_le (am_ldA x r) (am_ldA x r') := by
  cases x <;> first | exact h | exact am_le_rf _
theorem am_le_on {o : Option Nat} {n n' : am_X} {s s' : Nat → am_X} (h : am_le n n') (h2 : ∀ q, am_le (s q) (s' q)) : am_le (am_on o n s) (am_on o n' s') := by
  cases o with
  | none => exact h
  | some q => exact h2 q
theorem am_le_oI {r r' : am_X} {x x' : Nat → am_A → am_X} {k k' : Int32 → am_A → am_X} (h : am_le r r') (hx : ∀ e A, am_le (x e A) (x' e A)) (hk : ∀ v A, am_le (k v A) (k' v A)) : am_le (am_oI r x k) (am_oI r' x' k') := by
  intro v e
  cases r with
  | none => cases e
  | some o =>
    rw [h o rfl]
    obtain ⟨o | o, A⟩ := o
    · rcases o with _ | w
      · cases e
      · cases w <;> first | exact hk _ _ v e | cases e
    · exact hx _ _ v e
theorem am_le_oJ {r r' : am_X} {x x' : Nat → am_A → am_X} {k k' : Int64 → am_A → am_X} (h : am_le r r') (hx : ∀ e A, am_le (x e A) (x' e A)) (hk : ∀ v A, am_le (k v A) (k' v A)) : am_le (am_oJ r x k) (am_oJ r' x' k') := by
  intro v e
  cases r with
  | none => cases e
  | some o =>
    rw [h o rfl]
    obtain ⟨o | o, A⟩ := o
    · rcases o with _ | w
      · cases e
      · cases w <;> first | exact hk _ _ v e | cases e
    · exact hx _ _ v e
theorem am_le_oV {r r' : am_X} {x x' : Nat → am_A → am_X} {k k' : am_A → am_X} (h : am_le r r') (hx : ∀ e A, am_le (x e A) (x' e A)) (hk : ∀ A, am_le (k A) (k' A)) : am_le (am_oV r x k) (am_oV r' x' k') := by
  intro v e
  cases r with
  | none => cases e
  | some o =>
    rw [h o rfl]
    obtain ⟨o | o, A⟩ := o
    · rcases o with _ | w
      · exact hk _ v e
      · cases w <;> cases e
    · exact hx _ _ v e
theorem am_le_oR {r r' : am_X} {x x' : Nat → am_A → am_X} {n n' : am_A → am_X} {k k' : Nat → am_A → am_X} (h : am_le r r') (hx : ∀ e A, am_le (x e A) (x' e A)) (hn : ∀ A, am_le (n A) (n' A)) (hk : ∀ v A, am_le (k v A) (k' v A)) : am_le (am_oR r x n k) (am_oR r' x' n' k') := by
  intro v e
  cases r with
  | none => cases e
  | some o =>
    rw [h o rfl]
    obtain ⟨o | o, A⟩ := o
    · rcases o with _ | w
      · cases e
      · cases w <;> first | exact hk _ _ v e | exact hn _ v e | cases e
    · exact hx _ _ v e
theorem am_le_ite {q : Prop} [Decidable q] {a b a' b' : am_X} (h : am_le a a') (h2 : am_le b b') : am_le (if q then a else b) (if q then a' else b') := by
  by_cases hc : q
  · rw [if_pos hc, if_pos hc]
    exact h
  · rw [if_neg hc, if_neg hc]
    exact h2
theorem am_le_cond {c : Jvm.ClassFile.Cond} {x y : Int32} {a b a' b' : am_X} (h : am_le a a') (h2 : am_le b b') : am_le (am_cond c x y a b) (am_cond c x y a' b') := by
  cases c
  · exact am_le_ite h h2
  · exact am_le_ite h2 h
  · exact am_le_ite h h2
  · exact am_le_ite h2 h
  · exact am_le_ite h h2
  · exact am_le_ite h2 h
theorem am_le_ld {ls : List (Option Value)} {i : Nat} {k k' : Value → am_X} (h : ∀ v, am_le (k v) (k' v)) : am_le (am_ld ls i k) (am_ld ls i k') := by
  intro v e
  unfold am_ld at e ⊢
  split at e
  · exact h _ v e
  · cases e
theorem am_le_st {ls : List (Option Value)} {i : Nat} {x : Value} {k k' : List (Option Value) → am_X} (h : ∀ l, am_le (k l) (k' l)) : am_le (am_st ls i x k) (am_st ls i x k') := by
  intro v e
  cases i with
  | zero => exact h _ v e
  | succ j =>
    simp only [am_st] at e ⊢
    split at e
    · cases e
    · cases e
    · exact h _ v e
theorem am_le_exh {g g' : am_G} {d m pc : Nat} {d1 : List Nat} {ls : List (Option Value)} (h : ∀ d m pc ls st A, am_le (g d m pc ls st A) (g' d m pc ls st A)) (hs : List (Nat × Nat × Nat × Nat)) (e : Nat) (A : am_A) : am_le (am_exh g d m pc d1 ls hs e A) (am_exh g' d m pc d1 ls hs e A) := by
  induction hs with
  | nil => exact am_le_rf _
  | cons x r ih =>
    obtain ⟨s, t, x, hh⟩ := x
    simp only [am_exh]
    split
    · exact am_le_ite (h _ _ _ _ _ _) ih
    · exact ih
theorem am_le_exc {P : Nat → Option am_M} {g g' : am_G} {d m pc : Nat} {d1 : List Nat} {ls : List (Option Value)} (h : ∀ d m pc ls st A, am_le (g d m pc ls st A) (g' d m pc ls st A)) (e : Nat) (A : am_A) : am_le (am_exc P g d m pc d1 ls e A) (am_exc P g' d m pc d1 ls e A) := by
  unfold am_exc
  cases am_hs P m with
  | nil => exact am_le_rf _
  | cons x r => exact am_le_exh h _ e A
theorem am_le_excY {P : Nat → Option am_M} {g g' : am_G} {d m pc : Nat} {d1 : List Nat} {ls : List (Option Value)} {hs : List (Nat × Nat × Nat × Nat)} (h : ∀ d m pc ls st A, am_le (g d m pc ls st A) (g' d m pc ls st A)) (e : Nat) (A : am_A) : am_le (am_excY P g d m pc d1 ls hs e A) (am_excY P g' d m pc d1 ls hs e A) := by
  cases hs with
  | nil => exact am_le_exc h e A
  | cons x r => exact am_le_rf _
theorem am_le_sw {g g' : am_G} {d m : Nat} {d1 : List Nat} {ls : List (Option Value)} {r : List Value} {A : am_A} {x : Int32} {df : Nat} (h : ∀ d m pc ls st A, am_le (g d m pc ls st A) (g' d m pc ls st A)) (ts : List (Int32 × Nat)) : am_le (am_sw g d m d1 ls r A x df ts) (am_sw g' d m d1 ls r A x df ts) := by
  induction ts with
  | nil => exact h _ _ _ _ _ _
  | cons y ts ih =>
    obtain ⟨v, t⟩ := y
    exact am_le_ite (h _ _ _ _ _ _) ih
theorem am_le_call {P : Nat → Option am_M} {g g' : am_G} {d m pc len y : Nat} {d1 d2 : List Nat} {ls : List (Option Value)} {As r : List Value} {A : am_A} (h : ∀ d m pc ls st A, am_le (g d m pc ls st A) (g' d m pc ls st A)) : am_le (am_call P g d m pc len y d1 d2 ls As r A) (am_call P g' d m pc len y d1 d2 ls As r A) := by
  unfold am_call
  refine am_le_ite ?_ (am_le_rf _)
  cases d with
  | zero => exact am_le_rf _
  | succ d =>
    cases P y with
    | none => exact am_le_rf _
    | some M =>
      dsimp only
      refine am_le_ite ?_ (am_le_rf _)
      split
      · exact am_le_oV (h _ _ _ _ _ _) (am_le_excY h) (fun _ => h _ _ _ _ _ _)
      · exact am_le_oI (h _ _ _ _ _ _) (am_le_excY h) (fun _ _ => h _ _ _ _ _ _)
      · exact am_le_oJ (h _ _ _ _ _ _) (am_le_excY h) (fun _ _ => h _ _ _ _ _ _)
      · exact am_le_oR (h _ _ _ _ _ _) (am_le_excY h) (fun _ => am_le_rf _) (fun _ _ => h _ _ _ _ _ _)
      · exact am_le_oR (h _ _ _ _ _ _) (am_le_excY h) (fun _ => h _ _ _ _ _ _) (fun _ _ => h _ _ _ _ _ _)
theorem am_le_invk {P : Nat → Option am_M} {g g' : am_G} {d m pc len k y n z : Nat} {d1 d2 : List Nat} {ls : List (Option Value)} {st : List Value} {A : am_A} (h : ∀ d m pc ls st A, am_le (g d m pc ls st A) (g' d m pc ls st A)) : am_le (am_invk P g d m pc len k y n z d1 d2 ls st A) (am_invk P g' d m pc len k y n z d1 d2 ls st A) := by
  unfold am_invk
  split
  · split
    · exact am_le_ck (am_le_call h)
    · exact am_le_rf _
  · split
    · exact am_le_ite (am_le_call h) (am_le_rf _)
    · exact am_le_rf _
  · split
    · exact am_le_ck (am_le_ite (am_le_call h) (am_le_rf _))
    · exact am_le_rf _
  · split
    · exact am_le_ite (h _ _ _ _ _ _) (am_le_rf _)
    · exact am_le_rf _
  · split
    · exact am_le_ck (am_le_ck (am_le_ite (am_le_rf _) (h _ _ _ _ _ _)))
    · exact am_le_rf _
  · split
    · exact am_le_ite (am_le_ck (h _ _ _ _ _ _)) (am_le_rf _)
    · exact am_le_rf _
  · split
    · exact am_le_ite (am_le_ck (am_le_in (h _ _ _ _ _ _))) (am_le_rf _)
    · exact am_le_rf _
  · split
    · exact am_le_ite (am_le_ck (h _ _ _ _ _ _)) (am_le_rf _)
    · exact am_le_rf _
  · exact am_le_rf _
theorem am_le_new {g g' : am_G} {d m pc len : Nat} {d2 : List Nat} {ls : List (Option Value)} {r : List Value} {A : am_A} {t w : Nat} {n : Int32} (h : ∀ d m pc ls st A, am_le (g d m pc ls st A) (g' d m pc ls st A)) : am_le (am_new g d m pc len d2 ls r A t w n) (am_new g' d m pc len d2 ls r A t w n) := am_le_ite (am_le_rf _) (h _ _ _ _ _ _)
set_option maxHeartbeats 4000000 in
theorem am_le_step {P : Nat → Option am_M} {g g' : am_G} (h : ∀ d m pc ls st A, am_le (g d m pc ls st A) (g' d m pc ls st A)) (d m pc : Nat) (ls : List (Option Value)) (st : List Value) (A : am_A) (w : am_row) : am_le (am_step P g d m pc ls st A w) (am_step P g' d m pc ls st A w) := by
  obtain ⟨i, len, a, b, c, e, v0, u0, ts, d1, d2⟩ := w
  cases i <;> dsimp only [am_step] <;> first
    | exact am_le_rf _
    | exact h _ _ _ _ _ _
    | exact am_le_ld fun v => am_le_ldA (h _ _ _ _ _ _)
    | exact am_le_ld fun v => am_le_ldI (h _ _ _ _ _ _)
    | exact am_le_ld fun v => am_le_ldL (h _ _ _ _ _ _)
    | exact am_le_invk h
    | (repeat' first
        | exact am_le_rf _
        | exact h _ _ _ _ _ _
        | exact am_le_new h
        | exact am_le_invk h
        | exact am_le_sw h _
        | refine am_le_st fun _ => h _ _ _ _ _ _
        | refine am_le_ld fun _ => ?_
        | refine am_le_ck ?_
        | refine am_le_ck2 ?_
        | refine am_le_in ?_
        | refine am_le_nz ?_
        | refine am_le_nzl ?_
        | refine am_le_b ?_
        | refine am_le_cond ?_ ?_
        | refine am_le_on ?_ (fun _ => ?_)
        | refine am_le_ite ?_ ?_
        | split)
theorem am_le_F {P : Nat → Option am_M} {g g' : am_G} (h : ∀ d m pc ls st A, am_le (g d m pc ls st A) (g' d m pc ls st A)) (d m pc : Nat) (ls : List (Option Value)) (st : List Value) (A : am_A) : am_le (am_F P g d m pc ls st A) (am_F P g' d m pc ls st A) := by
  unfold am_F
  split
  · exact am_le_rf _
  · exact am_le_step h _ _ _ _ _ _ _
theorem am_le_iff (r r' : am_X) : Lean.Order.PartialOrder.rel r r' ↔ am_le r r' := by
  constructor
  · intro h v e
    cases h with
    | bot => cases e
    | refl => exact e
  · intro h
    cases r with
    | none => exact Lean.Order.FlatOrder.rel.bot
    | some v =>
      rw [h v rfl]
      exact Lean.Order.FlatOrder.rel.refl
theorem am_mono (P : Nat → Option am_M) : Lean.Order.monotone (am_F P) := by
  intro x y h d m pc ls st A
  exact (am_le_iff _ _).mpr (am_le_F (fun d m pc ls st A => (am_le_iff _ _).mp (h d m pc ls st A)) d m pc ls st A)
/-- what the machine does, to the end (nothing, where it comes to none) -/
noncomputable def am_fx (P : Nat → Option am_M) : am_G := Lean.Order.fix (am_F P) (am_mono P)
theorem am_fx_eq (P : Nat → Option am_M) : am_fx P = am_F P (am_fx P) := Lean.Order.fix_eq (am_mono P)
/-- what holds of the end of every step that is built on ends of which it holds -/
theorem am_fx_ind (P : Nat → Option am_M) (T : Nat → Nat → Nat → List (Option Value) → List Value → am_A → ((Option Value ⊕ Nat) × am_A) → Prop) (h : ∀ g : am_G, (∀ d m pc ls st A r, g d m pc ls st A = some r → T d m pc ls st A r) → ∀ d m pc ls st A r, am_F P g d m pc ls st A = some r → T d m pc ls st A r) : ∀ d m pc ls st A r, am_fx P d m pc ls st A = some r → T d m pc ls st A r := by
  refine Lean.Order.fix_induct (am_mono P) (fun g => ∀ d m pc ls st A r, g d m pc ls st A = some r → T d m pc ls st A r) ?_ (fun g hg => h g hg)
  refine Lean.Order.admissible_pi_apply (fun d (f : Nat → Nat → List (Option Value) → List Value → am_A → am_X) => ∀ m pc ls st A r, f m pc ls st A = some r → T d m pc ls st A r) fun d => ?_
  refine Lean.Order.admissible_pi_apply (fun m (f : Nat → List (Option Value) → List Value → am_A → am_X) => ∀ pc ls st A r, f pc ls st A = some r → T d m pc ls st A r) fun m => ?_
  refine Lean.Order.admissible_pi_apply (fun pc (f : List (Option Value) → List Value → am_A → am_X) => ∀ ls st A r, f ls st A = some r → T d m pc ls st A r) fun pc => ?_
  refine Lean.Order.admissible_pi_apply (fun ls (f : List Value → am_A → am_X) => ∀ st A r, f st A = some r → T d m pc ls st A r) fun ls => ?_
  refine Lean.Order.admissible_pi_apply (fun st (f : am_A → am_X) => ∀ A r, f A = some r → T d m pc ls st A r) fun st => ?_
  refine Lean.Order.admissible_pi_apply (fun A (f : am_X) => ∀ r, f = some r → T d m pc ls st A r) fun A => ?_
  exact Lean.Order.admissible_flatOrder _ (fun r e => by cases e)
def am_has : List Nat → Nat → Bool
  | [], _ => false
  | x :: r, n => Nat.beq x n || am_has r n
/-- the machine unrolled within a method: k steps, to a place where it stops -/
def am_U (P : Nat → Option am_M) (stop : List Nat) (g : am_G) : Nat → am_G
  | 0 => g
  | k + 1 => fun d m pc ls st A => am_F P (fun d' m' pc' ls' st' A' => match Nat.beq m' m && (!Nat.beq pc' 0 && !am_has stop pc') with
    | true => am_U P stop g k d' m' pc' ls' st' A'
    | false => g d' m' pc' ls' st' A') d m pc ls st A
theorem am_U_eq (P : Nat → Option am_M) (stop : List Nat) (k : Nat) : am_U P stop (am_fx P) k = am_fx P := by
  induction k with
  | zero => rfl
  | succ k ih =>
    funext d m pc ls st A
    refine Eq.trans ?_ (congrFun (congrFun (congrFun (congrFun (congrFun (congrFun (am_fx_eq P).symm d) m) pc) ls) st) A)
    show am_F P _ d m pc ls st A = _
    congr 1
    funext d' m' pc' ls' st' A'
    split
    · rw [ih]
    · rfl
theorem am_bk (P : Nat → Option am_M) (stop : List Nat) (k d m pc : Nat) (ls : List (Option Value)) (st : List Value) (A : am_A) {r : am_X} (h : am_U P stop (am_fx P) k d m pc ls st A = r) : am_fx P d m pc ls st A = r := (congrFun (congrFun (congrFun (congrFun (congrFun (congrFun (am_U_eq P stop k) d) m) pc) ls) st) A).symm.trans h
