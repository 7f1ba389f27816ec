-- THE SMALL MACHINE: values over Int (an int stands for its residue), cells by number, methods by number
abbrev xV : Type := Int ⊕ Int ⊕ Nat ⊕ Nat ⊕ Bool
abbrev xI (x : Int) : xV := Sum.inl x
abbrev xL (x : Int) : xV := Sum.inr (Sum.inl x)
abbrev xA (a : Nat) : xV := Sum.inr (Sum.inr (Sum.inl a))
abbrev xX (j : Nat) : xV := Sum.inr (Sum.inr (Sum.inr (Sum.inl j)))
abbrev xN : xV := Sum.inr (Sum.inr (Sum.inr (Sum.inr false)))
abbrev xU : xV := Sum.inr (Sum.inr (Sum.inr (Sum.inr true)))
/-- a heap: cells, slots, whether no more may be made, shapes (0, class, 0 or 1, kind, length; told ahead, a making must fit), numbers, references -/
abbrev xH : Type := Nat × Nat × Nat × (Nat → Nat × Nat × Nat) × (Nat → Nat → Int) × (Nat → Nat → Option Nat)
abbrev xO : Type := Nat → Nat × (Nat → Int)
def w32 (x : Int) : Int := (x + 2147483648) % 4294967296 - 2147483648
def w64 (x : Int) : Int := (x + 9223372036854775808) % 18446744073709551616 - 9223372036854775808
def w8 (x : Int) : Int := (x + 128) % 256 - 128
def xand (a b : Int) : Int := (Int32.ofInt a &&& Int32.ofInt b).toInt
def xor3 (a b : Int) : Int := (Int32.ofInt a ||| Int32.ofInt b).toInt
def xxor (a b : Int) : Int := (Int32.ofInt a ^^^ Int32.ofInt b).toInt
def xshl (a b : Int) : Int := (Int32.ofInt a <<< (Int32.ofInt b &&& 31)).toInt
def xshr (a b : Int) : Int := (Int32.ofInt a >>> (Int32.ofInt b &&& 31)).toInt
def xushr (a b : Int) : Int := ((Int32.ofInt a).toUInt32 >>> ((Int32.ofInt b).toUInt32 &&& Int32.toUInt32 31)).toInt32.toInt
def xcmp (a b : Int) : Int := if w64 a < w64 b then -1 else if w64 a = w64 b then 0 else 1
def xcnd (c : Jvm.ClassFile.Cond) (a b : Int) : Bool := match c with
  | .eq => decide (a = b)
  | .ne => decide (a ≠ b)
  | .lt => decide (a < b)
  | .ge => decide (b ≤ a)
  | .gt => decide (b < a)
  | .le => decide (a ≤ b)
def xin (i : Int) (n : Nat) : Bool := decide (0 ≤ w32 i) && decide (w32 i < (n : Int))
def xup {α : Type} (f : Nat → Nat → α) (i j : Nat) (v : α) : Nat → Nat → α := fun a b => if a = i then (if b = j then v else f a b) else f a b
def xrow {α : Type} (f : Nat → Nat → α) (i : Nat) (g : Nat → α) : Nat → Nat → α := fun a b => if a = i then g b else f a b
def xcp (f g : Nat → Int) (sp dp n : Nat) : Nat → Int := fun k => if dp ≤ k ∧ k < dp + n then f (sp + (k - dp)) else g k
def xisL (v : xV) : Bool := match v with
  | .inr (.inl _) => true
  | _ => false
def xisR (v : xV) : Bool := match v with
  | .inr (.inr (.inl _)) => true
  | .inr (.inr (.inr (.inl _))) => true
  | _ => false
def xisI (v : xV) : Bool := match v with
  | .inl _ => true
  | _ => false
def xcat (st : List xV) : Nat := match st with
  | [] => 0
  | v :: r => (if xisL v then 2 else 1) + xcat r
def xkil (ls : List xV) (i : Nat) : List xV := match i with
  | 0 => ls
  | j + 1 => match ls[j]? with
    | some v => if xisL v then ls.set j xU else ls
    | none => ls
def xset1 (ls : List xV) (i : Nat) (v : xV) : List xV := (xkil ls i).set i v
def xset2 (ls : List xV) (i : Nat) (v : xV) : List xV := ((xkil ls i).set i v).set (i + 1) xU
def xent : List xV → List xV
  | [] => []
  | v :: vs => if xisL v then v :: xU :: xent vs else v :: xent vs
def xpad (n : Nat) (ls : List xV) : List xV := ls ++ List.replicate (n - ls.length) xU
def xget (l : List (Nat × xE)) (pc : Nat) : Option xE := match l with
  | [] => none
  | q :: l => bif Nat.beq q.1 pc then some q.2 else xget l pc
def xfind (t : xT) (pc : Nat) : Option xE := match t with
  | [] => none
  | c :: t => bif Nat.ble c.1 pc then xfind t pc else xget c.2 pc
noncomputable def xtb (m : Nat) : xT := match xtabs[m]? with
  | some t => t
  | none => []
abbrev xS3 : Type := Nat × List xV × List xV
def xld (ok : xV → Bool) (nx : Nat) (ls st : List xV) (i : Nat) : Option xS3 := match ls[i]? with
  | some v => bif ok v then some (nx, ls, v :: st) else none
  | none => none
def xst (ok : xV → Bool) (nx : Nat) (ls st : List xV) (i : Nat) : Option xS3 := match st with
  | v :: r => bif ok v && Nat.blt i ls.length then some (nx, xset1 ls i v, r) else none
  | [] => none
def xst2 (nx : Nat) (ls st : List xV) (i : Nat) : Option xS3 := match st with
  | v :: r => bif xisL v && Nat.blt (i + 1) ls.length then some (nx, xset2 ls i v, r) else none
  | [] => none
def xo2 (nx : Nat) (ls st : List xV) (f : Int → Int → Int) : Option xS3 := match st with
  | .inl b :: .inl a :: r => some (nx, ls, xI (f a b) :: r)
  | _ => none
def xo2L (nx : Nat) (ls st : List xV) (f : Int → Int → Int) : Option xS3 := match st with
  | .inr (.inl b) :: .inr (.inl a) :: r => some (nx, ls, xL (f a b) :: r)
  | _ => none
/-- what leaves the heap as it is -/
def xstA (ex : xO) (e : xE) (d : Nat) (ls st : List xV) (h : xH) : Option xS3 := match e with
  | (ins, nx, _, X, Y, Z, _, V) => match ins with
  | .aload_n k => xld xisR nx ls st k.val
  | .aload i => xld xisR nx ls st i
  | .iload_n k => xld xisI nx ls st k.val
  | .iload i => xld xisI nx ls st i
  | .lload_n k => xld xisL nx ls st k.val
  | .lload i => xld xisL nx ls st i
  | .astore_n k => xst xisR nx ls st k.val
  | .astore i => xst xisR nx ls st i
  | .istore_n k => xst xisI nx ls st k.val
  | .istore i => xst xisI nx ls st i
  | .lstore_n k => xst2 nx ls st k.val
  | .lstore i => xst2 nx ls st i
  | .iconst n => some (nx, ls, xI n :: st)
  | .bipush n => some (nx, ls, xI n :: st)
  | .sipush n => some (nx, ls, xI n :: st)
  | .lconst n => some (nx, ls, xL n.val :: st)
  | .ldc _ => some (nx, ls, xI V :: st)
  | .ldc_w _ => some (nx, ls, xI V :: st)
  | .ldc2_w _ => some (nx, ls, xL V :: st)
  | .iadd => (match st with
    | .inl b :: .inl a :: r => some (nx, ls, xI (a + b) :: r)
    | _ => none)
  | .isub => (match st with
    | .inl b :: .inl a :: r => some (nx, ls, xI (a - b) :: r)
    | _ => none)
  | .imul => (match st with
    | .inl b :: .inl a :: r => some (nx, ls, xI (a * b) :: r)
    | _ => none)
  | .iand => xo2 nx ls st xand
  | .ior => xo2 nx ls st xor3
  | .ixor => xo2 nx ls st xxor
  | .ishl => xo2 nx ls st xshl
  | .ishr => xo2 nx ls st xshr
  | .iushr => xo2 nx ls st xushr
  | .idiv => (match st with
    | .inl b :: .inl a :: r => if w32 b = 0 then none else some (nx, ls, xI (Int.tdiv (w32 a) (w32 b)) :: r)
    | _ => none)
  | .irem => (match st with
    | .inl b :: .inl a :: r => if w32 b = 0 then none else some (nx, ls, xI (Int.tmod (w32 a) (w32 b)) :: r)
    | _ => none)
  | .ladd => (match st with
    | .inr (.inl b) :: .inr (.inl a) :: r => some (nx, ls, xL (a + b) :: r)
    | _ => none)
  | .lmul => (match st with
    | .inr (.inl b) :: .inr (.inl a) :: r => some (nx, ls, xL (a * b) :: r)
    | _ => none)
  | .ldiv => (match st with
    | .inr (.inl b) :: .inr (.inl a) :: r => if w64 b = 0 then none else some (nx, ls, xL (Int.tdiv (w64 a) (w64 b)) :: r)
    | _ => none)
  | .lrem => (match st with
    | .inr (.inl b) :: .inr (.inl a) :: r => if w64 b = 0 then none else some (nx, ls, xL (Int.tmod (w64 a) (w64 b)) :: r)
    | _ => none)
  | .lcmp => (match st with
    | .inr (.inl b) :: .inr (.inl a) :: r => some (nx, ls, xI (xcmp a b) :: r)
    | _ => none)
  | .ineg => (match st with
    | .inl a :: r => some (nx, ls, xI (-a) :: r)
    | _ => none)
  | .i2l => (match st with
    | .inl a :: r => some (nx, ls, xL (w32 a) :: r)
    | _ => none)
  | .l2i => (match st with
    | .inr (.inl a) :: r => some (nx, ls, xI a :: r)
    | _ => none)
  | .i2b => (match st with
    | .inl a :: r => some (nx, ls, xI (w8 a) :: r)
    | _ => none)
  | .dup => (match st with
    | v :: r => bif xisL v then none else some (nx, ls, v :: v :: r)
    | _ => none)
  | .dup2 => (match st with
    | v :: w :: r => bif xisL v || xisL w then none else some (nx, ls, v :: w :: v :: w :: r)
    | _ => none)
  | .pop => (match st with
    | v :: r => bif xisL v then none else some (nx, ls, r)
    | _ => none)
  | .iinc i n => (match ls[i]? with
    | some (.inl a) => some (nx, xset1 ls i (xI (a + n)), st)
    | _ => none)
  | .ifCond c _ => (match st with
    | .inl a :: r => some (bif xcnd c (w32 a) 0 then X else nx, ls, r)
    | _ => none)
  | .if_icmp c _ => (match st with
    | .inl b :: .inl a :: r => some (bif xcnd c (w32 a) (w32 b) then X else nx, ls, r)
    | _ => none)
  | .goto _ => some (X, ls, st)
  | .getfield _ => (match st with
    | .inr (.inr (.inl a)) :: r => (match h with
      | (K, _, _, sh, c, rf) => if a < K ∧ (sh a).1 = 0 ∧ (sh a).2.1 = X then
          (match Z with
          | 0 => some (nx, ls, xI (c a Y) :: r)
          | 1 => some (nx, ls, xL (c a Y) :: r)
          | _ => (match rf a Y with
            | some j => some (nx, ls, xA j :: r)
            | none => some (nx, ls, xN :: r)))
        else none)
    | _ => none)
  | .getstatic _ => some (nx, ls, xX 1 :: st)
  | .iaload => (match st with
    | .inl i :: .inr (.inr (.inl a)) :: r => (match h with
      | (K, _, _, sh, c, _) => if a < K ∧ (sh a).1 = 1 ∧ (sh a).2.1 = 0 ∧ xin i (sh a).2.2 = true then some (nx, ls, xI (c a (w32 i).toNat) :: r) else none)
    | .inl i :: .inr (.inr (.inr (.inl j))) :: r => if j ≤ 1 ∧ xin i (ex j).1 = true then some (nx, ls, xI ((ex j).2 (w32 i).toNat) :: r) else none
    | _ => none)
  | .baload => (match st with
    | .inl i :: .inr (.inr (.inl a)) :: r => (match h with
      | (K, _, _, sh, c, _) => if a < K ∧ (sh a).1 = 1 ∧ ((sh a).2.1 = 1 ∨ (sh a).2.1 = 2) ∧ xin i (sh a).2.2 = true then some (nx, ls, xI (c a (w32 i).toNat) :: r) else none)
    | _ => none)
  | .aaload => (match st with
    | .inl i :: .inr (.inr (.inl a)) :: r => (match h with
      | (K, _, _, sh, _, rf) => if a < K ∧ (sh a).1 = 1 ∧ 3 ≤ (sh a).2.1 ∧ (sh a).2.1 ≤ 5 ∧ xin i (sh a).2.2 = true then (match rf a (w32 i).toNat with
          | some j => some (nx, ls, xA j :: r)
          | none => some (nx, ls, xN :: r)) else none)
    | _ => none)
  | .arraylength => (match st with
    | .inr (.inr (.inl a)) :: r => (match h with
      | (K, _, _, sh, _, _) => if a < K ∧ (sh a).1 = 1 ∧ (sh a).2.1 ≤ 5 then some (nx, ls, xI (sh a).2.2 :: r) else none)
    | .inr (.inr (.inr (.inl j))) :: r => if j = 0 then some (nx, ls, xI (ex j).1 :: r) else none
    | _ => none)
  | .tableswitch df lo hi offs => (match st with
    | .inl a :: r => if w32 a < lo ∨ hi < w32 a then some ((X + df).toNat, ls, r) else (match offs[(w32 a - lo).toNat]? with
      | some o => some ((X + o).toNat, ls, r)
      | none => none)
    | _ => none)
  | .invokestatic _ => (match Y, st with
    | 6, .inl b :: .inl a :: r => if 0 < d ∧ xcat r ≤ 8 then some (nx, ls, xI (if w32 a < w32 b then b else a) :: r) else none
    | 7, .inl b :: .inl a :: r => if 0 < d ∧ xcat r ≤ 8 then some (nx, ls, xI (if w32 b < w32 a then b else a) :: r) else none
    | _, _ => none)
  | .invokespecial _ => (match Y, st with
    | 8, .inr (.inr (.inl _)) :: r => if 0 < d ∧ xcat r ≤ 8 then some (nx, ls, r) else none
    | _, _ => none)
  | _ => none
/-- what may change the heap -/
def xstB (e : xE) (d : Nat) (st : List xV) (h : xH) : Option (Nat × List xV × xH) := match e with
  | (ins, nx, _, X, Y, Z, W, _) => match ins with
  | .putfield _ => (match st, h with
    | v :: .inr (.inr (.inl a)) :: r, (K, S, F, sh, c, rf) => if a < K ∧ (sh a).1 = 0 ∧ (sh a).2.1 = X then
        (match Z, v with
        | 0, .inl x => some (nx, r, (K, S, F, sh, xup c a Y x, rf))
        | 1, .inr (.inl x) => some (nx, r, (K, S, F, sh, xup c a Y x, rf))
        | 2, .inr (.inr (.inl b)) => some (nx, r, (K, S, F, sh, c, xup rf a Y (some b)))
        | _, _ => none)
      else none
    | _, _ => none)
  | .iastore => (match st, h with
    | .inl x :: .inl i :: .inr (.inr (.inl a)) :: r, (K, S, F, sh, c, rf) => if a < K ∧ (sh a).1 = 1 ∧ (sh a).2.1 = 0 ∧ xin i (sh a).2.2 = true then some (nx, r, (K, S, F, sh, xup c a (w32 i).toNat x, rf)) else none
    | _, _ => none)
  | .bastore => (match st, h with
    | .inl x :: .inl i :: .inr (.inr (.inl a)) :: r, (K, S, F, sh, c, rf) => if a < K ∧ (sh a).1 = 1 ∧ xin i (sh a).2.2 = true then
        (if (sh a).2.1 = 1 then some (nx, r, (K, S, F, sh, xup c a (w32 i).toNat (w8 x), rf)) else if (sh a).2.1 = 2 ∧ (x = 0 ∨ x = 1) then some (nx, r, (K, S, F, sh, xup c a (w32 i).toNat x, rf)) else none) else none
    | _, _ => none)
  | .aastore => (match st, h with
    | .inr (.inr (.inl b)) :: .inl i :: .inr (.inr (.inl a)) :: r, (K, S, F, sh, c, rf) => if a < K ∧ b < K ∧ (sh a).1 = 1 ∧ 3 ≤ (sh a).2.1 ∧ (sh a).2.1 ≤ 5 ∧ xin i (sh a).2.2 = true ∧ (sh b).1 = 0 ∧ (sh b).2.1 = xkc (sh a).2.1 then some (nx, r, (K, S, F, sh, c, xup rf a (w32 i).toNat (some b))) else none
    | _, _ => none)
  | .new _ => (match h with
    | (K, S, F, sh, c, rf) => if F = 0 ∧ 0 < W ∧ sh K = (0, X, 0) then some (nx, xA K :: st, (K + 1, S + W, F, sh, xrow c K (fun _ => 0), xrow rf K (fun _ => none))) else none)
  | .newarray _ => (match st, h with
    | .inl n :: r, (K, S, F, sh, c, rf) => if F = 0 ∧ 0 ≤ w32 n ∧ w32 n ≤ 100000 ∧ sh K = (1, X, (w32 n).toNat) then some (nx, xA K :: r, (K + 1, S + (w32 n).toNat, F, sh, xrow c K (fun _ => 0), xrow rf K (fun _ => none))) else none
    | _, _ => none)
  | .anewarray _ => (match st, h with
    | .inl n :: r, (K, S, F, sh, c, rf) => if F = 0 ∧ 0 ≤ w32 n ∧ w32 n ≤ 100000 ∧ sh K = (1, X, (w32 n).toNat) then some (nx, xA K :: r, (K + 1, S + (w32 n).toNat, F, sh, xrow c K (fun _ => 0), xrow rf K (fun _ => none))) else none
    | _, _ => none)
  | .invokestatic _ => (match Y, st, h with
    | 9, .inl n :: .inl dp :: .inr (.inr (.inl b)) :: .inl sp :: .inr (.inr (.inl a)) :: r, (K, S, F, sh, c, rf) =>
      if (0 < d ∧ xcat r ≤ 8) ∧ (a < K ∧ (sh a).1 = 1 ∧ (sh a).2.1 = 0) ∧ (b < K ∧ (sh b).1 = 1 ∧ (sh b).2.1 = 0) ∧ (0 ≤ w32 n ∧ 0 ≤ w32 sp ∧ 0 ≤ w32 dp) ∧ w32 sp + w32 n ≤ (sh a).2.2 ∧ w32 dp + w32 n ≤ (sh b).2.2 then
        some (nx, r, (K, S, F, sh, xrow c b (xcp (c a) (c b) (w32 sp).toNat (w32 dp).toNat (w32 n).toNat), rf)) else none
    | _, _, _ => none)
  | _ => none
/-- a return: the value (xU: none) -/
def xret (e : xE) (st : List xV) : Option xV := match e with
  | (ins, _, _, X, _, _, _, _) => match ins, st with
  | .ireturn, [.inl v] => if X = 0 ∨ v = 0 ∨ v = 1 then some (xI v) else none
  | .lreturn, [.inr (.inl v)] => some (xL v)
  | .return_, [] => some xU
  | _, _ => none
/-- a call: the method, its locals, the rest of the stack -/
def xcal (e : xE) (st : List xV) (h : xH) : Option (Nat × List xV × List xV) := match e with
  | (ins, _, _, X, Y, Z, W, V) => bif Nat.ble 2 Y || Nat.blt st.length Z || Nat.blt W (xent (st.take Z).reverse).length then none else
    match ins with
    | .invokestatic _ => if xcat (st.drop Z) ≤ 8 then some (X, (st.take Z).reverse, st.drop Z) else none
    | .invokevirtual _ => (match (st.take Z).reverse, h with
      | .inr (.inr (.inl a)) :: as, (K, _, _, sh, _, _) => if a < K ∧ (sh a).1 = 0 ∧ ((sh a).2.1 : Int) = V ∧ xcat (st.drop Z) ≤ 8 then some (X, xA a :: as, st.drop Z) else none
      | _, _ => none)
    | .invokespecial _ => (match (st.take Z).reverse with
      | .inr (.inr (.inl a)) :: as => if xcat (st.drop Z) ≤ 8 then some (X, xA a :: as, st.drop Z) else none
      | _ => none)
    | _ => none
def xpush (v : xV) (st : List xV) : List xV := match v with
  | .inr (.inr (.inr (.inr true))) => st
  | v => v :: st
noncomputable def xexec (ex : xO) : Nat → Nat → xT → Nat → List xV → List xV → xH → Option (xV × xH)
  | 0, _, _, _, _, _, _ => none
  | n + 1, d, t, pc, ls, st, h => match xfind t pc with
    | none => none
    | some e => match xstA ex e d ls st h with
      | some q => xexec ex n d t q.1 q.2.1 q.2.2 h
      | none => match xstB e d st h with
        | some q => xexec ex n d t q.1 ls q.2.1 q.2.2
        | none => match xret e st with
          | some v => some (v, h)
          | none => match xcal e st h, d with
            | some q, d' + 1 => (match xexec ex n d' (xtb q.1) 0 (xpad e.2.2.2.2.2.2.1 (xent q.2.1)) [] h with
              | some o => xexec ex n (d' + 1) t e.2.1 ls (xpush o.1 q.2.2) o.2
              | none => none)
            | _, _ => none
def xex0 : xO := fun _ => (0, fun _ => 0)
def xh0 : xH := (0, 0, 0, (fun _ => (2, 0, 0)), (fun _ _ => 0), (fun _ _ => none))
theorem xtest1 : xexec xex0 20 1 xt0 0 [xI 0x57301946, xI 3] [] xh0 = some (xI 1, xh0) := by rfl
theorem xtest2 (h : xH) (a b : Int) : xexec xex0 20 1 xt0 0 [xI a, xI b] [] h = some (xI (xand (xushr a (4 * b)) 15), h) := by rfl
