-- what the tables of part 03 say is what the claim's bytes and words say
-- kinds of arrays: 0 int, 1 byte, 2 boolean, 3 Row, 4 Text, 5 Course; the class number of a component
def xkc (k : Nat) : Nat := match k with
  | 3 => 6
  | 4 => 7
  | 5 => 1
  | _ => 99
def xnf (c : Nat) : Nat := match vwCl[c]? with
  | some q => q.2.2
  | none => 0
def xlen (ins : Instr) : Nat := match ins with
  | .aload _ => 2
  | .iload _ => 2
  | .lload _ => 2
  | .astore _ => 2
  | .istore _ => 2
  | .lstore _ => 2
  | .bipush _ => 2
  | .ldc _ => 2
  | .newarray _ => 2
  | .sipush _ => 3
  | .ldc_w _ => 3
  | .ldc2_w _ => 3
  | .iinc _ _ => 3
  | .ifCond _ _ => 3
  | .if_icmp _ _ => 3
  | .goto _ => 3
  | .getfield _ => 3
  | .putfield _ => 3
  | .getstatic _ => 3
  | .invokestatic _ => 3
  | .invokevirtual _ => 3
  | .invokespecial _ => 3
  | .new _ => 3
  | .anewarray _ => 3
  | _ => 1
def xcn (c : Nat) : String := match vwCl[c]? with
  | some q => q.1
  | none => ""
def xfl (own : String) (i P X Y Z : Nat) : Bool := match vwCl[X]? with
  | some q => decide (Y < q.2.2) && decide (lw_tbl[P]? = some (Cond.fieldLink own i (q.2.1 Y).1 (q.2.1 Y).2.1 (q.2.1 Y).2.2.1)) && (match xtyO X Y with
    | .int => Nat.beq Z 0
    | .long => Nat.beq Z 1
    | .array _ => Nat.beq Z 2
    | .object _ => Nat.beq Z 2
    | _ => false)
  | none => false
def xfin (X Y : Nat) : Bool := match vwCl[X]? with
  | some q => (q.2.1 Y).2.2.2
  | none => false
def xfcl (X Y : Nat) : String := match vwCl[X]? with
  | some q => (q.2.1 Y).1
  | none => ""
def xml (own : String) (i P X Y Z W : Nat) (V : Int) (st : Bool) : Bool := match xms[X]? with
  | some (y, _, mL, _, np, ci, stt, _) => (stt == st) && decide (y.cls ≠ "java/lang/Math") && Nat.beq Z np && Nat.beq W mL && decide (V = (ci : Int)) && Nat.blt X 240 && (match Y with
    | 0 => decide (lw_tbl[P]? = some (Cond.methodLink own i y))
    | 1 => (match lw_tbl[P]? with
      | some (Cond.methodLinkNest o j z _) => decide (o = own) && decide (j = i) && decide (z = y)
      | _ => false)
    | _ => false)
  | none => false
def xini (X : Nat) : Bool := match xms[X]? with
  | some q => decide (q.1.name = "<init>")
  | none => false
def xlnk (own : String) (rt : Option FieldType) (nm : String) (pc : Nat) (e : xE) : Bool := match e with
  | (ins, _, P, X, Y, Z, W, V) => match ins with
  | .bipush n => decide (-128 ≤ n) && decide (n < 128)
  | .sipush n => decide (-32768 ≤ n) && decide (n < 32768)
  | .ldc i => decide (lw_tbl[P]? = some (Cond.constant own i (Int32.ofInt V)))
  | .ldc_w i => decide (lw_tbl[P]? = some (Cond.constant own i (Int32.ofInt V)))
  | .ldc2_w i => decide (lw_tbl[P]? = some (Cond.constantLong own i (Int64.ofInt V)))
  | .ifCond _ o => decide ((pc : Int) + o = (X : Int))
  | .if_icmp _ o => decide ((pc : Int) + o = (X : Int))
  | .goto o => decide ((pc : Int) + o = (X : Int))
  | .getfield i => xfl own i P X Y Z
  | .putfield i => xfl own i P X Y Z && (match W with
    | 0 => !xfin X Y
    | _ => xfin X Y && decide (nm = "<init>") && decide (xfcl X Y = own))
  | .getstatic i => decide (lw_tbl[P]? = some (Cond.fieldLink own i "LimeDeaths$Kinds" "LETTERS" "[I"))
  | .new i => decide (lw_tbl[P]? = some (Cond.classLink own i (xcn X))) && Nat.beq W (xnf X) && Nat.blt X 10
  | .newarray a => (match a with
    | .int => Nat.beq X 0
    | .byte => Nat.beq X 1
    | .boolean => Nat.beq X 2
    | _ => false)
  | .anewarray i => decide (lw_tbl[P]? = some (Cond.classLink own i (xcn (xkc X)))) && Nat.ble 3 X && Nat.ble X 5
  | .invokestatic i => (match Y with
    | 9 => decide (lw_tbl[P]? = some (Cond.methodLink own i arraycopyName))
    | 6 => decide (lw_tbl[P]? = some (Cond.methodLink own i Lib.Math.max.name))
    | 7 => decide (lw_tbl[P]? = some (Cond.methodLink own i Lib.Math.min.name))
    | _ => xml own i P X Y Z W V true)
  | .invokevirtual i => xml own i P X Y Z W V false
  | .invokespecial i => bif Nat.beq Y 8 then decide (lw_tbl[P]? = some (Cond.methodLink own i Lib.objectInit)) else xml own i P X Y Z W V false && xini X
  | .ireturn => (match X with
    | 0 => decide (rt = some .int)
    | 1 => decide (rt = some .boolean)
    | _ => false)
  | .lreturn => decide (rt = some .long)
  | .return_ => decide (rt = none)
  | _ => true
def xokE (own : String) (bytes : ByteArray) (rt : Option FieldType) (nm : String) (pc : Nat) (e : xE) : Bool := match e with
  | (ins, nx, _, X, _) => match ins with
    | .tableswitch df _ _ offs => decide (decode bytes pc = .ok (ins, nx - pc)) && Nat.beq X pc && decide (0 ≤ df) && offs.toList.all (fun o => decide (0 ≤ o))
    | _ => decide (decode bytes pc = .ok (ins, xlen ins)) && Nat.beq nx (pc + xlen ins) && xlnk own rt nm pc e
def xokT (own : String) (bytes : ByteArray) (rt : Option FieldType) (nm : String) (t : xT) : Bool := t.all fun c => c.2.all fun q => xokE own bytes rt nm q.1 q.2
def xnoH (s : String) : Bool := decide (s ≠ "java/lang/invoke/MethodHandle") && decide (s ≠ "java/lang/invoke/VarHandle")
def xmok (q : xM) : Bool := match q with
  | (y, bytes, mL, ret, np, ci, stt, p1, p2, p3, p4) =>
    decide (y.cls = "java/lang/Math") || decide (lw_tbl[p1]? = some (Cond.code y bytes mL ret)) && decide (lw_tbl[p4]? = some (Cond.initialized y.cls)) && xnoH y.cls && plainName y.cls && Nat.ble mL 40 && Nat.ble np mL &&
    (bif stt then decide (lw_tbl[p2]? = some (Cond.static y)) && decide ((parseMethodDescriptor y.desc).map (fun d => d.parameters.length) = some np)
      else decide (lw_tbl[p2]? = some (Cond.instanceMethod y)) && decide ((parseMethodDescriptor y.desc).map (fun d => d.parameters.length + 1) = some np) && decide (xcn ci = y.cls) && Nat.blt ci 10 && (decide (y.name = "<init>") || decide (lw_tbl[p3]? = some (Cond.selects y.cls y y))))
/-- the words that every method gets -/
def xws : List Cond := lw_tbl.filter goodWord
theorem x_ws {P : Nat} {w : Cond} (h : lw_tbl[P]? = some w) (hg : goodWord w = true) : w ∈ xws := List.mem_filter.mpr ⟨List.mem_of_getElem? h, hg⟩
theorem x_goodIn : GoodIn xws xws := fun w hw => ⟨hw, good_of_word (List.mem_filter.mp hw).2⟩
set_option maxRecDepth 100000 in
theorem x_lay0 : ∀ w ∈ u_ws RX0 TX0 0, w ∈ lw_tbl ∧ goodWord w = true := by decide +kernel
set_option maxRecDepth 100000 in
theorem x_lay1 : ∀ w ∈ u_ws RX1 TX1 4, w ∈ lw_tbl ∧ goodWord w = true := by decide +kernel
set_option maxRecDepth 100000 in
theorem x_lay2 : ∀ w ∈ u_ws RX2 TX2 6, w ∈ lw_tbl ∧ goodWord w = true := by decide +kernel
set_option maxRecDepth 100000 in
theorem x_lay3 : ∀ w ∈ u_ws RX3 TX3 0, w ∈ lw_tbl ∧ goodWord w = true := by decide +kernel
set_option maxRecDepth 100000 in
theorem x_lay4 : ∀ w ∈ u_ws RX4 TX4 6, w ∈ lw_tbl ∧ goodWord w = true := by decide +kernel
set_option maxRecDepth 100000 in
theorem x_lay5 : ∀ w ∈ u_ws RX5 TX5 2, w ∈ lw_tbl ∧ goodWord w = true := by decide +kernel
set_option maxRecDepth 100000 in
theorem x_lay6 : ∀ w ∈ u_ws RX6 TX6 2, w ∈ lw_tbl ∧ goodWord w = true := by decide +kernel
set_option maxRecDepth 100000 in
theorem x_lay7 : ∀ w ∈ u_ws RX7 TX7 2, w ∈ lw_tbl ∧ goodWord w = true := by decide +kernel
set_option maxRecDepth 100000 in
theorem x_lay8 : ∀ w ∈ u_ws RX8 TX8 14, w ∈ lw_tbl ∧ goodWord w = true := by decide +kernel
set_option maxRecDepth 100000 in
theorem x_lay9 : ∀ w ∈ u_ws RX9 TX9 25, w ∈ lw_tbl ∧ goodWord w = true := by decide +kernel
theorem x_lays : ∀ (ci : Nat) (q : vw_C), vwCl[ci]? = some q → ∀ w ∈ u_ws q.1 q.2.1 q.2.2, w ∈ xws := by
  intro ci q hq w hw
  refine List.mem_filter.mpr ?_
  match ci, hq with
  | 0, hq => cases hq; exact x_lay0 w hw
  | 1, hq => cases hq; exact x_lay1 w hw
  | 2, hq => cases hq; exact x_lay2 w hw
  | 3, hq => cases hq; exact x_lay3 w hw
  | 4, hq => cases hq; exact x_lay4 w hw
  | 5, hq => cases hq; exact x_lay5 w hw
  | 6, hq => cases hq; exact x_lay6 w hw
  | 7, hq => cases hq; exact x_lay7 w hw
  | 8, hq => cases hq; exact x_lay8 w hw
  | 9, hq => cases hq; exact x_lay9 w hw
  | k + 10, hq => simp at hq
theorem x_tyok : ∀ (ci : Nat) (q : vw_C), vwCl[ci]? = some q → ∀ k, k < q.2.2 → parseFieldDescriptor (q.2.1 k).2.2.1 = some (xtyO ci k) := by
  intro ci q hq k hk
  match ci, hq with
  | 0, hq => cases hq; exact tyX0_ok k hk
  | 1, hq => cases hq; exact tyX1_ok k hk
  | 2, hq => cases hq; exact tyX2_ok k hk
  | 3, hq => cases hq; exact tyX3_ok k hk
  | 4, hq => cases hq; exact tyX4_ok k hk
  | 5, hq => cases hq; exact tyX5_ok k hk
  | 6, hq => cases hq; exact tyX6_ok k hk
  | 7, hq => cases hq; exact tyX7_ok k hk
  | 8, hq => cases hq; exact tyX8_ok k hk
  | 9, hq => cases hq; exact tyX9_ok k hk
  | k + 10, hq => simp at hq
theorem x_nm : ∀ (ci : Nat) (q : vw_C), vwCl[ci]? = some q → ∀ a, a < q.2.2 → ∀ b, b < q.2.2 → a ≠ b → (q.2.1 a).2.1 ≠ (q.2.1 b).2.1 := by
  intro ci q hq
  match ci, hq with
  | 0, hq => cases hq; exact nmX0
  | 1, hq => cases hq; exact nmX1
  | 2, hq => cases hq; exact nmX2
  | 3, hq => cases hq; exact nmX3
  | 4, hq => cases hq; exact nmX4
  | 5, hq => cases hq; exact nmX5
  | 6, hq => cases hq; exact nmX6
  | 7, hq => cases hq; exact nmX7
  | 8, hq => cases hq; exact nmX8
  | 9, hq => cases hq; exact nmX9
  | k + 10, hq => simp at hq
def xins (ci : Nat) : Bool := match vwCl[ci]? with
  | some q => lw_tbl.contains (Cond.instantiable q.1 q.2.2) && goodWord (Cond.instantiable q.1 q.2.2) && lw_tbl.contains (Cond.initialized q.1)
  | none => false
set_option maxRecDepth 100000 in
theorem x_inst : ∀ ci, ci < 10 → (ci = 0 ∨ ci = 3 ∨ xins ci = true) := by decide +kernel
