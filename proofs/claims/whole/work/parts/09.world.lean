-- THE SMALL MACHINE'S STEPS ARE THE MACHINE'S
def xbad (w : Cond) : Bool := match w with
  | .methodLinkNest _ _ _ _ => true
  | .arrayOver (.object _) => true
  | _ => false
def xaty (k : Nat) : FieldType := match k with
  | 0 => .int
  | 1 => .byte
  | 2 => .boolean
  | 3 => .object RX6
  | 4 => .object RX7
  | _ => .object RX1
def xtys (κ : Nat → ClassId) : List (ClassId × FieldType) := [(κ 0, .int), (κ 1, .byte), (κ 2, .boolean), (κ 3, .object RX6), (κ 4, .object RX7), (κ 5, .object RX1)]
def xfv (B : Nat) (c : Nat → Nat → Int) (rf : Nat → Nat → Option Nat) (ci a k : Nat) : Value := match xtyO ci k with
  | .int => .int (Int32.ofInt (c a k))
  | .long => .long (Int64.ofInt (c a k))
  | _ => va_rf ((rf a k).map (fun j => B + j))
def xav (B : Nat) (c : Nat → Nat → Int) (rf : Nat → Nat → Option Nat) (kd a j : Nat) : Value := if kd ≤ 2 then .int (Int32.ofInt (c a j)) else va_rf ((rf a j).map (fun j => B + j))
def xcell (B : Nat) (D : va_G) (κ : Nat → ClassId) (sh : Nat → Nat × Nat × Nat) (c : Nat → Nat → Int) (rf : Nat → Nat → Option Nat) (H : Heap) (i : Nat) : Prop :=
  ((sh i).1 = 0 → t_OB (B + i) (D.1 (sh i).2.1) (xnf (sh i).2.1) (D.2 (sh i).2.1) H (xfv B c rf (sh i).2.1 i)) ∧ ((sh i).1 = 1 → (sh i).2.1 ≤ 5 → H[B + i]? = some (arrV (κ (sh i).2.1) (sh i).2.2 (xav B c rf (sh i).2.1 i)))
def xHR (B : Nat) (D : va_G) (κ : Nat → ClassId) (h : xH) (H : Heap) : Prop := (h.2.2.1 = 0 → H.size = B + h.1) ∧ ∀ i, i < h.1 → xcell B D κ h.2.2.2.1 h.2.2.2.2.1 h.2.2.2.2.2 H i
def xFr (p : Program) (s : State) (m : MethodId) (args : Array Value) (meth : Method) (c : Code) (own : String) (bytes : ByteArray) (mL : Nat) (rt : Option FieldType) (nm : String) : Prop :=
  p.tables.exec = Jvm.exec ∧ c.code = bytes ∧ meth.sig.returnType = rt ∧ c.maxLocals = mL ∧ s.vm.findClass own = some m.cls ∧ (∀ w ∈ xws, w.before args s = true) ∧ meth.locks = false ∧ (nm = "<init>" → meth.name = nm)
/-- the classes that have objects (in the places of the two that have none another stands) -/
def vwK : List vw_C := [(RX1, TX1, 4), (RX1, TX1, 4), (RX2, TX2, 6), (RX1, TX1, 4), (RX4, TX4, 6), (RX5, TX5, 2), (RX6, TX6, 2), (RX7, TX7, 2), (RX8, TX8, 14), (RX9, TX9, 25)]
theorem x_K {X : Nat} {w : vw_C} (hw : vwCl[X]? = some w) (h : 0 < w.2.2) : vwK[X]? = some w := by
  match X, hw with
  | 0, hw => cases hw; exact absurd h (by decide)
  | 1, hw => cases hw; rfl
  | 2, hw => cases hw; rfl
  | 3, hw => cases hw; exact absurd h (by decide)
  | 4, hw => cases hw; rfl
  | 5, hw => cases hw; rfl
  | 6, hw => cases hw; rfl
  | 7, hw => cases hw; rfl
  | 8, hw => cases hw; rfl
  | 9, hw => cases hw; rfl
  | k + 10, hw => simp at hw
def xSt (ex : xO) (ea : Nat → Nat) (B : Nat) (D : va_G) (κ : Nat → ClassId) (s : State) : Prop :=
  va_K D vwK (xtys κ) s ∧ (∀ w ∈ lw_tbl, xbad w = true → va_Nw w s) ∧ B ≤ s.heap.size ∧ va_Z "LimeDeaths$Kinds" "LETTERS" "[I" (.ref (ea 1)) (fun q => B ≤ q) s s.heap ∧ va_T .int (ea 1) (ex 1).1 (fun j => .int (Int32.ofInt ((ex 1).2 j))) (fun q => B ≤ q) s s.heap ∧ va_X (ea 0) (ex 0).1 (fun j => Int32.ofInt ((ex 0).2 j)) s s.heap ∧ ea 0 < B
theorem x_okE {own : String} {bytes : ByteArray} {rt : Option FieldType} {nm : String} {pc : Nat} {ins : Instr} {nx : Nat} {r : Nat × Nat × Nat × Nat × Nat × Int} (h : xokE own bytes rt nm pc (ins, nx, r) = true) (ht : ∀ a b c d, ins ≠ .tableswitch a b c d) :
    decode bytes pc = .ok (ins, xlen ins) ∧ nx = pc + xlen ins ∧ xlnk own rt nm pc (ins, nx, r) = true := by
  have key : (decide (decode bytes pc = .ok (ins, xlen ins)) && Nat.beq nx (pc + xlen ins) && xlnk own rt nm pc (ins, nx, r)) = true := by
    cases ins <;> first | exact h | exact absurd rfl (ht _ _ _ _)
  simp only [Bool.and_eq_true, decide_eq_true_eq] at key
  exact ⟨key.1.1, Nat.eq_of_beq_eq_true key.1.2, key.2⟩
theorem x_ld {ok : xV → Bool} {nx : Nat} {ls st : List xV} {i : Nat} {q : xS3} (h : xld ok nx ls st i = some q) : ∃ v, ls[i]? = some v ∧ ok v = true ∧ q = (nx, ls, v :: st) := by
  unfold xld at h
  cases hv : ls[i]? with
  | none => rw [hv] at h; cases h
  | some v =>
    rw [hv] at h
    dsimp only at h
    cases ho : ok v with
    | false => rw [ho] at h; cases h
    | true => rw [ho] at h; exact ⟨v, rfl, ho, (Option.some.inj h).symm⟩
theorem x_st {ok : xV → Bool} {nx : Nat} {ls st : List xV} {i : Nat} {q : xS3} (h : xst ok nx ls st i = some q) : ∃ v r, st = v :: r ∧ ok v = true ∧ i < ls.length ∧ q = (nx, xset1 ls i v, r) := by
  cases st with
  | nil => cases h
  | cons v r =>
    simp only [xst] at h
    cases ho : (ok v && Nat.blt i ls.length) with
    | false => rw [ho] at h; cases h
    | true =>
      rw [ho] at h
      simp only [Bool.and_eq_true] at ho
      exact ⟨v, r, rfl, ho.1, Nat.le_of_ble_eq_true ho.2, (Option.some.inj h).symm⟩
theorem x_st2 {nx : Nat} {ls st : List xV} {i : Nat} {q : xS3} (h : xst2 nx ls st i = some q) : ∃ v r, st = v :: r ∧ xisL v = true ∧ i + 1 < ls.length ∧ q = (nx, xset2 ls i v, r) := by
  cases st with
  | nil => cases h
  | cons v r =>
    simp only [xst2] at h
    cases ho : (xisL v && Nat.blt (i + 1) ls.length) with
    | false => rw [ho] at h; cases h
    | true =>
      rw [ho] at h
      simp only [Bool.and_eq_true] at ho
      exact ⟨v, r, rfl, ho.1, Nat.le_of_ble_eq_true ho.2, (Option.some.inj h).symm⟩
theorem x_o2 {nx : Nat} {ls st : List xV} {f : Int → Int → Int} {q : xS3} (h : xo2 nx ls st f = some q) : ∃ a b r, st = xI b :: xI a :: r ∧ q = (nx, ls, xI (f a b) :: r) := by
  unfold xo2 at h
  split at h
  · exact ⟨_, _, _, rfl, (Option.some.inj h).symm⟩
  · cases h
theorem x_o2L {nx : Nat} {ls st : List xV} {f : Int → Int → Int} {q : xS3} (h : xo2L nx ls st f = some q) : ∃ a b r, st = xL b :: xL a :: r ∧ q = (nx, ls, xL (f a b) :: r) := by
  unfold xo2L at h
  split at h
  · exact ⟨_, _, _, rfl, (Option.some.inj h).symm⟩
  · cases h
theorem x_isI {v : xV} (h : xisI v = true) : ∃ x, v = xI x := by
  rcases v with x | x | x | x | x <;> first | exact ⟨_, rfl⟩ | cases h
theorem x_isL {v : xV} (h : xisL v = true) : ∃ x, v = xL x := by
  rcases v with x | x | x | x | x <;> first | exact ⟨_, rfl⟩ | cases h
theorem x_isR {v : xV} (h : xisR v = true) (B : Nat) (ea : Nat → Nat) : v ≠ xU ∧ ∃ a, xval B ea v = .ref a := by
  rcases v with x | x | x | x | x <;> first | (refine ⟨by simp, ?_⟩; exact ⟨_, rfl⟩) | cases h
theorem x_rf (B : Nat) (o : Option Nat) (ea : Nat → Nat) : va_rf (o.map (fun j => B + j)) = (match o with | some j => xval B ea (xA j) | none => xval B ea xN) := by
  cases o <;> rfl
