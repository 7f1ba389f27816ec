-- the small machine's numbers are the machine's
theorem x_w32 (x : Int) : (Int32.ofInt x).toInt = w32 x := by
  rw [Int32.toInt_ofInt, Int.bmod_def, show ((Int32.size : Nat) : Int) = 4294967296 from rfl]
  unfold w32
  split <;> omega
theorem x_w64 (x : Int) : (Int64.ofInt x).toInt = w64 x := by
  rw [Int64.toInt_ofInt, Int.bmod_def, show ((Int64.size : Nat) : Int) = 18446744073709551616 from rfl]
  unfold w64
  split <;> omega
theorem x_w32i (x : Int) : Int32.ofInt (w32 x) = Int32.ofInt x := by
  rw [← Int32.toInt_inj, x_w32, x_w32]
  unfold w32
  omega
theorem x_w64i (x : Int) : Int64.ofInt (w64 x) = Int64.ofInt x := by
  rw [← Int64.toInt_inj, x_w64, x_w64]
  unfold w64
  omega
theorem x_add (a b : Int) : Int32.ofInt (a + b) = Int32.ofInt a + Int32.ofInt b := Int32.ofInt_add a b
theorem x_sub (a b : Int) : Int32.ofInt (a - b) = Int32.ofInt a - Int32.ofInt b := Int32.ofInt_sub a b
theorem x_mul (a b : Int) : Int32.ofInt (a * b) = Int32.ofInt a * Int32.ofInt b := Int32.ofInt_mul a b
theorem x_neg (a : Int) : Int32.ofInt (-a) = -Int32.ofInt a := Int32.ofInt_neg a
theorem x_addL (a b : Int) : Int64.ofInt (a + b) = Int64.ofInt a + Int64.ofInt b := Int64.ofInt_add a b
theorem x_mulL (a b : Int) : Int64.ofInt (a * b) = Int64.ofInt a * Int64.ofInt b := Int64.ofInt_mul a b
theorem x_subL (a b : Int) : Int64.ofInt (a - b) = Int64.ofInt a - Int64.ofInt b := Int64.ofInt_sub a b
theorem x_toI (x : Int32) : Int32.ofInt x.toInt = x := Int32.ofInt_toInt x
theorem x_and (a b : Int) : Int32.ofInt (xand a b) = Int32.ofInt a &&& Int32.ofInt b := x_toI _
theorem x_or (a b : Int) : Int32.ofInt (xor3 a b) = Int32.ofInt a ||| Int32.ofInt b := x_toI _
theorem x_xor (a b : Int) : Int32.ofInt (xxor a b) = Int32.ofInt a ^^^ Int32.ofInt b := x_toI _
theorem x_shl (a b : Int) : Int32.ofInt (xshl a b) = Int32.ofInt a <<< (Int32.ofInt b &&& 31) := x_toI _
theorem x_shr (a b : Int) : Int32.ofInt (xshr a b) = Int32.ofInt a >>> (Int32.ofInt b &&& 31) := x_toI _
theorem x_ushr (a b : Int) : Int32.ofInt (xushr a b) = ((Int32.ofInt a).toUInt32 >>> ((Int32.ofInt b).toUInt32 &&& Int32.toUInt32 31)).toInt32 := x_toI _
theorem x_div (a b : Int) : Int32.ofInt (Int.tdiv (w32 a) (w32 b)) = Int32.ofInt a / Int32.ofInt b := by
  rw [← Int32.toInt_inj, Int32.toInt_div, Int32.toInt_ofInt, x_w32, x_w32]
theorem x_divL (a b : Int) : Int64.ofInt (Int.tdiv (w64 a) (w64 b)) = Int64.ofInt a / Int64.ofInt b := by
  rw [← Int64.toInt_inj, Int64.toInt_div, Int64.toInt_ofInt, x_w64, x_w64]
theorem x_rem (a b : Int) : Int32.ofInt (Int.tmod (w32 a) (w32 b)) = Int32.ofInt a - Int32.ofInt a / Int32.ofInt b * Int32.ofInt b := by
  rw [Int.tmod_def, x_sub, x_mul, x_div, x_w32i, x_w32i, Int32.mul_comm]
theorem x_remL (a b : Int) : Int64.ofInt (Int.tmod (w64 a) (w64 b)) = Int64.ofInt a - Int64.ofInt a / Int64.ofInt b * Int64.ofInt b := by
  rw [Int.tmod_def, x_subL, x_mulL, x_divL, x_w64i, x_w64i, Int64.mul_comm]
theorem x_eq (a b : Int) : Int32.ofInt a = Int32.ofInt b ↔ w32 a = w32 b := by rw [← Int32.toInt_inj, x_w32, x_w32]
theorem x_lt (a b : Int) : Int32.ofInt a < Int32.ofInt b ↔ w32 a < w32 b := by rw [Int32.lt_iff_toInt_lt, x_w32, x_w32]
theorem x_le (a b : Int) : Int32.ofInt a ≤ Int32.ofInt b ↔ w32 a ≤ w32 b := by rw [Int32.le_iff_toInt_le, x_w32, x_w32]
theorem x_0 : (0 : Int32) = Int32.ofInt 0 := rfl
theorem x_w0 : w32 0 = 0 := rfl
theorem x_eq0 (a : Int) : Int32.ofInt a = 0 ↔ w32 a = 0 := by rw [x_0, x_eq]; rfl
theorem x_eqL0 (a : Int) : Int64.ofInt a = 0 ↔ w64 a = 0 := by rw [← Int64.toInt_inj, x_w64]; rfl
theorem x_i2l (a : Int) : (Int32.ofInt a).toInt64 = Int64.ofInt (w32 a) := by
  rw [← Int64.toInt_inj, Int32.toInt_toInt64, x_w32, x_w64]
  unfold w32 w64
  omega
theorem x_l2i (a : Int) : (Int64.ofInt a).toInt32 = Int32.ofInt a := by
  rw [← Int32.toInt_inj, Int64.toInt_toInt32, x_w64, x_w32, Int.bmod_def]
  unfold w32 w64
  split <;> omega
theorem x_i2b (a : Int) : (Int32.ofInt a).toInt8.toInt32 = Int32.ofInt (w8 a) := by
  rw [← Int32.toInt_inj, Int8.toInt_toInt32, Int32.toInt_toInt8, x_w32, x_w32, Int.bmod_def]
  unfold w32 w8
  split <;> omega
theorem x_bi (n : Int) (h1 : -128 ≤ n) (h2 : n < 128) : (Int8.ofInt n).toInt32 = Int32.ofInt n := by
  rw [← Int32.toInt_inj, Int8.toInt_toInt32, x_w32, Int8.toInt_ofInt, Int.bmod_def, show ((Int8.size : Nat) : Int) = 256 from rfl]
  unfold w32
  split <;> omega
theorem x_si (n : Int) (h1 : -32768 ≤ n) (h2 : n < 32768) : (Int16.ofInt n).toInt32 = Int32.ofInt n := by
  rw [← Int32.toInt_inj, Int16.toInt_toInt32, x_w32, Int16.toInt_ofInt, Int.bmod_def, show ((Int16.size : Nat) : Int) = 65536 from rfl]
  unfold w32
  split <;> omega
theorem x_cmp (a b : Int) : lg_cmp (Int64.ofInt a) (Int64.ofInt b) = Int32.ofInt (xcmp a b) := by
  unfold lg_cmp xcmp
  simp only [gt_iff_lt, Int64.lt_iff_toInt_lt, ← Int64.toInt_inj, x_w64]
  by_cases h1 : w64 b < w64 a
  · rw [if_pos h1, if_neg (by omega), if_neg (by omega)]
    rfl
  · rw [if_neg h1]
    by_cases h2 : w64 a = w64 b
    · rw [if_pos h2, if_neg (by omega), if_pos h2]
      rfl
    · rw [if_neg h2, if_pos (by omega)]
      rfl
theorem x_clamp (i : Int) : (Int32.ofInt i).toNatClampNeg = (w32 i).toNat := by
  show (Int32.ofInt i).toInt.toNat = _
  rw [x_w32]
theorem x_in {i : Int} {n : Nat} (h : xin i n = true) : vp_in (Int32.ofInt i) n ∧ (w32 i).toNat < n ∧ 0 ≤ w32 i := by
  simp only [xin, Bool.and_eq_true, decide_eq_true_eq] at h
  refine ⟨fun q => ?_, by omega, h.1⟩
  rcases q with q | q
  · rw [x_0, x_lt] at q
    have : w32 0 = 0 := rfl
    omega
  · rw [x_clamp] at q
    omega
-- values
def xval (B : Nat) (ea : Nat → Nat) (v : xV) : Value := match v with
  | .inl x => .int (Int32.ofInt x)
  | .inr (.inl x) => .long (Int64.ofInt x)
  | .inr (.inr (.inl a)) => .ref (B + a)
  | .inr (.inr (.inr (.inl j))) => .ref (ea j)
  | _ => .null
theorem x_cat (B : Nat) (ea : Nat → Nat) (v : xV) : (xval B ea v).category = if xisL v then 2 else 1 := by
  rcases v with x | x | x | x | x <;> rfl
theorem x_catS (B : Nat) (ea : Nat → Nat) : ∀ st : List xV, ((st.map (xval B ea)).map fun v => v.category).sum = xcat st
  | [] => rfl
  | v :: r => by
    simp only [List.map_cons, List.sum_cons, xcat, x_cat]
    rw [x_catS B ea r]
-- locals
def xlvp (B : Nat) (ea : Nat → Nat) (ls : List xV) : List (Nat × Value) := (List.range ls.length).filterMap fun i => match ls[i]? with
  | some v => if v = xU then none else some (i, xval B ea v)
  | none => none
theorem x_lvp {B : Nat} {ea : Nat → Nat} {ls : List xV} {q : Nat × Value} : q ∈ xlvp B ea ls ↔ ∃ v, ls[q.1]? = some v ∧ v ≠ xU ∧ q.2 = xval B ea v := by
  unfold xlvp
  rw [List.mem_filterMap]
  constructor
  · rintro ⟨i, -, h⟩
    cases hv : ls[i]? with
    | none => rw [hv] at h; cases h
    | some v =>
      rw [hv] at h
      dsimp only at h
      by_cases hu : v = xU
      · rw [if_pos hu] at h; cases h
      · rw [if_neg hu] at h
        cases h
        exact ⟨v, hv, hu, rfl⟩
  · rintro ⟨v, h1, h2, h3⟩
    refine ⟨q.1, List.mem_range.mpr (List.getElem?_eq_some_iff.mp h1).1, ?_⟩
    rw [h1]
    dsimp only
    rw [if_neg h2, ← h3]
def xLS (B : Nat) (ea : Nat → Nat) (nL : Nat) (ls : List xV) (la : Array Slot) : Prop := ls.length = nL ∧ lv_has la nL (xlvp B ea ls)
theorem x_lsAt {B : Nat} {ea : Nat → Nat} {nL : Nat} {ls : List xV} {la : Array Slot} (h : xLS B ea nL ls la) {i : Nat} {v : xV} (hv : ls[i]? = some v) (hu : v ≠ xU) : la[i]? = some (.val (xval B ea v)) :=
  h.2.2.2 (i, xval B ea v) (x_lvp.mpr ⟨v, hv, hu, rfl⟩)
theorem x_kil_len (ls : List xV) (i : Nat) : (xkil ls i).length = ls.length := by
  cases i with
  | zero => rfl
  | succ j =>
    simp only [xkil]
    split
    · split <;> simp
    · rfl
theorem x_kil {ls : List xV} {i j : Nat} {w : xV} (h : (xkil ls i)[j]? = some w) (hu : w ≠ xU) : ls[j]? = some w ∧ (j + 1 = i → xisL w = false) := by
  cases i with
  | zero => exact ⟨h, fun e => by omega⟩
  | succ k =>
    simp only [xkil] at h
    cases hk : ls[k]? with
    | none =>
      rw [hk] at h
      refine ⟨h, fun e => ?_⟩
      have : j = k := by omega
      subst this
      dsimp only at h
      rw [hk] at h
      cases h
    | some v =>
      rw [hk] at h
      dsimp only at h
      by_cases hl : xisL v = true
      · rw [if_pos hl] at h
        by_cases hj : j = k
        · subst hj
          rw [List.getElem?_set_self (List.getElem?_eq_some_iff.mp hk).1] at h
          cases h
          exact absurd rfl hu
        · rw [List.getElem?_set_ne (Ne.symm hj)] at h
          exact ⟨h, fun e => absurd (by omega) hj⟩
      · rw [if_neg hl] at h
        refine ⟨h, fun e => ?_⟩
        have : j = k := by omega
        subst this
        rw [hk] at h
        cases h
        simpa using hl
theorem x_set1 {B : Nat} {ea : Nat → Nat} {nL : Nat} {ls : List xV} {la' : Array Slot} {i : Nat} {v : xV} (hn : ls.length = nL) (hi : i < nL)
    (h : lv_has la' nL ((i, xval B ea v) :: (xlvp B ea ls).filter (fun q => !(q.1 == i) && !(q.1 + 1 == i && q.2.category == 2)))) : xLS B ea nL (xset1 ls i v) la' := by
  refine ⟨by rw [xset1, List.length_set, x_kil_len, hn], h.1, h.2.1, fun q hq => ?_⟩
  obtain ⟨w, h1, h2, h3⟩ := x_lvp.mp hq
  refine h.2.2 q ?_
  by_cases hj : q.1 = i
  · rw [hj, xset1, List.getElem?_set_self (by rw [x_kil_len, hn]; exact hi)] at h1
    cases h1
    rw [show q = (i, xval B ea v) from Prod.ext hj h3]
    exact List.mem_cons_self
  · rw [xset1, List.getElem?_set_ne (Ne.symm hj)] at h1
    obtain ⟨h4, h5⟩ := x_kil h1 h2
    refine List.mem_cons_of_mem _ (List.mem_filter.mpr ⟨x_lvp.mpr ⟨w, h4, h2, h3⟩, ?_⟩)
    rw [h3, x_cat]
    by_cases e : q.1 + 1 = i
    · simp [hj, h5 e]
    · simp [hj, e]
theorem x_set2 {B : Nat} {ea : Nat → Nat} {nL : Nat} {ls : List xV} {la' : Array Slot} {i : Nat} {v : xV} (hn : ls.length = nL) (hi : i + 1 < nL)
    (h : lv_has la' nL ((i, xval B ea v) :: (xlvp B ea ls).filter (fun q => !(q.1 == i) && (!(q.1 == i + 1) && !(q.1 + 1 == i && q.2.category == 2))))) : xLS B ea nL (xset2 ls i v) la' := by
  refine ⟨by rw [xset2, List.length_set, List.length_set, x_kil_len, hn], h.1, h.2.1, fun q hq => ?_⟩
  obtain ⟨w, h1, h2, h3⟩ := x_lvp.mp hq
  refine h.2.2 q ?_
  by_cases hk : q.1 = i + 1
  · rw [hk, xset2, List.getElem?_set_self (by rw [List.length_set, x_kil_len, hn]; exact hi)] at h1
    cases h1
    exact absurd rfl h2
  · rw [xset2, List.getElem?_set_ne (Ne.symm hk)] at h1
    by_cases hj : q.1 = i
    · rw [hj, List.getElem?_set_self (by rw [x_kil_len, hn]; omega)] at h1
      cases h1
      rw [show q = (i, xval B ea v) from Prod.ext hj h3]
      exact List.mem_cons_self
    · rw [List.getElem?_set_ne (Ne.symm hj)] at h1
      obtain ⟨h4, h5⟩ := x_kil h1 h2
      refine List.mem_cons_of_mem _ (List.mem_filter.mpr ⟨x_lvp.mpr ⟨w, h4, h2, h3⟩, ?_⟩)
      rw [h3, x_cat]
      by_cases e : q.1 + 1 = i
      · simp [hj, hk, h5 e]
      · simp [hj, hk, e]
