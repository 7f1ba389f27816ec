-- loops, and the packed leaves
def xit {σ : Type} (f : Nat → σ → σ) : Nat → Nat → σ → σ
  | 0, _, s => s
  | m + 1, i, s => xit f m (i + 1) (f i s)
theorem xit_l {σ : Type} (f : Nat → σ → σ) : ∀ m i s, xit f (m + 1) i s = f (i + m) (xit f m i s) := by
  intro m
  induction m with
  | zero => intro i s; rfl
  | succ m ih => intro i s; rw [xit, ih (i + 1) (f i s), show i + 1 + m = i + (m + 1) by omega]; rfl
theorem xit_congr {σ : Type} {f g : Nat → σ → σ} : ∀ m i s, (∀ j t, i ≤ j → j < i + m → f j t = g j t) → xit f m i s = xit g m i s := by
  intro m
  induction m with
  | zero => intro i s _; rfl
  | succ m ih =>
    intro i s h
    rw [xit, xit, h i s (by omega) (by omega)]
    exact ih (i + 1) _ (fun j t h1 h2 => h j t (by omega) (by omega))
/-- an invariant along a loop -/
theorem xit_P {σ : Type} {f : Nat → σ → σ} {P : Nat → σ → Prop} {n : Nat} (step : ∀ i s, i < n → P i s → P (i + 1) (f i s)) : ∀ m i s, i + m = n → P i s → P n (xit f m i s) := by
  intro m
  induction m with
  | zero => intro i s h p; obtain rfl : i = n := by omega
            exact p
  | succ m ih => intro i s h p; exact ih (i + 1) _ (by omega) (step i s (by omega) p)
theorem Rn.for {σ : Type} {ex : xO} {t : xT} {d pc : Nat} {st : List xV} {o : xV × xH} (n : Nat) (P : Nat → σ → Prop) (L : Nat → σ → List xV) (H : σ → xH) (f : Nat → σ → σ)
    (step : ∀ i s, i < n → P i s → P (i + 1) (f i s) ∧ (Rn ex t d pc (L (i + 1) (f i s)) st (H (f i s)) o → Rn ex t d pc (L i s) st (H s) o)) :
    ∀ m i s, i + m = n → P i s → (P n (xit f m i s) → Rn ex t d pc (L n (xit f m i s)) st (H (xit f m i s)) o) → Rn ex t d pc (L i s) st (H s) o := by
  intro m
  induction m with
  | zero => intro i s h p k; obtain rfl : i = n := by omega
            exact k p
  | succ m ih => intro i s h p k; exact (step i s (by omega) p).2 (ih (i + 1) _ (by omega) (step i s (by omega) p).1 k)
/-- bits of an int -/
def bI (x : Int) (i : Nat) : Bool := (BitVec.ofInt 32 x).getLsbD i
theorem bI_of (x : Int32) (i : Nat) : bI x.toInt i = x.toBitVec.getLsbD i := by
  unfold bI
  rw [show BitVec.ofInt 32 x.toInt = (Int32.ofInt x.toInt).toBitVec from rfl, Int32.ofInt_toInt]
theorem bI_and (a b : Int) (i : Nat) : bI (xand a b) i = (bI a i && bI b i) := by
  unfold xand
  rw [bI_of, Int32.toBitVec_and, BitVec.getLsbD_and]
  rfl
theorem bI_or (a b : Int) (i : Nat) : bI (xor3 a b) i = (bI a i || bI b i) := by
  unfold xor3
  rw [bI_of, Int32.toBitVec_or, BitVec.getLsbD_or]
  rfl
theorem bI_xor (a b : Int) (i : Nat) : bI (xxor a b) i = (bI a i ^^ bI b i) := by
  unfold xxor
  rw [bI_of, Int32.toBitVec_xor, BitVec.getLsbD_xor]
  rfl
theorem bI_sl : ∀ n, n < 32 → ((Int32.ofInt ((n : Nat) : Int) &&& 31).toBitVec.smod 32).toNat = n := by decide +kernel
theorem bI_su : ∀ n, n < 32 → (((Int32.ofInt ((n : Nat) : Int)).toUInt32 &&& Int32.toUInt32 31).toBitVec % 32).toNat = n := by decide +kernel
theorem bI_shl (x : Int) {n : Nat} (hn : n < 32) {i : Nat} (hi : i < 32) : bI (xshl x (n : Int)) i = (decide (n ≤ i) && bI x (i - n)) := by
  unfold xshl
  rw [bI_of, Int32.toBitVec_shiftLeft]
  show ((Int32.ofInt x).toBitVec <<< ((Int32.ofInt (n : Int) &&& 31).toBitVec.smod 32).toNat).getLsbD i = _
  rw [bI_sl n hn, BitVec.getLsbD_shiftLeft]
  show _ = (decide (n ≤ i) && (Int32.ofInt x).toBitVec.getLsbD (i - n))
  rcases Nat.lt_or_ge i n with h | h
  · simp [h, Nat.not_le.mpr h]
  · simp [hi, h, Nat.not_lt.mpr h]
theorem bI_ushr (x : Int) {n : Nat} (hn : n < 32) (i : Nat) : bI (xushr x (n : Int)) i = bI x (n + i) := by
  unfold xushr
  rw [bI_of]
  show ((Int32.ofInt x).toUInt32 >>> ((Int32.ofInt (n : Int)).toUInt32 &&& Int32.toUInt32 31)).toBitVec.getLsbD i = (Int32.ofInt x).toUInt32.toBitVec.getLsbD (n + i)
  rw [UInt32.toBitVec_shiftRight]
  show ((Int32.ofInt x).toUInt32.toBitVec >>> (((Int32.ofInt (n : Int)).toUInt32 &&& Int32.toUInt32 31).toBitVec % 32).toNat).getLsbD i = _
  rw [bI_su n hn, BitVec.getLsbD_ushiftRight]
theorem bI_m1 : ∀ i, i < 32 → bI (-1) i = true := by decide +kernel
theorem bI_big (x : Int) {i : Nat} (h : 32 ≤ i) : bI x i = false := BitVec.getLsbD_of_ge _ _ h
theorem bI_15 (i : Nat) : bI 15 i = decide (i < 4) := by
  rcases Nat.lt_or_ge i 32 with h | h
  · exact (by decide +kernel : ∀ i, i < 32 → bI 15 i = decide (i < 4)) i h
  · rw [bI_big _ h, decide_eq_false (by omega)]
theorem bI_nat {l : Nat} (hl : l < 16) (i : Nat) : bI (l : Int) i = l.testBit i := by
  rcases Nat.lt_or_ge i 32 with h | h
  · exact (by decide +kernel : ∀ l, l < 16 → ∀ i, i < 32 → bI ((l : Nat) : Int) i = l.testBit i) l hl i h
  · rw [bI_big _ h, Nat.testBit_lt_two_pow (Nat.lt_of_lt_of_le hl (Nat.le_trans (show 16 ≤ 2 ^ 32 by decide) (Nat.pow_le_pow_right (by decide) h)))]
def lvN (x : Int) (b : Nat) : Nat := (BitVec.ofInt 32 x).toNat / 16 ^ b % 16
theorem lv_N (x : Int) (b : Nat) : lv x b = (lvN x b : Nat) := rfl
theorem lvN_bit (x : Int) (b i : Nat) : (lvN x b).testBit i = (decide (i < 4) && bI x (4 * b + i)) := by
  unfold lvN bI
  rw [show (16 : Nat) ^ b = 2 ^ (4 * b) by rw [Nat.pow_mul], show (16 : Nat) = 2 ^ 4 from rfl, Nat.testBit_mod_two_pow, Nat.testBit_div_two_pow, Nat.add_comm i (4 * b)]
  rfl
theorem lv_in (x : Int) (b : Nat) : 0 ≤ lv x b ∧ lv x b < 16 := by
  rw [lv_N]
  have : lvN x b < 16 := Nat.mod_lt _ (by decide)
  omega
theorem lv_leaf (x : Int) {b : Nat} (hb : b < 8) : xand (xushr x (4 * (b : Int))) 15 = lv x b := by
  have e : (4 * (b : Int)) = ((4 * b : Nat) : Int) := rfl
  rw [e]
  have key : BitVec.ofInt 32 (xand (xushr x ((4 * b : Nat) : Int)) 15) = BitVec.ofNat 32 (lvN x b) := by
    apply BitVec.eq_of_getLsbD_eq
    intro i hi
    show bI _ i = _
    rw [bI_and, bI_ushr _ (by omega), bI_15, BitVec.getLsbD_ofNat, lvN_bit]
    simp [hi, Bool.and_comm]
  have h16 : lvN x b < 16 := Nat.mod_lt _ (by decide)
  unfold xand at key ⊢
  rw [show BitVec.ofInt 32 (Int32.ofInt (xushr x ((4 * b : Nat) : Int)) &&& Int32.ofInt 15).toInt = (Int32.ofInt (Int32.ofInt (xushr x ((4 * b : Nat) : Int)) &&& Int32.ofInt 15).toInt).toBitVec from rfl, Int32.ofInt_toInt] at key
  show (Int32.ofInt (xushr x ((4 * b : Nat) : Int)) &&& Int32.ofInt 15).toBitVec.toInt = _
  have hm : lvN x b % 2 ^ 32 = lvN x b := Nat.mod_eq_of_lt (by omega)
  rw [key, lv_N, BitVec.toInt_eq_toNat_of_lt (by rw [BitVec.toNat_ofNat, hm]; omega), BitVec.toNat_ofNat, hm]
def xwith (x : Int) (b l : Int) : Int := xor3 (xand x (xxor (xshl 15 (4 * b)) (-1))) (xshl l (4 * b))
theorem lv_with (x : Int) {b j l : Nat} (hb : b < 8) (hj : j < 8) (hl : l < 16) : lv (xwith x b l) j = if j = b then (l : Int) else lv x j := by
  have e : (4 * (b : Int)) = ((4 * b : Nat) : Int) := rfl
  have hbit : ∀ i, i < 32 → bI (xwith x b l) i = ((bI x i && !(decide (4 * b ≤ i) && decide (i - 4 * b < 4))) || (decide (4 * b ≤ i) && l.testBit (i - 4 * b))) := by
    intro i hi
    unfold xwith
    rw [e, bI_or, bI_and, bI_xor, bI_shl _ (by omega) hi, bI_shl _ (by omega) hi, bI_m1 i hi, bI_15, bI_nat hl]
    simp
  have hN : lvN (xwith x b l) j = if j = b then l else lvN x j := by
    apply Nat.eq_of_testBit_eq
    intro i
    rw [lvN_bit]
    by_cases h4 : i < 4
    · rw [hbit _ (by omega)]
      by_cases hjb : j = b
      · subst hjb
        rw [if_pos rfl]
        simp [h4]
      · rw [if_neg hjb, lvN_bit]
        by_cases hlt : 4 * b ≤ 4 * j + i
        · have h5 : 4 ≤ 4 * j + i - 4 * b := by omega
          have h6 : l.testBit (4 * j + i - 4 * b) = false := Nat.testBit_lt_two_pow (Nat.lt_of_lt_of_le hl (Nat.pow_le_pow_right (n := 2) (by decide) h5))
          simp [h4, hlt, h6, Nat.not_lt.mpr h5]
        · simp [h4, hlt]
    · by_cases hjb : j = b
      · rw [if_pos hjb]
        have h6 : l.testBit i = false := Nat.testBit_lt_two_pow (Nat.lt_of_lt_of_le hl (Nat.pow_le_pow_right (n := 2) (by decide) (Nat.not_lt.mp h4)))
        simp [h4, h6]
      · rw [if_neg hjb, lvN_bit]
        simp [h4]
  rw [lv_N, hN]
  split <;> rfl
