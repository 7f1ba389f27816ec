-- the pure picture: deaths (n, kinds, boughs, worths), sets (bits of a Nat), leaves
theorem Rn.ls {ex : xO} {t : xT} {d pc : Nat} {ls ls' st : List xV} {h : xH} {o : xV × xH} (e : ls = ls') (k : Rn ex t d pc ls' st h o) : Rn ex t d pc ls st h o := e ▸ k
theorem Rn.ot {ex : xO} {t : xT} {d pc : Nat} {ls st : List xV} {h : xH} {o o' : xV × xH} (e : o' = o) (k : Rn ex t d pc ls st h o') : Rn ex t d pc ls st h o := e ▸ k
theorem y_ge {i n : Nat} (hi : i < 2147483648) (hn : n < 2147483648) : (w32 (n : Int) ≤ w32 (i : Int)) ↔ n ≤ i := by rw [x_wn hi, x_wn hn]; omega
theorem y_lt {i n : Nat} (hi : i < 2147483648) (hn : n < 2147483648) : (w32 (n : Int) < w32 (i : Int)) ↔ n < i := by rw [x_wn hi, x_wn hn]; omega
theorem y_eq {i n : Nat} (hi : i < 2147483648) (hn : n < 2147483648) : (w32 (n : Int) = w32 (i : Int)) ↔ n = i := by rw [x_wn hi, x_wn hn]; omega
theorem y_eq0 {i : Nat} (hi : i < 2147483648) : (w32 (i : Int) = 0) ↔ i = 0 := by rw [x_wn hi]; omega
theorem x_sv {a V : Nat} (h : a < 71 ∧ (xS a).1 = 0 ∧ (xS a).2.1 = V) : a < 71 ∧ (xS a).1 = 0 ∧ ((xS a).2.1 : Int) = ((V : Nat) : Int) := ⟨h.1, h.2.1, congrArg _ h.2.2⟩
/-- the set of those below n with p -/
def bset (p : Nat → Bool) (n : Nat) : Nat := xit (fun i s => if p i = true then s ||| 2 ^ i else s) n 0 0
theorem bset_s (p : Nat → Bool) (n : Nat) : bset p (n + 1) = if p n = true then bset p n ||| 2 ^ n else bset p n := by
  unfold bset
  rw [xit_l, Nat.zero_add]
theorem bset_lt (p : Nat → Bool) (n : Nat) : bset p n < 2 ^ n := by
  induction n with
  | zero => exact Nat.one_pos
  | succ n ih =>
    rw [bset_s]
    have h2 : 2 ^ (n + 1) = 2 ^ n + 2 ^ n := by rw [Nat.pow_succ]; omega
    split
    · exact Nat.or_lt_two_pow (by omega) (by omega)
    · omega
theorem bset_bit (p : Nat → Bool) (n j : Nat) : (bset p n).testBit j = (decide (j < n) && p j) := by
  induction n with
  | zero => show (0 : Nat).testBit j = _; simp
  | succ n ih =>
    rw [bset_s]
    by_cases hj : j = n
    · subst hj
      by_cases hp : p j = true
      · rw [if_pos hp, Nat.testBit_or, Nat.testBit_two_pow_self]; simp [hp]
      · rw [if_neg hp, ih]; simp [hp]
    · have e1 : decide (j < n + 1) = decide (j < n) := by
        by_cases h : j < n
        · rw [decide_eq_true h, decide_eq_true (by omega)]
        · rw [decide_eq_false h, decide_eq_false (by omega)]
      by_cases hp : p n = true
      · rw [if_pos hp, Nat.testBit_or, ih, Nat.testBit_two_pow_of_ne (by omega), e1]; simp
      · rw [if_neg hp, ih, e1]
theorem bset_congr {p q : Nat → Bool} {n : Nat} (h : ∀ i, i < n → p i = q i) : bset p n = bset q n := by
  apply Nat.eq_of_testBit_eq
  intro j
  rw [bset_bit, bset_bit]
  by_cases hj : j < n
  · rw [h j hj]
  · simp [hj]
theorem bset_64 (p : Nat → Bool) {n : Nat} (hn : n ≤ 6) : bset p n < 64 := Nat.lt_of_lt_of_le (bset_lt p n) (Nat.pow_le_pow_right (n := 2) (by decide) hn)
theorem p64 {s n : Nat} (hn : n ≤ 6) (h : s < 2 ^ n) : s < 64 := Nat.lt_of_lt_of_le h (Nat.pow_le_pow_right (n := 2) (by decide) hn)
theorem pp64 {n : Nat} (hn : n ≤ 6) : 2 ^ n ≤ 64 := Nat.pow_le_pow_right (n := 2) (by decide) hn
/-- a step of a set's making, over the machine's numbers -/
theorem bt_add {s i : Nat} (hs : s < 64) (hi : i < 6) : xor3 (s : Int) (xshl 1 (i : Int)) = ((s ||| 2 ^ i : Nat) : Int) := by
  have h2 : 2 ^ i ≤ 2 ^ 5 := Nat.pow_le_pow_right (n := 2) (by decide) (by omega)
  rw [bt_one i (by omega), bt_or s hs (2 ^ i) (by omega)]
theorem bt_or0 {s : Nat} (hs : s < 64) : xor3 (s : Int) 0 = (s : Int) := by
  have h := bt_or s hs 0 (by decide)
  rw [Nat.or_zero] at h
  exact h
theorem or64 {s i : Nat} (hs : s < 64) (hi : i < 6) : s ||| 2 ^ i < 64 := by
  have h2 : 2 ^ i ≤ 2 ^ 5 := Nat.pow_le_pow_right (n := 2) (by decide) (by omega)
  exact Nat.or_lt_two_pow (n := 6) hs (by omega)
theorem orlt {s i n : Nat} (hs : s < 2 ^ n) (hi : i < n) : s ||| 2 ^ i < 2 ^ n := Nat.or_lt_two_pow hs (Nat.pow_lt_pow_right (by decide) hi)
theorem bset_64' (p : Nat → Bool) {i n : Nat} (hi : i ≤ n) (hn : n ≤ 6) : bset p i < 64 := bset_64 p (by omega)
/-- those that are no kings -/
def cm (kd : Nat → Nat) (n : Nat) : Nat := bset (fun i => kd i != 5) n
theorem cmn_cm {kd : Nat → Nat} {f : Nat → Int} : ∀ {n : Nat}, (∀ i, i < n → f i = (kd i : Nat)) → cmn f n = cm kd n := by
  intro n
  induction n with
  | zero => intro _; rfl
  | succ n ih =>
    intro h
    have e1 := ih (fun i hi => h i (by omega))
    have hlt := bset_lt (fun i => kd i != 5) n
    simp only [cmn]
    unfold cm at e1 ⊢
    rw [e1, bset_s]
    by_cases h5 : kd n = 5
    · rw [if_pos (by rw [h n (by omega), h5]; rfl), if_neg (by simp [h5])]; omega
    · rw [if_neg (by rw [h n (by omega)]; omega), if_pos (by simp [h5])]
      rw [Nat.add_comm, Nat.or_comm]
      have e2 := Nat.two_pow_add_eq_or_of_lt hlt 1
      rw [Nat.mul_one] at e2
      exact e2
/-- whether death i can be told, s being told -/
def can (kd : Nat → Nat) (n s i : Nat) : Bool := !s.testBit i && (kd i != 5 || (cm kd n ^^^ (cm kd n &&& s)) == 0)
theorem can_m {kd : Nat → Nat} {n s : Nat} (hs : s < 2 ^ n) : (s ||| bset (fun i => kd i == 5) n = 2 ^ n - 1) ↔ (cm kd n ^^^ (cm kd n &&& s)) = 0 := by
  have hb : ∀ j, (cm kd n).testBit j = (decide (j < n) && (kd j != 5)) := fun j => bset_bit _ n j
  constructor
  · intro h
    apply Nat.eq_of_testBit_eq
    intro j
    have hj := congrArg (fun z => z.testBit j) h
    simp only [Nat.testBit_or, bset_bit, Nat.testBit_two_pow_sub_one] at hj
    simp only [Nat.testBit_xor, Nat.testBit_and, hb, Nat.zero_testBit]
    by_cases h1 : j < n
    · simp only [h1, decide_true, Bool.true_and] at hj ⊢
      cases hk : (kd j == 5)
      · rw [hk] at hj; simp at hj; simp [hj]
      · simp [bne, hk]
    · simp [h1]
  · intro h
    apply Nat.eq_of_testBit_eq
    intro j
    have hj := congrArg (fun z => z.testBit j) h
    simp only [Nat.testBit_xor, Nat.testBit_and, hb, Nat.zero_testBit] at hj
    simp only [Nat.testBit_or, bset_bit, Nat.testBit_two_pow_sub_one]
    by_cases h1 : j < n
    · simp only [h1, decide_true, Bool.true_and] at hj ⊢
      cases hk : (kd j == 5)
      · simp only [bne, hk, Bool.not_false, Bool.true_and] at hj
        cases hs' : s.testBit j
        · rw [hs'] at hj; simp at hj
        · simp
      · simp
    · have : s.testBit j = false := Nat.testBit_lt_two_pow (Nat.lt_of_lt_of_le hs (Nat.pow_le_pow_right (n := 2) (by decide) (by omega)))
      simp [h1, this]
def shn (k : Nat) : Nat := if k = 2 ∨ k = 3 then 0 else if k = 5 then 2 else 1
theorem shn_c (k : Nat) : shnt (k : Int) = (shn k : Nat) := by
  unfold shnt shn
  by_cases h : k = 2 ∨ k = 3
  · rw [if_pos h, if_pos (by omega)]; rfl
  · rw [if_neg h, if_neg (by omega)]
    by_cases h5 : k = 5
    · rw [if_pos h5, if_pos (by omega)]; rfl
    · rw [if_neg h5, if_neg (by omega)]; rfl
theorem shn_le (k : Nat) : shn k ≤ 2 := by
  unfold shn
  split
  · omega
  · split <;> omega
/-- a step of a haunting's sum -/
def fhn (kd bo : Nat → Nat) (s b i a : Nat) : Nat := if bo i = b ∧ s.testBit i = false then a + shn (kd i) else a
def hnt (kd bo : Nat → Nat) (n s b : Nat) : Nat := xit (fhn kd bo s b) n 0 0
theorem xit_le {f : Nat → Nat → Nat} {K : Nat} (h : ∀ i a, f i a ≤ a + K) : ∀ m i a, xit f m i a ≤ a + K * m := by
  intro m
  induction m with
  | zero => intro i a; simp [xit]
  | succ m ih =>
    intro i a
    have := ih (i + 1) (f i a)
    have h2 := h i a
    rw [xit, Nat.mul_succ]
    omega
theorem fhn_le (kd bo : Nat → Nat) (s b i a : Nat) : fhn kd bo s b i a ≤ a + 2 := by
  unfold fhn
  have := shn_le (kd i)
  split <;> omega
theorem hnt_le (kd bo : Nat → Nat) (n s b : Nat) : hnt kd bo n s b ≤ 2 * n := by
  have := xit_le (fhn_le kd bo s b) n 0 0
  unfold hnt
  omega
def ans (k w v : Nat) : Nat := (sans k w v).toNat
theorem ans_c {k w v : Nat} (hw : w ≤ 9) (hv : v ≤ 9) : sans k w v = (ans k w v : Nat) := by
  have h := (sans_in (k := (k : Int)) (w := (w : Int)) (v := (v : Int)) (by omega) (by omega)).1
  unfold ans
  omega
theorem ans_le {k w v : Nat} (hw : w ≤ 9) (hv : v ≤ 9) : ans k w v ≤ 9 := by
  have h := sans_in (k := (k : Int)) (w := (w : Int)) (v := (v : Int)) (by omega) (by omega)
  unfold ans
  omega
/-- leaves behind a telling -/
def tl (kd bo wo : Nat → Nat) (i : Nat) (L : Nat → Nat) : Nat → Nat := fun j => if j = bo i then ans (kd i) (wo i) (L (bo i)) else L j
def l9 (L : Nat → Nat) : Prop := ∀ j, j < 8 → L j ≤ 9
theorem tl_9 {kd bo wo : Nat → Nat} {i : Nat} {L : Nat → Nat} (hw : wo i ≤ 9) (hb : bo i ≤ 7) (h : l9 L) : l9 (tl kd bo wo i L) := by
  intro j hj
  unfold tl
  split
  · exact ans_le hw (h _ (by omega))
  · exact h j hj
/-- leaves behind m mornings, haunted by h -/
def ltr (h v m : Nat) : Nat := if h = 0 then (if v + m ≤ 9 then v + m else 9) else v - h * m
theorem ltr_0 {h v : Nat} (hv : v ≤ 9) : ltr h v 0 = v := by
  unfold ltr
  split
  · rw [if_pos (by omega)]; omega
  · simp
theorem ltr_s {h v m : Nat} : ltr h (ltr h v m) 1 = ltr h v (m + 1) := by
  unfold ltr
  by_cases h0 : h = 0
  · rw [if_pos h0, if_pos h0, if_pos h0]
    by_cases h1 : v + m ≤ 9
    · rw [if_pos h1]
      split <;> split <;> omega
    · rw [if_neg h1]
      split <;> split <;> omega
  · rw [if_neg h0, if_neg h0, if_neg h0, Nat.mul_one, Nat.mul_succ]
    generalize h * m = q
    omega
theorem ltr_9 {h v m : Nat} (hv : v ≤ 9) : ltr h v m ≤ 9 := by
  unfold ltr
  split
  · split <;> omega
  · omega
def mo (kd bo : Nat → Nat) (n s m : Nat) (L : Nat → Nat) : Nat → Nat := fun j => ltr (hnt kd bo n s j) (L j) m
theorem mo_9 {kd bo : Nat → Nat} {n s m : Nat} {L : Nat → Nat} (h : l9 L) : l9 (mo kd bo n s m L) := fun j hj => ltr_9 (h j hj)
theorem mo_s {kd bo : Nat → Nat} {n s m : Nat} {L : Nat → Nat} : mo kd bo n s 1 (mo kd bo n s m L) = mo kd bo n s (m + 1) L := by
  funext j
  exact ltr_s
def s8 (L : Nat → Nat) : Nat := xit (fun i a => a + L i) 8 0 0
theorem s8_congr {L L' : Nat → Nat} (h : ∀ j, j < 8 → L j = L' j) : s8 L = s8 L' := xit_congr 8 0 0 (fun j t _ hj => by show t + L j = t + L' j; rw [h j (by omega)])
theorem xit_le9 {L : Nat → Nat} (h : l9 L) : ∀ m i a, i + m ≤ 8 → xit (fun i a => a + L i) m i a ≤ a + 9 * m := by
  intro m
  induction m with
  | zero => intro i a _; simp [xit]
  | succ m ih =>
    intro i a hi
    have h1 := ih (i + 1) (a + L i) (by omega)
    have h2 := h i (by omega)
    rw [xit, Nat.mul_succ]
    omega
theorem s8_le {L : Nat → Nat} (h : l9 L) : s8 L ≤ 72 := xit_le9 h 8 0 0 (by omega)
/-- packed leaves -/
def pk (x : Int) (L : Nat → Nat) : Prop := ∀ j, j < 8 → lv x j = (L j : Nat)
theorem pk_with {x : Int} {L : Nat → Nat} (h : pk x L) {b v : Nat} (hb : b < 8) (hv : v ≤ 9) : pk (xwith x b v) (fun j => if j = b then v else L j) := by
  intro j hj
  rw [lv_with x hb hj (by omega)]
  show _ = (((if j = b then v else L j) : Nat) : Int)
  split
  · rfl
  · exact h j hj
theorem pk_tl {kd bo wo : Nat → Nat} {i : Nat} {x : Int} {L : Nat → Nat} (h : pk x L) (h9 : l9 L) (hw : wo i ≤ 9) (hb : bo i ≤ 7) : pk (xwith x (bo i) (ans (kd i) (wo i) (L (bo i)))) (tl kd bo wo i L) := pk_with h (by omega) (ans_le hw (h9 _ (by omega)))
/-- what both sides know of the deaths -/
def gok (n : Nat) (kd bo wo : Nat → Nat) : Prop := n ≤ 6 ∧ ∀ i, i < n → kd i ≤ 5 ∧ bo i ≤ 7 ∧ wo i ≤ 9
def mG (c : Nat → Nat → Int) (n : Nat) (kd bo wo : Nat → Nat) : Prop := c 55 0 = n ∧ ∀ i, i < n → c 55 (11 + i) = (kd i : Nat) ∧ c 55 (17 + i) = (bo i : Nat) ∧ c 55 (23 + i) = (wo i : Nat)
def cG (c : Nat → Nat → Int) (b : Bool) (n : Nat) (kd bo wo : Nat → Nat) : Prop := c (gid b) 0 = n ∧ c (gid b) 2 = (cm kd n : Nat) ∧ ∀ i, i < n → c (gid b + 1) i = (kd i : Nat) ∧ c (gid b + 2) i = (bo i : Nat) ∧ c (gid b + 3) i = (wo i : Nat)
theorem iGrn_G {c : Nat → Nat → Int} {b : Bool} {n : Nat} (h : iGrn c b n) : ∃ kd bo wo : Nat → Nat, gok n kd bo wo ∧ mG c n kd bo wo ∧ cG c b n kd bo wo := by
  obtain ⟨h1, h2, h3, h4, h5⟩ := h
  refine ⟨fun i => (c 55 (11 + i)).toNat, fun i => (c 55 (17 + i)).toNat, fun i => (c 55 (23 + i)).toNat, ⟨h1, fun i hi => ?_⟩, ⟨h2, fun i hi => ?_⟩, ⟨h3, ?_, fun i hi => ?_⟩⟩
  · obtain ⟨⟨_, a1, a2⟩, ⟨_, b1, b2⟩, ⟨_, c1, c2⟩⟩ := h5 i hi
    show (c 55 (11 + i)).toNat ≤ 5 ∧ (c 55 (17 + i)).toNat ≤ 7 ∧ (c 55 (23 + i)).toNat ≤ 9
    omega
  · obtain ⟨⟨_, a1, a2⟩, ⟨_, b1, b2⟩, ⟨_, c1, c2⟩⟩ := h5 i hi
    show c 55 (11 + i) = ((c 55 (11 + i)).toNat : Int) ∧ c 55 (17 + i) = ((c 55 (17 + i)).toNat : Int) ∧ c 55 (23 + i) = ((c 55 (23 + i)).toNat : Int)
    omega
  · rw [h4, cmn_cm]
    intro i hi
    obtain ⟨⟨_, a1, a2⟩, _⟩ := h5 i hi
    show c 55 (11 + i) = ((c 55 (11 + i)).toNat : Int)
    omega
  · obtain ⟨⟨a0, a1, a2⟩, ⟨b0, b1, b2⟩, ⟨c0, c1, c2⟩⟩ := h5 i hi
    rw [a0, b0, c0]
    show c 55 (11 + i) = ((c 55 (11 + i)).toNat : Int) ∧ c 55 (17 + i) = ((c 55 (17 + i)).toNat : Int) ∧ c 55 (23 + i) = ((c 55 (23 + i)).toNat : Int)
    omega
theorem mG_fr {c c' : Nat → Nat → Int} {n : Nat} {kd bo wo : Nat → Nat} (hn : n ≤ 6) (h : ∀ k, k = 0 ∨ (11 ≤ k ∧ k ≤ 28) → c' 55 k = c 55 k) (hM : mG c n kd bo wo) : mG c' n kd bo wo :=
  ⟨by rw [h 0 (by omega)]; exact hM.1, fun i hi => by rw [h (11 + i) (by omega), h (17 + i) (by omega), h (23 + i) (by omega)]; exact hM.2 i hi⟩
theorem cG_fr {c c' : Nat → Nat → Int} {b : Bool} {n : Nat} {kd bo wo : Nat → Nat} (h : ∀ a k, gid b ≤ a ∧ a ≤ gid b + 3 → c' a k = c a k) (hC : cG c b n kd bo wo) : cG c' b n kd bo wo :=
  ⟨by rw [h _ _ (by omega)]; exact hC.1, by rw [h _ _ (by omega)]; exact hC.2.1, fun i hi => by rw [h _ _ (by omega), h _ _ (by omega), h _ _ (by omega)]; exact hC.2.2 i hi⟩
