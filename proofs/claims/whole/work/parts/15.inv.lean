-- WHAT HOLDS BETWEEN THE CLASS'S CELLS AND THE MODEL'S
/-- leaves of bough b in a packed number -/
def lv (x : Int) (b : Nat) : Int := ((BitVec.ofInt 32 x).toNat / 16 ^ b % 16 : Nat)
/-- the number of the green in use -/
def gid (b : Bool) : Nat := bif b then 18 else 14
/-- bits of the deaths below n that are no kings -/
def cmn (kd : Nat → Int) : Nat → Nat
  | 0 => 0
  | n + 1 => cmn kd n + (if kd n = 5 then 0 else 2 ^ n)
/-- the course at the class's cells o (deeds), o1, o2, o3 and the model's block at base B: n deaths -/
def crs (c : Nat → Nat → Int) (o o1 o2 o3 B n : Nat) : Prop :=
  ∃ D : Nat, D ≤ 40 ∧ c o 0 = D ∧ c 55 (B + 29) = D ∧
  (∀ b, b < 8 → lv (c o1 D) b = c 55 (B + 3 + b) ∧ 0 ≤ c 55 (B + 3 + b) ∧ c 55 (B + 3 + b) ≤ 9) ∧ (c o2 D = c 55 (B + 2) ∧ 0 ≤ c 55 (B + 2) ∧ c 55 (B + 2) < 2 ^ n) ∧ (c o3 D = c 55 (B + 1) ∧ 0 ≤ c 55 (B + 1) ∧ c 55 (B + 1) ≤ D) ∧
  ∀ j, j < D → (∀ b, b < 8 → lv (c o1 j) b = c 55 (B + 30 + 10 * j + 2 + b) ∧ 0 ≤ c 55 (B + 30 + 10 * j + 2 + b) ∧ c 55 (B + 30 + 10 * j + 2 + b) ≤ 9) ∧ (c o2 j = c 55 (B + 30 + 10 * j + 1) ∧ 0 ≤ c 55 (B + 30 + 10 * j + 1) ∧ c 55 (B + 30 + 10 * j + 1) < 2 ^ n) ∧ (c o3 j = c 55 (B + 30 + 10 * j) ∧ 0 ≤ c 55 (B + 30 + 10 * j) ∧ c 55 (B + 30 + 10 * j) ≤ j)
def iRow (c : Nat → Nat → Int) : Prop := ∀ r, r < 6 → c (22 + 2 * r) 0 = c 56 r ∧ -1 ≤ c 56 r ∧ c 56 r ≤ 40 ∧ ∀ k, k < 40 → c (23 + 2 * r) k = c 57 (40 * r + k)
def iTxt (c : Nat → Nat → Int) : Prop := ∀ t, t < 4 → c (34 + 2 * t) 0 = c 58 t ∧ -1 ≤ c 58 t ∧ c 58 t ≤ 60 ∧ ∀ k, k < 60 → c (35 + 2 * t) k = c 59 (60 * t + k) ∧ -128 ≤ c 59 (60 * t + k) ∧ c 59 (60 * t + k) < 128
def iFnd (c : Nat → Nat → Int) : Prop := c 0 13 = c 54 5 ∧ ∀ f, f < 6 → c 13 f = c 60 f
def iAsk (c : Nat → Nat → Int) : Prop := c 0 10 = c 54 7 ∧ c 0 11 = c 54 8 ∧ c 0 12 = c 54 9
def iGrn (c : Nat → Nat → Int) (b : Bool) (n : Nat) : Prop := n ≤ 6 ∧ c 55 0 = n ∧ c (gid b) 0 = n ∧ c (gid b) 2 = (cmn (fun i => c 55 (11 + i)) n : Nat) ∧ ∀ i, i < n → (c (gid b + 1) i = c 55 (11 + i) ∧ 0 ≤ c 55 (11 + i) ∧ c 55 (11 + i) ≤ 5) ∧ (c (gid b + 2) i = c 55 (17 + i) ∧ 0 ≤ c 55 (17 + i) ∧ c 55 (17 + i) ≤ 7) ∧ (c (gid b + 3) i = c 55 (23 + i) ∧ 0 ≤ c 55 (23 + i) ∧ c 55 (23 + i) ≤ 9)
def iKpt (c : Nat → Nat → Int) (n k : Nat) : Prop := (c (42 + 4 * k) 0 = -1 ∧ c 55 (430 * (k + 1)) = 0) ∨ (0 < n ∧ c 55 (430 * (k + 1)) = n ∧ (∀ i, i < n → c 55 (430 * (k + 1) + 11 + i) = c 55 (11 + i) ∧ c 55 (430 * (k + 1) + 17 + i) = c 55 (17 + i) ∧ c 55 (430 * (k + 1) + 23 + i) = c 55 (23 + i)) ∧ crs c (42 + 4 * k) (43 + 4 * k) (44 + 4 * k) (45 + 4 * k) (430 * (k + 1)) n)
def Inv (c : Nat → Nat → Int) (b : Bool) : Prop := iRow c ∧ iTxt c ∧ iFnd c ∧ iAsk c ∧ ∃ n : Nat, iGrn c b n ∧ crs c 7 8 9 10 0 n ∧ (∀ k, k < 3 → iKpt c n k)
/-- class and model answer alike, and keep that -/
def AgI (ex : xO) (mc lc mm lm : Nat) (as : List xV) : Prop := ∀ (d : Nat) (c : Nat → Nat → Int) (b : Bool), Inv c b → ∃ v1 v2 c1 b1 c2 b2, An ex (d + 20) mc lc (xA 0 :: as) (hp c b) (xI v1, hp c1 b1) ∧ An ex (d + 20) mm lm (xA 54 :: as) (hp c1 b1) (xI v2, hp c2 b2) ∧ w32 v1 = w32 v2 ∧ Inv c2 b2
def AgL (ex : xO) (mc lc mm lm : Nat) (as : List xV) : Prop := ∀ (d : Nat) (c : Nat → Nat → Int) (b : Bool), Inv c b → ∃ v1 v2 c1 b1 c2 b2, An ex (d + 20) mc lc (xA 0 :: as) (hp c b) (xL v1, hp c1 b1) ∧ An ex (d + 20) mm lm (xA 54 :: as) (hp c1 b1) (xL v2, hp c2 b2) ∧ w64 v1 = w64 v2 ∧ Inv c2 b2
