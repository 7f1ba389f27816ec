-- copy
/-- places i .. n - 1 of cell a hold f -/
def xfl3 (c : Nat → Nat → Int) (a i n : Nat) (f : Nat → Int) : Nat → Nat → Int := xrow c a (fun j => if i ≤ j ∧ j < n then f j else c a j)
theorem xfl3_e (c : Nat → Nat → Int) (a n : Nat) (f : Nat → Int) : xfl3 c a n n f = c := by
  funext x y
  simp only [xfl3, xrow]
  by_cases h : x = a
  · subst h
    rw [if_pos rfl, if_neg (by omega)]
  · rw [if_neg h]
theorem xfl3_s (c : Nat → Nat → Int) {a i n : Nat} (f : Nat → Int) (h : i < n) : xfl3 (xup c a i (f i)) a (i + 1) n f = xfl3 c a i n f := by
  funext x y
  simp only [xfl3, xrow, xup]
  by_cases hx : x = a
  · subst hx
    simp only [if_true]
    by_cases hy : y = i
    · subst hy
      rw [if_neg (by omega), if_pos rfl, if_pos (by omega)]
    · by_cases hz : i + 1 ≤ y ∧ y < n
      · rw [if_pos hz, if_pos (by omega)]
      · rw [if_neg hz, if_neg hy, if_neg (by omega)]
  · simp [hx]
theorem xfl3_in (c : Nat → Nat → Int) {a i n j : Nat} (f : Nat → Int) (h : i ≤ j ∧ j < n) : xfl3 c a i n f a j = f j := by simp [xfl3, xrow, h]
theorem xfl3_out (c : Nat → Nat → Int) {a i n a' j : Nat} (f : Nat → Int) (h : a' ≠ a ∨ ¬ (i ≤ j ∧ j < n)) : xfl3 c a i n f a' j = c a' j := by
  simp only [xfl3, xrow]
  by_cases hx : a' = a
  · subst hx
    rw [if_pos rfl, if_neg (by omega)]
  · rw [if_neg hx]
theorem c49 {ex : xO} {d : Nat} {c : Nat → Nat → Int} {b : Bool} {k : Nat} {i n : Int} (hk : k < 6) (hi : w32 i = i) (hn : w32 n = n) (h0 : 0 ≤ n) (hs : 0 ≤ c (22 + 2 * k) 0 ∧ c (22 + 2 * k) 0 ≤ 40) : An ex d 49 3 [xA (22 + 2 * k), xI i, xI n] (hp c b) (xI (if 0 ≤ i ∧ i + n ≤ c (22 + 2 * k) 0 then 1 else 0), hp c b) := by
  refine Rn.run 1 rfl ?_
  refine Rn.lt0 rfl (fun e1 => ?_) (fun e1 => ?_)
  · refine Rn.run 1 rfl ?_
    refine Rn.ret rfl rfl rfl rfl ?_ rfl
    simp only [w32] at *
    first | rw [if_neg (by omega)] | rw [if_pos (by omega)]
  · refine Rn.run 1 rfl ?_
    refine Rn.lt0 rfl (fun e5 => ?_) (fun e5 => ?_)
    · refine Rn.run 1 rfl ?_
      refine Rn.ret rfl rfl rfl rfl ?_ rfl
      simp only [w32] at *
      first | rw [if_neg (by omega)] | rw [if_pos (by omega)]
    · refine Rn.run 2 rfl ?_
      refine Rn.getI rfl (xS_row hk) ?_
      refine Rn.gt2 rfl (fun e13 => ?_) (fun e13 => ?_)
      · refine Rn.run 1 rfl ?_
        refine Rn.ret rfl rfl rfl rfl ?_ rfl
        simp only [w32] at *
        first | rw [if_neg (by omega)] | rw [if_pos (by omega)]
      · refine Rn.run 2 rfl ?_
        refine Rn.getI rfl (xS_row hk) ?_
        refine Rn.run 2 rfl ?_
        refine Rn.gt2 rfl (fun e23 => ?_) (fun e23 => ?_)
        · refine Rn.run 1 rfl ?_
          refine Rn.ret rfl rfl rfl rfl ?_ rfl
          simp only [w32] at *
          first | rw [if_neg (by omega)] | rw [if_pos (by omega)]
        · refine Rn.run 2 rfl ?_
          refine Rn.ret rfl rfl rfl rfl ?_ rfl
          simp only [w32] at *
          first | rw [if_neg (by omega)] | rw [if_pos (by omega)]
theorem l146a {ex : xO} {d : Nat} {b : Bool} {k k2 i j n : Nat} {g : Nat → Int} {o : xV × xH} (hk : k < 6) (hin : i + n ≤ 40) : ∀ (m y : Nat) (c : Nat → Nat → Int), y + m = n → (∀ z, c 57 z = g z) → Rn ex xt146 d 138 [xA 54, xI (k : Int), xI (i : Int), xI (k2 : Int), xI (j : Int), xI (n : Int), xI (n : Int)] [] (hp (xfl3 c 61 y n (fun z => g (40 * k + i + z))) b) o → Rn ex xt146 d 104 [xA 54, xI (k : Int), xI (i : Int), xI (k2 : Int), xI (j : Int), xI (n : Int), xI (y : Int)] [] (hp c b) o := by
  intro m
  induction m with
  | zero =>
    intro y c h hg kk
    obtain rfl : y = n := by omega
    rw [xfl3_e] at kk
    refine Rn.run 2 rfl ?_
    refine Rn.ge2 rfl (fun e108 => ?_) (fun e108 => absurd e108 (by omega))
    exact kk
  | succ m ih =>
    intro y c h hg kk
    refine Rn.run 2 rfl ?_
    refine Rn.ge2 rfl (fun e108 => absurd e108 (by simp only [w32] at *; omega)) (fun e108 => ?_)
    refine Rn.run 12 rfl ?_
    refine Rn.ald rfl ⟨by decide, rfl⟩ (40 * k + i + y) (by simp only [w32]; omega) (by omega) ?_
    refine Rn.ast rfl ⟨by decide, rfl⟩ (y) (by simp only [w32]; omega) (by omega) ?_
    refine Rn.run 2 rfl ?_
    refine ih (y + 1) _ (by omega) (fun z => ?_) ?_
    · rw [xup_n _ _ (by omega)]; exact hg z
    · rw [hg, xfl3_s c (fun z => g (40 * k + i + z)) (show y < n by omega)]; exact kk
theorem l146b {ex : xO} {d : Nat} {b : Bool} {k k2 i j n : Nat} {g : Nat → Int} (hk : k2 < 6) (hin : j + n ≤ 40) : ∀ (m y : Nat) (c : Nat → Nat → Int), y + m = n → (∀ z, c 61 z = g z) → Rn ex xt146 d 141 [xA 54, xI (k : Int), xI (i : Int), xI (k2 : Int), xI (j : Int), xI (n : Int), xI (y : Int)] [] (hp c b) (xI 1, hp (xfl3 c 57 (40 * k2 + j + y) (40 * k2 + j + n) (fun z => g (z - (40 * k2 + j)))) b) := by
  intro m
  induction m with
  | zero =>
    intro y c h hg
    obtain rfl : y = n := by omega
    refine Rn.run 2 rfl ?_
    refine Rn.ge2 rfl (fun e145 => ?_) (fun e145 => absurd e145 (by omega))
    refine Rn.run 1 rfl ?_
    exact Rn.ret rfl rfl rfl rfl (rfl) (by rw [xfl3_e])
  | succ m ih =>
    intro y c h hg
    have e1 : g y = (fun z => g (z - (40 * k2 + j))) (40 * k2 + j + y) := by show g y = g (40 * k2 + j + y - (40 * k2 + j)); congr 1; omega
    refine Rn.run 2 rfl ?_
    refine Rn.ge2 rfl (fun e145 => absurd e145 (by simp only [w32] at *; omega)) (fun e145 => ?_)
    refine Rn.run 12 rfl ?_
    refine Rn.ald rfl ⟨by decide, rfl⟩ (y) (by simp only [w32]; omega) (by omega) ?_
    refine Rn.ast rfl ⟨by decide, rfl⟩ (40 * k2 + j + y) (by simp only [w32]; omega) (by omega) ?_
    refine Rn.run 2 rfl ?_
    rw [hg, e1, ← xfl3_s c (fun z => g (z - (40 * k2 + j))) (show 40 * k2 + j + y < 40 * k2 + j + n by omega)]
    exact ih (y + 1) _ (by omega) (fun z => by rw [xup_n _ _ (by omega)]; exact hg z)
