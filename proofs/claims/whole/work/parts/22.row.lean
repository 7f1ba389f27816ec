-- rows: making, laying, reading, tearing
theorem Ag_find {ex : xO} {mc lc mm lm : Nat} {as : List xV} {d : Nat} {c : Nat → Nat → Int} {b : Bool} (hI : Inv c b) (f : Nat) (hf : f < 6) (h1 : An ex (d + 20) mc lc (xA 0 :: as) (hp c b) (xI (-3), hp (xup (xup c 0 13 f) 13 f (c 13 f + 1)) b)) (h2 : An ex (d + 20) mm lm (xA 54 :: as) (hp (xup (xup c 0 13 f) 13 f (c 13 f + 1)) b) (xI (-3), hp (xup (xup (xup (xup c 0 13 f) 13 f (c 13 f + 1)) 54 5 f) 60 f (c 60 f + 1)) b)) :
    ∃ v1 v2 c1 b1 c2 b2, An ex (d + 20) mc lc (xA 0 :: as) (hp c b) (xI v1, hp c1 b1) ∧ An ex (d + 20) mm lm (xA 54 :: as) (hp c1 b1) (xI v2, hp c2 b2) ∧ w32 v1 = w32 v2 ∧ Inv c2 b2 :=
  ⟨-3, -3, _, b, _, b, h1, h2, rfl, Inv_find hI hf⟩
theorem Ag_same {ex : xO} {mc lc mm lm : Nat} {as : List xV} {d : Nat} {c : Nat → Nat → Int} {b : Bool} (hI : Inv c b) (v : Int) (h1 : An ex (d + 20) mc lc (xA 0 :: as) (hp c b) (xI v, hp c b)) (h2 : An ex (d + 20) mm lm (xA 54 :: as) (hp c b) (xI v, hp c b)) :
    ∃ v1 v2 c1 b1 c2 b2, An ex (d + 20) mc lc (xA 0 :: as) (hp c b) (xI v1, hp c1 b1) ∧ An ex (d + 20) mm lm (xA 54 :: as) (hp c1 b1) (xI v2, hp c2 b2) ∧ w32 v1 = w32 v2 ∧ Inv c2 b2 :=
  ⟨v, v, c, b, c, b, h1, h2, rfl, hI⟩
/-- places i .. n - 1 of cell a hold v -/
def xfl2 (c : Nat → Nat → Int) (a i n : Nat) (v : Int) : Nat → Nat → Int := xrow c a (fun j => if i ≤ j ∧ j < n then v else c a j)
theorem xfl2_e (c : Nat → Nat → Int) (a n : Nat) (v : Int) : xfl2 c a n n v = c := by
  funext x y
  simp only [xfl2, xrow]
  by_cases h : x = a
  · subst h
    rw [if_pos rfl, if_neg (by omega)]
  · rw [if_neg h]
theorem xfl2_s (c : Nat → Nat → Int) {a i n : Nat} (v : Int) (h : i < n) : xfl2 (xup c a i v) a (i + 1) n v = xfl2 c a i n v := by
  funext x y
  simp only [xfl2, xrow, xup]
  by_cases hx : x = a
  · subst hx
    simp only [if_true]
    by_cases hy : y = i
    · subst hy
      rw [if_neg (by omega), if_pos rfl, if_pos (by omega)]
    · by_cases hz : i + 1 ≤ y ∧ y < n
      · rw [if_pos hz, if_pos (by omega)]
      · rw [if_neg hz, if_neg hy, if_neg (by omega)]
  · simp [hx]
theorem xfl2_in (c : Nat → Nat → Int) {a i n j : Nat} (v : Int) (h : i ≤ j ∧ j < n) : xfl2 c a i n v a j = v := by simp [xfl2, xrow, h]
theorem xfl2_out (c : Nat → Nat → Int) {a i n a' j : Nat} (v : Int) (h : a' ≠ a ∨ ¬ (i ≤ j ∧ j < n)) : xfl2 c a i n v a' j = c a' j := by
  simp only [xfl2, xrow]
  by_cases hx : a' = a
  · subst hx
    rw [if_pos rfl, if_neg (by omega)]
  · rw [if_neg hx]
theorem l238 {ex : xO} {d : Nat} {b : Bool} {a n : Nat} {v : Int} (hs : a < 71 ∧ xS a = (1, 0, n)) (hn : n ≤ 2000) : ∀ (m i : Nat) (c : Nat → Nat → Int), i + m = n → Rn ex xt238 d 5 [xA a, xI v, xI (i : Int), xI (n : Int)] [] (hp c b) (xU, hp (xfl2 c a i n v) b) := by
  intro m
  induction m with
  | zero =>
    intro i c h
    obtain rfl : i = n := by omega
    refine Rn.run 2 rfl ?_
    refine Rn.ge2 rfl (fun e7 => ?_) (fun e7 => absurd e7 (by omega))
    exact Rn.ret rfl rfl rfl rfl (rfl) (by rw [xfl2_e])
  | succ m ih =>
    intro i c h
    refine Rn.run 2 rfl ?_
    refine Rn.ge2 rfl (fun e7 => absurd e7 (by simp only [w32] at *; omega)) (fun e7 => ?_)
    refine Rn.run 3 rfl ?_
    refine Rn.ast rfl hs i (by unfold w32; omega) (by omega) ?_
    refine Rn.run 2 rfl ?_
    rw [← xfl2_s c v (show i < n by omega)]
    exact ih (i + 1) _ (by omega)
theorem c238 {ex : xO} {d : Nat} {c : Nat → Nat → Int} {b : Bool} {a n : Nat} {v : Int} (hs : a < 71 ∧ xS a = (1, 0, n)) (hn : n ≤ 2000) : An ex d 238 4 [xA a, xI v] (hp c b) (xU, hp (xfl2 c a 0 n v) b) := by
  refine Rn.run 3 rfl ?_
  refine Rn.A rfl (q := (4, [xA a, xI v, xI 0, xU], [xI (n : Int)])) (by simp only [xstA, hs.2]; simp [hs.1]; rfl) ?_
  refine Rn.run 1 rfl ?_
  exact l238 hs hn n 0 c (by omega)
theorem c48 {ex : xO} {d : Nat} {c : Nat → Nat → Int} {b : Bool} {k : Nat} {n : Int} (hk : k < 6) (hn : w32 n = n) (h0 : 0 ≤ n) (h1 : n ≤ 40) : An ex (d + 1) 48 2 [xA (22 + 2 * k), xI n] (hp c b) (xU, hp (xfl2 (xup c (22 + 2 * k) 0 n) (23 + 2 * k) 0 40 0) b) := by
  refine Rn.run 6 rfl ?_
  rw [show (if w32 0 < w32 (if w32 40 < w32 n then 40 else n) then (if w32 40 < w32 n then 40 else n) else 0) = n by rw [if_neg (show ¬ w32 40 < w32 n by rw [hn]; simp only [w32]; omega)]; split <;> simp only [w32] at * <;> omega]
  refine Rn.putI rfl (xS_row hk) ?_
  refine Rn.run 1 rfl ?_
  refine Rn.getR rfl (xS_row hk) (xR_row hk).2 ?_
  refine Rn.run 1 rfl ?_
  refine Rn.call rfl rfl rfl rfl rfl (c238 (xS_pl hk) (by decide)) ?_
  exact Rn.ret rfl rfl rfl rfl (rfl) (rfl)
theorem l142 {ex : xO} {d : Nat} {b : Bool} {k : Nat} {n : Int} (hk : k < 6) : ∀ (m i : Nat) (c : Nat → Nat → Int), i + m = 40 → Rn ex xt142 d 34 [xA 54, xI (k : Int), xI n, xI (i : Int)] [] (hp c b) (xI n, hp (xfl2 c 57 (40 * k + i) (40 * k + 40) 0) b) := by
  intro m
  induction m with
  | zero =>
    intro i c h
    obtain rfl : i = 40 := by omega
    refine Rn.run 2 rfl ?_
    refine Rn.ge2 rfl (fun e37 => ?_) (fun e37 => absurd e37 (by decide))
    refine Rn.run 1 rfl ?_
    exact Rn.ret rfl rfl rfl rfl (rfl) (by rw [xfl2_e])
  | succ m ih =>
    intro i c h
    refine Rn.run 2 rfl ?_
    refine Rn.ge2 rfl (fun e37 => absurd e37 (by simp only [w32] at *; omega)) (fun e37 => ?_)
    refine Rn.run 8 rfl ?_
    refine Rn.ast rfl ⟨by decide, rfl⟩ (40 * k + i) (by simp only [w32]; omega) (by omega) ?_
    refine Rn.run 2 rfl ?_
    rw [← xfl2_s c 0 (show 40 * k + i < 40 * k + 40 by omega)]
    exact ih (i + 1) _ (by omega)
theorem g_row {ex : xO} (a1 a2 : Int) (h1 : w32 a1 = a1) (h2 : w32 a2 = a2) : AgI ex 57 3 142 4 [xI a1, xI a2] := by
  intro d c b hI
  by_cases hr : (0 ≤ a1 ∧ a1 < 6) ∧ a2 ≤ 40
  · obtain ⟨k, hk, rfl⟩ : ∃ k : Nat, k < 6 ∧ a1 = (k : Int) := ⟨a1.toNat, by omega, by omega⟩
    by_cases hn : a2 < 0
    · refine Ag_find hI 5 (by decide) ?_ ?_
      · show Rn ex xt57 (d + 20) 0 [xA 0, xI (k : Int), xI a2] [] (hp c b) _
        refine Rn.run 2 rfl ?_
        refine Rn.call rfl rfl rfl rfl rfl (c100) ?_
        refine Rn.eqB rfl (fun e6 => absurd e6 (by exact fun h => h (by simp only [w32] at *; omega))) (fun e6 => ?_)
        refine Rn.run 2 rfl ?_
        refine Rn.le2 rfl (fun e12 => ?_) (fun e12 => absurd e12 (by simp only [w32] at *; omega))
        refine Rn.run 1 rfl ?_
        refine Rn.ge0 rfl (fun e18 => absurd e18 (by omega)) (fun e18 => ?_)
        refine Rn.run 2 rfl ?_
        refine Rn.call rfl rfl rfl rfl rfl (c101 5 rfl (by decide)) ?_
        exact Rn.ret rfl rfl rfl rfl (rfl) (rfl)
      · show Rn ex xt142 (d + 20) 0 [xA 54, xI (k : Int), xI a2, xU] [] (hp (xup (xup c 0 13 5) 13 5 (c 13 5 + 1)) b) _
        refine Rn.run 1 rfl ?_
        refine Rn.call rfl rfl rfl rfl rfl (c138) ?_
        refine Rn.eqB rfl (fun e4 => absurd e4 (by exact fun h => h (by simp only [w32] at *; omega))) (fun e4 => ?_)
        refine Rn.run 2 rfl ?_
        refine Rn.le2 rfl (fun e10 => ?_) (fun e10 => absurd e10 (by simp only [w32] at *; omega))
        refine Rn.run 1 rfl ?_
        refine Rn.ge0 rfl (fun e16 => absurd e16 (by omega)) (fun e16 => ?_)
        refine Rn.run 2 rfl ?_
        refine Rn.call rfl rfl rfl rfl rfl (c134 5 rfl (by decide)) ?_
        exact Rn.ret rfl rfl rfl rfl (rfl) (rfl)
    · refine ⟨a2, a2, xfl2 (xup c (22 + 2 * k) 0 a2) (23 + 2 * k) 0 40 0, b, xfl2 (xup (xfl2 (xup c (22 + 2 * k) 0 a2) (23 + 2 * k) 0 40 0) 56 k a2) 57 (40 * k + 0) (40 * k + 40) 0, b, ?_, ?_, rfl, ?_⟩
      · show Rn ex xt57 (d + 20) 0 [xA 0, xI (k : Int), xI a2] [] (hp c b) _
        refine Rn.run 2 rfl ?_
        refine Rn.call rfl rfl rfl rfl rfl (c100) ?_
        refine Rn.eqB rfl (fun e6 => absurd e6 (by exact fun h => h (by simp only [w32] at *; omega))) (fun e6 => ?_)
        refine Rn.run 2 rfl ?_
        refine Rn.le2 rfl (fun e12 => ?_) (fun e12 => absurd e12 (by simp only [w32] at *; omega))
        refine Rn.run 1 rfl ?_
        refine Rn.ge0 rfl (fun e18 => ?_) (fun e18 => absurd e18 (by omega))
        refine Rn.run 3 rfl ?_
        refine Rn.aald rfl ⟨by decide, rfl, by decide, by decide⟩ k h1 (by omega) (xR_row hk).1 ?_
        refine Rn.run 1 rfl ?_
        refine Rn.callV rfl (by have := xS_row hk; omega) rfl rfl rfl (c48 hk h2 (by omega) (by omega)) ?_
        refine Rn.run 1 rfl ?_
        exact Rn.ret rfl rfl rfl rfl (rfl) (rfl)
      · show Rn ex xt142 (d + 20) 0 [xA 54, xI (k : Int), xI a2, xU] [] (hp (xfl2 (xup c (22 + 2 * k) 0 a2) (23 + 2 * k) 0 40 0) b) _
        refine Rn.run 1 rfl ?_
        refine Rn.call rfl rfl rfl rfl rfl (c138) ?_
        refine Rn.eqB rfl (fun e4 => absurd e4 (by exact fun h => h (by simp only [w32] at *; omega))) (fun e4 => ?_)
        refine Rn.run 2 rfl ?_
        refine Rn.le2 rfl (fun e10 => ?_) (fun e10 => absurd e10 (by simp only [w32] at *; omega))
        refine Rn.run 1 rfl ?_
        refine Rn.ge0 rfl (fun e16 => ?_) (fun e16 => absurd e16 (by omega))
        refine Rn.run 4 rfl ?_
        refine Rn.ast rfl ⟨by decide, rfl⟩ (k) h1 (by omega) ?_
        refine Rn.run 2 rfl ?_
        exact l142 hk 40 0 _ (by omega)
      · have hg := gid_in b
        have key : ∀ a j, ¬ ((a = 22 + 2 * k ∧ j = 0) ∨ (a = 23 + 2 * k ∧ j < 40) ∨ (a = 56 ∧ j = k) ∨ (a = 57 ∧ 40 * k ≤ j ∧ j < 40 * k + 40)) → xfl2 (xup (xfl2 (xup c (22 + 2 * k) 0 a2) (23 + 2 * k) 0 40 0) 56 k a2) 57 (40 * k + 0) (40 * k + 40) 0 a j = c a j := by
          intro a j h
          rw [xfl2_out _ _ (by omega), xup_n _ _ (by omega), xfl2_out _ _ (by omega), xup_n _ _ (by omega)]
        refine Inv_mk (fun r hr => ?_) (iTxt_fr (fun a j h => key a j (by omega)) hI.2.1) (iFnd_fr (fun a j h => key a j (by omega)) hI.2.2.1) (iAsk_fr (fun a j h => key a j (by omega)) hI.2.2.2.1) (iG_fr (fun a j h => key a j (by omega)) hI.2.2.2.2)
        by_cases e : r = k
        · subst e
          refine ⟨?_, ?_, ?_, fun j hj => ?_⟩
          · rw [xfl2_out _ _ (by omega), xup_n _ _ (by omega), xfl2_out _ _ (by omega), xup_s, xfl2_out _ _ (by omega), xup_s]
          · rw [xfl2_out _ _ (by omega), xup_s]; omega
          · rw [xfl2_out _ _ (by omega), xup_s]; omega
          · rw [xfl2_out _ _ (by omega), xup_n _ _ (by omega), xfl2_in _ _ (by omega), xfl2_in _ _ (by omega)]
        · obtain ⟨s1, s2, s3, s4⟩ := hI.1 r hr
          rw [key _ _ (by omega), key _ _ (by omega)]
          refine ⟨s1, s2, s3, fun j hj => ?_⟩
          rw [key _ _ (by omega), key _ _ (by omega)]
          exact s4 j hj
  · refine Ag_same hI (-1) ?_ ?_
    · show Rn ex xt57 (d + 20) 0 [xA 0, xI a1, xI a2] [] (hp c b) _
      refine Rn.run 2 rfl ?_
      refine Rn.call rfl rfl rfl rfl rfl (c100) ?_
      refine Rn.eqB rfl (fun e6 => ?_) (fun e6 => ?_)
      · refine Rn.run 1 rfl ?_
        exact Rn.ret rfl rfl rfl rfl (rfl) (rfl)
      · refine Rn.run 2 rfl ?_
        refine Rn.le2 rfl (fun e12 => absurd e12 (by simp only [w32] at *; omega)) (fun e12 => ?_)
        refine Rn.run 1 rfl ?_
        exact Rn.ret rfl rfl rfl rfl (rfl) (rfl)
    · show Rn ex xt142 (d + 20) 0 [xA 54, xI a1, xI a2, xU] [] (hp c b) _
      refine Rn.run 1 rfl ?_
      refine Rn.call rfl rfl rfl rfl rfl (c138) ?_
      refine Rn.eqB rfl (fun e4 => ?_) (fun e4 => ?_)
      · refine Rn.run 1 rfl ?_
        exact Rn.ret rfl rfl rfl rfl (rfl) (rfl)
      · refine Rn.run 2 rfl ?_
        refine Rn.le2 rfl (fun e10 => absurd e10 (by simp only [w32] at *; omega)) (fun e10 => ?_)
        refine Rn.run 1 rfl ?_
        exact Rn.ret rfl rfl rfl rfl (rfl) (rfl)
