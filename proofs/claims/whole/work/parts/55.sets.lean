-- lowest terms; sets, surely
theorem x_cmpeq {a b : Int} : w32 (xcmp a b) = 0 ↔ w64 a = w64 b := by
  unfold xcmp
  split
  · simp [w32]; omega
  · split
    · simp [w32]; omega
    · simp [w32]; omega
theorem x_64 {n : Nat} (h : n < 9223372036854775808) : w64 (n : Int) = n := by unfold w64; omega
theorem x_rm64 {a b : Nat} (ha : a < 9223372036854775808) (hb : b < 9223372036854775808) : Int.tmod (w64 (a : Int)) (w64 (b : Int)) = ((a % b : Nat) : Int) := by
  rw [x_64 ha, x_64 hb, Int.tmod_eq_emod_of_nonneg (by omega)]
  rfl
theorem x_qu64 {a b : Nat} (ha : a < 9223372036854775808) (hb : b < 9223372036854775808) : Int.tdiv (w64 (a : Int)) (w64 (b : Int)) = ((a / b : Nat) : Int) := by
  rw [x_64 ha, x_64 hb, Int.tdiv_eq_ediv_of_nonneg (by omega)]
  rfl
theorem x_nz {b : Nat} (h0 : b ≠ 0) (hb : b < 9223372036854775808) : w64 (b : Int) ≠ 0 := by
  rw [x_64 hb]
  omega
theorem x_eqz {b : Nat} (hb : b < 9223372036854775808) : w32 (xcmp (b : Int) 0) = 0 ↔ b = 0 := by
  rw [x_cmpeq, x_64 hb, show w64 0 = 0 from rfl]
  omega
theorem gcd_st (a b : Nat) : Nat.gcd b (a % b) = Nat.gcd a b := by
  rw [Nat.gcd_comm b (a % b), ← Nat.gcd_rec, Nat.gcd_comm]
theorem s104 {ex : xO} {d : Nat} {h : xH} {o : xV × xH} {a b k : Nat} {u v : xV} (hk : k < 100) (h0 : b ≠ 0) (ha : a < 9223372036854775808) (hb : b < 9223372036854775808) (kk : Rn ex xt104 d 3 [xL (b : Int), xU, xL ((a % b : Nat) : Int), xU, xI ((k + 1 : Nat) : Int), xL ((a % b : Nat) : Int), xU] [] h o) : Rn ex xt104 d 3 [xL (a : Int), xU, xL (b : Int), xU, xI (k : Int), u, v] [] h o := by
  refine Rn.run 2 (ls' := [_, _, _, _, _, _, _]) (st' := [_, _]) rfl ?_
  refine Rn.ge2 rfl (fun e7 => absurd e7 (by exact fun h => absurd ((y_ge (n := 100) (by omega) (by omega)).mp h) (by omega))) (fun e7 => ?_)
  refine Rn.run 3 (ls' := [_, _, _, _, _, _, _]) (st' := [_]) rfl ?_
  refine Rn.eq0 rfl (fun e13 => absurd e13 (by exact fun h => h0 ((x_eqz hb).mp h))) (fun e13 => ?_)
  refine Rn.run 2 (ls' := [_, _, _, _, _, _, _]) (st' := [_, _]) rfl ?_
  refine Rn.lrem rfl (x_nz h0 hb) ?_
  rw [x_rm64 ha hb]
  refine Rn.run 7 (ls' := [_, _, _, _, _, _, _]) (st' := []) rfl ?_
  exact kk
theorem e104 {ex : xO} {d : Nat} {h : xH} {a k : Nat} {u v : xV} : Rn ex xt104 d 3 [xL (a : Int), xU, xL ((0 : Nat) : Int), xU, xI (k : Int), u, v] [] h (xL (a : Int), h) := by
  refine Rn.run 2 (ls' := [_, _, _, _, _, _, _]) (st' := [_, _]) rfl ?_
  refine Rn.ge2 rfl (fun e7 => ?_) (fun e7 => ?_)
  · refine Rn.run 1 (ls' := [_, _, _, _, _, _, _]) (st' := [_]) rfl ?_
    exact Rn.ret rfl rfl rfl rfl rfl rfl
  · refine Rn.run 3 (ls' := [_, _, _, _, _, _, _]) (st' := [_]) rfl ?_
    refine Rn.eq0 rfl (fun e13 => ?_) (fun e13 => absurd e13 (by exact fun h => h (by decide)))
    refine Rn.run 1 (ls' := [_, _, _, _, _, _, _]) (st' := [_]) rfl ?_
    exact Rn.ret rfl rfl rfl rfl rfl rfl
theorem l104 {ex : xO} {d : Nat} {h : xH} : ∀ (m a b k : Nat) (u v : xV), b < 2 ^ m → k + 2 * m + 1 ≤ 100 → a < 9223372036854775808 → b < 9223372036854775808 → Rn ex xt104 d 3 [xL (a : Int), xU, xL (b : Int), xU, xI (k : Int), u, v] [] h (xL (Nat.gcd a b : Nat), h) := by
  intro m
  induction m with
  | zero =>
    intro a b k u v h1 h2 ha hb
    obtain rfl : b = 0 := by simpa using h1
    rw [Nat.gcd_zero_right]
    exact e104
  | succ m ih =>
    intro a b k u v h1 h2 ha hb
    by_cases h0 : b = 0
    · subst h0
      rw [Nat.gcd_zero_right]
      exact e104
    · have hr : a % b < b := Nat.mod_lt _ (by omega)
      refine s104 (by omega) h0 ha hb ?_
      rw [← gcd_st a b]
      by_cases h3 : a % b = 0
      · rw [h3, Nat.gcd_zero_right]
        exact e104
      · refine s104 (by omega) h3 hb (by omega) ?_
        rw [← gcd_st b (a % b)]
        have hr2 : b % (a % b) < a % b := Nat.mod_lt _ (by omega)
        have hle : b % (a % b) + a % b ≤ b := by
          have e := Nat.mod_add_div b (a % b)
          have hq : 1 ≤ b / (a % b) := Nat.div_pos (by omega) (by omega)
          have := Nat.mul_le_mul_left (a % b) hq
          omega
        have hp : 2 ^ (m + 1) = 2 ^ m + 2 ^ m := by rw [Nat.pow_succ]; omega
        exact ih (a % b) (b % (a % b)) (k + 1 + 1) _ _ (by omega) (by omega) (by omega) (by omega)
theorem c104 {ex : xO} {d : Nat} {h : xH} {a b : Nat} (ha : a < 9223372036854775808) (hb : b < 4194304) : An ex d 104 7 [xL (a : Int), xL (b : Int)] h (xL (Nat.gcd a b : Nat), h) := by
  refine Rn.run 2 (ls' := [_, _, _, _, _, _, _]) (st' := []) rfl ?_
  exact l104 22 a b 0 _ _ hb (by decide) ha (by omega)
theorem c103 {ex : xO} {d : Nat} {c : Nat → Nat → Int} {b : Bool} {u l : Nat} (hu : u < 9223372036854775808) (h0 : 0 < l) (hl : l < 4194304) : An ex (d + 1) 103 7 [xA 0, xL (u : Int), xL (l : Int)] (hp c b) (xU, hp (xup (xup c 0 11 ((u / Nat.gcd u l : Nat) : Int)) 0 12 ((l / Nat.gcd u l : Nat) : Int)) b) := by
  have g0 : 0 < Nat.gcd u l := Nat.gcd_pos_of_pos_right _ h0
  have g1 : Nat.gcd u l ≤ l := Nat.gcd_le_right _ h0
  have g2 : Nat.gcd u l < 9223372036854775808 := by omega
  have gn : ¬ w32 (xcmp (Nat.gcd u l : Nat) 0) ≤ 0 := Int.not_le.mpr (x_cmpgt.mpr (by rw [x_64 g2]; show (0 : Int) < _; omega))
  refine Rn.run 2 (ls' := [_, _, _, _, _, _, _]) (st' := [_, _]) rfl ?_
  refine Rn.call rfl rfl rfl rfl rfl (c104 hu hl) ?_
  refine Rn.run 5 (ls' := [_, _, _, _, _, _, _]) (st' := [_, _]) rfl ?_
  refine Rn.le0 rfl (fun e12 => absurd e12 (by exact gn)) (fun e12 => ?_)
  refine Rn.run 2 (ls' := [_, _, _, _, _, _, _]) (st' := [_, _, _]) rfl ?_
  refine Rn.ldiv rfl (x_nz (by omega) g2) ?_
  rw [x_qu64 hu g2]
  refine Rn.run 6 (ls' := [_, _, _, _, _, _, _]) (st' := [_, _]) rfl ?_
  refine Rn.le0 rfl (fun e31 => absurd e31 (by exact gn)) (fun e31 => ?_)
  refine Rn.run 2 (ls' := [_, _, _, _, _, _, _]) (st' := [_, _, _]) rfl ?_
  refine Rn.ldiv rfl (x_nz (by omega) g2) ?_
  rw [x_qu64 (by omega) g2]
  refine Rn.run 2 (ls' := [_, _, _, _, _, _, _]) (st' := []) rfl ?_
  exact Rn.ret rfl rfl rfl rfl rfl rfl
theorem s136 {ex : xO} {d : Nat} {c : Nat → Nat → Int} {b : Bool} {o : xV × xH} {a z : Nat} {U D : Int} {u v : xV} (h0 : z ≠ 0) (ha : a < 9223372036854775808) (hb : z < 9223372036854775808) (kk : Rn ex xt136 d 6 [xA 54, xL U, xU, xL D, xU, xL (z : Nat), xU, xL (a % z : Nat), xU, xL ((a % z : Nat) : Int), xU] [] (hp c b) o) : Rn ex xt136 d 6 [xA 54, xL U, xU, xL D, xU, xL (a : Nat), xU, xL (z : Nat), xU, u, v] [] (hp c b) o := by
  refine Rn.run 3 (ls' := [_, _, _, _, _, _, _, _, _, _, _]) (st' := [_]) rfl ?_
  refine Rn.eq0 rfl (fun e10 => absurd e10 (by exact fun h => h0 ((x_eqz hb).mp h))) (fun e10 => ?_)
  refine Rn.run 2 (ls' := [_, _, _, _, _, _, _, _, _, _, _]) (st' := [_, _]) rfl ?_
  refine Rn.lrem rfl (x_nz h0 hb) ?_
  rw [x_rm64 ha hb]
  refine Rn.run 6 (ls' := [_, _, _, _, _, _, _, _, _, _, _]) (st' := []) rfl ?_
  exact kk
theorem l136 {ex : xO} {d : Nat} {c : Nat → Nat → Int} {b : Bool} {o : xV × xH} {U D : Int} : ∀ (m a z : Nat) (u v : xV), z ≤ m → a < 9223372036854775808 → z < 9223372036854775808 → (∀ u v, Rn ex xt136 d 6 [xA 54, xL U, xU, xL D, xU, xL (Nat.gcd a z : Nat), xU, xL (0 : Nat), xU, u, v] [] (hp c b) o) → Rn ex xt136 d 6 [xA 54, xL U, xU, xL D, xU, xL (a : Nat), xU, xL (z : Nat), xU, u, v] [] (hp c b) o := by
  intro m
  induction m with
  | zero =>
    intro a z u v h1 ha hb kk
    obtain rfl : z = 0 := by omega
    rw [Nat.gcd_zero_right] at kk
    exact kk u v
  | succ m ih =>
    intro a z u v h1 ha hb kk
    by_cases h0 : z = 0
    · subst h0
      rw [Nat.gcd_zero_right] at kk
      exact kk u v
    · have hr : a % z < z := Nat.mod_lt _ (by omega)
      refine s136 h0 ha hb ?_
      refine ih z (a % z) _ _ (by omega) hb (by omega) ?_
      rw [gcd_st a z]
      exact kk
theorem c136 {ex : xO} {d : Nat} {c : Nat → Nat → Int} {b : Bool} {u l : Nat} (hu : u < 9223372036854775808) (h0 : 0 < l) (hl : l < 9223372036854775808) : An ex d 136 11 [xA 54, xL (u : Int), xL (l : Int)] (hp c b) (xI 1, hp (xup (xup c 54 8 ((u / Nat.gcd u l : Nat) : Int)) 54 9 ((l / Nat.gcd u l : Nat) : Int)) b) := by
  have g0 : 0 < Nat.gcd u l := Nat.gcd_pos_of_pos_right _ h0
  have g1 : Nat.gcd u l ≤ l := Nat.gcd_le_right _ h0
  have g2 : Nat.gcd u l < 9223372036854775808 := by omega
  refine Rn.run 4 (ls' := [_, _, _, _, _, _, _, _, _, _, _]) (st' := []) rfl ?_
  refine l136 l u l _ _ (Nat.le_refl l) hu hl (fun w1 w2 => ?_)
  refine Rn.run 3 (ls' := [_, _, _, _, _, _, _, _, _, _, _]) (st' := [_]) rfl ?_
  refine Rn.eq0 rfl (fun e10 => ?_) (fun e10 => absurd e10 (by exact fun h => h (by decide)))
  refine Rn.run 3 (ls' := [_, _, _, _, _, _, _, _, _, _, _]) (st' := [_, _, _]) rfl ?_
  refine Rn.ldiv rfl (x_nz (by omega) g2) ?_
  rw [x_qu64 hu g2]
  refine Rn.run 4 (ls' := [_, _, _, _, _, _, _, _, _, _, _]) (st' := [_, _, _]) rfl ?_
  refine Rn.ldiv rfl (x_nz (by omega) g2) ?_
  rw [x_qu64 hl g2]
  refine Rn.run 2 (ls' := [_, _, _, _, _, _, _, _, _, _, _]) (st' := [_]) rfl ?_
  exact Rn.ret rfl rfl rfl rfl rfl rfl
theorem Inv_ask3 {c c' : Nat → Nat → Int} {b : Bool} (hI : Inv c b) (fr : ∀ a k, ¬ scr a → ¬ (a = 0 ∧ 10 ≤ k ∧ k ≤ 12) → ¬ (a = 54 ∧ 7 ≤ k ∧ k ≤ 9) → c' a k = c a k) (h1 : c' 0 10 = c' 54 7) (h2 : c' 0 11 = c' 54 8) (h3 : c' 0 12 = c' 54 9) : Inv c' b := by
  have hg := gid_in b
  exact Inv_mk (iRow_fr (fun a k ha => fr a k (by unfold scr; omega) (by omega) (by omega)) hI.1) (iTxt_fr (fun a k ha => fr a k (by unfold scr; omega) (by omega) (by omega)) hI.2.1) (iFnd_fr (fun a k ha => fr a k (by unfold scr; omega) (by omega) (by omega)) hI.2.2.1) ⟨h1, h2, h3⟩ (iG_fr (fun a k ha => fr a k (by unfold scr; omega) (by omega) (by omega)) hI.2.2.2.2)
/-- a loop downwards -/
def xdn {σ : Type} (f : Nat → σ → σ) : Nat → σ → σ
  | 0, s => s
  | m + 1, s => xdn f m (f m s)
def fc (p : Nat → Bool) (i a : Nat) : Nat := a + (if p i = true then 1 else 0)
def ff (p : Nat → Bool) (i : Nat) (f : Int) : Int := if p i = true then (i : Int) else f
def fe (p : Nat → Bool) (i e : Nat) : Nat := if p i = true then e &&& i else e
def fo (p : Nat → Bool) (i o : Nat) : Nat := if p i = true then o ^^^ (o &&& i) else o
def fy (p : Nat → Bool) (i y : Nat) : Nat := if p i = true then 1 else y
theorem xdn_cnt (p : Nat → Bool) : ∀ m a, xdn (fc p) m a = a + cnt p m := by
  intro m
  induction m with
  | zero => intro a; rfl
  | succ m ih =>
    intro a
    rw [xdn, ih, cnt_s]
    unfold fc
    omega
theorem xit_cnt (p : Nat → Bool) (m : Nat) : xit (fc p) m 0 0 = cnt p m := rfl
theorem cnt_le (p : Nat → Bool) (m : Nat) : cnt p m ≤ m := by
  have := cnt_not p m
  omega
theorem fy_0 (p : Nat → Bool) : ∀ m i y a, (y = 0 ↔ a = 0) → (xit (fy p) m i y = 0 ↔ xit (fc p) m i a = 0) := by
  intro m
  induction m with
  | zero => intro i y a h; exact h
  | succ m ih =>
    intro i y a h
    refine ih (i + 1) _ _ ?_
    unfold fy fc
    split <;> omega
theorem fe_64 {p : Nat → Bool} {i e : Nat} (h : e < 64) : fe p i e < 64 := by
  unfold fe
  split
  · exact and_64 h
  · exact h
theorem fo_64 {p : Nat → Bool} {i o : Nat} (h : o < 64) : fo p i o < 64 := by
  unfold fo
  split
  · exact Nat.xor_lt_two_pow (n := 6) h (and_64 h)
  · exact h
theorem xit_leB {f : Nat → Nat → Nat} {K N : Nat} (h : ∀ i a, i < N → f i a ≤ a + K) : ∀ m i a, i + m ≤ N → xit f m i a ≤ a + K * m := by
  intro m
  induction m with
  | zero => intro i a _; simp [xit]
  | succ m ih =>
    intro i a hi
    have := ih (i + 1) (f i a) (by omega)
    have h2 := h i a (by omega)
    rw [xit, Nat.mul_succ]
    omega
theorem wsum_le {n : Nat} {kd bo wo : Nat → Nat} (ho : gok n kd bo wo) (s : Nat) : wsum wo n s ≤ 54 := by
  have h1 := xit_leB (f := fwo wo s) (K := 9) (N := n) (fun i a hi => by have := ho.2 i hi; unfold fwo; split <;> omega) n 0 0 (by omega)
  have := ho.1
  unfold wsum
  omega
theorem l209 {ex : xO} {d : Nat} {c : Nat → Nat → Int} {b : Bool} {n : Nat} {kd bo wo : Nat → Nat} (ho : gok n kd bo wo) (hM : mG c n kd bo wo) {s : Nat} (hs : s < 64) : ∀ (m i : Nat) (a : Nat), i + m = n → Rn ex xt209 (d + 1) 4 [xA 54, xI (s : Int), xI (a : Int), xI (i : Int)] [] (hp c b) (xI ((xit (fwo wo s) m i a : Nat) : Int), hp c b) := by
  intro m
  induction m with
  | zero =>
    intro i a hm
    have hn := ho.1
    refine Rn.run 4 (ls' := [_, _, _, _]) (st' := [_, _, _]) rfl ?_
    refine Rn.ald rfl ⟨by decide, rfl⟩ (0) rfl (by decide) ?_
    rw [hM.1]
    refine Rn.ge2 rfl (fun e11 => ?_) (fun e11 => absurd e11 (by exact fun h => h ((y_ge (by omega) (by omega)).mpr (by omega))))
    refine Rn.run 1 (ls' := [_, _, _, _]) (st' := [_]) rfl ?_
    exact Rn.ret rfl rfl rfl rfl rfl rfl
  | succ m ih =>
    intro i a hm
    have hn := ho.1
    refine Rn.run 4 (ls' := [_, _, _, _]) (st' := [_, _, _]) rfl ?_
    refine Rn.ald rfl ⟨by decide, rfl⟩ (0) rfl (by decide) ?_
    rw [hM.1]
    refine Rn.ge2 rfl (fun e11 => absurd e11 (by exact fun h => absurd ((y_ge (by omega) (by omega)).mp h) (by omega))) (fun e11 => ?_)
    refine Rn.run 3 (ls' := [_, _, _, _]) (st' := [_, _, _]) rfl ?_
    refine Rn.call rfl rfl rfl rfl rfl (c132 hs (by omega)) ?_
    refine Rn.eqB rfl (fun e20 => ?_) (fun e20 => ?_)
    · refine Rn.run 5 (ls' := [_, _, _, _]) (st' := []) rfl ?_
      refine Rn.ls ?_ (ih (i + 1) (fwo wo s i a) (by omega))
      first | (rw [show fwo wo s i a = a + wo i from if_pos e20]; first | done | rfl) | (rw [show fwo wo s i a = a from if_neg e20]; first | done | rfl)
    · refine Rn.run 5 (ls' := [_, _, _, _]) (st' := [_, _, _]) rfl ?_
      refine Rn.ald rfl ⟨by decide, rfl⟩ (23 + i) (x_wn (n := 23 + i) (by omega)) (by omega) ?_
      rw [(hM.2 i (by omega)).2.2]
      refine Rn.run 5 (ls' := [_, _, _, _]) (st' := []) rfl ?_
      refine Rn.ls ?_ (ih (i + 1) (fwo wo s i a) (by omega))
      first | (rw [show fwo wo s i a = a + wo i from if_pos e20]; first | done | rfl) | (rw [show fwo wo s i a = a from if_neg e20]; first | done | rfl)
theorem c209 {ex : xO} {d : Nat} {c : Nat → Nat → Int} {b : Bool} {n : Nat} {kd bo wo : Nat → Nat} (ho : gok n kd bo wo) (hM : mG c n kd bo wo) {s : Nat} (hs : s < 64) : An ex (d + 1) 209 4 [xA 54, xI (s : Int)] (hp c b) (xI (wsum wo n s : Nat), hp c b) := by
  refine Rn.run 4 (ls' := [_, _, _, _]) (st' := []) rfl ?_
  exact l209 ho hM hs n 0 0 (by omega)
theorem k111_b {ex : xO} {d : Nat} {c : Nat → Nat → Int} {b : Bool}  {a1 : Int} (h1 : w32 a1 = a1) (q1 : ¬ (0 ≤ a1 ∧ a1 < 55)) : An ex (d + 1) 111 2 [xA 0, xI a1] (hp c b) (xI (-1), hp (c) b) := by
  refine Rn.run 2 (ls' := [_, _]) (st' := [_, _]) rfl ?_
  refine Rn.call rfl rfl rfl rfl rfl (c100) ?_
  refine Rn.neB rfl (fun e6 => absurd e6 (by exact (z_no (m := 55) h1 (by omega) q1))) (fun e6 => ?_)
  refine Rn.run 1 (ls' := [_, _]) (st' := [_]) rfl ?_
  exact Rn.ret rfl rfl rfl rfl rfl rfl
theorem k111_s {ex : xO} {d : Nat} {c : Nat → Nat → Int} {b : Bool} {n D T Mo : Nat} {kd bo wo L : Nat → Nat} (hP : pS n kd bo wo D T Mo L) (hc : cS c b n kd bo wo D T Mo L) {v : Nat} (hv : v < 55) (h0 : n = 0) : An ex (d + 1) 111 2 [xA 0, xI (v : Int)] (hp c b) (xI (-4), hp (c) b) := by
  obtain ⟨ho, h40, hT, h9, hMo⟩ := hP
  obtain ⟨hC, d7, t9, hL, m10⟩ := hc
  have hn := ho.1
  have hT6 := p64 hn hT
  refine Rn.run 2 (ls' := [_, _]) (st' := [_, _]) rfl ?_
  refine Rn.call rfl rfl rfl rfl rfl (c100) ?_
  refine Rn.neB rfl (fun e6 => ?_) (fun e6 => absurd e6 (by exact fun h => h (z_in (m := 55) hv (by omega))))
  refine Rn.run 1 (ls' := [_, _]) (st' := [_]) rfl ?_
  refine Rn.getR rfl ⟨by decide, rfl, rfl⟩ (j := gid b) (rfl) ?_
  refine Rn.getI rfl (xS_g b) ?_
  rw [hC.1]
  refine Rn.ne0 rfl (fun e18 => absurd e18 (by rw [h0]; decide)) (fun e18 => ?_)
  refine Rn.run 2 (ls' := [_, _]) (st' := [_]) rfl ?_
  exact Rn.ret rfl rfl rfl rfl rfl rfl
theorem k111_o {ex : xO} {d : Nat} {c : Nat → Nat → Int} {b : Bool} {n D T Mo : Nat} {kd bo wo L : Nat → Nat} (hP : pS n kd bo wo D T Mo L) (hc : cS c b n kd bo wo D T Mo L) {v : Nat} (hv : v < 55) (h0 : n ≠ 0) : An ex (d + 1) 111 2 [xA 0, xI (v : Int)] (hp c b) (xI 0, hp (c) b) := by
  obtain ⟨ho, h40, hT, h9, hMo⟩ := hP
  obtain ⟨hC, d7, t9, hL, m10⟩ := hc
  have hn := ho.1
  have hT6 := p64 hn hT
  refine Rn.run 2 (ls' := [_, _]) (st' := [_, _]) rfl ?_
  refine Rn.call rfl rfl rfl rfl rfl (c100) ?_
  refine Rn.neB rfl (fun e6 => ?_) (fun e6 => absurd e6 (by exact fun h => h (z_in (m := 55) hv (by omega))))
  refine Rn.run 1 (ls' := [_, _]) (st' := [_]) rfl ?_
  refine Rn.getR rfl ⟨by decide, rfl, rfl⟩ (j := gid b) (rfl) ?_
  refine Rn.getI rfl (xS_g b) ?_
  rw [hC.1]
  refine Rn.ne0 rfl (fun e18 => ?_) (fun e18 => absurd e18 (by exact fun h => h (z_ne0 h0 hn)))
  refine Rn.run 1 (ls' := [_, _]) (st' := [_]) rfl ?_
  exact Rn.ret rfl rfl rfl rfl rfl rfl
theorem z_w {n v s : Nat} {wo kd bo : Nat → Nat} (ho : gok n kd bo wo) (hv : v < 55) : (w32 ((wsum wo n s : Nat) : Int) = w32 (v : Int)) ↔ wsum wo n s = v := by
  have := wsum_le ho s
  exact y_eq (by omega) (by omega)
theorem l87 {ex : xO} {d : Nat} {c : Nat → Nat → Int} {b : Bool} {n : Nat} {kd bo wo : Nat → Nat} (ho : gok n kd bo wo) (hC : cG c b n kd bo wo) {v : Nat} (hv : v < 55) {o : xV × xH} : ∀ (m a : Nat) (f z : Int), z = (m : Int) - 1 → m ≤ 64 → Rn ex xt87 (d + 1) 27 [xA 0, xI (v : Int), xI 0, xI ((xdn (fc (fun s => decide (wsum wo n s = v))) m a) : Nat), xI (xdn (ff (fun s => decide (wsum wo n s = v))) m f), xI (-1)] [] (hp c b) o → Rn ex xt87 (d + 1) 27 [xA 0, xI (v : Int), xI 0, xI (a : Nat), xI f, xI z] [] (hp c b) o := by
  have hn := ho.1
  intro m
  induction m with
  | zero =>
    intro a f z hz hm kk
    obtain rfl : z = -1 := by omega
    exact kk
  | succ m ih =>
    intro a f z hz hm kk
    obtain rfl : z = (m : Int) := by omega
    by_cases hw : wsum wo n m = v
    · have k1 : fc (fun s => decide (wsum wo n s = v)) m a = a + 1 := by unfold fc; rw [if_pos (decide_eq_true hw)]
      have k2 : ff (fun s => decide (wsum wo n s = v)) m f = (m : Int) := if_pos (decide_eq_true hw)
      have r := ih (fc (fun s => decide (wsum wo n s = v)) m a) (ff (fun s => decide (wsum wo n s = v)) m f) ((m : Int) + -1) (by omega) (by omega) kk
      rw [k1, k2] at r
      refine Rn.run 1 (ls' := [_, _, _, _, _, _]) (st' := [_]) rfl ?_
      refine Rn.lt0 rfl (fun e29 => absurd e29 (by rw [x_wn (by omega)]; omega)) (fun e29 => ?_)
      refine Rn.run 1 (ls' := [_, _, _, _, _, _]) (st' := [_]) rfl ?_
      refine Rn.getR rfl ⟨by decide, rfl, rfl⟩ (j := gid b) (rfl) ?_
      refine Rn.run 1 (ls' := [_, _, _, _, _, _]) (st' := [_, _]) rfl ?_
      refine Rn.callV rfl (x_sv (xS_g b)) rfl rfl rfl (c20 ho hC (by omega)) ?_
      refine Rn.run 1 (ls' := [_, _, _, _, _, _]) (st' := [_, _]) rfl ?_
      refine Rn.ne2 rfl (fun e42 => absurd e42 (by exact fun h => h ((z_w ho hv).mpr hw))) (fun e42 => ?_)
      refine Rn.run 5 (ls' := [_, _, _, _, _, _]) (st' := []) rfl ?_
      exact r
    · have k1 : fc (fun s => decide (wsum wo n s = v)) m a = a := by unfold fc; rw [if_neg (fun q => hw (of_decide_eq_true q)), Nat.add_zero]
      have k2 : ff (fun s => decide (wsum wo n s = v)) m f = f := if_neg (fun q => hw (of_decide_eq_true q))
      have r := ih (fc (fun s => decide (wsum wo n s = v)) m a) (ff (fun s => decide (wsum wo n s = v)) m f) ((m : Int) + -1) (by omega) (by omega) kk
      rw [k1, k2] at r
      refine Rn.run 1 (ls' := [_, _, _, _, _, _]) (st' := [_]) rfl ?_
      refine Rn.lt0 rfl (fun e29 => absurd e29 (by rw [x_wn (by omega)]; omega)) (fun e29 => ?_)
      refine Rn.run 1 (ls' := [_, _, _, _, _, _]) (st' := [_]) rfl ?_
      refine Rn.getR rfl ⟨by decide, rfl, rfl⟩ (j := gid b) (rfl) ?_
      refine Rn.run 1 (ls' := [_, _, _, _, _, _]) (st' := [_, _]) rfl ?_
      refine Rn.callV rfl (x_sv (xS_g b)) rfl rfl rfl (c20 ho hC (by omega)) ?_
      refine Rn.run 1 (ls' := [_, _, _, _, _, _]) (st' := [_, _]) rfl ?_
      refine Rn.ne2 rfl (fun e42 => ?_) (fun e42 => absurd e42 (by exact fun h => h (fun q => hw ((z_w ho hv).mp q))))
      refine Rn.run 2 (ls' := [_, _, _, _, _, _]) (st' := []) rfl ?_
      exact r
theorem l210 {ex : xO} {d : Nat} {c : Nat → Nat → Int} {b : Bool} {n : Nat} {kd bo wo : Nat → Nat} (ho : gok n kd bo wo) (hM : mG c n kd bo wo) {v : Nat} (hv : v < 55) {o : xV × xH} : ∀ (m a : Nat) (f z : Int), z = (m : Int) - 1 → m ≤ 64 → Rn ex xt210 (d + 2) 37 [xA 54, xI (v : Int), xI ((xdn (fc (fun s => decide (wsum wo n s = v))) m a) : Nat), xI (xdn (ff (fun s => decide (wsum wo n s = v))) m f), xI (-1)] [] (hp c b) o → Rn ex xt210 (d + 2) 37 [xA 54, xI (v : Int), xI (a : Nat), xI f, xI z] [] (hp c b) o := by
  have hn := ho.1
  intro m
  induction m with
  | zero =>
    intro a f z hz hm kk
    obtain rfl : z = -1 := by omega
    exact kk
  | succ m ih =>
    intro a f z hz hm kk
    obtain rfl : z = (m : Int) := by omega
    by_cases hw : wsum wo n m = v
    · have k1 : fc (fun s => decide (wsum wo n s = v)) m a = a + 1 := by unfold fc; rw [if_pos (decide_eq_true hw)]
      have k2 : ff (fun s => decide (wsum wo n s = v)) m f = (m : Int) := if_pos (decide_eq_true hw)
      have r := ih (fc (fun s => decide (wsum wo n s = v)) m a) (ff (fun s => decide (wsum wo n s = v)) m f) ((m : Int) + -1) (by omega) (by omega) kk
      rw [k1, k2] at r
      refine Rn.run 1 (ls' := [_, _, _, _, _]) (st' := [_]) rfl ?_
      refine Rn.lt0 rfl (fun e39 => absurd e39 (by rw [x_wn (by omega)]; omega)) (fun e39 => ?_)
      refine Rn.run 2 (ls' := [_, _, _, _, _]) (st' := [_, _]) rfl ?_
      refine Rn.call rfl rfl rfl rfl rfl (c209 ho hM (by omega)) ?_
      refine Rn.run 1 (ls' := [_, _, _, _, _]) (st' := [_, _]) rfl ?_
      refine Rn.ne2 rfl (fun e49 => absurd e49 (by exact fun h => h ((z_w ho hv).mpr hw))) (fun e49 => ?_)
      refine Rn.run 5 (ls' := [_, _, _, _, _]) (st' := []) rfl ?_
      exact r
    · have k1 : fc (fun s => decide (wsum wo n s = v)) m a = a := by unfold fc; rw [if_neg (fun q => hw (of_decide_eq_true q)), Nat.add_zero]
      have k2 : ff (fun s => decide (wsum wo n s = v)) m f = f := if_neg (fun q => hw (of_decide_eq_true q))
      have r := ih (fc (fun s => decide (wsum wo n s = v)) m a) (ff (fun s => decide (wsum wo n s = v)) m f) ((m : Int) + -1) (by omega) (by omega) kk
      rw [k1, k2] at r
      refine Rn.run 1 (ls' := [_, _, _, _, _]) (st' := [_]) rfl ?_
      refine Rn.lt0 rfl (fun e39 => absurd e39 (by rw [x_wn (by omega)]; omega)) (fun e39 => ?_)
      refine Rn.run 2 (ls' := [_, _, _, _, _]) (st' := [_, _]) rfl ?_
      refine Rn.call rfl rfl rfl rfl rfl (c209 ho hM (by omega)) ?_
      refine Rn.run 1 (ls' := [_, _, _, _, _]) (st' := [_, _]) rfl ?_
      refine Rn.ne2 rfl (fun e49 => ?_) (fun e49 => absurd e49 (by exact fun h => h (fun q => hw ((z_w ho hv).mp q))))
      refine Rn.run 2 (ls' := [_, _, _, _, _]) (st' := []) rfl ?_
      exact r
theorem k87_b {ex : xO} {d : Nat} {c : Nat → Nat → Int} {b : Bool}  {a1 : Int} (h1 : w32 a1 = a1) (q1 : ¬ (0 ≤ a1 ∧ a1 < 55)) : An ex (d + 20) 87 6 [xA 0, xI a1] (hp c b) (xI (-1), hp (c) b) := by
  refine Rn.run 2 (ls' := [_, _, _, _, _, _]) (st' := [_, _]) rfl ?_
  refine Rn.call rfl rfl rfl rfl rfl (k111_b h1 q1) ?_
  refine Rn.run 2 (ls' := [_, _, _, _, _, _]) (st' := [_]) rfl ?_
  refine Rn.eq0 rfl (fun e7 => absurd e7 (by decide)) (fun e7 => ?_)
  refine Rn.run 1 (ls' := [_, _, _, _, _, _]) (st' := [_]) rfl ?_
  exact Rn.ret rfl rfl rfl rfl rfl rfl
theorem k87_s {ex : xO} {d : Nat} {c : Nat → Nat → Int} {b : Bool} {n D T Mo : Nat} {kd bo wo L : Nat → Nat} (hP : pS n kd bo wo D T Mo L) (hc : cS c b n kd bo wo D T Mo L) {v : Nat} (hv : v < 55) (h0 : n = 0) : An ex (d + 20) 87 6 [xA 0, xI (v : Int)] (hp c b) (xI (-4), hp (c) b) := by
  obtain ⟨ho, h40, hT, h9, hMo⟩ := hP
  obtain ⟨hC, d7, t9, hL, m10⟩ := hc
  have hn := ho.1
  have hT6 := p64 hn hT
  refine Rn.run 2 (ls' := [_, _, _, _, _, _]) (st' := [_, _]) rfl ?_
  refine Rn.call rfl rfl rfl rfl rfl (k111_s ⟨ho, h40, hT, h9, hMo⟩ ⟨hC, d7, t9, hL, m10⟩ hv h0) ?_
  refine Rn.run 2 (ls' := [_, _, _, _, _, _]) (st' := [_]) rfl ?_
  refine Rn.eq0 rfl (fun e7 => absurd e7 (by decide)) (fun e7 => ?_)
  refine Rn.run 1 (ls' := [_, _, _, _, _, _]) (st' := [_]) rfl ?_
  exact Rn.ret rfl rfl rfl rfl rfl rfl
theorem k87_o {ex : xO} {d : Nat} {c : Nat → Nat → Int} {b : Bool} {n D T Mo : Nat} {kd bo wo L : Nat → Nat} (hP : pS n kd bo wo D T Mo L) (hc : cS c b n kd bo wo D T Mo L) {v : Nat} (hv : v < 55) (h0 : n ≠ 0) : An ex (d + 20) 87 6 [xA 0, xI (v : Int)] (hp c b) (xI 1, hp (xup (xup (xup c 0 11 (cnt (fun s => decide (wsum wo n s = v)) (2 ^ n) : Nat)) 0 12 1) 0 10 (xdn (ff (fun s => decide (wsum wo n s = v))) (2 ^ n) (-9))) b) := by
  obtain ⟨ho, h40, hT, h9, hMo⟩ := hP
  obtain ⟨hC, d7, t9, hL, m10⟩ := hc
  have hn := ho.1
  have hT6 := p64 hn hT
  have hp2 := pp64 hn
  have hcl := cnt_le (fun s => decide (wsum wo n s = v)) (2 ^ n)
  refine Rn.run 2 (ls' := [_, _, _, _, _, _]) (st' := [_, _]) rfl ?_
  refine Rn.call rfl rfl rfl rfl rfl (k111_o ⟨ho, h40, hT, h9, hMo⟩ ⟨hC, d7, t9, hL, m10⟩ hv h0) ?_
  refine Rn.run 2 (ls' := [_, _, _, _, _, _]) (st' := [_]) rfl ?_
  refine Rn.eq0 rfl (fun e7 => ?_) (fun e7 => absurd e7 (by decide))
  refine Rn.run 5 (ls' := [_, _, _, _, _, _]) (st' := [_]) rfl ?_
  refine Rn.getR rfl ⟨by decide, rfl, rfl⟩ (j := gid b) (rfl) ?_
  refine Rn.callV rfl (x_sv (xS_g b)) rfl rfl rfl (c17 hn hC.1) ?_
  refine Rn.run 1 (ls' := [_, _, _, _, _, _]) (st' := []) rfl ?_
  refine l87 (d := d + 19) ho hC hv (2 ^ n) 0 (-9) _ rfl hp2 ?_
  rw [xdn_cnt, Nat.zero_add]
  refine Rn.run 1 (ls' := [_, _, _, _, _, _]) (st' := [_]) rfl ?_
  refine Rn.lt0 rfl (fun e29 => ?_) (fun e29 => absurd e29 (by decide))
  refine Rn.run 3 (ls' := [_, _, _, _, _, _]) (st' := [_, _]) rfl ?_
  rw [x_wn (by omega)]
  refine Rn.run 1 (ls' := [_, _, _, _, _, _]) (st' := [_, _, _]) rfl ?_
  refine Rn.call rfl rfl rfl rfl rfl (c103 (u := cnt (fun s => decide (wsum wo n s = v)) (2 ^ n)) (l := 1) (by omega) (by decide) (by decide)) ?_
  rw [Nat.gcd_one_right, Nat.div_one, Nat.div_one]
  refine Rn.run 2 (ls' := [_, _, _, _, _, _]) (st' := [_, _]) rfl ?_
  refine Rn.call rfl rfl rfl rfl rfl (c102) ?_
  exact Rn.ret rfl rfl rfl rfl rfl rfl
theorem k210_b {ex : xO} {d : Nat} {c : Nat → Nat → Int} {b : Bool}  {a1 : Int} (h1 : w32 a1 = a1) (q1 : ¬ (0 ≤ a1 ∧ a1 < 55)) : An ex (d + 20) 210 5 [xA 54, xI a1] (hp c b) (xI (-1), hp (c) b) := by
  refine Rn.run 4 (ls' := [_, _, _, _, _]) (st' := [_, _, _]) rfl ?_
  refine Rn.call rfl rfl rfl rfl rfl (c131) ?_
  refine Rn.neB rfl (fun e9 => absurd e9 (by exact (z_no9 (m := 54) h1 (by omega) q1))) (fun e9 => ?_)
  refine Rn.run 1 (ls' := [_, _, _, _, _]) (st' := [_]) rfl ?_
  exact Rn.ret rfl rfl rfl rfl rfl rfl
theorem k210_s {ex : xO} {d : Nat} {c : Nat → Nat → Int} {b : Bool} {n D T Mo : Nat} {kd bo wo L : Nat → Nat} (hP : pS n kd bo wo D T Mo L) (hm : mS c n kd bo wo D T Mo L) {v : Nat} (hv : v < 55) (h0 : n = 0) : An ex (d + 20) 210 5 [xA 54, xI (v : Int)] (hp c b) (xI (-4), hp (c) b) := by
  obtain ⟨ho, h40, hT, h9, hMo⟩ := hP
  obtain ⟨hM, d29, t2, l55, m1⟩ := hm
  have hn := ho.1
  have hT6 := p64 hn hT
  refine Rn.run 4 (ls' := [_, _, _, _, _]) (st' := [_, _, _]) rfl ?_
  refine Rn.call rfl rfl rfl rfl rfl (c131) ?_
  refine Rn.neB rfl (fun e9 => ?_) (fun e9 => absurd e9 (by exact fun h => h (z_in9 (m := 54) (by omega) (by omega))))
  refine Rn.run 3 (ls' := [_, _, _, _, _]) (st' := [_, _]) rfl ?_
  refine Rn.ald rfl ⟨by decide, rfl⟩ (0) rfl (by decide) ?_
  rw [hM.1]
  refine Rn.ne0 rfl (fun e20 => absurd e20 (by rw [h0]; decide)) (fun e20 => ?_)
  refine Rn.run 1 (ls' := [_, _, _, _, _]) (st' := [_]) rfl ?_
  exact Rn.ret rfl rfl rfl rfl rfl rfl
theorem k210_o {ex : xO} {d : Nat} {c : Nat → Nat → Int} {b : Bool} {n D T Mo : Nat} {kd bo wo L : Nat → Nat} (hP : pS n kd bo wo D T Mo L) (hm : mS c n kd bo wo D T Mo L) {v : Nat} (hv : v < 55) (h0 : n ≠ 0) : An ex (d + 20) 210 5 [xA 54, xI (v : Int)] (hp c b) (xI 1, hp (xup (xup (xup c 54 8 (cnt (fun s => decide (wsum wo n s = v)) (2 ^ n) : Nat)) 54 9 1) 54 7 (xdn (ff (fun s => decide (wsum wo n s = v))) (2 ^ n) (-9))) b) := by
  obtain ⟨ho, h40, hT, h9, hMo⟩ := hP
  obtain ⟨hM, d29, t2, l55, m1⟩ := hm
  have hn := ho.1
  have hT6 := p64 hn hT
  have hp2 := pp64 hn
  have hcl := cnt_le (fun s => decide (wsum wo n s = v)) (2 ^ n)
  have hcl2 : cnt (fun s => decide (wsum wo n s = v)) (2 ^ n) < 2147483648 := by omega
  refine Rn.run 4 (ls' := [_, _, _, _, _]) (st' := [_, _, _]) rfl ?_
  refine Rn.call rfl rfl rfl rfl rfl (c131) ?_
  refine Rn.neB rfl (fun e9 => ?_) (fun e9 => absurd e9 (by exact fun h => h (z_in9 (m := 54) (by omega) (by omega))))
  refine Rn.run 3 (ls' := [_, _, _, _, _]) (st' := [_, _]) rfl ?_
  refine Rn.ald rfl ⟨by decide, rfl⟩ (0) rfl (by decide) ?_
  rw [hM.1]
  refine Rn.ne0 rfl (fun e20 => ?_) (fun e20 => absurd e20 (by exact fun h => h (z_ne0 h0 hn)))
  refine Rn.run 5 (ls' := [_, _, _, _, _]) (st' := [_]) rfl ?_
  refine Rn.call rfl rfl rfl rfl rfl (c163 hn hM.1) ?_
  refine Rn.run 1 (ls' := [_, _, _, _, _]) (st' := []) rfl ?_
  refine l210 (d := d + 18) ho hM hv (2 ^ n) 0 (-9) _ rfl hp2 ?_
  rw [xdn_cnt, Nat.zero_add]
  refine Rn.run 1 (ls' := [_, _, _, _, _]) (st' := [_]) rfl ?_
  refine Rn.lt0 rfl (fun e39 => ?_) (fun e39 => absurd e39 (by decide))
  refine Rn.run 3 (ls' := [_, _, _, _, _]) (st' := [_, _]) rfl ?_
  rw [x_wn hcl2]
  refine Rn.run 6 (ls' := [_, _, _, _, _]) (st' := [_, _]) rfl ?_
  refine Rn.call rfl rfl rfl rfl rfl (c135) ?_
  exact Rn.ret rfl rfl rfl rfl rfl rfl
theorem g_sets {ex : xO} (a1 : Int) (h1 : w32 a1 = a1) : AgI ex 87 6 210 5 [xI a1] := by
  intro d c b hI
  obtain ⟨n, kd, bo, wo, D, T, Mo, L, hP, hc, hm⟩ := Inv_St hI
  by_cases q1 : 0 ≤ a1 ∧ a1 < 55
  · obtain ⟨v, hv, rfl⟩ : ∃ j : Nat, j < 55 ∧ a1 = (j : Int) := ⟨a1.toNat, by omega, by omega⟩
    by_cases h0 : n = 0
    · exact Ag_same hI (-4) (k87_s hP hc hv h0) (k210_s hP hm hv h0)
    · refine ⟨_, _, _, b, _, b, k87_o hP hc hv h0, k210_o hP (mS_fr (fun k => by rw [xup_n _ _ (by omega), xup_n _ _ (by omega), xup_n _ _ (by omega)]) hm) hv h0, rfl, Inv_ask3 hI (fun a k h1 h2 h3 => ?_) ?_ ?_ ?_⟩
      · rw [xup_n _ _ (by omega), xup_n _ _ (by omega), xup_n _ _ (by omega), xup_n _ _ (by omega), xup_n _ _ (by omega), xup_n _ _ (by omega)]
      · rw [xup_n _ _ (by omega), xup_n _ _ (by omega), xup_n _ _ (by omega), xup_s, xup_s]
      · rw [xup_n _ _ (by omega), xup_n _ _ (by omega), xup_n _ _ (by omega), xup_n _ _ (by omega), xup_n _ _ (by omega), xup_s, xup_n _ _ (by omega), xup_n _ _ (by omega), xup_s]
      · rw [xup_n _ _ (by omega), xup_n _ _ (by omega), xup_n _ _ (by omega), xup_n _ _ (by omega), xup_s, xup_n _ _ (by omega), xup_s]
  · exact Ag_same hI (-1) (k87_b h1 q1) (k210_b h1 q1)
