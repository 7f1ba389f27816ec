-- copy: both sides path by path
theorem x_wn {n : Nat} (h : n < 2147483648) : w32 (n : Int) = n := by unfold w32; omega
theorem x_k6 {k : Nat} (hk : k < 6) : w32 (k : Int) = k ∧ (0 ≤ w32 (k : Int) ∧ w32 (k : Int) < 6) := by
  have e : w32 (k : Int) = k := x_wn (by omega)
  rw [e]
  omega
theorem c61_size {ex : xO} {d : Nat} {c : Nat → Nat → Int} {b : Bool} {k k2 : Nat} (hk : k < 6) (hk2 : k2 < 6) {a2 a4 a5 : Int} (h5 : w32 a5 < 0) : An ex (d + 3) 61 8 [xA 0, xI (k : Int), xI a2, xI (k2 : Int), xI a4, xI a5] (hp c b) (xI (-3), hp (xup (xup c 0 13 5) 13 5 (c 13 5 + 1)) b) := by
  refine Rn.run 2 rfl ?_
  refine Rn.call rfl rfl rfl rfl rfl (c100) ?_
  refine Rn.eqB rfl (fun e6 => absurd e6 (by exact fun h => h ⟨(x_k6 hk).2.1, (x_k6 hk).2.2⟩)) (fun e6 => ?_)
  refine Rn.run 2 rfl ?_
  refine Rn.call rfl rfl rfl rfl rfl (c100) ?_
  refine Rn.neB rfl (fun e15 => ?_) (fun e15 => absurd e15 (by exact fun h => h ⟨(x_k6 hk2).2.1, (x_k6 hk2).2.2⟩))
  refine Rn.run 1 rfl ?_
  refine Rn.ge0 rfl (fun e22 => absurd e22 (by exact fun h => absurd h (Int.not_le.mpr h5))) (fun e22 => ?_)
  refine Rn.run 2 rfl ?_
  refine Rn.call rfl rfl rfl rfl rfl (c101 5 rfl (by decide)) ?_
  exact Rn.ret rfl rfl rfl rfl (rfl) (rfl)
theorem c61_no {ex : xO} {d : Nat} {c : Nat → Nat → Int} {b : Bool} {k k2 : Nat} (hk : k < 6) (hk2 : k2 < 6) {a2 a4 a5 : Int} (h5 : 0 ≤ w32 a5) (hm : w32 (c (22 + 2 * k) 0) < 0 ∨ w32 (c (22 + 2 * k2) 0) < 0) : An ex (d + 3) 61 8 [xA 0, xI (k : Int), xI a2, xI (k2 : Int), xI a4, xI a5] (hp c b) (xI (-3), hp (xup (xup c 0 13 1) 13 1 (c 13 1 + 1)) b) := by
  refine Rn.run 2 rfl ?_
  refine Rn.call rfl rfl rfl rfl rfl (c100) ?_
  refine Rn.eqB rfl (fun e6 => absurd e6 (by exact fun h => h ⟨(x_k6 hk).2.1, (x_k6 hk).2.2⟩)) (fun e6 => ?_)
  refine Rn.run 2 rfl ?_
  refine Rn.call rfl rfl rfl rfl rfl (c100) ?_
  refine Rn.neB rfl (fun e15 => ?_) (fun e15 => absurd e15 (by exact fun h => h ⟨(x_k6 hk2).2.1, (x_k6 hk2).2.2⟩))
  refine Rn.run 1 rfl ?_
  refine Rn.ge0 rfl (fun e22 => ?_) (fun e22 => absurd e22 (by exact fun h => h h5))
  refine Rn.run 3 rfl ?_
  refine Rn.aald rfl ⟨by decide, rfl, by decide, by decide⟩ k (x_k6 hk).1 hk (xR_row hk).1 ?_
  refine Rn.run 4 rfl ?_
  refine Rn.aald rfl ⟨by decide, rfl, by decide, by decide⟩ k2 (x_k6 hk2).1 hk2 (xR_row hk2).1 ?_
  refine Rn.run 2 rfl ?_
  refine Rn.callV rfl (by have := xS_row hk; omega) rfl rfl rfl (c47 hk) ?_
  refine Rn.neB rfl (fun e52 => ?_) (fun e52 => ?_)
  · refine Rn.run 2 rfl ?_
    refine Rn.call rfl rfl rfl rfl rfl (c101 1 rfl (by decide)) ?_
    exact Rn.ret rfl rfl rfl rfl (rfl) (rfl)
  · refine Rn.run 1 rfl ?_
    refine Rn.callV rfl (by have := xS_row hk2; omega) rfl rfl rfl (c47 hk2) ?_
    refine Rn.eqB rfl (fun e60 => absurd e60 (by exact fun h => hm.elim e52 h)) (fun e60 => ?_)
    refine Rn.run 2 rfl ?_
    refine Rn.call rfl rfl rfl rfl rfl (c101 1 rfl (by decide)) ?_
    exact Rn.ret rfl rfl rfl rfl (rfl) (rfl)
theorem c61_far {ex : xO} {d : Nat} {c : Nat → Nat → Int} {b : Bool} {k k2 : Nat} (hk : k < 6) (hk2 : k2 < 6) {a2 a4 a5 : Int} (h2 : w32 a2 = a2) (h4 : w32 a4 = a4) (h5 : w32 a5 = a5) (h0 : 0 ≤ a5) (m1 : ¬ w32 (c (22 + 2 * k) 0) < 0) (m2 : ¬ w32 (c (22 + 2 * k2) 0) < 0) (s1 : 0 ≤ c (22 + 2 * k) 0 ∧ c (22 + 2 * k) 0 ≤ 40) (s2 : 0 ≤ c (22 + 2 * k2) 0 ∧ c (22 + 2 * k2) 0 ≤ 40) (hf : ¬ ((0 ≤ a2 ∧ a2 + a5 ≤ c (22 + 2 * k) 0) ∧ (0 ≤ a4 ∧ a4 + a5 ≤ c (22 + 2 * k2) 0))) : An ex (d + 3) 61 8 [xA 0, xI (k : Int), xI a2, xI (k2 : Int), xI a4, xI a5] (hp c b) (xI (-3), hp (xup (xup c 0 13 2) 13 2 (c 13 2 + 1)) b) := by
  refine Rn.run 2 rfl ?_
  refine Rn.call rfl rfl rfl rfl rfl (c100) ?_
  refine Rn.eqB rfl (fun e6 => absurd e6 (by exact fun h => h ⟨(x_k6 hk).2.1, (x_k6 hk).2.2⟩)) (fun e6 => ?_)
  refine Rn.run 2 rfl ?_
  refine Rn.call rfl rfl rfl rfl rfl (c100) ?_
  refine Rn.neB rfl (fun e15 => ?_) (fun e15 => absurd e15 (by exact fun h => h ⟨(x_k6 hk2).2.1, (x_k6 hk2).2.2⟩))
  refine Rn.run 1 rfl ?_
  refine Rn.ge0 rfl (fun e22 => ?_) (fun e22 => absurd e22 (by exact fun h => h (by rw [h5]; exact h0)))
  refine Rn.run 3 rfl ?_
  refine Rn.aald rfl ⟨by decide, rfl, by decide, by decide⟩ k (x_k6 hk).1 hk (xR_row hk).1 ?_
  refine Rn.run 4 rfl ?_
  refine Rn.aald rfl ⟨by decide, rfl, by decide, by decide⟩ k2 (x_k6 hk2).1 hk2 (xR_row hk2).1 ?_
  refine Rn.run 2 rfl ?_
  refine Rn.callV rfl (by have := xS_row hk; omega) rfl rfl rfl (c47 hk) ?_
  refine Rn.neB rfl (fun e52 => absurd e52 (by exact m1)) (fun e52 => ?_)
  refine Rn.run 1 rfl ?_
  refine Rn.callV rfl (by have := xS_row hk2; omega) rfl rfl rfl (c47 hk2) ?_
  refine Rn.eqB rfl (fun e60 => ?_) (fun e60 => absurd e60 (by exact m2))
  refine Rn.run 3 rfl ?_
  refine Rn.callV rfl (by have := xS_row hk; omega) rfl rfl rfl (c49 hk h2 h5 h0 s1) ?_
  refine Rn.eqB rfl (fun e77 => ?_) (fun e77 => ?_)
  · refine Rn.run 2 rfl ?_
    refine Rn.call rfl rfl rfl rfl rfl (c101 2 rfl (by decide)) ?_
    exact Rn.ret rfl rfl rfl rfl (rfl) (rfl)
  · refine Rn.run 3 rfl ?_
    refine Rn.callV rfl (by have := xS_row hk2; omega) rfl rfl rfl (c49 hk2 h4 h5 h0 s2) ?_
    refine Rn.neB rfl (fun e89 => absurd e89 (by exact fun h => hf ⟨e77, h⟩)) (fun e89 => ?_)
    refine Rn.run 2 rfl ?_
    refine Rn.call rfl rfl rfl rfl rfl (c101 2 rfl (by decide)) ?_
    exact Rn.ret rfl rfl rfl rfl (rfl) (rfl)
theorem c61_ok {ex : xO} {d : Nat} {c : Nat → Nat → Int} {b : Bool} {k k2 : Nat} (hk : k < 6) (hk2 : k2 < 6) {i j n : Nat} (h2 : w32 (i : Int) = i) (h4 : w32 (j : Int) = j) (h5 : w32 (n : Int) = n) (h0 : 0 ≤ (n : Int)) (m1 : ¬ w32 (c (22 + 2 * k) 0) < 0) (m2 : ¬ w32 (c (22 + 2 * k2) 0) < 0) (s1 : 0 ≤ c (22 + 2 * k) 0 ∧ c (22 + 2 * k) 0 ≤ 40) (s2 : 0 ≤ c (22 + 2 * k2) 0 ∧ c (22 + 2 * k2) 0 ≤ 40) (f1 : (i : Int) + n ≤ c (22 + 2 * k) 0) (f2 : (j : Int) + n ≤ c (22 + 2 * k2) 0) (hin : i + n ≤ 40) (hjn : j + n ≤ 40) : An ex (d + 3) 61 8 [xA 0, xI (k : Int), xI (i : Int), xI (k2 : Int), xI (j : Int), xI (n : Int)] (hp c b) (xI 1, hp (xrow c (23 + 2 * k2) (xcp (c (23 + 2 * k)) (c (23 + 2 * k2)) i j n)) b) := by
  refine Rn.run 2 rfl ?_
  refine Rn.call rfl rfl rfl rfl rfl (c100) ?_
  refine Rn.eqB rfl (fun e6 => absurd e6 (by exact fun h => h ⟨(x_k6 hk).2.1, (x_k6 hk).2.2⟩)) (fun e6 => ?_)
  refine Rn.run 2 rfl ?_
  refine Rn.call rfl rfl rfl rfl rfl (c100) ?_
  refine Rn.neB rfl (fun e15 => ?_) (fun e15 => absurd e15 (by exact fun h => h ⟨(x_k6 hk2).2.1, (x_k6 hk2).2.2⟩))
  refine Rn.run 1 rfl ?_
  refine Rn.ge0 rfl (fun e22 => ?_) (fun e22 => absurd e22 (by exact fun h => h (by rw [h5]; exact h0)))
  refine Rn.run 3 rfl ?_
  refine Rn.aald rfl ⟨by decide, rfl, by decide, by decide⟩ k (x_k6 hk).1 hk (xR_row hk).1 ?_
  refine Rn.run 4 rfl ?_
  refine Rn.aald rfl ⟨by decide, rfl, by decide, by decide⟩ k2 (x_k6 hk2).1 hk2 (xR_row hk2).1 ?_
  refine Rn.run 2 rfl ?_
  refine Rn.callV rfl (by have := xS_row hk; omega) rfl rfl rfl (c47 hk) ?_
  refine Rn.neB rfl (fun e52 => absurd e52 (by exact m1)) (fun e52 => ?_)
  refine Rn.run 1 rfl ?_
  refine Rn.callV rfl (by have := xS_row hk2; omega) rfl rfl rfl (c47 hk2) ?_
  refine Rn.eqB rfl (fun e60 => ?_) (fun e60 => absurd e60 (by exact m2))
  refine Rn.run 3 rfl ?_
  refine Rn.callV rfl (by have := xS_row hk; omega) rfl rfl rfl (c49 hk h2 h5 h0 s1) ?_
  refine Rn.eqB rfl (fun e77 => absurd e77 (by exact fun h => h ⟨Int.natCast_nonneg i, f1⟩)) (fun e77 => ?_)
  refine Rn.run 3 rfl ?_
  refine Rn.callV rfl (by have := xS_row hk2; omega) rfl rfl rfl (c49 hk2 h4 h5 h0 s2) ?_
  refine Rn.neB rfl (fun e89 => ?_) (fun e89 => absurd e89 (by exact fun h => h ⟨Int.natCast_nonneg j, f2⟩))
  refine Rn.run 1 rfl ?_
  refine Rn.getR rfl (xS_row hk) (xR_row hk).2 ?_
  refine Rn.run 2 rfl ?_
  refine Rn.getR rfl (xS_row hk2) (xR_row hk2).2 ?_
  refine Rn.run 2 rfl ?_
  refine Rn.cpy rfl (by omega) rfl (xS_pl hk) (xS_pl hk2) i j n h2 h4 h5 hin hjn ?_
  refine Rn.run 1 rfl ?_
  exact Rn.ret rfl rfl rfl rfl (rfl) (rfl)
theorem c146_size {ex : xO} {d : Nat} {c : Nat → Nat → Int} {b : Bool} {k k2 : Nat} (hk : k < 6) (hk2 : k2 < 6) {a2 a4 a5 : Int} (h5 : w32 a5 < 0) : An ex (d + 3) 146 7 [xA 54, xI (k : Int), xI a2, xI (k2 : Int), xI a4, xI a5] (hp c b) (xI (-3), hp (xup (xup c 54 5 5) 60 5 (c 60 5 + 1)) b) := by
  refine Rn.run 1 rfl ?_
  refine Rn.call rfl rfl rfl rfl rfl (c138) ?_
  refine Rn.eqB rfl (fun e4 => absurd e4 (by exact fun h => h ⟨(x_k6 hk).2.1, (x_k6 hk).2.2⟩)) (fun e4 => ?_)
  refine Rn.run 1 rfl ?_
  refine Rn.call rfl rfl rfl rfl rfl (c138) ?_
  refine Rn.neB rfl (fun e11 => ?_) (fun e11 => absurd e11 (by exact fun h => h ⟨(x_k6 hk2).2.1, (x_k6 hk2).2.2⟩))
  refine Rn.run 1 rfl ?_
  refine Rn.ge0 rfl (fun e18 => absurd e18 (by exact fun h => absurd h (Int.not_le.mpr h5))) (fun e18 => ?_)
  refine Rn.run 2 rfl ?_
  refine Rn.call rfl rfl rfl rfl rfl (c134 5 rfl (by decide)) ?_
  exact Rn.ret rfl rfl rfl rfl (rfl) (rfl)
theorem c146_no {ex : xO} {d : Nat} {c : Nat → Nat → Int} {b : Bool} {k k2 : Nat} (hk : k < 6) (hk2 : k2 < 6) {a2 a4 a5 : Int} (h5 : 0 ≤ w32 a5) (hm : w32 (c 56 k) < 0 ∨ w32 (c 56 k2) < 0) : An ex (d + 3) 146 7 [xA 54, xI (k : Int), xI a2, xI (k2 : Int), xI a4, xI a5] (hp c b) (xI (-3), hp (xup (xup c 54 5 1) 60 1 (c 60 1 + 1)) b) := by
  refine Rn.run 1 rfl ?_
  refine Rn.call rfl rfl rfl rfl rfl (c138) ?_
  refine Rn.eqB rfl (fun e4 => absurd e4 (by exact fun h => h ⟨(x_k6 hk).2.1, (x_k6 hk).2.2⟩)) (fun e4 => ?_)
  refine Rn.run 1 rfl ?_
  refine Rn.call rfl rfl rfl rfl rfl (c138) ?_
  refine Rn.neB rfl (fun e11 => ?_) (fun e11 => absurd e11 (by exact fun h => h ⟨(x_k6 hk2).2.1, (x_k6 hk2).2.2⟩))
  refine Rn.run 1 rfl ?_
  refine Rn.ge0 rfl (fun e18 => ?_) (fun e18 => absurd e18 (by exact fun h => h h5))
  refine Rn.run 3 rfl ?_
  refine Rn.ald rfl ⟨by decide, rfl⟩ (k) (x_k6 hk).1 hk ?_
  refine Rn.lt0 rfl (fun e33 => ?_) (fun e33 => ?_)
  · refine Rn.run 2 rfl ?_
    refine Rn.call rfl rfl rfl rfl rfl (c134 1 rfl (by decide)) ?_
    exact Rn.ret rfl rfl rfl rfl (rfl) (rfl)
  · refine Rn.run 3 rfl ?_
    refine Rn.ald rfl ⟨by decide, rfl⟩ (k2) (x_k6 hk2).1 hk2 ?_
    refine Rn.ge0 rfl (fun e42 => absurd e42 (by exact fun h => hm.elim e33 (fun z => absurd h (Int.not_le.mpr z)))) (fun e42 => ?_)
    refine Rn.run 2 rfl ?_
    refine Rn.call rfl rfl rfl rfl rfl (c134 1 rfl (by decide)) ?_
    exact Rn.ret rfl rfl rfl rfl (rfl) (rfl)
theorem c146_far {ex : xO} {d : Nat} {c : Nat → Nat → Int} {b : Bool} {k k2 : Nat} (hk : k < 6) (hk2 : k2 < 6) {a2 a4 a5 : Int} (h5 : w32 a5 = a5) (h0 : 0 ≤ a5) (m1 : ¬ w32 (c 56 k) < 0) (m2 : 0 ≤ w32 (c 56 k2)) (hf : ¬ w32 a2 < 0 → ¬ w32 a4 < 0 → ¬ 0 < w32 (xcmp (w32 a2 + w32 a5) (w32 (c 56 k))) → ¬ w32 (xcmp (w32 a4 + w32 a5) (w32 (c 56 k2))) ≤ 0) : An ex (d + 3) 146 7 [xA 54, xI (k : Int), xI a2, xI (k2 : Int), xI a4, xI a5] (hp c b) (xI (-3), hp (xup (xup c 54 5 2) 60 2 (c 60 2 + 1)) b) := by
  refine Rn.run 1 rfl ?_
  refine Rn.call rfl rfl rfl rfl rfl (c138) ?_
  refine Rn.eqB rfl (fun e4 => absurd e4 (by exact fun h => h ⟨(x_k6 hk).2.1, (x_k6 hk).2.2⟩)) (fun e4 => ?_)
  refine Rn.run 1 rfl ?_
  refine Rn.call rfl rfl rfl rfl rfl (c138) ?_
  refine Rn.neB rfl (fun e11 => ?_) (fun e11 => absurd e11 (by exact fun h => h ⟨(x_k6 hk2).2.1, (x_k6 hk2).2.2⟩))
  refine Rn.run 1 rfl ?_
  refine Rn.ge0 rfl (fun e18 => ?_) (fun e18 => absurd e18 (by exact fun h => h (by rw [h5]; exact h0)))
  refine Rn.run 3 rfl ?_
  refine Rn.ald rfl ⟨by decide, rfl⟩ (k) (x_k6 hk).1 hk ?_
  refine Rn.lt0 rfl (fun e33 => absurd e33 (by exact m1)) (fun e33 => ?_)
  refine Rn.run 3 rfl ?_
  refine Rn.ald rfl ⟨by decide, rfl⟩ (k2) (x_k6 hk2).1 hk2 ?_
  refine Rn.ge0 rfl (fun e42 => ?_) (fun e42 => absurd e42 (by exact fun h => h m2))
  refine Rn.run 1 rfl ?_
  refine Rn.lt0 rfl (fun e52 => ?_) (fun e52 => ?_)
  · refine Rn.run 2 rfl ?_
    refine Rn.call rfl rfl rfl rfl rfl (c134 2 rfl (by decide)) ?_
    exact Rn.ret rfl rfl rfl rfl (rfl) (rfl)
  · refine Rn.run 1 rfl ?_
    refine Rn.lt0 rfl (fun e57 => ?_) (fun e57 => ?_)
    · refine Rn.run 2 rfl ?_
      refine Rn.call rfl rfl rfl rfl rfl (c134 2 rfl (by decide)) ?_
      exact Rn.ret rfl rfl rfl rfl (rfl) (rfl)
    · refine Rn.run 8 rfl ?_
      refine Rn.ald rfl ⟨by decide, rfl⟩ (k) (x_k6 hk).1 hk ?_
      refine Rn.run 2 rfl ?_
      refine Rn.gt0 rfl (fun e74 => ?_) (fun e74 => ?_)
      · refine Rn.run 2 rfl ?_
        refine Rn.call rfl rfl rfl rfl rfl (c134 2 rfl (by decide)) ?_
        exact Rn.ret rfl rfl rfl rfl (rfl) (rfl)
      · refine Rn.run 8 rfl ?_
        refine Rn.ald rfl ⟨by decide, rfl⟩ (k2) (x_k6 hk2).1 hk2 ?_
        refine Rn.run 2 rfl ?_
        refine Rn.le0 rfl (fun e92 => absurd e92 (by exact hf e52 e57 e74)) (fun e92 => ?_)
        refine Rn.run 2 rfl ?_
        refine Rn.call rfl rfl rfl rfl rfl (c134 2 rfl (by decide)) ?_
        exact Rn.ret rfl rfl rfl rfl (rfl) (rfl)
theorem c146_ok {ex : xO} {d : Nat} {c : Nat → Nat → Int} {b : Bool} {k k2 : Nat} (hk : k < 6) (hk2 : k2 < 6) {i j n : Nat} (h2 : w32 (i : Int) = i) (h4 : w32 (j : Int) = j) (h5 : w32 (n : Int) = n) (h0 : 0 ≤ (n : Int)) (m1 : ¬ w32 (c 56 k) < 0) (m2 : 0 ≤ w32 (c 56 k2)) (q1 : ¬ 0 < w32 (xcmp (w32 (i : Int) + w32 (n : Int)) (w32 (c 56 k)))) (q2 : w32 (xcmp (w32 (j : Int) + w32 (n : Int)) (w32 (c 56 k2))) ≤ 0) (hin : i + n ≤ 40) (hjn : j + n ≤ 40) : An ex (d + 3) 146 7 [xA 54, xI (k : Int), xI (i : Int), xI (k2 : Int), xI (j : Int), xI (n : Int)] (hp c b) (xI 1, hp (xfl3 (xfl3 c 61 0 n (fun z => c 57 (40 * k + i + z))) 57 (40 * k2 + j + 0) (40 * k2 + j + n) (fun z => xfl3 c 61 0 n (fun z => c 57 (40 * k + i + z)) 61 (z - (40 * k2 + j)))) b) := by
  refine Rn.run 1 rfl ?_
  refine Rn.call rfl rfl rfl rfl rfl (c138) ?_
  refine Rn.eqB rfl (fun e4 => absurd e4 (by exact fun h => h ⟨(x_k6 hk).2.1, (x_k6 hk).2.2⟩)) (fun e4 => ?_)
  refine Rn.run 1 rfl ?_
  refine Rn.call rfl rfl rfl rfl rfl (c138) ?_
  refine Rn.neB rfl (fun e11 => ?_) (fun e11 => absurd e11 (by exact fun h => h ⟨(x_k6 hk2).2.1, (x_k6 hk2).2.2⟩))
  refine Rn.run 1 rfl ?_
  refine Rn.ge0 rfl (fun e18 => ?_) (fun e18 => absurd e18 (by exact fun h => h (by rw [h5]; exact h0)))
  refine Rn.run 3 rfl ?_
  refine Rn.ald rfl ⟨by decide, rfl⟩ (k) (x_k6 hk).1 hk ?_
  refine Rn.lt0 rfl (fun e33 => absurd e33 (by exact m1)) (fun e33 => ?_)
  refine Rn.run 3 rfl ?_
  refine Rn.ald rfl ⟨by decide, rfl⟩ (k2) (x_k6 hk2).1 hk2 ?_
  refine Rn.ge0 rfl (fun e42 => ?_) (fun e42 => absurd e42 (by exact fun h => h m2))
  refine Rn.run 1 rfl ?_
  refine Rn.lt0 rfl (fun e52 => absurd e52 (by rw [h2]; exact Int.not_lt.mpr (Int.natCast_nonneg i))) (fun e52 => ?_)
  refine Rn.run 1 rfl ?_
  refine Rn.lt0 rfl (fun e57 => absurd e57 (by rw [h4]; exact Int.not_lt.mpr (Int.natCast_nonneg j))) (fun e57 => ?_)
  refine Rn.run 8 rfl ?_
  refine Rn.ald rfl ⟨by decide, rfl⟩ (k) (x_k6 hk).1 hk ?_
  refine Rn.run 2 rfl ?_
  refine Rn.gt0 rfl (fun e74 => absurd e74 (by exact q1)) (fun e74 => ?_)
  refine Rn.run 8 rfl ?_
  refine Rn.ald rfl ⟨by decide, rfl⟩ (k2) (x_k6 hk2).1 hk2 ?_
  refine Rn.run 2 rfl ?_
  refine Rn.le0 rfl (fun e92 => ?_) (fun e92 => absurd e92 (by exact fun h => h q2))
  refine Rn.run 2 rfl ?_
  refine l146a hk hin n 0 _ (by omega) (fun z => rfl) ?_
  refine Rn.run 2 rfl ?_
  exact l146b hk2 hjn n 0 _ (by omega) (fun z => rfl)
