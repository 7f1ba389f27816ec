-- small helpers, both sides
theorem c100 {ex : xO} {d : Nat} {h : xH} {i n : Int} : An ex d 100 2 [xI i, xI n] h (xI (if 0 ≤ w32 i ∧ w32 i < w32 n then 1 else 0), h) := by
  refine Rn.run 1 rfl ?_
  refine Rn.lt0 rfl (fun e1 => ?_) (fun e1 => ?_)
  · refine Rn.run 1 rfl ?_
    exact Rn.ret rfl rfl rfl rfl (by first | rw [if_neg (by omega)] | rw [if_pos (by omega)]) (rfl)
  · refine Rn.run 2 rfl ?_
    refine Rn.ge2 rfl (fun e6 => ?_) (fun e6 => ?_)
    · refine Rn.run 1 rfl ?_
      exact Rn.ret rfl rfl rfl rfl (by first | rw [if_neg (by omega)] | rw [if_pos (by omega)]) (rfl)
    · refine Rn.run 2 rfl ?_
      exact Rn.ret rfl rfl rfl rfl (by first | rw [if_neg (by omega)] | rw [if_pos (by omega)]) (rfl)
theorem c101 {ex : xO} {d : Nat} {c : Nat → Nat → Int} {b : Bool} {i : Int} (f : Nat) (hf : w32 i = (f : Int)) (hf6 : f < 6) : An ex d 101 2 [xA 0, xI i] (hp c b) (xI (-3), hp (xup (xup c 0 13 i) 13 f (c 13 f + 1)) b) := by
  refine Rn.run 7 rfl ?_
  refine Rn.ald rfl ⟨by decide, rfl⟩ (f) hf hf6 ?_
  refine Rn.run 2 rfl ?_
  refine Rn.ast rfl ⟨by decide, rfl⟩ (f) hf hf6 ?_
  refine Rn.run 1 rfl ?_
  exact Rn.ret rfl rfl rfl rfl (rfl) (rfl)
theorem c102 {ex : xO} {d : Nat} {c : Nat → Nat → Int} {b : Bool} {v : Int} : An ex d 102 2 [xA 0, xI v] (hp c b) (xI 1, hp (xup c 0 10 v) b) := by
  refine Rn.run 4 rfl ?_
  exact Rn.ret rfl rfl rfl rfl (rfl) (rfl)
theorem c134 {ex : xO} {d : Nat} {c : Nat → Nat → Int} {b : Bool} {i : Int} (f : Nat) (hf : w32 i = (f : Int)) (hf6 : f < 6) : An ex d 134 2 [xA 54, xI i] (hp c b) (xI (-3), hp (xup (xup c 54 5 i) 60 f (c 60 f + 1)) b) := by
  refine Rn.run 7 rfl ?_
  refine Rn.ald rfl ⟨by decide, rfl⟩ (f) hf hf6 ?_
  refine Rn.run 2 rfl ?_
  refine Rn.ast rfl ⟨by decide, rfl⟩ (f) hf hf6 ?_
  refine Rn.run 1 rfl ?_
  exact Rn.ret rfl rfl rfl rfl (rfl) (rfl)
theorem c135 {ex : xO} {d : Nat} {c : Nat → Nat → Int} {b : Bool} {v : Int} : An ex d 135 2 [xA 54, xI v] (hp c b) (xI 1, hp (xup c 54 7 v) b) := by
  refine Rn.run 4 rfl ?_
  exact Rn.ret rfl rfl rfl rfl (rfl) (rfl)
theorem x_cmplt {a b : Int} : w32 (xcmp a b) < 0 ↔ w64 a < w64 b := by
  unfold xcmp
  split
  · simp [w32]; omega
  · split <;> simp [w32] <;> omega
theorem x_cmpgt {a b : Int} : 0 < w32 (xcmp a b) ↔ w64 b < w64 a := by
  unfold xcmp
  split
  · simp [w32]; omega
  · split <;> simp [w32] <;> omega
theorem c131 {ex : xO} {d : Nat} {h : xH} {v lo hi : Int} : An ex d 131 6 [xL v, xL lo, xL hi] h (xI (if w64 lo ≤ w64 v ∧ w64 v ≤ w64 hi then 1 else 0), h) := by
  refine Rn.run 3 rfl ?_
  refine Rn.lt0 rfl (fun e3 => ?_) (fun e3 => ?_)
  · refine Rn.run 1 rfl ?_
    refine Rn.ret rfl rfl rfl rfl ?_ rfl
    have := x_cmplt.mp e3
    rw [if_neg (by omega)]
  · refine Rn.run 3 rfl ?_
    refine Rn.gt0 rfl (fun e10 => ?_) (fun e10 => ?_)
    · refine Rn.run 1 rfl ?_
      refine Rn.ret rfl rfl rfl rfl ?_ rfl
      have := x_cmpgt.mp e10
      rw [if_neg (by omega)]
    · refine Rn.run 2 rfl ?_
      refine Rn.ret rfl rfl rfl rfl ?_ rfl
      have h1 : ¬ w64 v < w64 lo := fun h => e3 (x_cmplt.mpr h)
      have h2 : ¬ w64 hi < w64 v := fun h => e10 (x_cmpgt.mpr h)
      rw [if_pos (by omega)]
theorem c138 {ex : xO} {d : Nat} {h : xH} {r : Int} : An ex (d + 1) 138 1 [xI r] h (xI (if 0 ≤ w32 r ∧ w32 r < 6 then 1 else 0), h) := by
  refine Rn.run 4 rfl ?_
  refine Rn.call rfl rfl rfl rfl rfl (c131) ?_
  exact Rn.retZ rfl (x_01 _) (x_ifc (by simp only [w64, w32]; omega))
theorem c139 {ex : xO} {d : Nat} {h : xH} {r : Int} : An ex (d + 1) 139 1 [xI r] h (xI (if 0 ≤ w32 r ∧ w32 r < 4 then 1 else 0), h) := by
  refine Rn.run 4 rfl ?_
  refine Rn.call rfl rfl rfl rfl rfl (c131) ?_
  exact Rn.retZ rfl (x_01 _) (x_ifc (by simp only [w64, w32]; omega))
theorem c47 {ex : xO} {d : Nat} {c : Nat → Nat → Int} {b : Bool} {k : Nat} (hk : k < 6) : An ex d 47 1 [xA (22 + 2 * k)] (hp c b) (xI (if w32 (c (22 + 2 * k) 0) < 0 then 1 else 0), hp c b) := by
  refine Rn.run 1 rfl ?_
  refine Rn.getI rfl (xS_row hk) ?_
  refine Rn.ge0 rfl (fun e4 => ?_) (fun e4 => ?_)
  · refine Rn.run 1 rfl ?_
    exact Rn.ret rfl rfl rfl rfl (by first | rw [if_neg (by omega)] | rw [if_pos (by omega)]) (rfl)
  · refine Rn.run 2 rfl ?_
    exact Rn.ret rfl rfl rfl rfl (by first | rw [if_neg (by omega)] | rw [if_pos (by omega)]) (rfl)
theorem c53 {ex : xO} {d : Nat} {c : Nat → Nat → Int} {b : Bool} {k : Nat} (hk : k < 4) : An ex d 53 1 [xA (34 + 2 * k)] (hp c b) (xI (if w32 (c (34 + 2 * k) 0) < 0 then 1 else 0), hp c b) := by
  refine Rn.run 1 rfl ?_
  refine Rn.getI rfl (xS_txt hk) ?_
  refine Rn.ge0 rfl (fun e4 => ?_) (fun e4 => ?_)
  · refine Rn.run 1 rfl ?_
    exact Rn.ret rfl rfl rfl rfl (by first | rw [if_neg (by omega)] | rw [if_pos (by omega)]) (rfl)
  · refine Rn.run 2 rfl ?_
    exact Rn.ret rfl rfl rfl rfl (by first | rw [if_neg (by omega)] | rw [if_pos (by omega)]) (rfl)
theorem g_asked {ex : xO} : AgI ex 93 1 221 1 [] := by
  intro d c b hI
  refine ⟨c 0 10, c 54 7, c, b, c, b, Rn.run 2 rfl (Rn.ret rfl rfl rfl rfl rfl rfl), Rn.run 2 rfl (Rn.ret rfl rfl rfl rfl rfl rfl), by rw [hI.2.2.2.1.1], hI⟩
theorem g_finding {ex : xO} : AgI ex 97 1 231 1 [] := by
  intro d c b hI
  refine ⟨c 0 13, c 54 5, c, b, c, b, Rn.run 2 rfl (Rn.ret rfl rfl rfl rfl rfl rfl), Rn.run 2 rfl (Rn.ret rfl rfl rfl rfl rfl rfl), by rw [hI.2.2.1.1], hI⟩
theorem g_upper {ex : xO} : AgL ex 94 1 222 1 [] := by
  intro d c b hI
  refine ⟨c 0 11, c 54 8, c, b, c, b, Rn.run 2 rfl (Rn.ret rfl rfl rfl rfl rfl rfl), Rn.run 2 rfl (Rn.ret rfl rfl rfl rfl rfl rfl), by rw [hI.2.2.2.1.2.1], hI⟩
theorem g_lower {ex : xO} : AgL ex 95 1 223 1 [] := by
  intro d c b hI
  refine ⟨c 0 12, c 54 9, c, b, c, b, Rn.run 2 rfl (Rn.ret rfl rfl rfl rfl rfl rfl), Rn.run 2 rfl (Rn.ret rfl rfl rfl rfl rfl rfl), by rw [hI.2.2.2.1.2.2], hI⟩
