-- undo, path by path
theorem c74_ok {ex : xO} {d : Nat} {c : Nat → Nat → Int} {b : Bool} {k D : Nat} (d2 : c 7 0 = D) (wk : w32 (k : Int) = k) (wD : w32 (D : Int) = D) (hk : (k : Int) ≤ D) : An ex (d + 2) 74 3 [xA 0, xI (k : Int)] (hp c b) (xI ((D : Int) - k), hp (xup c 7 0 k) b) := by
  refine Rn.run 1 rfl ?_
  refine Rn.lt0 rfl (fun e1 => absurd e1 (by rw [wk]; exact Int.not_lt.mpr (Int.natCast_nonneg k))) (fun e1 => ?_)
  refine Rn.run 4 rfl ?_
  refine Rn.le2 rfl (fun e12 => ?_) (fun e12 => absurd e12 (by rw [d2, wD, wk]; exact fun h => h hk))
  refine Rn.run 11 rfl ?_
  exact Rn.ret rfl rfl rfl rfl (by rw [d2]) rfl
theorem c74_bad {ex : xO} {d : Nat} {c : Nat → Nat → Int} {b : Bool} {a : Int} {D : Nat} (d2 : c 7 0 = D) (wa : w32 a = a) (wD : w32 (D : Int) = D) (ha : ¬ (0 ≤ a ∧ a ≤ D)) : An ex (d + 2) 74 3 [xA 0, xI a] (hp c b) (xI (-1), hp c b) := by
  refine Rn.run 1 rfl ?_
  refine Rn.lt0 rfl (fun e1 => ?_) (fun e1 => ?_)
  · refine Rn.run 1 rfl ?_
    exact Rn.ret rfl rfl rfl rfl (rfl) (rfl)
  · refine Rn.run 4 rfl ?_
    refine Rn.le2 rfl (fun e12 => absurd e12 (by rw [d2, wD, wa]; rw [wa] at e1; exact fun h => ha ⟨Int.not_lt.mp e1, h⟩)) (fun e12 => ?_)
    refine Rn.run 1 rfl ?_
    exact Rn.ret rfl rfl rfl rfl (rfl) (rfl)
theorem c187_bad {ex : xO} {d : Nat} {c : Nat → Nat → Int} {b : Bool} {a : Int} {D : Nat} (d3 : c 55 29 = D) (hD : D ≤ 40) (wa : w32 a = a) (ha : ¬ (0 ≤ a ∧ a < (D : Int) + 1)) : An ex (d + 2) 187 5 [xA 54, xI a] (hp c b) (xI (-1), hp c b) := by
  refine Rn.run 6 rfl ?_
  refine Rn.ald rfl ⟨by decide, rfl⟩ 29 rfl (by decide) ?_
  rw [d3]
  refine Rn.run 1 rfl ?_
  refine Rn.call rfl rfl rfl rfl rfl (c131) ?_
  refine Rn.neB rfl (fun e14 => absurd e14 (by exact fun h => ha (by rw [← wa]; exact (x_in64 (by omega)).mp h))) (fun e14 => ?_)
  refine Rn.run 1 rfl ?_
  exact Rn.ret rfl rfl rfl rfl (rfl) (rfl)
theorem c187_same {ex : xO} {d : Nat} {c : Nat → Nat → Int} {b : Bool} {k : Nat} (d3 : c 55 29 = k) (hk : k ≤ 40) (wk : w32 (k : Int) = k) : An ex (d + 2) 187 5 [xA 54, xI (k : Int)] (hp c b) (xI ((k : Int) - k), hp c b) := by
  refine Rn.run 6 rfl ?_
  refine Rn.ald rfl ⟨by decide, rfl⟩ 29 rfl (by decide) ?_
  rw [d3]
  refine Rn.run 1 rfl ?_
  refine Rn.call rfl rfl rfl rfl rfl (c131) ?_
  refine Rn.neB rfl (fun e14 => ?_) (fun e14 => absurd e14 (by exact fun h => h ((x_in64 (by omega)).mpr (by rw [wk]; omega))))
  refine Rn.run 3 rfl ?_
  refine Rn.ald rfl ⟨by decide, rfl⟩ 29 rfl (by decide) ?_
  rw [d3]
  refine Rn.run 4 rfl ?_
  refine Rn.le0 rfl (fun e30 => ?_) (fun e30 => absurd e30 (by rw [Int.sub_self]; exact fun h => h (by decide)))
  refine Rn.run 1 rfl ?_
  exact Rn.ret rfl rfl rfl rfl (rfl) (rfl)
theorem c187_ok {ex : xO} {d : Nat} {c : Nat → Nat → Int} {b : Bool} {k D : Nat} (d3 : c 55 29 = D) (hD : D ≤ 40) (hk : k < D) (wk : w32 (k : Int) = k) : An ex (d + 2) 187 5 [xA 54, xI (k : Int)] (hp c b) (xI ((D : Int) - k), hp (xup (xfl3 (xup (xup c 55 1 (c 55 (30 + 10 * k))) 55 2 (xup c 55 1 (c 55 (30 + 10 * k)) 55 (30 + 10 * k + 1))) 55 (3 + 0) 11 (fun x => c 55 (30 + 10 * k + 2 + (x - 3)))) 55 29 k) b) := by
  refine Rn.run 6 rfl ?_
  refine Rn.ald rfl ⟨by decide, rfl⟩ 29 rfl (by decide) ?_
  rw [d3]
  refine Rn.run 1 rfl ?_
  refine Rn.call rfl rfl rfl rfl rfl (c131) ?_
  refine Rn.neB rfl (fun e14 => ?_) (fun e14 => absurd e14 (by exact fun h => h ((x_in64 (by omega)).mpr (by rw [wk]; omega))))
  refine Rn.run 3 rfl ?_
  refine Rn.ald rfl ⟨by decide, rfl⟩ 29 rfl (by decide) ?_
  rw [d3]
  refine Rn.run 4 rfl ?_
  refine Rn.le0 rfl (fun e30 => absurd e30 (by rw [x_w ((D : Int) - k) (by omega) (by omega)]; omega)) (fun e30 => ?_)
  refine Rn.run 12 rfl ?_
  refine Rn.ald rfl ⟨by decide, rfl⟩ (30 + 10 * k) (by unfold w32; omega) (by omega) ?_
  refine Rn.ast rfl ⟨by decide, rfl⟩ (1) rfl (by decide) ?_
  refine Rn.run 8 rfl ?_
  refine Rn.ald rfl ⟨by decide, rfl⟩ (30 + 10 * k + 1) (by unfold w32; omega) (by omega) ?_
  refine Rn.ast rfl ⟨by decide, rfl⟩ (2) rfl (by decide) ?_
  refine Rn.run 2 rfl ?_
  exact l187 (g := fun z => c 55 z) (by omega) 8 0 _ (by omega) (fun z hz => by rw [xup_n _ _ (by omega), xup_n _ _ (by omega)])
