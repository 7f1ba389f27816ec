-- the green: its deaths; answers
theorem xS_g (b : Bool) : gid b < 71 ∧ (xS (gid b)).1 = 0 ∧ (xS (gid b)).2.1 = 2 := by cases b <;> decide
theorem xS_g1 (b : Bool) : gid b + 1 < 71 ∧ xS (gid b + 1) = (1, 0, 6) := by cases b <;> decide
theorem xS_g2 (b : Bool) : gid b + 2 < 71 ∧ xS (gid b + 2) = (1, 0, 6) := by cases b <;> decide
theorem xS_g3 (b : Bool) : gid b + 3 < 71 ∧ xS (gid b + 3) = (1, 0, 6) := by cases b <;> decide
theorem xR_g (b : Bool) : xR b (gid b) 3 = some (gid b + 1) ∧ xR b (gid b) 4 = some (gid b + 2) ∧ xR b (gid b) 5 = some (gid b + 3) := by cases b <;> exact ⟨rfl, rfl, rfl⟩
theorem x_in64 {i m : Int} (hm : -1 ≤ m ∧ m < 1000) : (w64 0 ≤ w64 (w32 i) ∧ w64 (w32 i) ≤ w64 (w32 m)) ↔ (0 ≤ w32 i ∧ w32 i < m + 1) := by
  have h1 : w32 m = m := by unfold w32; omega
  have h2 : -2147483648 ≤ w32 i ∧ w32 i < 2147483648 := by unfold w32; omega
  rw [h1]
  generalize w32 i = z at h2
  simp only [w64]
  omega
theorem x_in9 {i m : Int} (hm : -1 ≤ m ∧ m < 1000) : (w64 0 ≤ w64 (w32 i) ∧ w64 (w32 i) ≤ w64 m) ↔ (0 ≤ w32 i ∧ w32 i < m + 1) := by
  have h2 : -2147483648 ≤ w32 i ∧ w32 i < 2147483648 := by unfold w32; omega
  generalize w32 i = z at h2
  simp only [w64]
  omega
theorem c140 {ex : xO} {d : Nat} {c : Nat → Nat → Int} {b : Bool} {i : Int} {n : Nat} (hn : n ≤ 6) (h0 : c 55 0 = n) : An ex (d + 1) 140 2 [xA 54, xI i] (hp c b) (xI (if 0 ≤ w32 i ∧ w32 i < n then 1 else 0), hp c b) := by
  refine Rn.run 6 rfl ?_
  refine Rn.ald rfl ⟨by decide, rfl⟩ 0 rfl (by decide) ?_
  rw [h0]
  refine Rn.run 3 rfl ?_
  refine Rn.call rfl rfl rfl rfl rfl (c131) ?_
  exact Rn.retZ rfl (x_01 _) (x_ifc ((x_in64 (m := (n : Int) - 1) (by omega)).trans (by omega)))
theorem c141 {ex : xO} {d : Nat} {h : xH} {i : Int} : An ex (d + 1) 141 1 [xI i] h (xI (if 0 ≤ w32 i ∧ w32 i < 8 then 1 else 0), h) := by
  refine Rn.run 4 rfl ?_
  refine Rn.call rfl rfl rfl rfl rfl (c131) ?_
  exact Rn.retZ rfl (x_01 _) (x_ifc ((x_in9 (m := 7) (by omega)).trans (by omega)))
theorem g_answers {ex : xO} (a1 a2 a3 : Int) (h1 : w32 a1 = a1) (h2 : w32 a2 = a2) (h3 : w32 a3 = a3) : AgI ex 77 4 190 4 [xI a1, xI a2, xI a3] := by
  intro d c b hI
  obtain ⟨n, hG, -⟩ := hI.2.2.2.2
  obtain ⟨n6, g0, g1, -, gi⟩ := hG
  have wn : w32 (n : Int) = n := by unfold w32; omega
  by_cases hr : (0 ≤ a1 ∧ a1 < n) ∧ (0 ≤ a2 ∧ a2 < 10) ∧ (0 ≤ a3 ∧ a3 < 10)
  · obtain ⟨k, hk, rfl⟩ : ∃ k : Nat, k < n ∧ a1 = (k : Int) := ⟨a1.toNat, by omega, by omega⟩
    obtain ⟨⟨q1, q2⟩, -, -⟩ := gi k hk
    refine Ag_same hI (sans (c 55 (11 + k)) a2 a3) ?_ ?_
    · show Rn ex xt77 (d + 20) 0 [xA 0, xI (k : Int), xI a2, xI a3] [] (hp c b) _
      refine Rn.run 2 rfl ?_
      refine Rn.getR rfl ⟨by decide, rfl, rfl⟩ (j := gid b) rfl ?_
      refine Rn.getI rfl (xS_g b) ?_
      rw [g1]
      refine Rn.call rfl rfl rfl rfl rfl (c100) ?_
      refine Rn.eqB rfl (fun e11 => absurd e11 (by exact fun h => h (by rw [h1, wn]; exact hr.1))) (fun e11 => ?_)
      refine Rn.run 2 rfl ?_
      refine Rn.call rfl rfl rfl rfl rfl (c100) ?_
      refine Rn.eqB rfl (fun e20 => absurd e20 (by exact fun h => h (by rw [h2]; exact hr.2.1))) (fun e20 => ?_)
      refine Rn.run 2 rfl ?_
      refine Rn.call rfl rfl rfl rfl rfl (c100) ?_
      refine Rn.neB rfl (fun e29 => ?_) (fun e29 => absurd e29 (by exact fun h => h (by rw [h3]; exact hr.2.2)))
      refine Rn.run 1 rfl ?_
      refine Rn.getR rfl ⟨by decide, rfl, rfl⟩ (j := gid b) rfl ?_
      refine Rn.getR rfl (xS_g b) (xR_g b).1 ?_
      refine Rn.run 1 rfl ?_
      refine Rn.ald rfl (xS_g1 b) k h1 (by omega) ?_
      rw [q1]
      refine Rn.run 2 rfl ?_
      refine Rn.call rfl rfl rfl rfl rfl (c30 q2 (by omega) (by omega)) ?_
      exact Rn.ret rfl rfl rfl rfl (rfl) (rfl)
    · show Rn ex xt190 (d + 20) 0 [xA 54, xI (k : Int), xI a2, xI a3] [] (hp c b) _
      refine Rn.run 2 rfl ?_
      refine Rn.call rfl rfl rfl rfl rfl (c140 n6 g0) ?_
      refine Rn.eqB rfl (fun e5 => absurd e5 (by exact fun h => h (by rw [h1]; exact hr.1))) (fun e5 => ?_)
      refine Rn.run 4 rfl ?_
      refine Rn.call rfl rfl rfl rfl rfl (c131) ?_
      refine Rn.eqB rfl (fun e17 => absurd e17 (by exact fun h => h ((x_in9 (by omega)).mpr (by rw [h2]; exact hr.2.1)))) (fun e17 => ?_)
      refine Rn.run 4 rfl ?_
      refine Rn.call rfl rfl rfl rfl rfl (c131) ?_
      refine Rn.eqB rfl (fun e29 => absurd e29 (by exact fun h => h ((x_in9 (by omega)).mpr (by rw [h3]; exact hr.2.2)))) (fun e29 => ?_)
      refine Rn.run 5 rfl ?_
      refine Rn.ald rfl ⟨by decide, rfl⟩ (11 + k) (by unfold w32; omega) (by omega) ?_
      refine Rn.run 2 rfl ?_
      refine Rn.call rfl rfl rfl rfl rfl (c161 q2 (by omega) (by omega)) ?_
      refine Rn.run 1 rfl ?_
      exact Rn.ret rfl rfl rfl rfl (rfl) (rfl)
  · refine Ag_same hI (-1) ?_ ?_
    · show Rn ex xt77 (d + 20) 0 [xA 0, xI a1, xI a2, xI a3] [] (hp c b) _
      refine Rn.run 2 rfl ?_
      refine Rn.getR rfl ⟨by decide, rfl, rfl⟩ (j := gid b) rfl ?_
      refine Rn.getI rfl (xS_g b) ?_
      rw [g1]
      refine Rn.call rfl rfl rfl rfl rfl (c100) ?_
      refine Rn.eqB rfl (fun e11 => ?_) (fun e11 => ?_)
      · refine Rn.run 1 rfl ?_
        exact Rn.ret rfl rfl rfl rfl (rfl) (rfl)
      · refine Rn.run 2 rfl ?_
        refine Rn.call rfl rfl rfl rfl rfl (c100) ?_
        refine Rn.eqB rfl (fun e20 => ?_) (fun e20 => ?_)
        · refine Rn.run 1 rfl ?_
          exact Rn.ret rfl rfl rfl rfl (rfl) (rfl)
        · refine Rn.run 2 rfl ?_
          refine Rn.call rfl rfl rfl rfl rfl (c100) ?_
          refine Rn.neB rfl (fun e29 => absurd e29 (by exact fun h => hr ⟨by rw [← h1, ← wn]; exact e11, by rw [← h2]; exact e20, by rw [← h3]; exact h⟩)) (fun e29 => ?_)
          refine Rn.run 1 rfl ?_
          exact Rn.ret rfl rfl rfl rfl (rfl) (rfl)
    · show Rn ex xt190 (d + 20) 0 [xA 54, xI a1, xI a2, xI a3] [] (hp c b) _
      refine Rn.run 2 rfl ?_
      refine Rn.call rfl rfl rfl rfl rfl (c140 n6 g0) ?_
      refine Rn.eqB rfl (fun e5 => ?_) (fun e5 => ?_)
      · refine Rn.run 1 rfl ?_
        exact Rn.ret rfl rfl rfl rfl (rfl) (rfl)
      · refine Rn.run 4 rfl ?_
        refine Rn.call rfl rfl rfl rfl rfl (c131) ?_
        refine Rn.eqB rfl (fun e17 => ?_) (fun e17 => ?_)
        · refine Rn.run 1 rfl ?_
          exact Rn.ret rfl rfl rfl rfl (rfl) (rfl)
        · refine Rn.run 4 rfl ?_
          refine Rn.call rfl rfl rfl rfl rfl (c131) ?_
          refine Rn.eqB rfl (fun e29 => ?_) (fun e29 => absurd e29 (by exact fun h => hr ⟨by rw [← h1]; exact e5, by rw [← h2]; exact (x_in9 (by omega)).mp e17, by rw [← h3]; exact (x_in9 (by omega)).mp h⟩))
          refine Rn.run 1 rfl ?_
          exact Rn.ret rfl rfl rfl rfl (rfl) (rfl)
