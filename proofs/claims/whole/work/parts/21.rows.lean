-- rows
theorem xup_comm {α : Type} (f : Nat → Nat → α) {a j a' j' : Nat} (v v' : α) (h : a ≠ a' ∨ j ≠ j') : xup (xup f a j v) a' j' v' = xup (xup f a' j' v') a j v := by
  funext x y
  simp only [xup]
  by_cases h1 : x = a' <;> by_cases h2 : x = a <;> by_cases h3 : y = j' <;> by_cases h4 : y = j <;> simp_all
theorem g_findings {ex : xO} (a1 : Int) (h1 : w32 a1 = a1) : AgI ex 98 2 232 2 [xI a1] := by
  intro d c b hI
  by_cases h : 1 ≤ a1 ∧ a1 ≤ 5
  · refine ⟨c 13 a1.toNat, c 60 a1.toNat, c, b, c, b, ?_, ?_, by rw [hI.2.2.1.2 _ (by omega)], hI⟩
    · show Rn ex xt98 (d + 20) 0 [xA 0, xI a1] [] (hp c b) _
      refine Rn.run 2 rfl ?_
      refine Rn.lt2 rfl (fun e2 => absurd e2 (by simp only [w32] at *; omega)) (fun e2 => ?_)
      refine Rn.run 2 rfl ?_
      refine Rn.le2 rfl (fun e7 => ?_) (fun e7 => absurd e7 (by simp only [w32] at *; omega))
      refine Rn.run 3 rfl ?_
      refine Rn.ald rfl ⟨by decide, rfl⟩ (a1.toNat) (by omega) (by omega) ?_
      exact Rn.ret rfl rfl rfl rfl (rfl) (rfl)
    · show Rn ex xt232 (d + 20) 0 [xA 54, xI a1] [] (hp c b) _
      refine Rn.run 4 rfl ?_
      refine Rn.call rfl rfl rfl rfl rfl (c131) ?_
      refine Rn.eqB rfl (fun e9 => absurd e9 (by simp only [w64, w32] at *; omega)) (fun e9 => ?_)
      refine Rn.run 3 rfl ?_
      refine Rn.ald rfl ⟨by decide, rfl⟩ (a1.toNat) (by omega) (by omega) ?_
      refine Rn.run 1 rfl ?_
      exact Rn.ret rfl rfl rfl rfl (rfl) (rfl)
  · refine ⟨-1, -1, c, b, c, b, ?_, ?_, rfl, hI⟩
    · show Rn ex xt98 (d + 20) 0 [xA 0, xI a1] [] (hp c b) _
      refine Rn.run 2 rfl ?_
      refine Rn.lt2 rfl (fun e2 => ?_) (fun e2 => ?_)
      · refine Rn.run 1 rfl ?_
        exact Rn.ret rfl rfl rfl rfl (rfl) (rfl)
      · refine Rn.run 2 rfl ?_
        refine Rn.le2 rfl (fun e7 => absurd e7 (by simp only [w32] at *; omega)) (fun e7 => ?_)
        refine Rn.run 1 rfl ?_
        exact Rn.ret rfl rfl rfl rfl (rfl) (rfl)
    · show Rn ex xt232 (d + 20) 0 [xA 54, xI a1] [] (hp c b) _
      refine Rn.run 4 rfl ?_
      refine Rn.call rfl rfl rfl rfl rfl (c131) ?_
      refine Rn.eqB rfl (fun e9 => ?_) (fun e9 => absurd e9 (by simp only [w64, w32] at *; omega))
      refine Rn.run 1 rfl ?_
      exact Rn.ret rfl rfl rfl rfl (rfl) (rfl)
theorem c106_bad {ex : xO} {d : Nat} {c : Nat → Nat → Int} {b : Bool} {r : Int} (hr : ¬ (0 ≤ w32 r ∧ w32 r < 6)) : An ex (d + 2) 106 2 [xA 0, xI r] (hp c b) (xI (-1), hp c b) := by
  refine Rn.run 2 rfl ?_
  refine Rn.call rfl rfl rfl rfl rfl (c100) ?_
  refine Rn.neB rfl (fun e6 => absurd e6 (by exact hr)) (fun e6 => ?_)
  refine Rn.run 1 rfl ?_
  exact Rn.ret rfl rfl rfl rfl (rfl) (rfl)
theorem c106_no {ex : xO} {d : Nat} {c : Nat → Nat → Int} {b : Bool} {r : Int} (k : Nat) (hk : k < 6) (hr : w32 r = (k : Int)) (hm : w32 (c (22 + 2 * k) 0) < 0) : An ex (d + 2) 106 2 [xA 0, xI r] (hp c b) (xI (-3), hp (xup (xup c 0 13 1) 13 1 (c 13 1 + 1)) b) := by
  refine Rn.run 2 rfl ?_
  refine Rn.call rfl rfl rfl rfl rfl (c100) ?_
  refine Rn.neB rfl (fun e6 => ?_) (fun e6 => absurd e6 (by simp only [w32] at *; omega))
  refine Rn.run 3 rfl ?_
  refine Rn.aald rfl ⟨by decide, rfl, by decide, by decide⟩ k hr (by omega) (xR_row hk).1 ?_
  refine Rn.callV rfl (by have := xS_row hk; omega) rfl rfl rfl (c47 hk) ?_
  refine Rn.eqB rfl (fun e20 => absurd e20 (by intro h; exact h hm)) (fun e20 => ?_)
  refine Rn.run 2 rfl ?_
  refine Rn.call rfl rfl rfl rfl rfl (c101 1 rfl (by decide)) ?_
  refine Rn.run 1 rfl ?_
  exact Rn.ret rfl rfl rfl rfl (rfl) (rfl)
theorem c106_ok {ex : xO} {d : Nat} {c : Nat → Nat → Int} {b : Bool} {r : Int} (k : Nat) (hk : k < 6) (hr : w32 r = (k : Int)) (hm : ¬ w32 (c (22 + 2 * k) 0) < 0) : An ex (d + 2) 106 2 [xA 0, xI r] (hp c b) (xI 0, hp c b) := by
  refine Rn.run 2 rfl ?_
  refine Rn.call rfl rfl rfl rfl rfl (c100) ?_
  refine Rn.neB rfl (fun e6 => ?_) (fun e6 => absurd e6 (by simp only [w32] at *; omega))
  refine Rn.run 3 rfl ?_
  refine Rn.aald rfl ⟨by decide, rfl, by decide, by decide⟩ k hr (by omega) (xR_row hk).1 ?_
  refine Rn.callV rfl (by have := xS_row hk; omega) rfl rfl rfl (c47 hk) ?_
  refine Rn.eqB rfl (fun e20 => ?_) (fun e20 => absurd e20 (by exact hm))
  refine Rn.run 1 rfl ?_
  exact Rn.ret rfl rfl rfl rfl (rfl) (rfl)
theorem c107_bad {ex : xO} {d : Nat} {c : Nat → Nat → Int} {b : Bool} {r i : Int} (hr : ¬ (0 ≤ w32 r ∧ w32 r < 6)) : An ex (d + 3) 107 4 [xA 0, xI r, xI i] (hp c b) (xI (-1), hp c b) := by
  refine Rn.run 2 rfl ?_
  refine Rn.call rfl rfl rfl rfl rfl (c106_bad hr) ?_
  refine Rn.run 2 rfl ?_
  refine Rn.eq0 rfl (fun e7 => absurd e7 (by decide)) (fun e7 => ?_)
  refine Rn.run 1 rfl ?_
  exact Rn.ret rfl rfl rfl rfl (rfl) (rfl)
theorem c107_no {ex : xO} {d : Nat} {c : Nat → Nat → Int} {b : Bool} {r i : Int} (k : Nat) (hk : k < 6) (hr : w32 r = (k : Int)) (hm : w32 (c (22 + 2 * k) 0) < 0) : An ex (d + 3) 107 4 [xA 0, xI r, xI i] (hp c b) (xI (-3), hp (xup (xup c 0 13 1) 13 1 (c 13 1 + 1)) b) := by
  refine Rn.run 2 rfl ?_
  refine Rn.call rfl rfl rfl rfl rfl (c106_no k hk hr hm) ?_
  refine Rn.run 2 rfl ?_
  refine Rn.eq0 rfl (fun e7 => absurd e7 (by decide)) (fun e7 => ?_)
  refine Rn.run 1 rfl ?_
  exact Rn.ret rfl rfl rfl rfl (rfl) (rfl)
theorem c107_far {ex : xO} {d : Nat} {c : Nat → Nat → Int} {b : Bool} {r i : Int} (k : Nat) (hk : k < 6) (hr : w32 r = (k : Int)) (hm : ¬ w32 (c (22 + 2 * k) 0) < 0) (hi : ¬ (0 ≤ w32 i ∧ w32 i < w32 (c (22 + 2 * k) 0))) : An ex (d + 3) 107 4 [xA 0, xI r, xI i] (hp c b) (xI (-3), hp (xup (xup c 0 13 2) 13 2 (c 13 2 + 1)) b) := by
  refine Rn.run 2 rfl ?_
  refine Rn.call rfl rfl rfl rfl rfl (c106_ok k hk hr hm) ?_
  refine Rn.run 2 rfl ?_
  refine Rn.eq0 rfl (fun e7 => ?_) (fun e7 => absurd e7 (by decide))
  refine Rn.run 4 rfl ?_
  refine Rn.aald rfl ⟨by decide, rfl, by decide, by decide⟩ k hr (by omega) (xR_row hk).1 ?_
  refine Rn.getI rfl (xS_row hk) ?_
  refine Rn.call rfl rfl rfl rfl rfl (c100) ?_
  refine Rn.eqB rfl (fun e25 => ?_) (fun e25 => absurd e25 (by exact hi))
  refine Rn.run 2 rfl ?_
  refine Rn.call rfl rfl rfl rfl rfl (c101 2 rfl (by decide)) ?_
  exact Rn.ret rfl rfl rfl rfl (rfl) (rfl)
theorem c107_ok {ex : xO} {d : Nat} {c : Nat → Nat → Int} {b : Bool} {r i : Int} (k : Nat) (hk : k < 6) (hr : w32 r = (k : Int)) (hm : ¬ w32 (c (22 + 2 * k) 0) < 0) (hi : 0 ≤ w32 i ∧ w32 i < w32 (c (22 + 2 * k) 0)) : An ex (d + 3) 107 4 [xA 0, xI r, xI i] (hp c b) (xI 0, hp c b) := by
  refine Rn.run 2 rfl ?_
  refine Rn.call rfl rfl rfl rfl rfl (c106_ok k hk hr hm) ?_
  refine Rn.run 2 rfl ?_
  refine Rn.eq0 rfl (fun e7 => ?_) (fun e7 => absurd e7 (by decide))
  refine Rn.run 4 rfl ?_
  refine Rn.aald rfl ⟨by decide, rfl, by decide, by decide⟩ k hr (by omega) (xR_row hk).1 ?_
  refine Rn.getI rfl (xS_row hk) ?_
  refine Rn.call rfl rfl rfl rfl rfl (c100) ?_
  refine Rn.eqB rfl (fun e25 => absurd e25 (by exact fun h => h hi)) (fun e25 => ?_)
  refine Rn.run 2 rfl ?_
  exact Rn.ret rfl rfl rfl rfl (rfl) (rfl)
