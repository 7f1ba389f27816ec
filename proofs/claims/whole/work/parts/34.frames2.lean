-- finer frames for the model's block; undo
theorem iGrn_fr2 {c c' : Nat → Nat → Int} {b : Bool} {n : Nat} (h : ∀ a k, (gid b ≤ a ∧ a ≤ gid b + 3) ∨ (a = 55 ∧ (k = 0 ∨ (11 ≤ k ∧ k ≤ 28))) → c' a k = c a k) (hI : iGrn c b n) : iGrn c' b n := by
  obtain ⟨h1, h2, h3, h4, h5⟩ := hI
  have e : ∀ m, m ≤ n → cmn (fun i => c' 55 (11 + i)) m = cmn (fun i => c 55 (11 + i)) m := by
    intro m
    induction m with
    | zero => intro _; rfl
    | succ m ih =>
      intro hm
      simp only [cmn]
      rw [ih (by omega)]
      congr 1
      exact x_ifc (show c' 55 (11 + m) = 5 ↔ c 55 (11 + m) = 5 by rw [h 55 (11 + m) (by omega)])
  refine ⟨h1, by rw [h 55 0 (by omega)]; exact h2, by rw [h (gid b) 0 (by omega)]; exact h3, by rw [h (gid b) 2 (by omega), e n (Nat.le_refl n)]; exact h4, fun i hi => ?_⟩
  rw [h (gid b + 1) i (by omega), h (gid b + 2) i (by omega), h (gid b + 3) i (by omega), h 55 (11 + i) (by omega), h 55 (17 + i) (by omega), h 55 (23 + i) (by omega)]
  exact h5 i hi
theorem crs_fr2 {c c' : Nat → Nat → Int} {o o1 o2 o3 B n : Nat} (h : ∀ a k, a = o ∨ a = o1 ∨ a = o2 ∨ a = o3 → c' a k = c a k) (e : ∀ k, B + 1 ≤ k → k < B + 430 → c' 55 k = c 55 k) (hI : crs c o o1 o2 o3 B n) : crs c' o o1 o2 o3 B n := by
  obtain ⟨D, h1, h2, h3, h4, h5, h6, h7⟩ := hI
  refine ⟨D, h1, by rw [h o 0 (by omega)]; exact h2, by rw [e _ (by omega) (by omega)]; exact h3, fun b hb => by rw [h o1 D (by omega), e _ (by omega) (by omega)]; exact h4 b hb, by rw [h o2 D (by omega), e _ (by omega) (by omega)]; exact h5, by rw [h o3 D (by omega), e _ (by omega) (by omega)]; exact h6, fun j hj => ?_⟩
  obtain ⟨g1, g2, g3⟩ := h7 j hj
  exact ⟨fun b hb => by rw [h o1 j (by omega), e _ (by omega) (by omega)]; exact g1 b hb, by rw [h o2 j (by omega), e _ (by omega) (by omega)]; exact g2, by rw [h o3 j (by omega), e _ (by omega) (by omega)]; exact g3⟩
theorem iKpt_fr2 {c c' : Nat → Nat → Int} {n k : Nat} (hk : k < 3) (hn : n ≤ 6) (h : ∀ a j, (42 ≤ a ∧ a ≤ 53) ∨ (a = 55 ∧ ((11 ≤ j ∧ j ≤ 28) ∨ 430 ≤ j)) → c' a j = c a j) (hI : iKpt c n k) : iKpt c' n k := by
  rcases hI with ⟨h1, h2⟩ | ⟨h1, h2, h3, h4⟩
  · exact Or.inl ⟨by rw [h _ _ (by omega)]; exact h1, by rw [h _ _ (by omega)]; exact h2⟩
  · exact Or.inr ⟨h1, by rw [h _ _ (by omega)]; exact h2, fun i hi => by rw [h _ _ (by omega), h _ _ (by omega), h _ _ (by omega), h _ _ (by omega), h _ _ (by omega), h _ _ (by omega)]; exact h3 i hi, crs_fr2 (fun a j ha => h a j (by omega)) (fun j h5 h6 => h 55 j (by omega)) h4⟩
theorem l187 {ex : xO} {d : Nat} {b : Bool} {k : Nat} {g : Nat → Int} {m9 : Int} (hk : k ≤ 39) : ∀ (m i : Nat) (c : Nat → Nat → Int), i + m = 8 → (∀ z, 30 ≤ z → c 55 z = g z) → Rn ex xt187 d 70 [xA 54, xI (k : Int), xI m9, xI (30 + 10 * (k : Int)), xI (i : Int)] [] (hp c b) (xI m9, hp (xup (xfl3 c 55 (3 + i) 11 (fun x => g (30 + 10 * k + 2 + (x - 3)))) 55 29 k) b) := by
  intro m
  induction m with
  | zero =>
    intro i c h hg
    obtain rfl : i = 8 := by omega
    rw [xfl3_e]
    refine Rn.run 2 rfl ?_
    refine Rn.ge2 rfl (fun e74 => ?_) (fun e74 => absurd e74 (by decide))
    refine Rn.run 4 rfl ?_
    refine Rn.ast rfl ⟨by decide, rfl⟩ (29) rfl (by decide) ?_
    refine Rn.run 1 rfl ?_
    exact Rn.ret rfl rfl rfl rfl (rfl) (rfl)
  | succ m ih =>
    intro i c h hg
    have e1 : g (30 + 10 * k + 2 + i) = (fun x => g (30 + 10 * k + 2 + (x - 3))) (3 + i) := by show _ = g (30 + 10 * k + 2 + (3 + i - 3)); congr 1; omega
    refine Rn.run 2 rfl ?_
    refine Rn.ge2 rfl (fun e74 => absurd e74 (by show ¬ (8 : Int) ≤ w32 (i : Int); rw [x_wn (by omega)]; omega)) (fun e74 => ?_)
    refine Rn.run 12 rfl ?_
    refine Rn.ald rfl ⟨by decide, rfl⟩ (30 + 10 * k + 2 + i) (by unfold w32; omega) (by omega) ?_
    refine Rn.ast rfl ⟨by decide, rfl⟩ (3 + i) (by unfold w32; omega) (by omega) ?_
    refine Rn.run 2 rfl ?_
    rw [hg _ (by omega), e1, ← xfl3_s c (fun x => g (30 + 10 * k + 2 + (x - 3))) (show 3 + i < 11 by omega)]
    exact ih (i + 1) _ (by omega) (fun z hz => by rw [xup_n _ _ (by omega)]; exact hg z hz)
theorem xup_id {α : Type} (f : Nat → Nat → α) (a j : Nat) : xup f a j (f a j) = f := by
  funext x y
  simp only [xup]
  by_cases h : x = a
  · subst h
    by_cases h2 : y = j
    · subst h2; simp
    · simp [h2]
  · simp [h]
