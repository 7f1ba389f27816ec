-- keep, on
theorem xrow_s {α : Type} (c : Nat → Nat → α) {a a' : Nat} (g : Nat → α) {k : Nat} (h : a' = a) : xrow c a g a' k = g k := by
  unfold xrow
  rw [if_pos h]
theorem xrow_n {α : Type} (c : Nat → Nat → α) {a a' : Nat} (g : Nat → α) {k : Nat} (h : a' ≠ a) : xrow c a g a' k = c a' k := by
  unfold xrow
  rw [if_neg h]
theorem xcp_in (f g : Nat → Int) {j m : Nat} (h : j < m) : xcp f g 0 0 m j = f j := by
  unfold xcp
  rw [if_pos (by omega), Nat.sub_zero, Nat.zero_add]
/-- a course becomes another one -/
def bcm (c : Nat → Nat → Int) (t f : Nat) : Nat → Nat → Int :=
  xrow (xrow (xrow (xup c t 0 (c f 0)) (t + 1) (xcp (xup c t 0 (c f 0) (f + 1)) (xup c t 0 (c f 0) (t + 1)) 0 0 41)) (t + 2) (xcp (xrow (xup c t 0 (c f 0)) (t + 1) (xcp (xup c t 0 (c f 0) (f + 1)) (xup c t 0 (c f 0) (t + 1)) 0 0 41) (f + 2)) (xrow (xup c t 0 (c f 0)) (t + 1) (xcp (xup c t 0 (c f 0) (f + 1)) (xup c t 0 (c f 0) (t + 1)) 0 0 41) (t + 2)) 0 0 41)) (t + 3)
    (xcp (xrow (xrow (xup c t 0 (c f 0)) (t + 1) (xcp (xup c t 0 (c f 0) (f + 1)) (xup c t 0 (c f 0) (t + 1)) 0 0 41)) (t + 2) (xcp (xrow (xup c t 0 (c f 0)) (t + 1) (xcp (xup c t 0 (c f 0) (f + 1)) (xup c t 0 (c f 0) (t + 1)) 0 0 41) (f + 2)) (xrow (xup c t 0 (c f 0)) (t + 1) (xcp (xup c t 0 (c f 0) (f + 1)) (xup c t 0 (c f 0) (t + 1)) 0 0 41) (t + 2)) 0 0 41) (f + 3))
      (xrow (xrow (xup c t 0 (c f 0)) (t + 1) (xcp (xup c t 0 (c f 0) (f + 1)) (xup c t 0 (c f 0) (t + 1)) 0 0 41)) (t + 2) (xcp (xrow (xup c t 0 (c f 0)) (t + 1) (xcp (xup c t 0 (c f 0) (f + 1)) (xup c t 0 (c f 0) (t + 1)) 0 0 41) (f + 2)) (xrow (xup c t 0 (c f 0)) (t + 1) (xcp (xup c t 0 (c f 0) (f + 1)) (xup c t 0 (c f 0) (t + 1)) 0 0 41) (t + 2)) 0 0 41) (t + 3)) 0 0 41)
theorem bcm_o (c : Nat → Nat → Int) (t f : Nat) {a k : Nat} (h : ¬ (a = t ∧ k = 0) ∧ ¬ (t + 1 ≤ a ∧ a ≤ t + 3)) : bcm c t f a k = c a k := by
  unfold bcm
  rw [xrow_n _ _ (by omega), xrow_n _ _ (by omega), xrow_n _ _ (by omega), xup_n _ _ (by omega)]
theorem bcm_0 (c : Nat → Nat → Int) (t f : Nat) : bcm c t f t 0 = c f 0 := by
  unfold bcm
  rw [xrow_n _ _ (by omega), xrow_n _ _ (by omega), xrow_n _ _ (by omega), xup_s]
theorem bcm_1 (c : Nat → Nat → Int) {t f j : Nat} (h : t + 3 < f ∨ f + 3 < t) (hj : j < 41) : bcm c t f (t + 1) j = c (f + 1) j := by
  unfold bcm
  rw [xrow_n _ _ (by omega), xrow_n _ _ (by omega), xrow_s _ _ rfl, xcp_in _ _ hj, xup_n _ _ (by omega)]
theorem bcm_2 (c : Nat → Nat → Int) {t f j : Nat} (h : t + 3 < f ∨ f + 3 < t) (hj : j < 41) : bcm c t f (t + 2) j = c (f + 2) j := by
  unfold bcm
  rw [xrow_n _ _ (by omega), xrow_s _ _ rfl, xcp_in _ _ hj, xrow_n _ _ (by omega), xup_n _ _ (by omega)]
theorem bcm_3 (c : Nat → Nat → Int) {t f j : Nat} (h : t + 3 < f ∨ f + 3 < t) (hj : j < 41) : bcm c t f (t + 3) j = c (f + 3) j := by
  unfold bcm
  rw [xrow_s _ _ rfl, xcp_in _ _ hj, xrow_n _ _ (by omega), xrow_n _ _ (by omega), xup_n _ _ (by omega)]
theorem crs_mv {c c' : Nat → Nat → Int} {o o1 o2 o3 B p p1 p2 p3 B' n : Nat} (h0 : c' p 0 = c o 0) (h1 : ∀ j, j < 41 → c' p1 j = c o1 j) (h2 : ∀ j, j < 41 → c' p2 j = c o2 j) (h3 : ∀ j, j < 41 → c' p3 j = c o3 j) (hX : ∀ X, X < 430 → c' 55 (B' + X) = c 55 (B + X)) (hI : crs c o o1 o2 o3 B n) : crs c' p p1 p2 p3 B' n := by
  obtain ⟨D, d1, d2, d3, d4, d5, d6, d7⟩ := hI
  have e3 : ∀ x, x < 8 → c' 55 (B' + 3 + x) = c 55 (B + 3 + x) := fun x hx => by simpa only [← Nat.add_assoc] using hX (3 + x) (by omega)
  have e30 : ∀ j, j < 40 → c' 55 (B' + 30 + 10 * j) = c 55 (B + 30 + 10 * j) := fun j hj => by simpa only [← Nat.add_assoc] using hX (30 + 10 * j) (by omega)
  have e31 : ∀ j, j < 40 → c' 55 (B' + 30 + 10 * j + 1) = c 55 (B + 30 + 10 * j + 1) := fun j hj => by simpa only [← Nat.add_assoc] using hX (30 + 10 * j + 1) (by omega)
  have e32 : ∀ j x, j < 40 → x < 8 → c' 55 (B' + 30 + 10 * j + 2 + x) = c 55 (B + 30 + 10 * j + 2 + x) := fun j x hj hx => by simpa only [← Nat.add_assoc] using hX (30 + 10 * j + 2 + x) (by omega)
  refine ⟨D, d1, by rw [h0]; exact d2, by rw [hX _ (by omega)]; exact d3, fun x hx => by rw [h1 D (by omega), e3 x hx]; exact d4 x hx, by rw [h2 D (by omega), hX _ (by omega)]; exact d5, by rw [h3 D (by omega), hX _ (by omega)]; exact d6, fun j hj => ?_⟩
  obtain ⟨q1, q2, q3⟩ := d7 j hj
  exact ⟨fun x hx => by rw [h1 j (by omega), e32 j x (by omega) hx]; exact q1 x hx, by rw [h2 j (by omega), e31 j (by omega)]; exact q2, by rw [h3 j (by omega), e30 j (by omega)]; exact q3⟩
theorem iKpt_fr3 {c c' : Nat → Nat → Int} {n k : Nat} (hk : k < 3) (hn : n ≤ 6) (h : ∀ a j, 42 + 4 * k ≤ a ∧ a ≤ 45 + 4 * k → c' a j = c a j) (e : ∀ j, 430 * (k + 1) ≤ j ∧ j < 430 * (k + 1) + 430 → c' 55 j = c 55 j) (e2 : ∀ i, i < n → c' 55 (11 + i) = c 55 (11 + i) ∧ c' 55 (17 + i) = c 55 (17 + i) ∧ c' 55 (23 + i) = c 55 (23 + i)) (hI : iKpt c n k) : iKpt c' n k := by
  rcases hI with ⟨h1, h2⟩ | ⟨h1, h2, h3, h4⟩
  · exact Or.inl ⟨by rw [h _ _ (by omega)]; exact h1, by rw [e _ (by omega)]; exact h2⟩
  · exact Or.inr ⟨h1, by rw [e _ (by omega)]; exact h2, fun i hi => by rw [e (430 * (k + 1) + 11 + i) (by omega), e (430 * (k + 1) + 17 + i) (by omega), e (430 * (k + 1) + 23 + i) (by omega), (e2 i hi).1, (e2 i hi).2.1, (e2 i hi).2.2]; exact h3 i hi, crs_fr2 (fun a j ha => h a j (by omega)) (fun j h5 h6 => e j (by omega)) h4⟩
theorem iGrn_fr3 {c c' : Nat → Nat → Int} {b : Bool} {n : Nat} (h : ∀ a k, gid b ≤ a ∧ a ≤ gid b + 3 → c' a k = c a k) (h0 : c' 55 0 = c 55 0) (e2 : ∀ i, i < n → c' 55 (11 + i) = c 55 (11 + i) ∧ c' 55 (17 + i) = c 55 (17 + i) ∧ c' 55 (23 + i) = c 55 (23 + i)) (hI : iGrn c b n) : iGrn c' b n := by
  obtain ⟨h1, h2, h3, h4, h5⟩ := hI
  have e : ∀ m, m ≤ n → cmn (fun i => c' 55 (11 + i)) m = cmn (fun i => c 55 (11 + i)) m := by
    intro m
    induction m with
    | zero => intro _; rfl
    | succ m ih =>
      intro hm
      simp only [cmn]
      rw [ih (by omega)]
      congr 1
      exact x_ifc (show c' 55 (11 + m) = 5 ↔ c 55 (11 + m) = 5 by rw [(e2 m (by omega)).1])
  refine ⟨h1, by rw [h0]; exact h2, by rw [h (gid b) 0 (by omega)]; exact h3, by rw [h (gid b) 2 (by omega), e n (Nat.le_refl n)]; exact h4, fun i hi => ?_⟩
  rw [h (gid b + 1) i (by omega), h (gid b + 2) i (by omega), h (gid b + 3) i (by omega), (e2 i hi).1, (e2 i hi).2.1, (e2 i hi).2.2]
  exact h5 i hi
theorem Inv_keep {c c' : Nat → Nat → Int} {b : Bool} {k : Nat} (hI : Inv c b) (hk : k < 3) (h0 : c 55 0 ≠ 0) (e0 : c' (42 + 4 * k) 0 = c 7 0) (e1 : ∀ j, j < 41 → c' (43 + 4 * k) j = c 8 j) (e2 : ∀ j, j < 41 → c' (44 + 4 * k) j = c 9 j) (e3 : ∀ j, j < 41 → c' (45 + 4 * k) j = c 10 j) (hX : ∀ X, X < 430 → c' 55 (430 * (k + 1) + X) = c 55 (0 + X)) (fr : ∀ a z, ¬ scr a → ¬ (42 + 4 * k ≤ a ∧ a ≤ 45 + 4 * k) → ¬ (a = 55 ∧ 430 * (k + 1) ≤ z ∧ z < 430 * (k + 1) + 430) → c' a z = c a z) : Inv c' b := by
  obtain ⟨i1, i2, i3, i4, n, hG, hC, hK⟩ := hI
  have hg := gid_in b
  have hn := hG.1
  refine ⟨iRow_fr (fun a z h => fr a z (by unfold scr; omega) (by omega) (by omega)) i1, iTxt_fr (fun a z h => fr a z (by unfold scr; omega) (by omega) (by omega)) i2, iFnd_fr (fun a z h => fr a z (by unfold scr; omega) (by omega) (by omega)) i3, iAsk_fr (fun a z h => fr a z (by unfold scr; omega) (by omega) (by omega)) i4, n, iGrn_fr2 (fun a z h => fr a z (by unfold scr; omega) (by omega) (by omega)) hG, crs_fr2 (fun a z h => fr a z (by unfold scr; omega) (by omega) (by omega)) (fun z h1 h2 => fr 55 z (by unfold scr; omega) (by omega) (by omega)) hC, fun j hj => ?_⟩
  have s55 : ¬ scr 55 := by unfold scr; omega
  by_cases e : j = k
  · subst e
    have q0 := hX 0 (by omega)
    rw [Nat.add_zero] at q0
    have g2 := hG.2.1
    have f : ∀ x, x < 29 → c' 55 x = c 55 x := fun x hx => fr 55 x s55 (by omega) (by omega)
    have ex : ∀ x y, x + y < 29 → c' 55 (430 * (j + 1) + x + y) = c 55 (x + y) := fun x y hx => by have := hX (x + y) (by omega); rw [Nat.zero_add] at this; rw [Nat.add_assoc]; exact this
    refine Or.inr ⟨by omega, by rw [q0]; exact g2, fun i hi => ?_, crs_mv e0 e1 e2 e3 hX hC⟩
    rw [ex 11 i (by omega), ex 17 i (by omega), ex 23 i (by omega), f _ (by omega), f _ (by omega), f _ (by omega)]
    exact ⟨rfl, rfl, rfl⟩
  · exact iKpt_fr3 hj hn (fun a z h => fr a z (by unfold scr; omega) (by omega) (by omega)) (fun z h => fr 55 z s55 (by omega) (by omega)) (fun i hi => ⟨fr 55 _ s55 (by omega) (by omega), fr 55 _ s55 (by omega) (by omega), fr 55 _ s55 (by omega) (by omega)⟩) (hK j hj)
theorem Inv_on {c c' : Nat → Nat → Int} {b : Bool} {k : Nat} (hI : Inv c b) (hk : k < 3) (h0 : c 55 (430 * (k + 1)) ≠ 0) (e0 : c' 7 0 = c (42 + 4 * k) 0) (e1 : ∀ j, j < 41 → c' 8 j = c (43 + 4 * k) j) (e2 : ∀ j, j < 41 → c' 9 j = c (44 + 4 * k) j) (e3 : ∀ j, j < 41 → c' 10 j = c (45 + 4 * k) j) (hX : ∀ X, X < 430 → c' 55 (0 + X) = c 55 (430 * (k + 1) + X)) (fr : ∀ a z, ¬ scr a → ¬ (7 ≤ a ∧ a ≤ 10) → ¬ (a = 55 ∧ z < 430) → c' a z = c a z) : Inv c' b := by
  obtain ⟨i1, i2, i3, i4, n, hG, hC, hK⟩ := hI
  have hg := gid_in b
  have hn := hG.1
  have s55 : ¬ scr 55 := by unfold scr; omega
  rcases hK k hk with ⟨h1, h2⟩ | ⟨h1, h2, h3, h4⟩
  · exact absurd h2 h0
  have ex : ∀ x y, x + y < 29 → c' 55 (x + y) = c 55 (430 * (k + 1) + x + y) := fun x y hx => by have := hX (x + y) (by omega); rw [Nat.zero_add] at this; rw [Nat.add_assoc]; exact this
  have e4 : ∀ i, i < n → c' 55 (11 + i) = c 55 (11 + i) ∧ c' 55 (17 + i) = c 55 (17 + i) ∧ c' 55 (23 + i) = c 55 (23 + i) := fun i hi => by
    rw [ex 11 i (by omega), ex 17 i (by omega), ex 23 i (by omega)]
    exact h3 i hi
  have q0 := hX 0 (by omega)
  rw [Nat.zero_add, Nat.add_zero, h2, ← hG.2.1] at q0
  exact ⟨iRow_fr (fun a z h => fr a z (by unfold scr; omega) (by omega) (by omega)) i1, iTxt_fr (fun a z h => fr a z (by unfold scr; omega) (by omega) (by omega)) i2, iFnd_fr (fun a z h => fr a z (by unfold scr; omega) (by omega) (by omega)) i3, iAsk_fr (fun a z h => fr a z (by unfold scr; omega) (by omega) (by omega)) i4, n, iGrn_fr3 (fun a z h => fr a z (by unfold scr; omega) (by omega) (by omega)) q0 e4 hG, crs_mv e0 e1 e2 e3 hX h4, fun j hj => iKpt_fr3 hj hn (fun a z h => fr a z (by unfold scr; omega) (by omega) (by omega)) (fun z h => fr 55 z s55 (by omega) (by omega)) e4 (hK j hj)⟩
theorem c13a0 {ex : xO} {d : Nat} {c : Nat → Nat → Int} {b : Bool} : An ex (d + 1) 13 2 [xA 42, xA 7] (hp c b) (xU, hp (bcm c 42 7) b) := by
  refine Rn.run 13 (ls' := [_, _]) (st' := [_, _, _, _, _]) rfl ?_
  refine Rn.cpy rfl (by omega) rfl ⟨by decide, rfl⟩ ⟨by decide, rfl⟩ 0 0 41 rfl rfl (x_wn (n := 41) (by decide)) (by decide) (by decide) ?_
  refine Rn.run 9 (ls' := [_, _]) (st' := [_, _, _, _, _]) rfl ?_
  refine Rn.cpy rfl (by omega) rfl ⟨by decide, rfl⟩ ⟨by decide, rfl⟩ 0 0 41 rfl rfl (x_wn (n := 41) (by decide)) (by decide) (by decide) ?_
  refine Rn.run 9 (ls' := [_, _]) (st' := [_, _, _, _, _]) rfl ?_
  refine Rn.cpy rfl (by omega) rfl ⟨by decide, rfl⟩ ⟨by decide, rfl⟩ 0 0 41 rfl rfl (x_wn (n := 41) (by decide)) (by decide) (by decide) ?_
  exact Rn.ret rfl rfl rfl rfl rfl rfl
theorem c13b0 {ex : xO} {d : Nat} {c : Nat → Nat → Int} {b : Bool} : An ex (d + 1) 13 2 [xA 7, xA 42] (hp c b) (xU, hp (bcm c 7 42) b) := by
  refine Rn.run 13 (ls' := [_, _]) (st' := [_, _, _, _, _]) rfl ?_
  refine Rn.cpy rfl (by omega) rfl ⟨by decide, rfl⟩ ⟨by decide, rfl⟩ 0 0 41 rfl rfl (x_wn (n := 41) (by decide)) (by decide) (by decide) ?_
  refine Rn.run 9 (ls' := [_, _]) (st' := [_, _, _, _, _]) rfl ?_
  refine Rn.cpy rfl (by omega) rfl ⟨by decide, rfl⟩ ⟨by decide, rfl⟩ 0 0 41 rfl rfl (x_wn (n := 41) (by decide)) (by decide) (by decide) ?_
  refine Rn.run 9 (ls' := [_, _]) (st' := [_, _, _, _, _]) rfl ?_
  refine Rn.cpy rfl (by omega) rfl ⟨by decide, rfl⟩ ⟨by decide, rfl⟩ 0 0 41 rfl rfl (x_wn (n := 41) (by decide)) (by decide) (by decide) ?_
  exact Rn.ret rfl rfl rfl rfl rfl rfl
theorem c13a1 {ex : xO} {d : Nat} {c : Nat → Nat → Int} {b : Bool} : An ex (d + 1) 13 2 [xA 46, xA 7] (hp c b) (xU, hp (bcm c 46 7) b) := by
  refine Rn.run 13 (ls' := [_, _]) (st' := [_, _, _, _, _]) rfl ?_
  refine Rn.cpy rfl (by omega) rfl ⟨by decide, rfl⟩ ⟨by decide, rfl⟩ 0 0 41 rfl rfl (x_wn (n := 41) (by decide)) (by decide) (by decide) ?_
  refine Rn.run 9 (ls' := [_, _]) (st' := [_, _, _, _, _]) rfl ?_
  refine Rn.cpy rfl (by omega) rfl ⟨by decide, rfl⟩ ⟨by decide, rfl⟩ 0 0 41 rfl rfl (x_wn (n := 41) (by decide)) (by decide) (by decide) ?_
  refine Rn.run 9 (ls' := [_, _]) (st' := [_, _, _, _, _]) rfl ?_
  refine Rn.cpy rfl (by omega) rfl ⟨by decide, rfl⟩ ⟨by decide, rfl⟩ 0 0 41 rfl rfl (x_wn (n := 41) (by decide)) (by decide) (by decide) ?_
  exact Rn.ret rfl rfl rfl rfl rfl rfl
theorem c13b1 {ex : xO} {d : Nat} {c : Nat → Nat → Int} {b : Bool} : An ex (d + 1) 13 2 [xA 7, xA 46] (hp c b) (xU, hp (bcm c 7 46) b) := by
  refine Rn.run 13 (ls' := [_, _]) (st' := [_, _, _, _, _]) rfl ?_
  refine Rn.cpy rfl (by omega) rfl ⟨by decide, rfl⟩ ⟨by decide, rfl⟩ 0 0 41 rfl rfl (x_wn (n := 41) (by decide)) (by decide) (by decide) ?_
  refine Rn.run 9 (ls' := [_, _]) (st' := [_, _, _, _, _]) rfl ?_
  refine Rn.cpy rfl (by omega) rfl ⟨by decide, rfl⟩ ⟨by decide, rfl⟩ 0 0 41 rfl rfl (x_wn (n := 41) (by decide)) (by decide) (by decide) ?_
  refine Rn.run 9 (ls' := [_, _]) (st' := [_, _, _, _, _]) rfl ?_
  refine Rn.cpy rfl (by omega) rfl ⟨by decide, rfl⟩ ⟨by decide, rfl⟩ 0 0 41 rfl rfl (x_wn (n := 41) (by decide)) (by decide) (by decide) ?_
  exact Rn.ret rfl rfl rfl rfl rfl rfl
theorem c13a2 {ex : xO} {d : Nat} {c : Nat → Nat → Int} {b : Bool} : An ex (d + 1) 13 2 [xA 50, xA 7] (hp c b) (xU, hp (bcm c 50 7) b) := by
  refine Rn.run 13 (ls' := [_, _]) (st' := [_, _, _, _, _]) rfl ?_
  refine Rn.cpy rfl (by omega) rfl ⟨by decide, rfl⟩ ⟨by decide, rfl⟩ 0 0 41 rfl rfl (x_wn (n := 41) (by decide)) (by decide) (by decide) ?_
  refine Rn.run 9 (ls' := [_, _]) (st' := [_, _, _, _, _]) rfl ?_
  refine Rn.cpy rfl (by omega) rfl ⟨by decide, rfl⟩ ⟨by decide, rfl⟩ 0 0 41 rfl rfl (x_wn (n := 41) (by decide)) (by decide) (by decide) ?_
  refine Rn.run 9 (ls' := [_, _]) (st' := [_, _, _, _, _]) rfl ?_
  refine Rn.cpy rfl (by omega) rfl ⟨by decide, rfl⟩ ⟨by decide, rfl⟩ 0 0 41 rfl rfl (x_wn (n := 41) (by decide)) (by decide) (by decide) ?_
  exact Rn.ret rfl rfl rfl rfl rfl rfl
theorem c13b2 {ex : xO} {d : Nat} {c : Nat → Nat → Int} {b : Bool} : An ex (d + 1) 13 2 [xA 7, xA 50] (hp c b) (xU, hp (bcm c 7 50) b) := by
  refine Rn.run 13 (ls' := [_, _]) (st' := [_, _, _, _, _]) rfl ?_
  refine Rn.cpy rfl (by omega) rfl ⟨by decide, rfl⟩ ⟨by decide, rfl⟩ 0 0 41 rfl rfl (x_wn (n := 41) (by decide)) (by decide) (by decide) ?_
  refine Rn.run 9 (ls' := [_, _]) (st' := [_, _, _, _, _]) rfl ?_
  refine Rn.cpy rfl (by omega) rfl ⟨by decide, rfl⟩ ⟨by decide, rfl⟩ 0 0 41 rfl rfl (x_wn (n := 41) (by decide)) (by decide) (by decide) ?_
  refine Rn.run 9 (ls' := [_, _]) (st' := [_, _, _, _, _]) rfl ?_
  refine Rn.cpy rfl (by omega) rfl ⟨by decide, rfl⟩ ⟨by decide, rfl⟩ 0 0 41 rfl rfl (x_wn (n := 41) (by decide)) (by decide) (by decide) ?_
  exact Rn.ret rfl rfl rfl rfl rfl rfl
theorem l137 {ex : xO} {d : Nat} {b : Bool} {F To : Nat} {g : Nat → Int} (hd : F + 430 ≤ To ∨ To + 430 ≤ F) (h1 : F + 430 ≤ 1720) (h2 : To + 430 ≤ 1720) : ∀ (m i : Nat) (c : Nat → Nat → Int), i + m = 430 → (∀ z, z < 430 → c 55 (F + z) = g z) → Rn ex xt137 d 2 [xA 54, xI (F : Int), xI (To : Int), xI (i : Int)] [] (hp c b) (xU, hp (xfl3 c 55 (To + i) (To + 430) (fun x => g (x - To))) b) := by
  intro m
  induction m with
  | zero =>
    intro i c hm hg
    obtain rfl : i = 430 := by omega
    rw [xfl3_e]
    refine Rn.run 2 (ls' := [_, _, _, _]) (st' := [_, _]) rfl ?_
    refine Rn.ge2 rfl (fun e6 => ?_) (fun e6 => absurd e6 (by decide))
    exact Rn.ret rfl rfl rfl rfl rfl rfl
  | succ m ih =>
    intro i c hm hg
    have e1 : g i = (fun x => g (x - To)) (To + i) := by show _ = g (To + i - To); rw [Nat.add_sub_cancel_left]
    refine Rn.run 2 (ls' := [_, _, _, _]) (st' := [_, _]) rfl ?_
    refine Rn.ge2 rfl (fun e6 => absurd e6 (by exact fun h => absurd ((y_ge (n := 430) (by omega) (by omega)).mp h) (by omega))) (fun e6 => ?_)
    refine Rn.run 10 (ls' := [_, _, _, _]) (st' := [_, _, _, _]) rfl ?_
    refine Rn.ald rfl ⟨by decide, rfl⟩ (F + i) (x_wn (n := F + i) (by omega)) (by omega) ?_
    rw [hg i (by omega)]
    refine Rn.ast rfl ⟨by decide, rfl⟩ (To + i) (x_wn (n := To + i) (by omega)) (by omega) ?_
    refine Rn.run 2 (ls' := [_, _, _, _]) (st' := []) rfl ?_
    rw [e1, ← xfl3_s c (fun x => g (x - To)) (show To + i < To + 430 by omega)]
    exact ih (i + 1) _ (by omega) (fun z hz => by rw [xup_n _ _ (by omega)]; exact hg z hz)
theorem c137 {ex : xO} {d : Nat} {c : Nat → Nat → Int} {b : Bool} {F To : Nat} (hd : F + 430 ≤ To ∨ To + 430 ≤ F) (h1 : F + 430 ≤ 1720) (h2 : To + 430 ≤ 1720) : An ex d 137 4 [xA 54, xI (F : Int), xI (To : Int)] (hp c b) (xU, hp (xfl3 c 55 To (To + 430) (fun x => c 55 (F + (x - To)))) b) := by
  refine Rn.run 2 (ls' := [_, _, _, _]) (st' := []) rfl ?_
  exact l137 (g := fun z => c 55 (F + z)) hd h1 h2 430 0 c rfl (fun z hz => rfl)
theorem k75_b1 {ex : xO} {d : Nat} {c : Nat → Nat → Int} {b : Bool}  {a1 : Int} (h1 : w32 a1 = a1) (q1 : ¬ (0 ≤ a1 ∧ a1 < 3)) : An ex (d + 20) 75 2 [xA 0, xI a1] (hp c b) (xI (-1), hp (c) b) := by
  refine Rn.run 2 (ls' := [_, _]) (st' := [_, _]) rfl ?_
  refine Rn.call rfl rfl rfl rfl rfl (c100) ?_
  refine Rn.neB rfl (fun e5 => absurd e5 (by exact (z_no (m := 3) h1 (by omega) q1))) (fun e5 => ?_)
  refine Rn.run 1 (ls' := [_, _]) (st' := [_]) rfl ?_
  exact Rn.ret rfl rfl rfl rfl rfl rfl
theorem k75_st {ex : xO} {d : Nat} {c : Nat → Nat → Int} {b : Bool} {n D T Mo : Nat} {kd bo wo L : Nat → Nat} (hP : pS n kd bo wo D T Mo L) (hc : cS c b n kd bo wo D T Mo L) {k : Nat} (hk : k < 3) (h0 : n = 0) : An ex (d + 20) 75 2 [xA 0, xI (k : Int)] (hp c b) (xI (-4), hp (c) b) := by
  obtain ⟨ho, h40, hT, h9, hMo⟩ := hP
  obtain ⟨hC, d7, t9, hL, m10⟩ := hc
  have hn := ho.1
  have hT6 := p64 hn hT
  refine Rn.run 2 (ls' := [_, _]) (st' := [_, _]) rfl ?_
  refine Rn.call rfl rfl rfl rfl rfl (c100) ?_
  refine Rn.neB rfl (fun e5 => ?_) (fun e5 => absurd e5 (by exact fun h => h (z_in (m := 3) hk (by omega))))
  refine Rn.run 1 (ls' := [_, _]) (st' := [_]) rfl ?_
  refine Rn.getR rfl ⟨by decide, rfl, rfl⟩ (j := gid b) (rfl) ?_
  refine Rn.getI rfl (xS_g b) ?_
  rw [hC.1]
  refine Rn.ne0 rfl (fun e17 => absurd e17 (by rw [h0]; decide)) (fun e17 => ?_)
  refine Rn.run 1 (ls' := [_, _]) (st' := [_]) rfl ?_
  exact Rn.ret rfl rfl rfl rfl rfl rfl
theorem k75_0 {ex : xO} {d : Nat} {c : Nat → Nat → Int} {b : Bool} {n D T Mo : Nat} {kd bo wo L : Nat → Nat} (hP : pS n kd bo wo D T Mo L) (hc : cS c b n kd bo wo D T Mo L) (h0 : n ≠ 0) : An ex (d + 20) 75 2 [xA 0, xI ((0 : Nat) : Int)] (hp c b) (xI (D : Nat), hp (bcm c 42 7) b) := by
  obtain ⟨ho, h40, hT, h9, hMo⟩ := hP
  obtain ⟨hC, d7, t9, hL, m10⟩ := hc
  have hn := ho.1
  have hT6 := p64 hn hT
  refine Rn.run 2 (ls' := [_, _]) (st' := [_, _]) rfl ?_
  refine Rn.call rfl rfl rfl rfl rfl (c100) ?_
  refine Rn.neB rfl (fun e5 => ?_) (fun e5 => absurd e5 (by exact fun h => h (by decide)))
  refine Rn.run 1 (ls' := [_, _]) (st' := [_]) rfl ?_
  refine Rn.getR rfl ⟨by decide, rfl, rfl⟩ (j := gid b) (rfl) ?_
  refine Rn.getI rfl (xS_g b) ?_
  rw [hC.1]
  refine Rn.ne0 rfl (fun e17 => ?_) (fun e17 => absurd e17 (by exact fun h => h (z_ne0 h0 hn)))
  refine Rn.run 3 (ls' := [_, _]) (st' := [_, _]) rfl ?_
  refine Rn.aald rfl ⟨by decide, rfl, by decide, by decide⟩ (0) rfl (by decide) rfl ?_
  refine Rn.run 2 (ls' := [_, _]) (st' := [_, _]) rfl ?_
  refine Rn.call rfl rfl rfl rfl rfl (c13a0) ?_
  refine Rn.run 3 (ls' := [_, _]) (st' := [_]) rfl ?_
  rw [bcm_o _ _ _ (by omega), d7]
  exact Rn.ret rfl rfl rfl rfl rfl rfl
theorem k75_1 {ex : xO} {d : Nat} {c : Nat → Nat → Int} {b : Bool} {n D T Mo : Nat} {kd bo wo L : Nat → Nat} (hP : pS n kd bo wo D T Mo L) (hc : cS c b n kd bo wo D T Mo L) (h0 : n ≠ 0) : An ex (d + 20) 75 2 [xA 0, xI ((1 : Nat) : Int)] (hp c b) (xI (D : Nat), hp (bcm c 46 7) b) := by
  obtain ⟨ho, h40, hT, h9, hMo⟩ := hP
  obtain ⟨hC, d7, t9, hL, m10⟩ := hc
  have hn := ho.1
  have hT6 := p64 hn hT
  refine Rn.run 2 (ls' := [_, _]) (st' := [_, _]) rfl ?_
  refine Rn.call rfl rfl rfl rfl rfl (c100) ?_
  refine Rn.neB rfl (fun e5 => ?_) (fun e5 => absurd e5 (by exact fun h => h (by decide)))
  refine Rn.run 1 (ls' := [_, _]) (st' := [_]) rfl ?_
  refine Rn.getR rfl ⟨by decide, rfl, rfl⟩ (j := gid b) (rfl) ?_
  refine Rn.getI rfl (xS_g b) ?_
  rw [hC.1]
  refine Rn.ne0 rfl (fun e17 => ?_) (fun e17 => absurd e17 (by exact fun h => h (z_ne0 h0 hn)))
  refine Rn.run 3 (ls' := [_, _]) (st' := [_, _]) rfl ?_
  refine Rn.aald rfl ⟨by decide, rfl, by decide, by decide⟩ (1) rfl (by decide) rfl ?_
  refine Rn.run 2 (ls' := [_, _]) (st' := [_, _]) rfl ?_
  refine Rn.call rfl rfl rfl rfl rfl (c13a1) ?_
  refine Rn.run 3 (ls' := [_, _]) (st' := [_]) rfl ?_
  rw [bcm_o _ _ _ (by omega), d7]
  exact Rn.ret rfl rfl rfl rfl rfl rfl
theorem k75_2 {ex : xO} {d : Nat} {c : Nat → Nat → Int} {b : Bool} {n D T Mo : Nat} {kd bo wo L : Nat → Nat} (hP : pS n kd bo wo D T Mo L) (hc : cS c b n kd bo wo D T Mo L) (h0 : n ≠ 0) : An ex (d + 20) 75 2 [xA 0, xI ((2 : Nat) : Int)] (hp c b) (xI (D : Nat), hp (bcm c 50 7) b) := by
  obtain ⟨ho, h40, hT, h9, hMo⟩ := hP
  obtain ⟨hC, d7, t9, hL, m10⟩ := hc
  have hn := ho.1
  have hT6 := p64 hn hT
  refine Rn.run 2 (ls' := [_, _]) (st' := [_, _]) rfl ?_
  refine Rn.call rfl rfl rfl rfl rfl (c100) ?_
  refine Rn.neB rfl (fun e5 => ?_) (fun e5 => absurd e5 (by exact fun h => h (by decide)))
  refine Rn.run 1 (ls' := [_, _]) (st' := [_]) rfl ?_
  refine Rn.getR rfl ⟨by decide, rfl, rfl⟩ (j := gid b) (rfl) ?_
  refine Rn.getI rfl (xS_g b) ?_
  rw [hC.1]
  refine Rn.ne0 rfl (fun e17 => ?_) (fun e17 => absurd e17 (by exact fun h => h (z_ne0 h0 hn)))
  refine Rn.run 3 (ls' := [_, _]) (st' := [_, _]) rfl ?_
  refine Rn.aald rfl ⟨by decide, rfl, by decide, by decide⟩ (2) rfl (by decide) rfl ?_
  refine Rn.run 2 (ls' := [_, _]) (st' := [_, _]) rfl ?_
  refine Rn.call rfl rfl rfl rfl rfl (c13a2) ?_
  refine Rn.run 3 (ls' := [_, _]) (st' := [_]) rfl ?_
  rw [bcm_o _ _ _ (by omega), d7]
  exact Rn.ret rfl rfl rfl rfl rfl rfl
theorem k188_b1 {ex : xO} {d : Nat} {c : Nat → Nat → Int} {b : Bool}  {a1 : Int} (h1 : w32 a1 = a1) (q1 : ¬ (0 ≤ a1 ∧ a1 < 3)) : An ex (d + 20) 188 2 [xA 54, xI a1] (hp c b) (xI (-1), hp (c) b) := by
  refine Rn.run 4 (ls' := [_, _]) (st' := [_, _, _]) rfl ?_
  refine Rn.call rfl rfl rfl rfl rfl (c131) ?_
  refine Rn.neB rfl (fun e9 => absurd e9 (by exact (z_no9 (m := 2) h1 (by omega) q1))) (fun e9 => ?_)
  refine Rn.run 1 (ls' := [_, _]) (st' := [_]) rfl ?_
  exact Rn.ret rfl rfl rfl rfl rfl rfl
theorem k188_st {ex : xO} {d : Nat} {c : Nat → Nat → Int} {b : Bool} {n D T Mo : Nat} {kd bo wo L : Nat → Nat} (hP : pS n kd bo wo D T Mo L) (hm : mS c n kd bo wo D T Mo L) {k : Nat} (hk : k < 3) (h0 : n = 0) : An ex (d + 20) 188 2 [xA 54, xI (k : Int)] (hp c b) (xI (-4), hp (c) b) := by
  obtain ⟨ho, h40, hT, h9, hMo⟩ := hP
  obtain ⟨hM, d29, t2, l55, m1⟩ := hm
  have hn := ho.1
  have hT6 := p64 hn hT
  refine Rn.run 4 (ls' := [_, _]) (st' := [_, _, _]) rfl ?_
  refine Rn.call rfl rfl rfl rfl rfl (c131) ?_
  refine Rn.neB rfl (fun e9 => ?_) (fun e9 => absurd e9 (by exact fun h => h (z_in9 (m := 2) (by omega) (by omega))))
  refine Rn.run 3 (ls' := [_, _]) (st' := [_, _]) rfl ?_
  refine Rn.ald rfl ⟨by decide, rfl⟩ (0) rfl (by decide) ?_
  rw [hM.1]
  refine Rn.ne0 rfl (fun e20 => absurd e20 (by rw [h0]; decide)) (fun e20 => ?_)
  refine Rn.run 1 (ls' := [_, _]) (st' := [_]) rfl ?_
  exact Rn.ret rfl rfl rfl rfl rfl rfl
theorem k188_ok {ex : xO} {d : Nat} {c : Nat → Nat → Int} {b : Bool} {n D T Mo : Nat} {kd bo wo L : Nat → Nat} (hP : pS n kd bo wo D T Mo L) (hm : mS c n kd bo wo D T Mo L) {k : Nat} (hk : k < 3) (h0 : n ≠ 0) : An ex (d + 20) 188 2 [xA 54, xI (k : Int)] (hp c b) (xI (D : Nat), hp (xfl3 c 55 (430 + 430 * k) (430 + 430 * k + 430) (fun x => c 55 (0 + (x - (430 + 430 * k))))) b) := by
  obtain ⟨ho, h40, hT, h9, hMo⟩ := hP
  obtain ⟨hM, d29, t2, l55, m1⟩ := hm
  have hn := ho.1
  have hT6 := p64 hn hT
  refine Rn.run 4 (ls' := [_, _]) (st' := [_, _, _]) rfl ?_
  refine Rn.call rfl rfl rfl rfl rfl (c131) ?_
  refine Rn.neB rfl (fun e9 => ?_) (fun e9 => absurd e9 (by exact fun h => h (z_in9 (m := 2) (by omega) (by omega))))
  refine Rn.run 3 (ls' := [_, _]) (st' := [_, _]) rfl ?_
  refine Rn.ald rfl ⟨by decide, rfl⟩ (0) rfl (by decide) ?_
  rw [hM.1]
  refine Rn.ne0 rfl (fun e20 => ?_) (fun e20 => absurd e20 (by exact fun h => h (z_ne0 h0 hn)))
  refine Rn.run 7 (ls' := [_, _]) (st' := [_, _, _]) rfl ?_
  refine Rn.call rfl rfl rfl rfl rfl (c137 (F := 0) (To := 430 + 430 * k) (by omega) (by omega) (by omega)) ?_
  refine Rn.run 3 (ls' := [_, _]) (st' := [_, _]) rfl ?_
  refine Rn.ald rfl ⟨by decide, rfl⟩ (29) rfl (by decide) ?_
  rw [xfl3_out _ _ (by omega), d29]
  exact Rn.ret rfl rfl rfl rfl rfl rfl
theorem g_keep {ex : xO} (a1 : Int) (h1 : w32 a1 = a1) : AgI ex 75 2 188 2 [xI a1] := by
  intro d c b hI
  obtain ⟨n, kd, bo, wo, D, T, Mo, L, hP, hc, hm⟩ := Inv_St hI
  by_cases q1 : 0 ≤ a1 ∧ a1 < 3
  · obtain ⟨k, hk, rfl⟩ : ∃ j : Nat, j < 3 ∧ a1 = (j : Int) := ⟨a1.toNat, by omega, by omega⟩
    by_cases h0 : n = 0
    · exact Ag_same hI (-4) (k75_st hP hc hk h0) (k188_st hP hm hk h0)
    · have n0 : c 55 0 ≠ 0 := by rw [hm.1.1]; omega
      refine ⟨_, _, bcm c (42 + 4 * k) 7, b, _, b, ?_, k188_ok hP (mS_fr (fun z => bcm_o _ _ _ (by omega)) hm) hk h0, rfl, ?_⟩
      · rcases (by omega : k = 0 ∨ k = 1 ∨ k = 2) with rfl | rfl | rfl
        · exact k75_0 hP hc h0
        · exact k75_1 hP hc h0
        · exact k75_2 hP hc h0
      · refine Inv_keep hI hk n0 ?_ (fun j hj => ?_) (fun j hj => ?_) (fun j hj => ?_) (fun X hX => ?_) (fun a z h1 h2 h3 => ?_)
        · rw [xfl3_out _ _ (by omega), bcm_0]
        · rw [xfl3_out _ _ (by omega), show 43 + 4 * k = 42 + 4 * k + 1 by omega, bcm_1 _ (by omega) hj]
        · rw [xfl3_out _ _ (by omega), show 44 + 4 * k = 42 + 4 * k + 2 by omega, bcm_2 _ (by omega) hj]
        · rw [xfl3_out _ _ (by omega), show 45 + 4 * k = 42 + 4 * k + 3 by omega, bcm_3 _ (by omega) hj]
        · rw [xfl3_in _ _ (by omega), bcm_o _ _ _ (by omega)]
          exact congrArg (c 55) (by omega)
        · rw [xfl3_out _ _ (by omega), bcm_o _ _ _ (by omega)]
  · exact Ag_same hI (-1) (k75_b1 h1 q1) (k188_b1 h1 q1)
theorem k76_b1 {ex : xO} {d : Nat} {c : Nat → Nat → Int} {b : Bool}  {a1 : Int} (h1 : w32 a1 = a1) (q1 : ¬ (0 ≤ a1 ∧ a1 < 3)) : An ex (d + 20) 76 2 [xA 0, xI a1] (hp c b) (xI (-1), hp (c) b) := by
  refine Rn.run 2 (ls' := [_, _]) (st' := [_, _]) rfl ?_
  refine Rn.call rfl rfl rfl rfl rfl (c100) ?_
  refine Rn.neB rfl (fun e5 => absurd e5 (by exact (z_no (m := 3) h1 (by omega) q1))) (fun e5 => ?_)
  refine Rn.run 1 (ls' := [_, _]) (st' := [_]) rfl ?_
  exact Rn.ret rfl rfl rfl rfl rfl rfl
theorem k76_no {ex : xO} {d : Nat} {c : Nat → Nat → Int} {b : Bool}  {k : Nat} (hk : k < 3) (h0 : c (42 + 4 * k) 0 = -1) : An ex (d + 20) 76 2 [xA 0, xI (k : Int)] (hp c b) (xI (-3), hp (xup (xup c 0 13 1) 13 1 (c 13 1 + 1)) b) := by
  refine Rn.run 2 (ls' := [_, _]) (st' := [_, _]) rfl ?_
  refine Rn.call rfl rfl rfl rfl rfl (c100) ?_
  refine Rn.neB rfl (fun e5 => ?_) (fun e5 => absurd e5 (by exact fun h => h (z_in (m := 3) hk (by omega))))
  refine Rn.run 3 (ls' := [_, _]) (st' := [_, _]) rfl ?_
  refine Rn.aald rfl ⟨by decide, rfl, by decide, by decide⟩ (k) (x_wn (n := k) (by omega)) (by omega) (xR_kpt hk).1 ?_
  refine Rn.getI rfl (xS_kpt hk) ?_
  rw [h0]
  refine Rn.run 1 (ls' := [_, _]) (st' := [_, _]) rfl ?_
  refine Rn.ne2 rfl (fun e20 => absurd e20 (by exact fun h => h rfl)) (fun e20 => ?_)
  refine Rn.run 2 (ls' := [_, _]) (st' := [_, _]) rfl ?_
  refine Rn.call rfl rfl rfl rfl rfl (c101 1 rfl (by decide)) ?_
  exact Rn.ret rfl rfl rfl rfl rfl rfl
theorem k76_0 {ex : xO} {d : Nat} {c : Nat → Nat → Int} {b : Bool}  {E : Nat} (hE : 0 ≤ w32 (E : Int)) (h0 : c 42 0 = (E : Nat)) : An ex (d + 20) 76 2 [xA 0, xI ((0 : Nat) : Int)] (hp c b) (xI (E : Nat), hp (bcm c 7 42) b) := by
  refine Rn.run 2 (ls' := [_, _]) (st' := [_, _]) rfl ?_
  refine Rn.call rfl rfl rfl rfl rfl (c100) ?_
  refine Rn.neB rfl (fun e5 => ?_) (fun e5 => absurd e5 (by exact fun h => h (by decide)))
  refine Rn.run 3 (ls' := [_, _]) (st' := [_, _]) rfl ?_
  refine Rn.aald rfl ⟨by decide, rfl, by decide, by decide⟩ (0) rfl (by decide) rfl ?_
  refine Rn.run 1 (ls' := [_, _]) (st' := [_]) rfl ?_
  rw [h0]
  refine Rn.run 1 (ls' := [_, _]) (st' := [_, _]) rfl ?_
  refine Rn.ne2 rfl (fun e20 => ?_) (fun e20 => absurd e20 (by exact fun h => h (by have : (0 : Int) ≤ w32 (E : Int) := hE; intro q; rw [q] at this; exact absurd this (by decide))))
  refine Rn.run 5 (ls' := [_, _]) (st' := [_, _, _]) rfl ?_
  refine Rn.aald rfl ⟨by decide, rfl, by decide, by decide⟩ (0) rfl (by decide) rfl ?_
  refine Rn.call rfl rfl rfl rfl rfl (c13b0) ?_
  refine Rn.run 3 (ls' := [_, _]) (st' := [_]) rfl ?_
  rw [bcm_0, h0]
  exact Rn.ret rfl rfl rfl rfl rfl rfl
theorem k76_1 {ex : xO} {d : Nat} {c : Nat → Nat → Int} {b : Bool}  {E : Nat} (hE : 0 ≤ w32 (E : Int)) (h0 : c 46 0 = (E : Nat)) : An ex (d + 20) 76 2 [xA 0, xI ((1 : Nat) : Int)] (hp c b) (xI (E : Nat), hp (bcm c 7 46) b) := by
  refine Rn.run 2 (ls' := [_, _]) (st' := [_, _]) rfl ?_
  refine Rn.call rfl rfl rfl rfl rfl (c100) ?_
  refine Rn.neB rfl (fun e5 => ?_) (fun e5 => absurd e5 (by exact fun h => h (by decide)))
  refine Rn.run 3 (ls' := [_, _]) (st' := [_, _]) rfl ?_
  refine Rn.aald rfl ⟨by decide, rfl, by decide, by decide⟩ (1) rfl (by decide) rfl ?_
  refine Rn.run 1 (ls' := [_, _]) (st' := [_]) rfl ?_
  rw [h0]
  refine Rn.run 1 (ls' := [_, _]) (st' := [_, _]) rfl ?_
  refine Rn.ne2 rfl (fun e20 => ?_) (fun e20 => absurd e20 (by exact fun h => h (by have : (0 : Int) ≤ w32 (E : Int) := hE; intro q; rw [q] at this; exact absurd this (by decide))))
  refine Rn.run 5 (ls' := [_, _]) (st' := [_, _, _]) rfl ?_
  refine Rn.aald rfl ⟨by decide, rfl, by decide, by decide⟩ (1) rfl (by decide) rfl ?_
  refine Rn.call rfl rfl rfl rfl rfl (c13b1) ?_
  refine Rn.run 3 (ls' := [_, _]) (st' := [_]) rfl ?_
  rw [bcm_0, h0]
  exact Rn.ret rfl rfl rfl rfl rfl rfl
theorem k76_2 {ex : xO} {d : Nat} {c : Nat → Nat → Int} {b : Bool}  {E : Nat} (hE : 0 ≤ w32 (E : Int)) (h0 : c 50 0 = (E : Nat)) : An ex (d + 20) 76 2 [xA 0, xI ((2 : Nat) : Int)] (hp c b) (xI (E : Nat), hp (bcm c 7 50) b) := by
  refine Rn.run 2 (ls' := [_, _]) (st' := [_, _]) rfl ?_
  refine Rn.call rfl rfl rfl rfl rfl (c100) ?_
  refine Rn.neB rfl (fun e5 => ?_) (fun e5 => absurd e5 (by exact fun h => h (by decide)))
  refine Rn.run 3 (ls' := [_, _]) (st' := [_, _]) rfl ?_
  refine Rn.aald rfl ⟨by decide, rfl, by decide, by decide⟩ (2) rfl (by decide) rfl ?_
  refine Rn.run 1 (ls' := [_, _]) (st' := [_]) rfl ?_
  rw [h0]
  refine Rn.run 1 (ls' := [_, _]) (st' := [_, _]) rfl ?_
  refine Rn.ne2 rfl (fun e20 => ?_) (fun e20 => absurd e20 (by exact fun h => h (by have : (0 : Int) ≤ w32 (E : Int) := hE; intro q; rw [q] at this; exact absurd this (by decide))))
  refine Rn.run 5 (ls' := [_, _]) (st' := [_, _, _]) rfl ?_
  refine Rn.aald rfl ⟨by decide, rfl, by decide, by decide⟩ (2) rfl (by decide) rfl ?_
  refine Rn.call rfl rfl rfl rfl rfl (c13b2) ?_
  refine Rn.run 3 (ls' := [_, _]) (st' := [_]) rfl ?_
  rw [bcm_0, h0]
  exact Rn.ret rfl rfl rfl rfl rfl rfl
theorem k189_b1 {ex : xO} {d : Nat} {c : Nat → Nat → Int} {b : Bool}  {a1 : Int} (h1 : w32 a1 = a1) (q1 : ¬ (0 ≤ a1 ∧ a1 < 3)) : An ex (d + 20) 189 2 [xA 54, xI a1] (hp c b) (xI (-1), hp (c) b) := by
  refine Rn.run 4 (ls' := [_, _]) (st' := [_, _, _]) rfl ?_
  refine Rn.call rfl rfl rfl rfl rfl (c131) ?_
  refine Rn.neB rfl (fun e9 => absurd e9 (by exact (z_no9 (m := 2) h1 (by omega) q1))) (fun e9 => ?_)
  refine Rn.run 1 (ls' := [_, _]) (st' := [_]) rfl ?_
  exact Rn.ret rfl rfl rfl rfl rfl rfl
theorem k189_no {ex : xO} {d : Nat} {c : Nat → Nat → Int} {b : Bool}  {k : Nat} (hk : k < 3) (h0 : c 55 (430 + 430 * k) = 0) : An ex (d + 20) 189 2 [xA 54, xI (k : Int)] (hp c b) (xI (-3), hp (xup (xup c 54 5 1) 60 1 (c 60 1 + 1)) b) := by
  refine Rn.run 4 (ls' := [_, _]) (st' := [_, _, _]) rfl ?_
  refine Rn.call rfl rfl rfl rfl rfl (c131) ?_
  refine Rn.neB rfl (fun e9 => ?_) (fun e9 => absurd e9 (by exact fun h => h (z_in9 (m := 2) (by omega) (by omega))))
  refine Rn.run 9 (ls' := [_, _]) (st' := [_, _]) rfl ?_
  refine Rn.ald rfl ⟨by decide, rfl⟩ (430 + 430 * k) (by unfold w32; omega) (by omega) ?_
  rw [h0]
  refine Rn.ne0 rfl (fun e30 => absurd e30 (by exact fun h => h rfl)) (fun e30 => ?_)
  refine Rn.run 2 (ls' := [_, _]) (st' := [_, _]) rfl ?_
  refine Rn.call rfl rfl rfl rfl rfl (c134 1 rfl (by decide)) ?_
  exact Rn.ret rfl rfl rfl rfl rfl rfl
theorem k189_ok {ex : xO} {d : Nat} {c : Nat → Nat → Int} {b : Bool}  {k E n : Nat} (hk : k < 3) (hn : n ≤ 6) (hn0 : n ≠ 0) (h0 : c 55 (430 + 430 * k) = (n : Nat)) (h29 : c 55 (430 + 430 * k + 29) = (E : Nat)) : An ex (d + 20) 189 2 [xA 54, xI (k : Int)] (hp c b) (xI (E : Nat), hp (xfl3 c 55 0 (0 + 430) (fun x => c 55 (430 + 430 * k + (x - 0)))) b) := by
  refine Rn.run 4 (ls' := [_, _]) (st' := [_, _, _]) rfl ?_
  refine Rn.call rfl rfl rfl rfl rfl (c131) ?_
  refine Rn.neB rfl (fun e9 => ?_) (fun e9 => absurd e9 (by exact fun h => h (z_in9 (m := 2) (by omega) (by omega))))
  refine Rn.run 9 (ls' := [_, _]) (st' := [_, _]) rfl ?_
  refine Rn.ald rfl ⟨by decide, rfl⟩ (430 + 430 * k) (by unfold w32; omega) (by omega) ?_
  rw [h0]
  refine Rn.ne0 rfl (fun e30 => ?_) (fun e30 => absurd e30 (by exact fun h => h (z_ne0 hn0 hn)))
  refine Rn.run 7 (ls' := [_, _]) (st' := [_, _, _]) rfl ?_
  refine Rn.call rfl rfl rfl rfl rfl (c137 (F := 430 + 430 * k) (To := 0) (by omega) (by omega) (by omega)) ?_
  refine Rn.run 3 (ls' := [_, _]) (st' := [_, _]) rfl ?_
  refine Rn.ald rfl ⟨by decide, rfl⟩ (29) rfl (by decide) ?_
  rw [xfl3_in _ _ (by omega)]
  show Rn ex xt189 _ _ _ [xI (c 55 (430 + 430 * k + 29))] _ _
  rw [h29]
  exact Rn.ret rfl rfl rfl rfl rfl rfl
theorem g_on {ex : xO} (a1 : Int) (h1 : w32 a1 = a1) : AgI ex 76 2 189 2 [xI a1] := by
  intro d c b hI
  by_cases q1 : 0 ≤ a1 ∧ a1 < 3
  · obtain ⟨k, hk, rfl⟩ : ∃ j : Nat, j < 3 ∧ a1 = (j : Int) := ⟨a1.toNat, by omega, by omega⟩
    have eB : 430 + 430 * k = 430 * (k + 1) := by omega
    obtain ⟨n, hG, hC, hK⟩ := hI.2.2.2.2
    rcases hK k hk with ⟨h2, h3⟩ | ⟨h2, h3, h4, ⟨E, x1, x2, x3, x4⟩⟩
    · refine Ag_find hI 1 (by decide) (k76_no hk h2) ?_
      have h := k189_no (ex := ex) (d := d) (b := b) (c := xup (xup c 0 13 (1 : Nat)) 13 1 (c 13 1 + 1)) hk (by rw [xup_n _ _ (by omega), xup_n _ _ (by omega), eB]; exact h3)
      rw [xup_n _ _ (by omega), xup_n _ _ (by omega)] at h
      exact h
    · have hE : 0 ≤ w32 (E : Int) := by rw [x_wn (by omega)]; omega
      refine ⟨_, _, bcm c 7 (42 + 4 * k), b, _, b, ?_, k189_ok (n := n) (E := E) hk hG.1 (by omega) (by rw [bcm_o _ _ _ (by omega), eB]; exact h3) (by rw [bcm_o _ _ _ (by omega), eB]; exact x3), rfl, ?_⟩
      · rcases (by omega : k = 0 ∨ k = 1 ∨ k = 2) with rfl | rfl | rfl
        · exact k76_0 hE x2
        · exact k76_1 hE x2
        · exact k76_2 hE x2
      · refine Inv_on hI hk (by rw [h3]; omega) ?_ (fun j hj => ?_) (fun j hj => ?_) (fun j hj => ?_) (fun X hX => ?_) (fun a z h1 h2 h3 => ?_)
        · rw [xfl3_out _ _ (by omega), bcm_0]
        · rw [xfl3_out _ _ (by omega), show 43 + 4 * k = 42 + 4 * k + 1 by omega, show (8 : Nat) = 7 + 1 from rfl, bcm_1 _ (by omega) hj]
        · rw [xfl3_out _ _ (by omega), show 44 + 4 * k = 42 + 4 * k + 2 by omega, show (9 : Nat) = 7 + 2 from rfl, bcm_2 _ (by omega) hj]
        · rw [xfl3_out _ _ (by omega), show 45 + 4 * k = 42 + 4 * k + 3 by omega, show (10 : Nat) = 7 + 3 from rfl, bcm_3 _ (by omega) hj]
        · rw [xfl3_in _ _ (by omega), bcm_o _ _ _ (by omega)]
          exact congrArg (c 55) (by omega)
        · rw [xfl3_out _ _ (by omega), bcm_o _ _ _ (by omega)]
  · exact Ag_same hI (-1) (k76_b1 h1 q1) (k189_b1 h1 q1)
