-- more rules, and what an invariant's part looks at
section RB
variable {ex : xO} {t : xT} {d pc : Nat} {ls st : List xV} {h : xH} {o : xV × xH}
theorem x_b01 (P : Prop) [Decidable P] : w32 (if P then 1 else 0) = 0 ↔ ¬ P := by
  by_cases h : P <;> simp [h, w32]
theorem Rn.eqB {P : Prop} [Decidable P] {o0 : Int} {nx P0 X : Nat} {r : Nat × Nat × Nat × Int} (he : xfind t pc = some (.ifCond .eq o0, nx, P0, X, r)) (kt : ¬ P → Rn ex t d X ls st h o) (kf : P → Rn ex t d nx ls st h o) : Rn ex t d pc ls (xI (if P then 1 else 0) :: st) h o :=
  Rn.eq0 he (fun e => kt ((x_b01 P).mp e)) (fun e => kf (Classical.byContradiction fun n => e ((x_b01 P).mpr n)))
theorem Rn.neB {P : Prop} [Decidable P] {o0 : Int} {nx P0 X : Nat} {r : Nat × Nat × Nat × Int} (he : xfind t pc = some (.ifCond .ne o0, nx, P0, X, r)) (kt : P → Rn ex t d X ls st h o) (kf : ¬ P → Rn ex t d nx ls st h o) : Rn ex t d pc ls (xI (if P then 1 else 0) :: st) h o :=
  Rn.ne0 he (fun e => kt (Classical.byContradiction fun n => e ((x_b01 P).mpr n))) (fun e => kf ((x_b01 P).mp (Classical.byContradiction fun n => e n)))
end RB
theorem xup_s {α : Type} (f : Nat → Nat → α) (a j : Nat) (v : α) : xup f a j v a j = v := by simp [xup]
theorem xup_n {α : Type} (f : Nat → Nat → α) {a j a' j' : Nat} (v : α) (h : a' ≠ a ∨ j' ≠ j) : xup f a j v a' j' = f a' j' := by
  unfold xup
  by_cases h1 : a' = a
  · rw [if_pos h1]
    rcases h with h | h
    · exact absurd h1 h
    · rw [if_neg h]
  · rw [if_neg h1]
theorem iRow_fr {c c' : Nat → Nat → Int} (h : ∀ a k, (22 ≤ a ∧ a ≤ 33) ∨ a = 56 ∨ a = 57 → c' a k = c a k) (hI : iRow c) : iRow c' := by
  intro r hr
  obtain ⟨h1, h2, h3, h4⟩ := hI r hr
  rw [h (22 + 2 * r) 0 (by omega), h 56 r (by omega)]
  refine ⟨h1, h2, h3, fun k hk => ?_⟩
  rw [h (23 + 2 * r) k (by omega), h 57 _ (by omega)]
  exact h4 k hk
theorem iTxt_fr {c c' : Nat → Nat → Int} (h : ∀ a k, (34 ≤ a ∧ a ≤ 41) ∨ a = 58 ∨ a = 59 → c' a k = c a k) (hI : iTxt c) : iTxt c' := by
  intro r hr
  obtain ⟨h1, h2, h3, h4⟩ := hI r hr
  rw [h (34 + 2 * r) 0 (by omega), h 58 r (by omega)]
  refine ⟨h1, h2, h3, fun k hk => ?_⟩
  rw [h (35 + 2 * r) k (by omega), h 59 _ (by omega)]
  exact h4 k hk
theorem iFnd_fr {c c' : Nat → Nat → Int} (h : ∀ a k, (a = 0 ∧ k = 13) ∨ (a = 54 ∧ k = 5) ∨ a = 13 ∨ a = 60 → c' a k = c a k) (hI : iFnd c) : iFnd c' := by
  refine ⟨?_, fun f hf => ?_⟩
  · rw [h 0 13 (by omega), h 54 5 (by omega)]; exact hI.1
  · rw [h 13 f (by omega), h 60 f (by omega)]; exact hI.2 f hf
theorem iAsk_fr {c c' : Nat → Nat → Int} (h : ∀ a k, (a = 0 ∧ 10 ≤ k ∧ k ≤ 12) ∨ (a = 54 ∧ 7 ≤ k ∧ k ≤ 9) → c' a k = c a k) (hI : iAsk c) : iAsk c' := by
  unfold iAsk
  rw [h 0 10 (by omega), h 0 11 (by omega), h 0 12 (by omega), h 54 7 (by omega), h 54 8 (by omega), h 54 9 (by omega)]
  exact hI
theorem gid_in (b : Bool) : gid b = 14 ∨ gid b = 18 := by cases b <;> simp [gid]
theorem iGrn_fr {c c' : Nat → Nat → Int} {b : Bool} {n : Nat} (h : ∀ a k, (gid b ≤ a ∧ a ≤ gid b + 3) ∨ a = 55 → c' a k = c a k) (hI : iGrn c b n) : iGrn c' b n := by
  obtain ⟨h1, h2, h3, h4, h5⟩ := hI
  have e : (fun i => c' 55 (11 + i)) = fun i => c 55 (11 + i) := by funext i; exact h 55 _ (by omega)
  refine ⟨h1, by rw [h 55 0 (by omega)]; exact h2, by rw [h (gid b) 0 (by omega)]; exact h3, by rw [h (gid b) 2 (by omega), e]; exact h4, fun i hi => ?_⟩
  rw [h (gid b + 1) i (by omega), h (gid b + 2) i (by omega), h (gid b + 3) i (by omega), h 55 (11 + i) (by omega), h 55 (17 + i) (by omega), h 55 (23 + i) (by omega)]
  exact h5 i hi
theorem crs_fr {c c' : Nat → Nat → Int} {o o1 o2 o3 B n : Nat} (h : ∀ a k, a = o ∨ a = o1 ∨ a = o2 ∨ a = o3 ∨ a = 55 → c' a k = c a k) (hI : crs c o o1 o2 o3 B n) : crs c' o o1 o2 o3 B n := by
  have e : ∀ k, c' 55 k = c 55 k := fun k => h 55 k (by omega)
  obtain ⟨D, h1, h2, h3, h4, h5, h6, h7⟩ := hI
  refine ⟨D, h1, by rw [h o 0 (by omega)]; exact h2, by rw [e]; exact h3, fun b hb => by rw [h o1 D (by omega), e]; exact h4 b hb, by rw [h o2 D (by omega), e]; exact h5, by rw [h o3 D (by omega), e]; exact h6, fun j hj => ?_⟩
  obtain ⟨g1, g2, g3⟩ := h7 j hj
  exact ⟨fun b hb => by rw [h o1 j (by omega), e]; exact g1 b hb, by rw [h o2 j (by omega), e]; exact g2, by rw [h o3 j (by omega), e]; exact g3⟩
theorem iKpt_fr {c c' : Nat → Nat → Int} {n k : Nat} (hk : k < 3) (h : ∀ a k, (42 ≤ a ∧ a ≤ 53) ∨ a = 55 → c' a k = c a k) (hI : iKpt c n k) : iKpt c' n k := by
  have e : ∀ k, c' 55 k = c 55 k := fun k => h 55 k (by omega)
  rcases hI with ⟨h1, h2⟩ | ⟨h1, h2, h3, h4⟩
  · exact Or.inl ⟨by rw [h _ _ (by omega)]; exact h1, by rw [e]; exact h2⟩
  · exact Or.inr ⟨h1, by rw [e]; exact h2, fun i hi => by rw [e, e, e, e, e, e]; exact h3 i hi, crs_fr (fun a j ha => h a j (by omega)) h4⟩
/-- the green, its course and the kept ones -/
def iG (c : Nat → Nat → Int) (b : Bool) : Prop := ∃ n : Nat, iGrn c b n ∧ crs c 7 8 9 10 0 n ∧ (∀ k, k < 3 → iKpt c n k)
theorem iG_fr {c c' : Nat → Nat → Int} {b : Bool} (h : ∀ a k, (7 ≤ a ∧ a ≤ 10) ∨ (gid b ≤ a ∧ a ≤ gid b + 3) ∨ (42 ≤ a ∧ a ≤ 53) ∨ a = 55 → c' a k = c a k) (hI : iG c b) : iG c' b := by
  obtain ⟨n, h1, h2, h3⟩ := hI
  exact ⟨n, iGrn_fr (fun a k ha => h a k (by omega)) h1, crs_fr (fun a k ha => h a k (by omega)) h2, fun k hk => iKpt_fr hk (fun a j ha => h a j (by omega)) (h3 k hk)⟩
theorem Inv_mk {c : Nat → Nat → Int} {b : Bool} (h1 : iRow c) (h2 : iTxt c) (h3 : iFnd c) (h4 : iAsk c) (h5 : iG c b) : Inv c b := ⟨h1, h2, h3, h4, h5⟩
/-- nothing that the invariant looks at has changed -/
theorem Inv_fr {c c' : Nat → Nat → Int} {b : Bool} (h : ∀ a k, (a = 0 ∧ 10 ≤ k ∧ k ≤ 13) ∨ (7 ≤ a ∧ a ≤ 10) ∨ a = 13 ∨ (gid b ≤ a ∧ a ≤ gid b + 3) ∨ (22 ≤ a ∧ a ≤ 53) ∨ (a = 54 ∧ (k = 5 ∨ 7 ≤ k ∧ k ≤ 9)) ∨ (55 ≤ a ∧ a ≤ 60) → c' a k = c a k) (hI : Inv c b) : Inv c' b :=
  Inv_mk (iRow_fr (fun a k ha => h a k (by omega)) hI.1) (iTxt_fr (fun a k ha => h a k (by omega)) hI.2.1) (iFnd_fr (fun a k ha => h a k (by omega)) hI.2.2.1) (iAsk_fr (fun a k ha => h a k (by omega)) hI.2.2.2.1) (iG_fr (fun a k ha => h a k (by omega)) hI.2.2.2.2)
/-- the cells of a finding, both sides -/
theorem Inv_find {c : Nat → Nat → Int} {b : Bool} (hI : Inv c b) {f : Nat} (hf : f < 6) : Inv (xup (xup (xup (xup c 0 13 f) 13 f (c 13 f + 1)) 54 5 f) 60 f (c 60 f + 1)) b := by
  have hg := gid_in b
  have key : ∀ a k, ¬ ((a = 0 ∧ k = 13) ∨ (a = 13 ∧ k = f) ∨ (a = 54 ∧ k = 5) ∨ (a = 60 ∧ k = f)) → xup (xup (xup (xup c 0 13 f) 13 f (c 13 f + 1)) 54 5 f) 60 f (c 60 f + 1) a k = c a k := by
    intro a k h
    rw [xup_n _ _ (by omega), xup_n _ _ (by omega), xup_n _ _ (by omega), xup_n _ _ (by omega)]
  refine Inv_mk (iRow_fr (fun a k ha => key a k (by omega)) hI.1) (iTxt_fr (fun a k ha => key a k (by omega)) hI.2.1) ⟨?_, fun g hg => ?_⟩ (iAsk_fr (fun a k ha => key a k (by omega)) hI.2.2.2.1) (iG_fr (fun a k ha => key a k (by omega)) hI.2.2.2.2)
  · rw [xup_n _ _ (by omega), xup_n _ _ (by omega), xup_n _ _ (by omega), xup_s, xup_n _ _ (by omega), xup_s]
  · by_cases e : g = f
    · subst e
      rw [xup_n _ _ (by omega), xup_n _ _ (by omega), xup_s, xup_s]
      have := hI.2.2.1.2 g hg
      omega
    · rw [key _ _ (by omega), key _ _ (by omega)]
      exact hI.2.2.1.2 g hg
theorem Inv_ask {c : Nat → Nat → Int} {b : Bool} (hI : Inv c b) (v : Int) : Inv (xup (xup c 0 10 v) 54 7 v) b := by
  have hg := gid_in b
  have key : ∀ a k, ¬ ((a = 0 ∧ k = 10) ∨ (a = 54 ∧ k = 7)) → xup (xup c 0 10 v) 54 7 v a k = c a k := by
    intro a k h
    rw [xup_n _ _ (by omega), xup_n _ _ (by omega)]
  refine Inv_mk (iRow_fr (fun a k ha => key a k (by omega)) hI.1) (iTxt_fr (fun a k ha => key a k (by omega)) hI.2.1) (iFnd_fr (fun a k ha => key a k (by omega)) hI.2.2.1) ⟨?_, ?_, ?_⟩ (iG_fr (fun a k ha => key a k (by omega)) hI.2.2.2.2)
  · rw [xup_n _ _ (by omega), xup_s, xup_s]
  · rw [key _ _ (by omega), key _ _ (by omega)]; exact hI.2.2.2.1.2.1
  · rw [key _ _ (by omega), key _ _ (by omega)]; exact hI.2.2.2.1.2.2
