-- copy
theorem x_cpf {i n j s1 s2 : Int} (hi : w32 i = i) (hj : w32 j = j) (hn : w32 n = n) (h0 : 0 ≤ n) (b1 : -1 ≤ s1 ∧ s1 ≤ 40) (b2 : -1 ≤ s2 ∧ s2 ≤ 40) (e1 : ¬ w32 i < 0) (e2 : ¬ w32 j < 0) (e3 : ¬ 0 < w32 (xcmp (w32 i + w32 n) (w32 s1))) (e4 : w32 (xcmp (w32 j + w32 n) (w32 s2)) ≤ 0) : (0 ≤ i ∧ i + n ≤ s1) ∧ (0 ≤ j ∧ j + n ≤ s2) := by
  have f1 : ¬ w64 (w32 s1) < w64 (w32 i + w32 n) := fun h => e3 (x_cmpgt.mpr h)
  have f2 : ¬ w64 (w32 s2) < w64 (w32 j + w32 n) := fun h => absurd (x_cmpgt.mpr h) (Int.not_lt.mpr e4)
  clear e3 e4
  have w1 : w32 s1 = s1 := by unfold w32; omega
  have w2 : w32 s2 = s2 := by unfold w32; omega
  rw [hi] at f1 e1
  rw [hj] at f2 e2
  rw [hn] at f1 f2
  rw [w1] at f1
  rw [w2] at f2
  have r1 : -2147483648 ≤ i ∧ i < 2147483648 := by rw [← hi]; unfold w32; omega
  have r2 : -2147483648 ≤ j ∧ j < 2147483648 := by rw [← hj]; unfold w32; omega
  have r3 : -2147483648 ≤ n ∧ n < 2147483648 := by rw [← hn]; unfold w32; omega
  simp only [w64] at f1 f2
  omega
theorem x_cpg {i n s1 : Int} (hi : w32 i = i) (hn : w32 n = n) (h0 : 0 ≤ i) (h1 : 0 ≤ n) (h2 : i + n ≤ s1) (h3 : s1 ≤ 40) : ¬ 0 < w32 (xcmp (w32 i + w32 n) (w32 s1)) := fun h => by
  have f1 := x_cmpgt.mp h
  have w1 : w32 s1 = s1 := by unfold w32; omega
  rw [hi, hn, w1] at f1
  simp only [w64] at f1
  omega
theorem g_copy {ex : xO} (a1 a2 a3 a4 a5 : Int) (h1 : w32 a1 = a1) (h2 : w32 a2 = a2) (h3 : w32 a3 = a3) (h4 : w32 a4 = a4) (h5 : w32 a5 = a5) : AgI ex 61 8 146 7 [xI a1, xI a2, xI a3, xI a4, xI a5] := by
  intro d c b hI
  by_cases hr : (0 ≤ a1 ∧ a1 < 6) ∧ (0 ≤ a3 ∧ a3 < 6)
  · obtain ⟨k, hk, rfl⟩ : ∃ k : Nat, k < 6 ∧ a1 = (k : Int) := ⟨a1.toNat, by omega, by omega⟩
    obtain ⟨k2, hk2, rfl⟩ : ∃ k : Nat, k < 6 ∧ a3 = (k : Int) := ⟨a3.toNat, by omega, by omega⟩
    obtain ⟨s1, s2, s3, s4⟩ := hI.1 k hk
    obtain ⟨t1, t2, t3, t4⟩ := hI.1 k2 hk2
    have hw : w32 (c 56 k) = c 56 k := by unfold w32; omega
    have hw2 : w32 (c 56 k2) = c 56 k2 := by unfold w32; omega
    by_cases hn : a5 < 0
    · exact Ag_find hI 5 (by decide) (c61_size hk hk2 (by rw [h5]; exact hn)) (c146_size hk hk2 (by rw [h5]; exact hn))
    · by_cases hm : c 56 k < 0 ∨ c 56 k2 < 0
      · exact Ag_find hI 1 (by decide) (c61_no hk hk2 (by rw [h5]; omega) (by rw [s1, t1, hw, hw2]; exact hm)) (c146_no hk hk2 (by rw [h5]; omega) (show w32 (c 56 k) < 0 ∨ w32 (c 56 k2) < 0 by rw [hw, hw2]; exact hm))
      · by_cases hf : (0 ≤ a2 ∧ a2 + a5 ≤ c 56 k) ∧ (0 ≤ a4 ∧ a4 + a5 ≤ c 56 k2)
        · obtain ⟨i, rfl⟩ : ∃ i : Nat, a2 = (i : Int) := ⟨a2.toNat, by omega⟩
          obtain ⟨j, rfl⟩ : ∃ i : Nat, a4 = (i : Int) := ⟨a4.toNat, by omega⟩
          obtain ⟨n, rfl⟩ : ∃ i : Nat, a5 = (i : Int) := ⟨a5.toNat, by omega⟩
          clear h1 h3
          have hg := gid_in b
          have e5 : ∀ z, xrow c (23 + 2 * k2) (xcp (c (23 + 2 * k)) (c (23 + 2 * k2)) i j n) 56 z = c 56 z := fun z => by rw [x_xrow_ne _ _ _ _ (by omega)]
          have e7 : ∀ z, xrow c (23 + 2 * k2) (xcp (c (23 + 2 * k)) (c (23 + 2 * k2)) i j n) 57 z = c 57 z := fun z => by rw [x_xrow_ne _ _ _ _ (by omega)]
          refine ⟨1, 1, _, b, _, b, c61_ok hk hk2 h2 h4 h5 (by omega) (by rw [s1, hw]; omega) (by rw [t1, hw2]; omega) (by rw [s1]; omega) (by rw [t1]; omega) (by rw [s1]; omega) (by rw [t1]; omega) (by omega) (by omega), c146_ok hk hk2 h2 h4 h5 (by omega) (by rw [e5, hw]; omega) (by rw [e5, hw2]; omega) (by rw [e5]; exact x_cpg h2 h5 (by omega) (by omega) hf.1.2 s3) (by rw [e5]; exact Int.not_lt.mp (x_cpg h4 h5 (by omega) (by omega) hf.2.2 t3)) (by omega) (by omega), rfl, ?_⟩
          generalize hc1 : xrow c (23 + 2 * k2) (xcp (c (23 + 2 * k)) (c (23 + 2 * k2)) i j n) = c1 at e5 e7 ⊢
          clear h2 h4 h5 hw hw2
          have key1 : ∀ a x, a ≠ 23 + 2 * k2 → c1 a x = c a x := fun a x h => by rw [← hc1, x_xrow_ne _ _ _ _ h]
          have key : ∀ a x, a ≠ 23 + 2 * k2 → a ≠ 61 → ¬ (a = 57 ∧ 40 * k2 + j ≤ x ∧ x < 40 * k2 + j + n) → xfl3 (xfl3 c1 61 0 n (fun z => c1 57 (40 * k + i + z))) 57 (40 * k2 + j + 0) (40 * k2 + j + n) (fun z => xfl3 c1 61 0 n (fun z => c1 57 (40 * k + i + z)) 61 (z - (40 * k2 + j))) a x = c a x := by
            intro a x g1 g2 g3
            rw [xfl3_out _ _ (by omega), xfl3_out _ _ (by omega), key1 a x g1]
          refine Inv_mk (fun r hr => ?_) (iTxt_fr (fun a j h => key a j (by omega) (by omega) (by omega)) hI.2.1) (iFnd_fr (fun a j h => key a j (by omega) (by omega) (by omega)) hI.2.2.1) (iAsk_fr (fun a j h => key a j (by omega) (by omega) (by omega)) hI.2.2.2.1) (iG_fr (fun a j h => key a j (by omega) (by omega) (by omega)) hI.2.2.2.2)
          obtain ⟨z1, z2, z3, z4⟩ := hI.1 r hr
          rw [key _ _ (by omega) (by omega) (by omega), key _ _ (by omega) (by omega) (by omega)]
          refine ⟨z1, z2, z3, fun x hx => ?_⟩
          by_cases e : r = k2
          · subst e
            have el : xfl3 (xfl3 c1 61 0 n (fun z => c1 57 (40 * k + i + z))) 57 (40 * r + j + 0) (40 * r + j + n) (fun z => xfl3 c1 61 0 n (fun z => c1 57 (40 * k + i + z)) 61 (z - (40 * r + j))) (23 + 2 * r) x = xcp (c (23 + 2 * k)) (c (23 + 2 * r)) i j n x := by
              rw [xfl3_out _ _ (by omega), xfl3_out _ _ (by omega), ← hc1]
              simp [xrow]
            rw [el]
            by_cases hx2 : j ≤ x ∧ x < j + n
            · rw [xfl3_in _ _ (by omega), xfl3_in _ _ (by omega), e7]
              simp only [xcp]
              rw [if_pos hx2, s4 _ (by omega)]
              congr 1
              omega
            · rw [xfl3_out _ _ (by omega), xfl3_out _ _ (by omega), e7]
              simp only [xcp]
              rw [if_neg hx2]
              exact z4 x hx
          · rw [key _ _ (by omega) (by omega) (by omega), key _ _ (by omega) (by omega) (by omega)]
            exact z4 x hx
        · exact Ag_find hI 2 (by decide) (c61_far hk hk2 h2 h4 h5 (by omega) (by rw [s1, hw]; omega) (by rw [t1, hw2]; omega) (by rw [s1]; omega) (by rw [t1]; omega) (by rw [s1, t1]; exact hf)) (c146_far hk hk2 h5 (by omega) (show ¬ w32 (c 56 k) < 0 by omega) (show 0 ≤ w32 (c 56 k2) by omega) (fun e1 e2 e3 e4 => hf (x_cpf h2 h4 h5 (by omega) ⟨s2, s3⟩ ⟨t2, t3⟩ e1 e2 e3 e4)))
  · refine Ag_same hI (-1) ?_ ?_
    · show Rn ex xt61 (d + 20) 0 [xA 0, xI a1, xI a2, xI a3, xI a4, xI a5, xU, xU] [] (hp c b) _
      refine Rn.run 2 rfl ?_
      refine Rn.call rfl rfl rfl rfl rfl (c100) ?_
      refine Rn.eqB rfl (fun e6 => ?_) (fun e6 => ?_)
      · refine Rn.run 1 rfl ?_
        exact Rn.ret rfl rfl rfl rfl (rfl) (rfl)
      · refine Rn.run 2 rfl ?_
        refine Rn.call rfl rfl rfl rfl rfl (c100) ?_
        refine Rn.neB rfl (fun e15 => absurd e15 (by exact fun h => hr ⟨by rw [← h1]; exact e6, by rw [← h3]; exact h⟩)) (fun e15 => ?_)
        refine Rn.run 1 rfl ?_
        exact Rn.ret rfl rfl rfl rfl (rfl) (rfl)
    · show Rn ex xt146 (d + 20) 0 [xA 54, xI a1, xI a2, xI a3, xI a4, xI a5, xU] [] (hp c b) _
      refine Rn.run 1 rfl ?_
      refine Rn.call rfl rfl rfl rfl rfl (c138) ?_
      refine Rn.eqB rfl (fun e4 => ?_) (fun e4 => ?_)
      · refine Rn.run 1 rfl ?_
        exact Rn.ret rfl rfl rfl rfl (rfl) (rfl)
      · refine Rn.run 1 rfl ?_
        refine Rn.call rfl rfl rfl rfl rfl (c138) ?_
        refine Rn.neB rfl (fun e11 => absurd e11 (by exact fun h => hr ⟨by rw [← h1]; exact e4, by rw [← h3]; exact h⟩)) (fun e11 => ?_)
        refine Rn.run 1 rfl ?_
        exact Rn.ret rfl rfl rfl rfl (rfl) (rfl)
