-- lay, at, tear
theorem Inv_rowput {c : Nat → Nat → Int} {b : Bool} (hI : Inv c b) {k j : Nat} (hk : k < 6) (hj : j < 40) (v : Int) : Inv (xup (xup c (23 + 2 * k) j v) 57 (40 * k + j) v) b := by
  have hg := gid_in b
  have key : ∀ a i, ¬ ((a = 23 + 2 * k ∧ i = j) ∨ (a = 57 ∧ i = 40 * k + j)) → xup (xup c (23 + 2 * k) j v) 57 (40 * k + j) v a i = c a i := by
    intro a i h
    rw [xup_n _ _ (by omega), xup_n _ _ (by omega)]
  refine Inv_mk (fun r hr => ?_) (iTxt_fr (fun a j h => key a j (by omega)) hI.2.1) (iFnd_fr (fun a j h => key a j (by omega)) hI.2.2.1) (iAsk_fr (fun a j h => key a j (by omega)) hI.2.2.2.1) (iG_fr (fun a j h => key a j (by omega)) hI.2.2.2.2)
  obtain ⟨s1, s2, s3, s4⟩ := hI.1 r hr
  rw [key _ _ (by omega), key _ _ (by omega)]
  refine ⟨s1, s2, s3, fun i hi => ?_⟩
  by_cases e : r = k ∧ i = j
  · obtain ⟨rfl, rfl⟩ := e
    rw [xup_s, xup_n _ _ (by omega), xup_s]
  · rw [key _ _ (by omega), key _ _ (by omega)]
    exact s4 i hi
theorem g_at {ex : xO} (a1 a2 : Int) (h1 : w32 a1 = a1) (h2 : w32 a2 = a2) : AgI ex 59 4 144 3 [xI a1, xI a2] := by
  intro d c b hI
  by_cases hr : 0 ≤ a1 ∧ a1 < 6
  · obtain ⟨k, hk, rfl⟩ : ∃ k : Nat, k < 6 ∧ a1 = (k : Int) := ⟨a1.toNat, by omega, by omega⟩
    obtain ⟨s1, s2, s3, s4⟩ := hI.1 k hk
    have hw : w32 (c 56 k) = c 56 k := by simp only [w32]; omega
    by_cases hm : c 56 k < 0
    · refine Ag_find hI 1 (by decide) ?_ ?_
      · show Rn ex xt59 (d + 20) 0 [xA 0, xI (k : Int), xI a2, xU] [] (hp c b) _
        refine Rn.run 3 rfl ?_
        refine Rn.call rfl rfl rfl rfl rfl (c107_no k hk h1 (by rw [s1, hw]; exact hm)) ?_
        refine Rn.run 2 rfl ?_
        refine Rn.eq0 rfl (fun e8 => absurd e8 (by decide)) (fun e8 => ?_)
        refine Rn.run 1 rfl ?_
        exact Rn.ret rfl rfl rfl rfl (rfl) (rfl)
      · show Rn ex xt144 (d + 20) 0 [xA 54, xI (k : Int), xI a2] [] (hp (xup (xup c 0 13 1) 13 1 (c 13 1 + 1)) b) _
        refine Rn.run 1 rfl ?_
        refine Rn.call rfl rfl rfl rfl rfl (c138) ?_
        refine Rn.neB rfl (fun e4 => ?_) (fun e4 => absurd e4 (by exact fun h => h (by simp only [w32] at *; omega)))
        refine Rn.run 3 rfl ?_
        refine Rn.ald rfl ⟨by decide, rfl⟩ (k) h1 (by omega) ?_
        refine Rn.ge0 rfl (fun e15 => absurd e15 (by show ¬ 0 ≤ w32 (c 56 k); omega)) (fun e15 => ?_)
        refine Rn.run 2 rfl ?_
        refine Rn.call rfl rfl rfl rfl rfl (c134 1 rfl (by decide)) ?_
        exact Rn.ret rfl rfl rfl rfl (rfl) (rfl)
    · by_cases hi : 0 ≤ a2 ∧ a2 < c 56 k
      · obtain ⟨j, hj, rfl⟩ : ∃ j : Nat, (j : Int) < c 56 k ∧ a2 = (j : Int) := ⟨a2.toNat, by omega, by omega⟩
        refine ⟨1, 1, xup c 0 10 (c (23 + 2 * k) j), b, xup (xup c 0 10 (c (23 + 2 * k) j)) 54 7 (c 57 (40 * k + j)), b, ?_, ?_, rfl, ?_⟩
        · show Rn ex xt59 (d + 20) 0 [xA 0, xI (k : Int), xI (j : Int), xU] [] (hp c b) _
          refine Rn.run 3 rfl ?_
          refine Rn.call rfl rfl rfl rfl rfl (c107_ok k hk h1 (by rw [s1, hw]; omega) (by rw [s1, hw, h2]; omega)) ?_
          refine Rn.run 2 rfl ?_
          refine Rn.eq0 rfl (fun e8 => ?_) (fun e8 => absurd e8 (by decide))
          refine Rn.run 4 rfl ?_
          refine Rn.aald rfl ⟨by decide, rfl, by decide, by decide⟩ k h1 (by omega) (xR_row hk).1 ?_
          refine Rn.getR rfl (xS_row hk) (xR_row hk).2 ?_
          refine Rn.run 1 rfl ?_
          refine Rn.ald rfl (xS_pl hk) j (by omega) (by omega) ?_
          refine Rn.call rfl rfl rfl rfl rfl (c102) ?_
          exact Rn.ret rfl rfl rfl rfl (rfl) (rfl)
        · show Rn ex xt144 (d + 20) 0 [xA 54, xI (k : Int), xI (j : Int)] [] (hp (xup c 0 10 (c (23 + 2 * k) j)) b) _
          refine Rn.run 1 rfl ?_
          refine Rn.call rfl rfl rfl rfl rfl (c138) ?_
          refine Rn.neB rfl (fun e4 => ?_) (fun e4 => absurd e4 (by exact fun h => h (by simp only [w32] at *; omega)))
          refine Rn.run 3 rfl ?_
          refine Rn.ald rfl ⟨by decide, rfl⟩ (k) h1 (by omega) ?_
          refine Rn.ge0 rfl (fun e15 => ?_) (fun e15 => absurd e15 (by show ¬ ¬ 0 ≤ w32 (c 56 k); omega))
          refine Rn.run 6 rfl ?_
          refine Rn.ald rfl ⟨by decide, rfl⟩ (k) h1 (by omega) ?_
          refine Rn.run 3 rfl ?_
          refine Rn.call rfl rfl rfl rfl rfl (c131) ?_
          refine Rn.neB rfl (fun e39 => ?_) (fun e39 => absurd e39 (by show ¬ ¬ (w64 0 ≤ w64 (w32 (j : Int)) ∧ w64 (w32 (j : Int)) ≤ w64 (w32 (c 56 k - 1))); rw [h2]; simp only [w64, w32] at *; omega))
          refine Rn.run 8 rfl ?_
          refine Rn.ald rfl ⟨by decide, rfl⟩ (40 * k + j) (by simp only [w32]; omega) (by omega) ?_
          refine Rn.call rfl rfl rfl rfl rfl (c135) ?_
          exact Rn.ret rfl rfl rfl rfl (rfl) (rfl)
        · rw [s4 j (by omega)]
          exact Inv_ask hI _
      · refine Ag_find hI 2 (by decide) ?_ ?_
        · show Rn ex xt59 (d + 20) 0 [xA 0, xI (k : Int), xI a2, xU] [] (hp c b) _
          refine Rn.run 3 rfl ?_
          refine Rn.call rfl rfl rfl rfl rfl (c107_far k hk h1 (by rw [s1, hw]; omega) (by rw [s1, hw, h2]; exact hi)) ?_
          refine Rn.run 2 rfl ?_
          refine Rn.eq0 rfl (fun e8 => absurd e8 (by decide)) (fun e8 => ?_)
          refine Rn.run 1 rfl ?_
          exact Rn.ret rfl rfl rfl rfl (rfl) (rfl)
        · show Rn ex xt144 (d + 20) 0 [xA 54, xI (k : Int), xI a2] [] (hp (xup (xup c 0 13 2) 13 2 (c 13 2 + 1)) b) _
          refine Rn.run 1 rfl ?_
          refine Rn.call rfl rfl rfl rfl rfl (c138) ?_
          refine Rn.neB rfl (fun e4 => ?_) (fun e4 => absurd e4 (by exact fun h => h (by simp only [w32] at *; omega)))
          refine Rn.run 3 rfl ?_
          refine Rn.ald rfl ⟨by decide, rfl⟩ (k) h1 (by omega) ?_
          refine Rn.ge0 rfl (fun e15 => ?_) (fun e15 => absurd e15 (by show ¬ ¬ 0 ≤ w32 (c 56 k); omega))
          refine Rn.run 6 rfl ?_
          refine Rn.ald rfl ⟨by decide, rfl⟩ (k) h1 (by omega) ?_
          refine Rn.run 3 rfl ?_
          refine Rn.call rfl rfl rfl rfl rfl (c131) ?_
          refine Rn.neB rfl (fun e39 => absurd e39 (by show ¬ (w64 0 ≤ w64 (w32 a2) ∧ w64 (w32 a2) ≤ w64 (w32 (c 56 k - 1))); rw [h2]; simp only [w64, w32] at *; omega)) (fun e39 => ?_)
          refine Rn.run 2 rfl ?_
          refine Rn.call rfl rfl rfl rfl rfl (c134 2 rfl (by decide)) ?_
          exact Rn.ret rfl rfl rfl rfl (rfl) (rfl)
  · refine Ag_same hI (-1) ?_ ?_
    · show Rn ex xt59 (d + 20) 0 [xA 0, xI a1, xI a2, xU] [] (hp c b) _
      refine Rn.run 3 rfl ?_
      refine Rn.call rfl rfl rfl rfl rfl (c107_bad (by rw [h1]; exact hr)) ?_
      refine Rn.run 2 rfl ?_
      refine Rn.eq0 rfl (fun e8 => absurd e8 (by decide)) (fun e8 => ?_)
      refine Rn.run 1 rfl ?_
      exact Rn.ret rfl rfl rfl rfl (rfl) (rfl)
    · show Rn ex xt144 (d + 20) 0 [xA 54, xI a1, xI a2] [] (hp c b) _
      refine Rn.run 1 rfl ?_
      refine Rn.call rfl rfl rfl rfl rfl (c138) ?_
      refine Rn.neB rfl (fun e4 => absurd e4 (by exact fun h => hr (by simp only [w32] at *; omega))) (fun e4 => ?_)
      refine Rn.run 1 rfl ?_
      exact Rn.ret rfl rfl rfl rfl (rfl) (rfl)
theorem g_lay {ex : xO} (a1 a2 a3 : Int) (h1 : w32 a1 = a1) (h2 : w32 a2 = a2) (h3 : w32 a3 = a3) : AgI ex 58 6 143 5 [xI a1, xI a2, xI a3] := by
  intro d c b hI
  by_cases hr : 0 ≤ a1 ∧ a1 < 6
  · obtain ⟨k, hk, rfl⟩ : ∃ k : Nat, k < 6 ∧ a1 = (k : Int) := ⟨a1.toNat, by omega, by omega⟩
    obtain ⟨s1, s2, s3, s4⟩ := hI.1 k hk
    have hw : w32 (c 56 k) = c 56 k := by simp only [w32]; omega
    by_cases hm : c 56 k < 0
    · refine Ag_find hI 1 (by decide) ?_ ?_
      · show Rn ex xt58 (d + 20) 0 [xA 0, xI (k : Int), xI a2, xI a3, xU, xU] [] (hp c b) _
        refine Rn.run 3 rfl ?_
        refine Rn.call rfl rfl rfl rfl rfl (c107_no k hk h1 (by rw [s1, hw]; exact hm)) ?_
        refine Rn.run 2 rfl ?_
        refine Rn.eq0 rfl (fun e10 => absurd e10 (by decide)) (fun e10 => ?_)
        refine Rn.run 1 rfl ?_
        exact Rn.ret rfl rfl rfl rfl (rfl) (rfl)
      · show Rn ex xt143 (d + 20) 0 [xA 54, xI (k : Int), xI a2, xI a3, xU] [] (hp (xup (xup c 0 13 1) 13 1 (c 13 1 + 1)) b) _
        refine Rn.run 1 rfl ?_
        refine Rn.call rfl rfl rfl rfl rfl (c138) ?_
        refine Rn.neB rfl (fun e4 => ?_) (fun e4 => absurd e4 (by exact fun h => h (by simp only [w32] at *; omega)))
        refine Rn.run 3 rfl ?_
        refine Rn.ald rfl ⟨by decide, rfl⟩ (k) h1 (by omega) ?_
        refine Rn.ge0 rfl (fun e15 => absurd e15 (by show ¬ 0 ≤ w32 (c 56 k); omega)) (fun e15 => ?_)
        refine Rn.run 2 rfl ?_
        refine Rn.call rfl rfl rfl rfl rfl (c134 1 rfl (by decide)) ?_
        exact Rn.ret rfl rfl rfl rfl (rfl) (rfl)
    · by_cases hi : 0 ≤ a2 ∧ a2 < c 56 k
      · obtain ⟨j, hj, rfl⟩ : ∃ j : Nat, (j : Int) < c 56 k ∧ a2 = (j : Int) := ⟨a2.toNat, by omega, by omega⟩
        refine ⟨1, 1, xup (xup c (23 + 2 * k) j a3) 0 10 (c (23 + 2 * k) j), b, xup (xup (xup (xup c (23 + 2 * k) j a3) 0 10 (c (23 + 2 * k) j)) 57 (40 * k + j) a3) 54 7 (c 57 (40 * k + j)), b, ?_, ?_, rfl, ?_⟩
        · show Rn ex xt58 (d + 20) 0 [xA 0, xI (k : Int), xI (j : Int), xI a3, xU, xU] [] (hp c b) _
          refine Rn.run 3 rfl ?_
          refine Rn.call rfl rfl rfl rfl rfl (c107_ok k hk h1 (by rw [s1, hw]; omega) (by rw [s1, hw, h2]; omega)) ?_
          refine Rn.run 2 rfl ?_
          refine Rn.eq0 rfl (fun e10 => ?_) (fun e10 => absurd e10 (by decide))
          refine Rn.run 3 rfl ?_
          refine Rn.aald rfl ⟨by decide, rfl, by decide, by decide⟩ k h1 (by omega) (xR_row hk).1 ?_
          refine Rn.getR rfl (xS_row hk) (xR_row hk).2 ?_
          refine Rn.run 1 rfl ?_
          refine Rn.ald rfl (xS_pl hk) j (by omega) (by omega) ?_
          refine Rn.run 4 rfl ?_
          refine Rn.aald rfl ⟨by decide, rfl, by decide, by decide⟩ k h1 (by omega) (xR_row hk).1 ?_
          refine Rn.getR rfl (xS_row hk) (xR_row hk).2 ?_
          refine Rn.run 2 rfl ?_
          refine Rn.ast rfl (xS_pl hk) j (by omega) (by omega) ?_
          refine Rn.run 2 rfl ?_
          refine Rn.call rfl rfl rfl rfl rfl (c102) ?_
          exact Rn.ret rfl rfl rfl rfl (rfl) (rfl)
        · show Rn ex xt143 (d + 20) 0 [xA 54, xI (k : Int), xI (j : Int), xI a3, xU] [] (hp (xup (xup c (23 + 2 * k) j a3) 0 10 (c (23 + 2 * k) j)) b) _
          have e56 : xup (xup c (23 + 2 * k) j a3) 0 10 (c (23 + 2 * k) j) 56 k = c 56 k := by rw [xup_n _ _ (by omega), xup_n _ _ (by omega)]
          have e57 : xup (xup c (23 + 2 * k) j a3) 0 10 (c (23 + 2 * k) j) 57 (40 * k + j) = c 57 (40 * k + j) := by rw [xup_n _ _ (by omega), xup_n _ _ (by omega)]
          refine Rn.run 1 rfl ?_
          refine Rn.call rfl rfl rfl rfl rfl (c138) ?_
          refine Rn.neB rfl (fun e4 => ?_) (fun e4 => absurd e4 (by exact fun h => h (by simp only [w32] at *; omega)))
          refine Rn.run 3 rfl ?_
          refine Rn.ald rfl ⟨by decide, rfl⟩ (k) h1 (by omega) ?_
          refine Rn.ge0 rfl (fun e15 => ?_) (fun e15 => absurd e15 (by rw [e56]; omega))
          refine Rn.run 6 rfl ?_
          refine Rn.ald rfl ⟨by decide, rfl⟩ (k) h1 (by omega) ?_
          refine Rn.run 3 rfl ?_
          refine Rn.call rfl rfl rfl rfl rfl (c131) ?_
          refine Rn.neB rfl (fun e39 => ?_) (fun e39 => absurd e39 (by rw [e56, h2]; simp only [w64, w32] at *; omega))
          refine Rn.run 7 rfl ?_
          refine Rn.ald rfl ⟨by decide, rfl⟩ (40 * k + j) (by simp only [w32]; omega) (by omega) ?_
          refine Rn.run 9 rfl ?_
          refine Rn.ast rfl ⟨by decide, rfl⟩ (40 * k + j) (by simp only [w32]; omega) (by omega) ?_
          refine Rn.run 2 rfl ?_
          refine Rn.call rfl rfl rfl rfl rfl (c135) ?_
          exact Rn.ret rfl rfl rfl rfl (rfl) (by rw [e57])
        · rw [s4 j (by omega), xup_comm _ _ _ (show (0 : Nat) ≠ 57 ∨ 10 ≠ 40 * k + j by omega)]
          exact Inv_ask (Inv_rowput hI hk (by omega) a3) _
      · refine Ag_find hI 2 (by decide) ?_ ?_
        · show Rn ex xt58 (d + 20) 0 [xA 0, xI (k : Int), xI a2, xI a3, xU, xU] [] (hp c b) _
          refine Rn.run 3 rfl ?_
          refine Rn.call rfl rfl rfl rfl rfl (c107_far k hk h1 (by rw [s1, hw]; omega) (by rw [s1, hw, h2]; exact hi)) ?_
          refine Rn.run 2 rfl ?_
          refine Rn.eq0 rfl (fun e10 => absurd e10 (by decide)) (fun e10 => ?_)
          refine Rn.run 1 rfl ?_
          exact Rn.ret rfl rfl rfl rfl (rfl) (rfl)
        · show Rn ex xt143 (d + 20) 0 [xA 54, xI (k : Int), xI a2, xI a3, xU] [] (hp (xup (xup c 0 13 2) 13 2 (c 13 2 + 1)) b) _
          refine Rn.run 1 rfl ?_
          refine Rn.call rfl rfl rfl rfl rfl (c138) ?_
          refine Rn.neB rfl (fun e4 => ?_) (fun e4 => absurd e4 (by exact fun h => h (by simp only [w32] at *; omega)))
          refine Rn.run 3 rfl ?_
          refine Rn.ald rfl ⟨by decide, rfl⟩ (k) h1 (by omega) ?_
          refine Rn.ge0 rfl (fun e15 => ?_) (fun e15 => absurd e15 (by show ¬ ¬ 0 ≤ w32 (c 56 k); omega))
          refine Rn.run 6 rfl ?_
          refine Rn.ald rfl ⟨by decide, rfl⟩ (k) h1 (by omega) ?_
          refine Rn.run 3 rfl ?_
          refine Rn.call rfl rfl rfl rfl rfl (c131) ?_
          refine Rn.neB rfl (fun e39 => absurd e39 (by show ¬ (w64 0 ≤ w64 (w32 a2) ∧ w64 (w32 a2) ≤ w64 (w32 (c 56 k - 1))); rw [h2]; simp only [w64, w32] at *; omega)) (fun e39 => ?_)
          refine Rn.run 2 rfl ?_
          refine Rn.call rfl rfl rfl rfl rfl (c134 2 rfl (by decide)) ?_
          exact Rn.ret rfl rfl rfl rfl (rfl) (rfl)
  · refine Ag_same hI (-1) ?_ ?_
    · show Rn ex xt58 (d + 20) 0 [xA 0, xI a1, xI a2, xI a3, xU, xU] [] (hp c b) _
      refine Rn.run 3 rfl ?_
      refine Rn.call rfl rfl rfl rfl rfl (c107_bad (by rw [h1]; exact hr)) ?_
      refine Rn.run 2 rfl ?_
      refine Rn.eq0 rfl (fun e10 => absurd e10 (by decide)) (fun e10 => ?_)
      refine Rn.run 1 rfl ?_
      exact Rn.ret rfl rfl rfl rfl (rfl) (rfl)
    · show Rn ex xt143 (d + 20) 0 [xA 54, xI a1, xI a2, xI a3, xU] [] (hp c b) _
      refine Rn.run 1 rfl ?_
      refine Rn.call rfl rfl rfl rfl rfl (c138) ?_
      refine Rn.neB rfl (fun e4 => absurd e4 (by exact fun h => hr (by simp only [w32] at *; omega))) (fun e4 => ?_)
      refine Rn.run 1 rfl ?_
      exact Rn.ret rfl rfl rfl rfl (rfl) (rfl)
theorem g_tear {ex : xO} (a1 : Int) (h1 : w32 a1 = a1) : AgI ex 60 3 145 2 [xI a1] := by
  intro d c b hI
  by_cases hr : 0 ≤ a1 ∧ a1 < 6
  · obtain ⟨k, hk, rfl⟩ : ∃ k : Nat, k < 6 ∧ a1 = (k : Int) := ⟨a1.toNat, by omega, by omega⟩
    obtain ⟨s1, s2, s3, s4⟩ := hI.1 k hk
    have hw : w32 (c 56 k) = c 56 k := by simp only [w32]; omega
    by_cases hm : c 56 k < 0
    · refine Ag_find hI 1 (by decide) ?_ ?_
      · show Rn ex xt60 (d + 20) 0 [xA 0, xI (k : Int), xU] [] (hp c b) _
        refine Rn.run 2 rfl ?_
        refine Rn.call rfl rfl rfl rfl rfl (c106_no k hk h1 (by rw [s1, hw]; exact hm)) ?_
        refine Rn.run 2 rfl ?_
        refine Rn.eq0 rfl (fun e7 => absurd e7 (by decide)) (fun e7 => ?_)
        refine Rn.run 1 rfl ?_
        exact Rn.ret rfl rfl rfl rfl (rfl) (rfl)
      · show Rn ex xt145 (d + 20) 0 [xA 54, xI (k : Int)] [] (hp (xup (xup c 0 13 1) 13 1 (c 13 1 + 1)) b) _
        refine Rn.run 1 rfl ?_
        refine Rn.call rfl rfl rfl rfl rfl (c138) ?_
        refine Rn.neB rfl (fun e4 => ?_) (fun e4 => absurd e4 (by exact fun h => h (by simp only [w32] at *; omega)))
        refine Rn.run 3 rfl ?_
        refine Rn.ald rfl ⟨by decide, rfl⟩ (k) h1 (by omega) ?_
        refine Rn.ge0 rfl (fun e15 => absurd e15 (by show ¬ 0 ≤ w32 (c 56 k); omega)) (fun e15 => ?_)
        refine Rn.run 2 rfl ?_
        refine Rn.call rfl rfl rfl rfl rfl (c134 1 rfl (by decide)) ?_
        exact Rn.ret rfl rfl rfl rfl (rfl) (rfl)
    · refine ⟨1, 1, xup c (22 + 2 * k) 0 (-1), b, xup (xup c (22 + 2 * k) 0 (-1)) 56 k (-1), b, ?_, ?_, rfl, ?_⟩
      · show Rn ex xt60 (d + 20) 0 [xA 0, xI (k : Int), xU] [] (hp c b) _
        refine Rn.run 2 rfl ?_
        refine Rn.call rfl rfl rfl rfl rfl (c106_ok k hk h1 (by rw [s1, hw]; omega)) ?_
        refine Rn.run 2 rfl ?_
        refine Rn.eq0 rfl (fun e7 => ?_) (fun e7 => absurd e7 (by decide))
        refine Rn.run 3 rfl ?_
        refine Rn.aald rfl ⟨by decide, rfl, by decide, by decide⟩ k h1 (by omega) (xR_row hk).1 ?_
        refine Rn.run 1 rfl ?_
        refine Rn.putI rfl (xS_row hk) ?_
        refine Rn.run 1 rfl ?_
        exact Rn.ret rfl rfl rfl rfl (rfl) (rfl)
      · show Rn ex xt145 (d + 20) 0 [xA 54, xI (k : Int)] [] (hp (xup c (22 + 2 * k) 0 (-1)) b) _
        have e56 : xup c (22 + 2 * k) 0 (-1) 56 k = c 56 k := by rw [xup_n _ _ (by omega)]
        refine Rn.run 1 rfl ?_
        refine Rn.call rfl rfl rfl rfl rfl (c138) ?_
        refine Rn.neB rfl (fun e4 => ?_) (fun e4 => absurd e4 (by exact fun h => h (by simp only [w32] at *; omega)))
        refine Rn.run 3 rfl ?_
        refine Rn.ald rfl ⟨by decide, rfl⟩ (k) h1 (by omega) ?_
        refine Rn.ge0 rfl (fun e15 => ?_) (fun e15 => absurd e15 (by rw [e56]; omega))
        refine Rn.run 4 rfl ?_
        refine Rn.ast rfl ⟨by decide, rfl⟩ (k) h1 (by omega) ?_
        refine Rn.run 1 rfl ?_
        exact Rn.ret rfl rfl rfl rfl (rfl) (rfl)
      · have hg := gid_in b
        have key : ∀ a i, ¬ ((a = 22 + 2 * k ∧ i = 0) ∨ (a = 56 ∧ i = k)) → xup (xup c (22 + 2 * k) 0 (-1)) 56 k (-1) a i = c a i := by
          intro a i h
          rw [xup_n _ _ (by omega), xup_n _ _ (by omega)]
        refine Inv_mk (fun r hr => ?_) (iTxt_fr (fun a j h => key a j (by omega)) hI.2.1) (iFnd_fr (fun a j h => key a j (by omega)) hI.2.2.1) (iAsk_fr (fun a j h => key a j (by omega)) hI.2.2.2.1) (iG_fr (fun a j h => key a j (by omega)) hI.2.2.2.2)
        obtain ⟨z1, z2, z3, z4⟩ := hI.1 r hr
        by_cases e : r = k
        · subst e
          refine ⟨?_, ?_, ?_, fun j hj => ?_⟩
          · rw [xup_n _ _ (by omega), xup_s, xup_s]
          · rw [xup_s]; omega
          · rw [xup_s]; omega
          · rw [key _ _ (by omega), key _ _ (by omega)]; exact z4 j hj
        · rw [key _ _ (by omega), key _ _ (by omega)]
          refine ⟨z1, z2, z3, fun j hj => ?_⟩
          rw [key _ _ (by omega), key _ _ (by omega)]
          exact z4 j hj
  · refine Ag_same hI (-1) ?_ ?_
    · show Rn ex xt60 (d + 20) 0 [xA 0, xI a1, xU] [] (hp c b) _
      refine Rn.run 2 rfl ?_
      refine Rn.call rfl rfl rfl rfl rfl (c106_bad (by rw [h1]; exact hr)) ?_
      refine Rn.run 2 rfl ?_
      refine Rn.eq0 rfl (fun e7 => absurd e7 (by decide)) (fun e7 => ?_)
      refine Rn.run 1 rfl ?_
      exact Rn.ret rfl rfl rfl rfl (rfl) (rfl)
    · show Rn ex xt145 (d + 20) 0 [xA 54, xI a1] [] (hp c b) _
      refine Rn.run 1 rfl ?_
      refine Rn.call rfl rfl rfl rfl rfl (c138) ?_
      refine Rn.neB rfl (fun e4 => absurd e4 (by exact fun h => hr (by simp only [w32] at *; omega))) (fun e4 => ?_)
      refine Rn.run 1 rfl ?_
      exact Rn.ret rfl rfl rfl rfl (rfl) (rfl)
