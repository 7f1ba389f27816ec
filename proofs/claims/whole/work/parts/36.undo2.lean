-- undo
def cun (c : Nat → Nat → Int) (k : Nat) : Nat → Nat → Int := xup (xfl3 (xup (xup c 55 1 (c 55 (30 + 10 * k))) 55 2 (xup c 55 1 (c 55 (30 + 10 * k)) 55 (30 + 10 * k + 1))) 55 (3 + 0) 11 (fun x => c 55 (30 + 10 * k + 2 + (x - 3)))) 55 29 k
theorem cun_out (c : Nat → Nat → Int) (k a z : Nat) (h : ¬ (a = 55 ∧ ((1 ≤ z ∧ z ≤ 10) ∨ z = 29))) : cun c k a z = c a z := by
  unfold cun
  rw [xup_n _ _ (by omega), xfl3_out _ _ (by omega), xup_n _ _ (by omega), xup_n _ _ (by omega)]
theorem cun_1 (c : Nat → Nat → Int) (k : Nat) : cun c k 55 1 = c 55 (30 + 10 * k) := by
  unfold cun
  rw [xup_n _ _ (by omega), xfl3_out _ _ (by omega), xup_n _ _ (by omega), xup_s]
theorem cun_2 (c : Nat → Nat → Int) (k : Nat) : cun c k 55 2 = c 55 (30 + 10 * k + 1) := by
  unfold cun
  rw [xup_n _ _ (by omega), xfl3_out _ _ (by omega), xup_s, xup_n _ _ (by omega)]
theorem cun_3 (c : Nat → Nat → Int) (k : Nat) {x : Nat} (hx : x < 8) : cun c k 55 (0 + 3 + x) = c 55 (0 + 30 + 10 * k + 2 + x) := by
  unfold cun
  rw [xup_n _ _ (by omega), xfl3_in _ _ (by omega)]
  show c 55 _ = c 55 _
  congr 1
  omega
theorem cun_29 (c : Nat → Nat → Int) (k : Nat) : cun c k 55 29 = k := by
  unfold cun
  rw [xup_s]
theorem Inv_undo {c : Nat → Nat → Int} {b : Bool} {k D : Nat} (hI : Inv c b) (hD : c 7 0 = D) (hk : k < D) : Inv (cun (xup c 7 0 k) k) b := by
  obtain ⟨i1, i2, i3, i4, n, hG, hC, hK⟩ := hI
  obtain ⟨D', d1, d2, d3, d4, d5, d6, d7⟩ := hC
  obtain rfl : D' = D := by omega
  have hg := gid_in b
  have key : ∀ a z, ¬ (a = 7 ∧ z = 0) → ¬ (a = 55 ∧ ((1 ≤ z ∧ z ≤ 10) ∨ z = 29)) → cun (xup c 7 0 k) k a z = c a z := by
    intro a z h1 h2
    rw [cun_out _ _ _ _ h2, xup_n _ _ (by omega)]
  have e55 : ∀ z, xup c 7 0 (k : Int) 55 z = c 55 z := fun z => xup_n _ _ (by omega)
  obtain ⟨q1, q2, q3⟩ := d7 k hk
  refine ⟨iRow_fr (fun a z h => key a z (by omega) (by omega)) i1, iTxt_fr (fun a z h => key a z (by omega) (by omega)) i2, iFnd_fr (fun a z h => key a z (by omega) (by omega)) i3, iAsk_fr (fun a z h => key a z (by omega) (by omega)) i4, n, iGrn_fr2 (fun a z h => key a z (by omega) (by omega)) hG, ⟨k, by omega, ?_, ?_, ?_, ?_, ?_, ?_⟩, fun j hj => iKpt_fr2 hj hG.1 (fun a z h => key a z (by omega) (by omega)) (hK j hj)⟩
  · rw [cun_out _ _ _ _ (by omega), xup_s]
  · rw [cun_29]
  · intro x hx
    rw [cun_3 _ _ hx, e55, key 8 k (by omega) (by omega)]
    exact q1 x hx
  · rw [show (0 + 2 : Nat) = 2 from rfl, cun_2, e55, key 9 k (by omega) (by omega)]
    rw [show 0 + 30 + 10 * k + 1 = 30 + 10 * k + 1 by omega] at q2
    exact q2
  · rw [show (0 + 1 : Nat) = 1 from rfl, cun_1, e55, key 10 k (by omega) (by omega)]
    rw [show 0 + 30 + 10 * k = 30 + 10 * k by omega] at q3
    exact q3
  · intro j hj
    obtain ⟨p1, p2, p3⟩ := d7 j (by omega)
    refine ⟨fun x hx => ?_, ?_, ?_⟩
    · rw [key 8 j (by omega) (by omega), key 55 _ (by omega) (by omega)]; exact p1 x hx
    · rw [key 9 j (by omega) (by omega), key 55 _ (by omega) (by omega)]; exact p2
    · rw [key 10 j (by omega) (by omega), key 55 _ (by omega) (by omega)]; exact p3
theorem g_undo {ex : xO} (a1 : Int) (h1 : w32 a1 = a1) : AgI ex 74 3 187 5 [xI a1] := by
  intro d c b hI
  obtain ⟨D, d1, d2, d3, -⟩ := hI.2.2.2.2.choose_spec.2.1
  have wD : w32 (D : Int) = D := x_wn (by omega)
  rw [show (0 + 29 : Nat) = 29 from rfl] at d3
  by_cases hr : 0 ≤ a1 ∧ a1 ≤ D
  · obtain ⟨k, hk, rfl⟩ : ∃ k : Nat, k ≤ D ∧ a1 = (k : Int) := ⟨a1.toNat, by omega, by omega⟩
    by_cases e : k = D
    · subst e
      refine Ag_same hI ((k : Int) - k) ?_ ?_
      · have h := c74_ok (ex := ex) (d := d + 18) (b := b) d2 h1 wD hr.2
        rw [← d2, xup_id c 7 0, d2] at h
        exact h
      · exact c187_same (d := d + 18) d3 d1 h1
    · refine ⟨(D : Int) - k, (D : Int) - k, xup c 7 0 k, b, cun (xup c 7 0 k) k, b, ?_, ?_, rfl, ?_⟩
      · exact c74_ok (d := d + 18) d2 h1 wD hr.2
      · exact c187_ok (d := d + 18) (by rw [xup_n _ _ (by omega)]; exact d3) d1 (by omega) h1
      · exact Inv_undo hI d2 (by omega)
  · refine Ag_same hI (-1) ?_ ?_
    · exact c74_bad (d := d + 18) d2 h1 wD hr
    · exact c187_bad (d := d + 18) d3 d1 h1 (by omega)
