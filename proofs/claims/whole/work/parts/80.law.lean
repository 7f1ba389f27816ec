-- THE LAW ON THE SMALL MACHINE
theorem x_law (L : Nat) (xs : Nat → Int) (hL : L ≤ 3072) (hxs : ∀ j, w32 (xs j) = xs j) : ∃ n h', xexec (xexO L xs) n 25 (xtb 240) 0 (xpad 4 (xent [xX 0])) [] x_h0 = some (xI 1, h') ∧ h'.1 ≤ 600000 ∧ h'.2.1 ≤ 7302250 := by
  obtain ⟨h', h1, h2, h3⟩ := law_loop (xs := xs) hxs hL 513 0 x_cD false (by omega) (by omega) x_inv0
  have h4 : Rn (xexO L xs) xt240 25 18 [xX 0, xA 0, xA 54, xI 0] [] (71, 3590, 0, xS, x_cD, x_rD) (xI 1, h') := by
    rw [x_rEq]
    exact h1
  obtain ⟨n, hn⟩ := x_init (xexO L xs) _ h4
  exact ⟨n, h', hn, by omega, by omega⟩
