-- THE LAW ON THE SMALL MACHINE
def xlet (j : Nat) : Int := match j with
  | 0 => 100
  | 1 => 103
  | 2 => 102
  | 3 => 98
  | 4 => 115
  | _ => 107
def xexO (L : Nat) (xs : Nat → Int) : xO := fun j => match j with
  | 0 => (L, xs)
  | _ => (6, xlet)
theorem x_law (L : Nat) (xs : Nat → Int) (hL : L ≤ 3072) (hxs : ∀ j, w32 (xs j) = xs j) : ∃ n h', xexec (xexO L xs) n 25 (xtb 240) 0 (xpad 4 (xent [xX 0])) [] xh0 = some (xI 1, h') ∧ h'.1 ≤ 600000 ∧ h'.2.1 ≤ 7302250 := sorry
