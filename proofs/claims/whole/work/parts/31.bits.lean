-- small sets as bits, by trying all
set_option maxRecDepth 100000 in
theorem bt_has : ∀ s, s < 64 → ∀ i, i < 6 → xand (xshr ((s : Nat) : Int) ((i : Nat) : Int)) 1 = if s.testBit i then 1 else 0 := by decide +kernel
set_option maxRecDepth 100000 in
theorem bt_and : ∀ s, s < 64 → ∀ i, i < 64 → xand ((s : Nat) : Int) ((i : Nat) : Int) = ((s &&& i : Nat) : Int) := by decide +kernel
set_option maxRecDepth 100000 in
theorem bt_or : ∀ s, s < 64 → ∀ i, i < 64 → xor3 ((s : Nat) : Int) ((i : Nat) : Int) = ((s ||| i : Nat) : Int) := by decide +kernel
set_option maxRecDepth 100000 in
theorem bt_andn : ∀ s, s < 64 → ∀ i, i < 64 → xand ((s : Nat) : Int) (xxor ((i : Nat) : Int) (-1)) = ((s ^^^ (s &&& i) : Nat) : Int) := by decide +kernel
set_option maxRecDepth 100000 in
theorem bt_one : ∀ i, i < 31 → xshl 1 ((i : Nat) : Int) = ((2 ^ i : Nat) : Int) := by decide +kernel
/-- how many bits (below 8) -/
def pop (s : Nat) : Nat := (List.range 8).foldl (fun n i => n + (if s.testBit i then 1 else 0)) 0
theorem c132 {ex : xO} {d : Nat} {h : xH} {s i : Nat} (hs : s < 64) (hi : i < 6) : An ex d 132 2 [xI (s : Int), xI (i : Int)] h (xI (if s.testBit i = true then 1 else 0), h) := by
  have e := bt_has s hs i hi
  refine Rn.run 6 rfl ?_
  refine Rn.ne2 rfl (fun e6 => ?_) (fun e6 => ?_)
  · refine Rn.run 1 rfl ?_
    refine Rn.ret rfl rfl rfl rfl ?_ rfl
    rw [e] at e6
    split at e6 <;> simp_all [w32]
  · refine Rn.run 2 rfl ?_
    refine Rn.ret rfl rfl rfl rfl ?_ rfl
    rw [e] at e6
    split at e6 <;> simp_all [w32]
theorem c163 {ex : xO} {d : Nat} {c : Nat → Nat → Int} {b : Bool} {n : Nat} (hn : n ≤ 6) (h0 : c 55 0 = n) : An ex d 163 1 [xA 54] (hp c b) (xI ((2 ^ n : Nat) - 1), hp c b) := by
  refine Rn.run 4 rfl ?_
  refine Rn.ald rfl ⟨by decide, rfl⟩ 0 rfl (by decide) ?_
  rw [h0]
  refine Rn.run 3 rfl ?_
  exact Rn.ret rfl rfl rfl rfl (by rw [bt_one n (by omega)]) rfl
theorem c17 {ex : xO} {d : Nat} {c : Nat → Nat → Int} {b : Bool} {n : Nat} (hn : n ≤ 6) (h0 : c (gid b) 0 = n) : An ex d 17 1 [xA (gid b)] (hp c b) (xI ((2 ^ n : Nat) - 1), hp c b) := by
  cases b
  · refine Rn.run 3 rfl ?_
    rw [h0]
    refine Rn.run 3 rfl ?_
    exact Rn.ret rfl rfl rfl rfl (by rw [bt_one n (by omega)]) rfl
  · refine Rn.run 3 rfl ?_
    rw [h0]
    refine Rn.run 3 rfl ?_
    exact Rn.ret rfl rfl rfl rfl (by rw [bt_one n (by omega)]) rfl
def xcnt (i : Int) : Int :=
  let a := i - xand (xushr i 1) 1431655765
  let b := xand a 858993459 + xand (xushr a 2) 858993459
  let c := xand (b + xushr b 4) 252645135
  let e := c + xushr c 8
  let f := e + xushr e 16
  xand f 63
set_option maxRecDepth 100000 in
theorem bt_cnt : ∀ s, s < 64 → xcnt ((s : Nat) : Int) = ((pop s : Nat) : Int) := by decide +kernel
set_option maxRecDepth 100000 in
theorem c235 {ex : xO} {d : Nat} {h : xH} {s : Nat} (hs : s < 64) : An ex d 235 1 [xI (s : Int)] h (xI (pop s : Nat), h) := by
  refine Rn.run 41 rfl ?_
  refine Rn.ret rfl rfl rfl rfl ?_ rfl
  exact congrArg xI (bt_cnt s hs)
