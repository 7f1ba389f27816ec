-- the model: deaths, leaves
theorem Rn.hpv {ex : xO} {t : xT} {d pc : Nat} {ls st : List xV} {c : Nat → Nat → Int} {b : Bool} {a k : Nat} {v v' : Int} {o : xV × xH} (e : v = v') (q : Rn ex t d pc ls st (hp (xup c a k v') b) o) : Rn ex t d pc ls st (hp (xup c a k v) b) o := e ▸ q
set_option maxRecDepth 100000 in
theorem bt8_has : ∀ s, s < 64 → ∀ i, i < 8 → xand (xshr ((s : Nat) : Int) ((i : Nat) : Int)) 1 = ((if s.testBit i then 1 else 0 : Nat) : Int) := by decide +kernel
theorem l133 {ex : xO} {d : Nat} {h : xH} {s : Nat} (hs : s < 64) : ∀ (m i : Nat) (a : Nat), i + m = 8 → Rn ex xt133 d 4 [xI (s : Int), xI (a : Int), xI (i : Int)] [] (h) (xI ((xit (fun i a => a + (if s.testBit i then 1 else 0)) m i a : Nat) : Int), h) := by
  intro m
  induction m with
  | zero =>
    intro i a hm
    refine Rn.run 2 (ls' := [_, _, _]) (st' := [_, _]) rfl ?_
    refine Rn.ge2 rfl (fun e7 => ?_) (fun e7 => absurd e7 (by exact fun h => h ((y_ge (n := 8) (by omega) (by omega)).mpr (by omega))))
    refine Rn.run 1 (ls' := [_, _, _]) (st' := [_]) rfl ?_
    exact Rn.ret rfl rfl rfl rfl rfl rfl
  | succ m ih =>
    intro i a hm
    refine Rn.run 2 (ls' := [_, _, _]) (st' := [_, _]) rfl ?_
    refine Rn.ge2 rfl (fun e7 => absurd e7 (by exact fun h => absurd ((y_ge (n := 8) (by omega) (by omega)).mp h) (by omega))) (fun e7 => ?_)
    refine Rn.run 6 (ls' := [_, _, _]) (st' := [_, _]) rfl ?_
    rw [bt8_has s hs i (by omega)]
    refine Rn.run 4 (ls' := [_, _, _]) (st' := []) rfl ?_
    exact ih (i + 1) (a + (if s.testBit i then 1 else 0)) (by omega)
theorem c133 {ex : xO} {d : Nat} {h : xH} {s : Nat} (hs : s < 64) : An ex d 133 3 [xI (s : Int)] h (xI (pop s : Nat), h) := by
  refine Rn.run 4 (ls' := [_, _, _]) (st' := []) rfl ?_
  exact l133 hs 8 0 0 rfl
theorem c159 {ex : xO} {d : Nat} {h : xH} {k w : Nat} (hk : k ≤ 5) (hw : w ≤ 5) : An ex d 159 2 [xI (k : Int), xI (w : Int)] h (xI (if (k = w ∨ (w = 1 ∧ (k = 4 ∨ k = 5))) then 1 else 0), h) := by
  have h6 : k = 0 ∨ k = 1 ∨ k = 2 ∨ k = 3 ∨ k = 4 ∨ k = 5 := by omega
  have w6 : w = 0 ∨ w = 1 ∨ w = 2 ∨ w = 3 ∨ w = 4 ∨ w = 5 := by omega
  rcases h6 with rfl | rfl | rfl | rfl | rfl | rfl <;> rcases w6 with rfl | rfl | rfl | rfl | rfl | rfl
  all_goals exact ⟨30, rfl⟩
theorem c162 {ex : xO} {d : Nat} {c : Nat → Nat → Int} {b : Bool} {n : Nat} {kd bo wo : Nat → Nat} (ho : gok n kd bo wo) (hM : mG c n kd bo wo) {i v : Nat} (hi : i < n) (hv : v ≤ 9) : An ex (d + 2) 162 3 [xA 54, xI (i : Int), xI (v : Int)] (hp c b) (xI (ans (kd i) (wo i) v : Nat), hp c b) := by
  have hn := ho.1
  have hk := ho.2 i hi
  rw [← ans_c (k := kd i) (w := wo i) (v := v) (by omega) hv]
  refine Rn.run 5 (ls' := [_, _, _]) (st' := [_, _]) rfl ?_
  refine Rn.ald rfl ⟨by decide, rfl⟩ (11 + i) (x_wn (n := 11 + i) (by omega)) (by omega) ?_
  rw [(hM.2 i (by omega)).1]
  refine Rn.run 5 (ls' := [_, _, _]) (st' := [_, _, _]) rfl ?_
  refine Rn.ald rfl ⟨by decide, rfl⟩ (23 + i) (x_wn (n := 23 + i) (by omega)) (by omega) ?_
  rw [(hM.2 i (by omega)).2.2]
  refine Rn.run 1 (ls' := [_, _, _]) (st' := [_, _, _]) rfl ?_
  refine Rn.call rfl rfl rfl rfl rfl (c161 (by omega) (by omega) (by omega)) ?_
  exact Rn.ret rfl rfl rfl rfl rfl rfl
theorem l164 {ex : xO} {d : Nat} {c : Nat → Nat → Int} {b : Bool} {n : Nat} {kd bo wo : Nat → Nat} (ho : gok n kd bo wo) (hM : mG c n kd bo wo) : ∀ (m i : Nat) (a : Nat), i + m = n → a < 64 → Rn ex xt164 d 4 [xA 54, xI (a : Int), xI (i : Int)] [] (hp c b) (xI ((xit (fun i z => if (kd i == 5) = true then z ||| 2 ^ i else z) m i a : Nat) : Int), hp c b) := by
  intro m
  induction m with
  | zero =>
    intro i a hm hP
    have hn := ho.1
    refine Rn.run 4 (ls' := [_, _, _]) (st' := [_, _, _]) rfl ?_
    refine Rn.ald rfl ⟨by decide, rfl⟩ (0) rfl (by decide) ?_
    rw [hM.1]
    refine Rn.ge2 rfl (fun e11 => ?_) (fun e11 => absurd e11 (by exact fun h => h ((y_ge (by omega) (by omega)).mpr (by omega))))
    refine Rn.run 1 (ls' := [_, _, _]) (st' := [_]) rfl ?_
    exact Rn.ret rfl rfl rfl rfl rfl rfl
  | succ m ih =>
    intro i a hm hP
    have hn := ho.1
    refine Rn.run 4 (ls' := [_, _, _]) (st' := [_, _, _]) rfl ?_
    refine Rn.ald rfl ⟨by decide, rfl⟩ (0) rfl (by decide) ?_
    rw [hM.1]
    refine Rn.ge2 rfl (fun e11 => absurd e11 (by exact fun h => absurd ((y_ge (by omega) (by omega)).mp h) (by omega))) (fun e11 => ?_)
    refine Rn.run 6 (ls' := [_, _, _]) (st' := [_, _, _]) rfl ?_
    refine Rn.ald rfl ⟨by decide, rfl⟩ (11 + i) (x_wn (n := 11 + i) (by omega)) (by omega) ?_
    rw [(hM.2 i (by omega)).1]
    refine Rn.run 1 (ls' := [_, _, _]) (st' := [_, _, _]) rfl ?_
    refine Rn.ne2 rfl (fun e25 => ?_) (fun e25 => ?_)
    · have hi := ho.2 i (by omega)
      refine Rn.run 5 (ls' := [_, _, _]) (st' := []) rfl ?_
      refine Rn.ls ?_ (ih (i + 1) (if (kd i == 5) = true then a ||| 2 ^ i else a) (by omega) (by split <;> first | exact or64 hP (by omega) | exact hP))
      first | (rw [show (if (kd i == 5) = true then a ||| 2 ^ i else a) = a ||| 2 ^ i from if_pos (by simpa using (y_eq (i := 5) (by omega) (by omega)).mp (Classical.not_not.mp e25)), ← bt_add hP (by omega)]; first | done | rfl) | (rw [show (if (kd i == 5) = true then a ||| 2 ^ i else a) = a from if_neg (fun q => e25 ((y_eq (i := 5) (by omega) (by omega)).mpr (by simpa using q)))]; first | rfl | (rw [bt_or0 hP]; rfl))
    · have hi := ho.2 i (by omega)
      refine Rn.run 8 (ls' := [_, _, _]) (st' := []) rfl ?_
      refine Rn.ls ?_ (ih (i + 1) (if (kd i == 5) = true then a ||| 2 ^ i else a) (by omega) (by split <;> first | exact or64 hP (by omega) | exact hP))
      first | (rw [show (if (kd i == 5) = true then a ||| 2 ^ i else a) = a ||| 2 ^ i from if_pos (by simpa using (y_eq (i := 5) (by omega) (by omega)).mp (Classical.not_not.mp e25)), ← bt_add hP (by omega)]; first | done | rfl) | (rw [show (if (kd i == 5) = true then a ||| 2 ^ i else a) = a from if_neg (fun q => e25 ((y_eq (i := 5) (by omega) (by omega)).mpr (by simpa using q)))]; first | rfl | (rw [bt_or0 hP]; rfl))
theorem c164 {ex : xO} {d : Nat} {c : Nat → Nat → Int} {b : Bool} {n : Nat} {kd bo wo : Nat → Nat} (ho : gok n kd bo wo) (hM : mG c n kd bo wo) : An ex d 164 3 [xA 54] (hp c b) (xI (bset (fun i => kd i == 5) n : Nat), hp c b) := by
  refine Rn.run 4 (ls' := [_, _, _]) (st' := []) rfl ?_
  exact l164 ho hM n 0 0 (by omega) (by decide)
theorem c165 {ex : xO} {d : Nat} {c : Nat → Nat → Int} {b : Bool} {n : Nat} {kd bo wo : Nat → Nat} (ho : gok n kd bo wo) (hM : mG c n kd bo wo) {i s : Nat} (hi : i < n) (hs : s < 2 ^ n) : An ex (d + 1) 165 3 [xA 54, xI (i : Int), xI (s : Int)] (hp c b) (xI (if can kd n s i = true then 1 else 0), hp c b) := by
  have hn := ho.1
  have hk := ho.2 i hi
  have hs6 := p64 hn hs
  have hp2 := pp64 hn
  have h1 : 1 ≤ 2 ^ n := Nat.one_le_two_pow
  have hkg : bset (fun i => kd i == 5) n < 64 := bset_64 _ hn
  have hor : s ||| bset (fun i => kd i == 5) n < 64 := Nat.or_lt_two_pow (n := 6) hs6 hkg
  have k5 : (w32 ((kd i : Nat) : Int) = w32 5) ↔ kd i = 5 := y_eq (i := 5) (by omega) (by omega)
  have kx : (w32 ((s ||| bset (fun i => kd i == 5) n : Nat) : Int) = w32 (((2 ^ n : Nat) : Int) - 1)) ↔ cm kd n ^^^ (cm kd n &&& s) = 0 := by
    rw [← can_m hs, show ((2 ^ n : Nat) : Int) - 1 = ((2 ^ n - 1 : Nat) : Int) by omega]
    exact y_eq (by omega) (by omega)
  by_cases ht : s.testBit i = true
  · rw [if_neg (show ¬ can kd n s i = true by simp [can, ht])]
    refine Rn.run 2 (ls' := [_, _, _]) (st' := [_, _]) rfl ?_
    refine Rn.call rfl rfl rfl rfl rfl (c132 hs6 (by omega)) ?_
    refine Rn.neB rfl (fun e5 => ?_) (fun e5 => absurd e5 (by exact fun h => h ht))
    refine Rn.run 1 (ls' := [_, _, _]) (st' := [_]) rfl ?_
    exact Rn.retZ rfl (Or.inl rfl) rfl
  · by_cases g5 : kd i = 5
    · by_cases gx : cm kd n ^^^ (cm kd n &&& s) = 0
      · rw [if_pos (show can kd n s i = true by simp [can, ht, gx])]
        refine Rn.run 2 (ls' := [_, _, _]) (st' := [_, _]) rfl ?_
        refine Rn.call rfl rfl rfl rfl rfl (c132 hs6 (by omega)) ?_
        refine Rn.neB rfl (fun e5 => absurd e5 (by exact ht)) (fun e5 => ?_)
        refine Rn.run 5 (ls' := [_, _, _]) (st' := [_, _]) rfl ?_
        refine Rn.ald rfl ⟨by decide, rfl⟩ (11 + i) (x_wn (n := 11 + i) (by omega)) (by omega) ?_
        rw [(hM.2 i (by omega)).1]
        refine Rn.run 1 (ls' := [_, _, _]) (st' := [_, _]) rfl ?_
        refine Rn.ne2 rfl (fun e18 => absurd e18 (by exact fun h => h (k5.mpr g5))) (fun e18 => ?_)
        refine Rn.run 2 (ls' := [_, _, _]) (st' := [_, _]) rfl ?_
        refine Rn.call rfl rfl rfl rfl rfl (c164 ho hM) ?_
        refine Rn.run 1 (ls' := [_, _, _]) (st' := [_]) rfl ?_
        rw [bt_or s hs6 _ hkg]
        refine Rn.run 1 (ls' := [_, _, _]) (st' := [_, _]) rfl ?_
        refine Rn.call rfl rfl rfl rfl rfl (c163 hn hM.1) ?_
        refine Rn.ne2 rfl (fun e31 => absurd e31 (by exact fun h => h (kx.mpr gx))) (fun e31 => ?_)
        refine Rn.run 2 (ls' := [_, _, _]) (st' := [_]) rfl ?_
        exact Rn.retZ rfl (Or.inr rfl) rfl
      · rw [if_neg (show ¬ can kd n s i = true by simp [can, ht, g5, gx])]
        refine Rn.run 2 (ls' := [_, _, _]) (st' := [_, _]) rfl ?_
        refine Rn.call rfl rfl rfl rfl rfl (c132 hs6 (by omega)) ?_
        refine Rn.neB rfl (fun e5 => absurd e5 (by exact ht)) (fun e5 => ?_)
        refine Rn.run 5 (ls' := [_, _, _]) (st' := [_, _]) rfl ?_
        refine Rn.ald rfl ⟨by decide, rfl⟩ (11 + i) (x_wn (n := 11 + i) (by omega)) (by omega) ?_
        rw [(hM.2 i (by omega)).1]
        refine Rn.run 1 (ls' := [_, _, _]) (st' := [_, _]) rfl ?_
        refine Rn.ne2 rfl (fun e18 => absurd e18 (by exact fun h => h (k5.mpr g5))) (fun e18 => ?_)
        refine Rn.run 2 (ls' := [_, _, _]) (st' := [_, _]) rfl ?_
        refine Rn.call rfl rfl rfl rfl rfl (c164 ho hM) ?_
        refine Rn.run 1 (ls' := [_, _, _]) (st' := [_]) rfl ?_
        rw [bt_or s hs6 _ hkg]
        refine Rn.run 1 (ls' := [_, _, _]) (st' := [_, _]) rfl ?_
        refine Rn.call rfl rfl rfl rfl rfl (c163 hn hM.1) ?_
        refine Rn.ne2 rfl (fun e31 => ?_) (fun e31 => absurd e31 (by exact fun h => h (fun q => gx (kx.mp q))))
        refine Rn.run 1 (ls' := [_, _, _]) (st' := [_]) rfl ?_
        exact Rn.retZ rfl (Or.inl rfl) rfl
    · rw [if_pos (show can kd n s i = true by simp [can, ht, g5])]
      refine Rn.run 2 (ls' := [_, _, _]) (st' := [_, _]) rfl ?_
      refine Rn.call rfl rfl rfl rfl rfl (c132 hs6 (by omega)) ?_
      refine Rn.neB rfl (fun e5 => absurd e5 (by exact ht)) (fun e5 => ?_)
      refine Rn.run 5 (ls' := [_, _, _]) (st' := [_, _]) rfl ?_
      refine Rn.ald rfl ⟨by decide, rfl⟩ (11 + i) (x_wn (n := 11 + i) (by omega)) (by omega) ?_
      rw [(hM.2 i (by omega)).1]
      refine Rn.run 1 (ls' := [_, _, _]) (st' := [_, _]) rfl ?_
      refine Rn.ne2 rfl (fun e18 => ?_) (fun e18 => absurd e18 (by exact fun h => h (fun q => g5 (k5.mp q))))
      refine Rn.run 2 (ls' := [_, _, _]) (st' := [_]) rfl ?_
      exact Rn.retZ rfl (Or.inr rfl) rfl
theorem l167 {ex : xO} {d : Nat} {c : Nat → Nat → Int} {b : Bool} {n : Nat} {kd bo wo : Nat → Nat} (ho : gok n kd bo wo) (hM : mG c n kd bo wo) {s y : Nat} (hs : s < 64) (hy : y < 8) : ∀ (m i : Nat) (a : Nat), i + m = n → Rn ex xt167 (d + 1) 5 [xA 54, xI (y : Int), xI (s : Int), xI (a : Int), xI (i : Int)] [] (hp c b) (xI ((xit (fhn kd bo s y) m i a : Nat) : Int), hp c b) := by
  intro m
  induction m with
  | zero =>
    intro i a hm
    have hn := ho.1
    refine Rn.run 4 (ls' := [_, _, _, _, _]) (st' := [_, _, _]) rfl ?_
    refine Rn.ald rfl ⟨by decide, rfl⟩ (0) rfl (by decide) ?_
    rw [hM.1]
    refine Rn.ge2 rfl (fun e13 => ?_) (fun e13 => absurd e13 (by exact fun h => h ((y_ge (by omega) (by omega)).mpr (by omega))))
    refine Rn.run 1 (ls' := [_, _, _, _, _]) (st' := [_]) rfl ?_
    exact Rn.ret rfl rfl rfl rfl rfl rfl
  | succ m ih =>
    intro i a hm
    have hn := ho.1
    refine Rn.run 4 (ls' := [_, _, _, _, _]) (st' := [_, _, _]) rfl ?_
    refine Rn.ald rfl ⟨by decide, rfl⟩ (0) rfl (by decide) ?_
    rw [hM.1]
    refine Rn.ge2 rfl (fun e13 => absurd e13 (by exact fun h => absurd ((y_ge (by omega) (by omega)).mp h) (by omega))) (fun e13 => ?_)
    refine Rn.run 6 (ls' := [_, _, _, _, _]) (st' := [_, _, _]) rfl ?_
    refine Rn.ald rfl ⟨by decide, rfl⟩ (17 + i) (x_wn (n := 17 + i) (by omega)) (by omega) ?_
    rw [(hM.2 i (by omega)).2.1]
    refine Rn.run 1 (ls' := [_, _, _, _, _]) (st' := [_, _, _]) rfl ?_
    refine Rn.ne2 rfl (fun e28 => ?_) (fun e28 => ?_)
    · have hi := ho.2 i (by omega)
      refine Rn.run 5 (ls' := [_, _, _, _, _]) (st' := []) rfl ?_
      refine Rn.ls ?_ (ih (i + 1) (fhn kd bo s y i a) (by omega))
      first | (rw [show fhn kd bo s y i a = a from if_neg (fun q => e28 ((y_eq (by omega) (by omega)).mpr q.1)), Int.add_zero]; rfl) | (rw [show fhn kd bo s y i a = a from if_neg (fun q => by rw [q.2] at e37; cases e37), Int.add_zero]; rfl) | (rw [show fhn kd bo s y i a = a + shn (kd i) from if_pos ⟨(y_eq (by omega) (by omega)).mp (Classical.not_not.mp e28), by simpa using e37⟩]; rfl)
    · have hi := ho.2 i (by omega)
      refine Rn.run 2 (ls' := [_, _, _, _, _]) (st' := [_, _, _]) rfl ?_
      refine Rn.call rfl rfl rfl rfl rfl (c132 hs (by omega)) ?_
      refine Rn.neB rfl (fun e37 => ?_) (fun e37 => ?_)
      · refine Rn.run 5 (ls' := [_, _, _, _, _]) (st' := []) rfl ?_
        refine Rn.ls ?_ (ih (i + 1) (fhn kd bo s y i a) (by omega))
        first | (rw [show fhn kd bo s y i a = a from if_neg (fun q => e28 ((y_eq (by omega) (by omega)).mpr q.1)), Int.add_zero]; rfl) | (rw [show fhn kd bo s y i a = a from if_neg (fun q => by rw [q.2] at e37; cases e37), Int.add_zero]; rfl) | (rw [show fhn kd bo s y i a = a + shn (kd i) from if_pos ⟨(y_eq (by omega) (by omega)).mp (Classical.not_not.mp e28), by simpa using e37⟩]; rfl)
      · refine Rn.run 5 (ls' := [_, _, _, _, _]) (st' := [_, _, _]) rfl ?_
        refine Rn.ald rfl ⟨by decide, rfl⟩ (11 + i) (x_wn (n := 11 + i) (by omega)) (by omega) ?_
        rw [(hM.2 i (by omega)).1]
        refine Rn.call rfl rfl rfl rfl rfl (c166 (by have := ho.2 i (by omega); omega)) ?_
        rw [shn_c]
        refine Rn.run 5 (ls' := [_, _, _, _, _]) (st' := []) rfl ?_
        refine Rn.ls ?_ (ih (i + 1) (fhn kd bo s y i a) (by omega))
        first | (rw [show fhn kd bo s y i a = a from if_neg (fun q => e28 ((y_eq (by omega) (by omega)).mpr q.1)), Int.add_zero]; rfl) | (rw [show fhn kd bo s y i a = a from if_neg (fun q => by rw [q.2] at e37; cases e37), Int.add_zero]; rfl) | (rw [show fhn kd bo s y i a = a + shn (kd i) from if_pos ⟨(y_eq (by omega) (by omega)).mp (Classical.not_not.mp e28), by simpa using e37⟩]; rfl)
theorem c167 {ex : xO} {d : Nat} {c : Nat → Nat → Int} {b : Bool} {n : Nat} {kd bo wo : Nat → Nat} (ho : gok n kd bo wo) (hM : mG c n kd bo wo) {s y : Nat} (hs : s < 64) (hy : y < 8) : An ex (d + 1) 167 5 [xA 54, xI (y : Int), xI (s : Int)] (hp c b) (xI (hnt kd bo n s y : Nat), hp c b) := by
  refine Rn.run 4 (ls' := [_, _, _, _, _]) (st' := []) rfl ?_
  exact l167 ho hM hs hy n 0 0 (by omega)
def lf (c : Nat → Nat → Int) (L : Nat → Nat) : Nat → Nat → Int := xfl3 c 63 0 8 (fun x => ((L x : Nat) : Int))
theorem lf_in (c : Nat → Nat → Int) (L : Nat → Nat) {j : Nat} (hj : j < 8) : lf c L 63 j = (L j : Nat) := xfl3_in _ _ ⟨by omega, hj⟩
theorem lf_out (c : Nat → Nat → Int) (L : Nat → Nat) {a k : Nat} (ha : a ≠ 63) : lf c L a k = c a k := xfl3_out _ _ (Or.inl ha)
theorem xfl3_ext {c c' : Nat → Nat → Int} {a i n : Nat} {f : Nat → Int} (h1 : ∀ x y, ¬ (x = a ∧ i ≤ y ∧ y < n) → c' x y = c x y) (h2 : ∀ y, i ≤ y → y < n → c' a y = f y) : c' = xfl3 c a i n f := by
  funext x y
  by_cases h : x = a ∧ i ≤ y ∧ y < n
  · obtain ⟨rfl, h3, h4⟩ := h
    rw [h2 y h3 h4, xfl3_in _ _ ⟨h3, h4⟩]
  · rw [h1 x y h, xfl3_out _ _ (by omega)]
theorem lf_lf (c : Nat → Nat → Int) (L L' : Nat → Nat) : lf (lf c L) L' = lf c L' := by
  refine xfl3_ext (fun x y h => ?_) (fun y h1 h2 => xfl3_in _ _ ⟨h1, h2⟩)
  unfold lf
  rw [xfl3_out _ _ (by omega), xfl3_out _ _ (by omega)]
theorem xfl3_cg {c : Nat → Nat → Int} {a i n : Nat} {f g : Nat → Int} (h : ∀ j, i ≤ j → j < n → f j = g j) : xfl3 c a i n f = xfl3 c a i n g :=
  xfl3_ext (fun x y h => xfl3_out _ _ (by omega)) (fun y h1 h2 => by rw [xfl3_in _ _ ⟨h1, h2⟩]; exact h y h1 h2)
theorem lf_congr {c : Nat → Nat → Int} {L L' : Nat → Nat} (h : ∀ j, j < 8 → L j = L' j) : lf c L = lf c L' := xfl3_cg (fun j _ hj => by rw [h j hj])
theorem mG_lf {c : Nat → Nat → Int} {n : Nat} {kd bo wo L : Nat → Nat} (hM : mG c n kd bo wo) : mG (lf c L) n kd bo wo :=
  ⟨by rw [lf_out _ _ (by decide)]; exact hM.1, fun i hi => by rw [lf_out _ _ (by decide), lf_out _ _ (by decide), lf_out _ _ (by decide)]; exact hM.2 i hi⟩
theorem l168 {ex : xO} {d : Nat} {b : Bool} {f : Nat → Int} : ∀ (m i : Nat) (c : Nat → Nat → Int), i + m = 8 → (∀ j, j < 8 → c 55 (3 + j) = f j) → Rn ex xt168 d 2 [xA 54, xI (i : Int)] [] (hp c b) (xU, hp (xfl3 c 63 (i) (8) (f)) b) := by
  intro m
  induction m with
  | zero =>
    intro i c hm hf
    obtain rfl : i = 8 := by omega
    rw [xfl3_e]
    refine Rn.run 2 (ls' := [_, _]) (st' := [_, _]) rfl ?_
    refine Rn.ge2 rfl (fun e5 => ?_) (fun e5 => absurd e5 (by decide))
    exact Rn.ret rfl rfl rfl rfl rfl rfl
  | succ m ih =>
    intro i c hm hf
    refine Rn.run 2 (ls' := [_, _]) (st' := [_, _]) rfl ?_
    refine Rn.ge2 rfl (fun e5 => absurd e5 (by exact fun h => absurd ((y_ge (n := 8) (by omega) (by omega)).mp h) (by omega))) (fun e5 => ?_)
    refine Rn.run 8 (ls' := [_, _]) (st' := [_, _, _, _]) rfl ?_
    refine Rn.ald rfl ⟨by decide, rfl⟩ (3 + i) (x_wn (n := 3 + i) (by omega)) (by omega) ?_
    rw [hf i (by omega)]
    refine Rn.ast rfl ⟨by decide, rfl⟩ (i) (x_wn (n := i) (by omega)) (by omega) ?_
    refine Rn.run 2 (ls' := [_, _]) (st' := []) rfl ?_
    rw [← xfl3_s c f (show i < 8 by omega)]
    exact ih (i + 1) _ (by omega) (fun j hj => by rw [xup_n _ _ (by omega)]; exact hf j hj)
theorem c168 {ex : xO} {d : Nat} {c : Nat → Nat → Int} {b : Bool} {L : Nat → Nat} (hL : ∀ j, j < 8 → c 55 (3 + j) = (L j : Nat)) : An ex d 168 2 [xA 54] (hp c b) (xU, hp (lf c L) b) := by
  refine Rn.run 2 (ls' := [_, _]) (st' := []) rfl ?_
  exact l168 8 0 c rfl hL
theorem x_l1 {q v : Nat} (hq : q ≤ 100) (hv : v ≤ 9) : w32 (q : Int) = q ∧ w32 ((v : Int) + 1) = v + 1 ∧ w32 ((v : Int) - q) = (v : Int) - q ∧ w32 9 = 9 := ⟨x_wn (by omega), x_w _ (by omega) (by omega), x_w _ (by omega) (by omega), rfl⟩
theorem l169 {ex : xO} {d : Nat} {b : Bool} {n : Nat} {kd bo wo : Nat → Nat} (ho : gok n kd bo wo) {s : Nat} {L : Nat → Nat} (hs : s < 64) (h9 : l9 L) : ∀ (m i : Nat) (c : Nat → Nat → Int) (u v : xV), i + m = 8 → mG c n kd bo wo → (∀ j, i ≤ j → j < 8 → c 63 j = (L j : Nat)) → Rn ex xt169 (d + 2) 2 [xA 54, xI (s : Int), xI (i : Int), u, v] [] (hp c b) (xU, hp (xfl3 c 63 (i) (8) (fun x => ((ltr (hnt kd bo n s x) (L x) 1 : Nat) : Int))) b) := by
  intro m
  induction m with
  | zero =>
    intro i c u v hm hM hl
    obtain rfl : i = 8 := by omega
    rw [xfl3_e]
    have hn := ho.1
    refine Rn.run 2 (ls' := [_, _, _, _, _]) (st' := [_, _]) rfl ?_
    refine Rn.ge2 rfl (fun e5 => ?_) (fun e5 => absurd e5 (by decide))
    exact Rn.ret rfl rfl rfl rfl rfl rfl
  | succ m ih =>
    intro i c u v hm hM hl
    have hn := ho.1
    refine Rn.run 2 (ls' := [_, _, _, _, _]) (st' := [_, _]) rfl ?_
    refine Rn.ge2 rfl (fun e5 => absurd e5 (by exact fun h => absurd ((y_ge (n := 8) (by omega) (by omega)).mp h) (by omega))) (fun e5 => ?_)
    refine Rn.run 3 (ls' := [_, _, _, _, _]) (st' := [_, _, _]) rfl ?_
    refine Rn.call rfl rfl rfl rfl rfl (c167 ho hM hs (by omega)) ?_
    refine Rn.run 2 (ls' := [_, _, _, _, _]) (st' := [_]) rfl ?_
    refine Rn.ne0 rfl (fun e16 => ?_) (fun e16 => ?_)
    · refine Rn.run 3 (ls' := [_, _, _, _, _]) (st' := [_, _]) rfl ?_
      refine Rn.ald rfl ⟨by decide, rfl⟩ (i) (x_wn (n := i) (by omega)) (by omega) ?_
      rw [hl i (Nat.le_refl i) (by omega)]
      refine Rn.run 8 (ls' := [_, _, _, _, _]) (st' := [_, _, _, _]) rfl ?_
      refine Rn.le2 rfl (fun e49 => ?_) (fun e49 => ?_)
      · refine Rn.run 1 (ls' := [_, _, _, _, _]) (st' := [_, _, _]) rfl ?_
        refine Rn.ge0 rfl (fun e59 => ?_) (fun e59 => ?_)
        · refine Rn.run 1 (ls' := [_, _, _, _, _]) (st' := [_, _, _]) rfl ?_
          refine Rn.ast rfl ⟨by decide, rfl⟩ (i) (x_wn (n := i) (by omega)) (by omega) ?_
          refine Rn.run 2 (ls' := [_, _, _, _, _]) (st' := []) rfl ?_
          refine Rn.hpv (v' := ((ltr (hnt kd bo n s i) (L i) 1 : Nat) : Int)) ?_ ?_
          · have hq := hnt_le kd bo n s i
            have hv := h9 i (by omega)
            obtain ⟨w0, w1, w2, w9⟩ := x_l1 (q := hnt kd bo n s i) (v := L i) (by omega) hv
            rw [w0] at e16
            first | rw [w1, w9] at e49 | rw [w2, w9] at e49
            try (first | rw [w1] at e59 | rw [w2] at e59)
            unfold ltr
            split <;> (try split) <;> omega
          · rw [← xfl3_s c (fun x => ((ltr (hnt kd bo n s x) (L x) 1 : Nat) : Int)) (show i < 8 by omega)]
            exact ih (i + 1) _ _ _ (by omega) (mG_fr hn (fun k _ => xup_n _ _ (by omega)) hM) (fun j h1 h2 => by rw [xup_n _ _ (by omega)]; exact hl j (by omega) h2)
        · refine Rn.run 2 (ls' := [_, _, _, _, _]) (st' := [_, _, _]) rfl ?_
          refine Rn.ast rfl ⟨by decide, rfl⟩ (i) (x_wn (n := i) (by omega)) (by omega) ?_
          refine Rn.run 2 (ls' := [_, _, _, _, _]) (st' := []) rfl ?_
          refine Rn.hpv (v' := ((ltr (hnt kd bo n s i) (L i) 1 : Nat) : Int)) ?_ ?_
          · have hq := hnt_le kd bo n s i
            have hv := h9 i (by omega)
            obtain ⟨w0, w1, w2, w9⟩ := x_l1 (q := hnt kd bo n s i) (v := L i) (by omega) hv
            rw [w0] at e16
            first | rw [w1, w9] at e49 | rw [w2, w9] at e49
            try (first | rw [w1] at e59 | rw [w2] at e59)
            unfold ltr
            split <;> (try split) <;> omega
          · rw [← xfl3_s c (fun x => ((ltr (hnt kd bo n s x) (L x) 1 : Nat) : Int)) (show i < 8 by omega)]
            exact ih (i + 1) _ _ _ (by omega) (mG_fr hn (fun k _ => xup_n _ _ (by omega)) hM) (fun j h1 h2 => by rw [xup_n _ _ (by omega)]; exact hl j (by omega) h2)
      · refine Rn.run 2 (ls' := [_, _, _, _, _]) (st' := [_, _, _]) rfl ?_
        refine Rn.ast rfl ⟨by decide, rfl⟩ (i) (x_wn (n := i) (by omega)) (by omega) ?_
        refine Rn.run 2 (ls' := [_, _, _, _, _]) (st' := []) rfl ?_
        refine Rn.hpv (v' := ((ltr (hnt kd bo n s i) (L i) 1 : Nat) : Int)) ?_ ?_
        · have hq := hnt_le kd bo n s i
          have hv := h9 i (by omega)
          obtain ⟨w0, w1, w2, w9⟩ := x_l1 (q := hnt kd bo n s i) (v := L i) (by omega) hv
          rw [w0] at e16
          first | rw [w1, w9] at e49 | rw [w2, w9] at e49
          try (first | rw [w1] at e59 | rw [w2] at e59)
          unfold ltr
          split <;> (try split) <;> omega
        · rw [← xfl3_s c (fun x => ((ltr (hnt kd bo n s x) (L x) 1 : Nat) : Int)) (show i < 8 by omega)]
          exact ih (i + 1) _ _ _ (by omega) (mG_fr hn (fun k _ => xup_n _ _ (by omega)) hM) (fun j h1 h2 => by rw [xup_n _ _ (by omega)]; exact hl j (by omega) h2)
    · refine Rn.run 3 (ls' := [_, _, _, _, _]) (st' := [_, _]) rfl ?_
      refine Rn.ald rfl ⟨by decide, rfl⟩ (i) (x_wn (n := i) (by omega)) (by omega) ?_
      rw [hl i (Nat.le_refl i) (by omega)]
      refine Rn.run 9 (ls' := [_, _, _, _, _]) (st' := [_, _, _, _]) rfl ?_
      refine Rn.le2 rfl (fun e49 => ?_) (fun e49 => ?_)
      · refine Rn.run 1 (ls' := [_, _, _, _, _]) (st' := [_, _, _]) rfl ?_
        refine Rn.ge0 rfl (fun e59 => ?_) (fun e59 => ?_)
        · refine Rn.run 1 (ls' := [_, _, _, _, _]) (st' := [_, _, _]) rfl ?_
          refine Rn.ast rfl ⟨by decide, rfl⟩ (i) (x_wn (n := i) (by omega)) (by omega) ?_
          refine Rn.run 2 (ls' := [_, _, _, _, _]) (st' := []) rfl ?_
          refine Rn.hpv (v' := ((ltr (hnt kd bo n s i) (L i) 1 : Nat) : Int)) ?_ ?_
          · have hq := hnt_le kd bo n s i
            have hv := h9 i (by omega)
            obtain ⟨w0, w1, w2, w9⟩ := x_l1 (q := hnt kd bo n s i) (v := L i) (by omega) hv
            rw [w0] at e16
            first | rw [w1, w9] at e49 | rw [w2, w9] at e49
            try (first | rw [w1] at e59 | rw [w2] at e59)
            unfold ltr
            split <;> (try split) <;> omega
          · rw [← xfl3_s c (fun x => ((ltr (hnt kd bo n s x) (L x) 1 : Nat) : Int)) (show i < 8 by omega)]
            exact ih (i + 1) _ _ _ (by omega) (mG_fr hn (fun k _ => xup_n _ _ (by omega)) hM) (fun j h1 h2 => by rw [xup_n _ _ (by omega)]; exact hl j (by omega) h2)
        · refine Rn.run 2 (ls' := [_, _, _, _, _]) (st' := [_, _, _]) rfl ?_
          refine Rn.ast rfl ⟨by decide, rfl⟩ (i) (x_wn (n := i) (by omega)) (by omega) ?_
          refine Rn.run 2 (ls' := [_, _, _, _, _]) (st' := []) rfl ?_
          refine Rn.hpv (v' := ((ltr (hnt kd bo n s i) (L i) 1 : Nat) : Int)) ?_ ?_
          · have hq := hnt_le kd bo n s i
            have hv := h9 i (by omega)
            obtain ⟨w0, w1, w2, w9⟩ := x_l1 (q := hnt kd bo n s i) (v := L i) (by omega) hv
            rw [w0] at e16
            first | rw [w1, w9] at e49 | rw [w2, w9] at e49
            try (first | rw [w1] at e59 | rw [w2] at e59)
            unfold ltr
            split <;> (try split) <;> omega
          · rw [← xfl3_s c (fun x => ((ltr (hnt kd bo n s x) (L x) 1 : Nat) : Int)) (show i < 8 by omega)]
            exact ih (i + 1) _ _ _ (by omega) (mG_fr hn (fun k _ => xup_n _ _ (by omega)) hM) (fun j h1 h2 => by rw [xup_n _ _ (by omega)]; exact hl j (by omega) h2)
      · refine Rn.run 2 (ls' := [_, _, _, _, _]) (st' := [_, _, _]) rfl ?_
        refine Rn.ast rfl ⟨by decide, rfl⟩ (i) (x_wn (n := i) (by omega)) (by omega) ?_
        refine Rn.run 2 (ls' := [_, _, _, _, _]) (st' := []) rfl ?_
        refine Rn.hpv (v' := ((ltr (hnt kd bo n s i) (L i) 1 : Nat) : Int)) ?_ ?_
        · have hq := hnt_le kd bo n s i
          have hv := h9 i (by omega)
          obtain ⟨w0, w1, w2, w9⟩ := x_l1 (q := hnt kd bo n s i) (v := L i) (by omega) hv
          rw [w0] at e16
          first | rw [w1, w9] at e49 | rw [w2, w9] at e49
          try (first | rw [w1] at e59 | rw [w2] at e59)
          unfold ltr
          split <;> (try split) <;> omega
        · rw [← xfl3_s c (fun x => ((ltr (hnt kd bo n s x) (L x) 1 : Nat) : Int)) (show i < 8 by omega)]
          exact ih (i + 1) _ _ _ (by omega) (mG_fr hn (fun k _ => xup_n _ _ (by omega)) hM) (fun j h1 h2 => by rw [xup_n _ _ (by omega)]; exact hl j (by omega) h2)
theorem c169 {ex : xO} {d : Nat} {c : Nat → Nat → Int} {b : Bool} {n : Nat} {kd bo wo : Nat → Nat} (ho : gok n kd bo wo) (hM : mG c n kd bo wo) {s : Nat} {L : Nat → Nat} (hs : s < 64) (h9 : l9 L) (hl : ∀ j, j < 8 → c 63 j = (L j : Nat)) : An ex (d + 2) 169 5 [xA 54, xI (s : Int)] (hp c b) (xU, hp (lf c (mo kd bo n s 1 L)) b) := by
  refine Rn.run 2 (ls' := [_, _, _, _, _]) (st' := []) rfl ?_
  exact l169 ho hs h9 8 0 c _ _ rfl hM (fun j _ hj => hl j hj)
theorem l170 {ex : xO} {d : Nat} {c : Nat → Nat → Int} {b : Bool} {L : Nat → Nat} (hl : ∀ j, j < 8 → c 63 j = (L j : Nat)) : ∀ (m i : Nat) (a : Nat), i + m = 8 → Rn ex xt170 d 4 [xA 54, xI (a : Int), xI (i : Int)] [] (hp c b) (xI ((xit (fun i a => a + L i) m i a : Nat) : Int), hp c b) := by
  intro m
  induction m with
  | zero =>
    intro i a hm
    refine Rn.run 2 (ls' := [_, _, _]) (st' := [_, _]) rfl ?_
    refine Rn.ge2 rfl (fun e7 => ?_) (fun e7 => absurd e7 (by exact fun h => h ((y_ge (n := 8) (by omega) (by omega)).mpr (by omega))))
    refine Rn.run 1 (ls' := [_, _, _]) (st' := [_]) rfl ?_
    exact Rn.ret rfl rfl rfl rfl rfl rfl
  | succ m ih =>
    intro i a hm
    refine Rn.run 2 (ls' := [_, _, _]) (st' := [_, _]) rfl ?_
    refine Rn.ge2 rfl (fun e7 => absurd e7 (by exact fun h => absurd ((y_ge (n := 8) (by omega) (by omega)).mp h) (by omega))) (fun e7 => ?_)
    refine Rn.run 4 (ls' := [_, _, _]) (st' := [_, _, _]) rfl ?_
    refine Rn.ald rfl ⟨by decide, rfl⟩ (i) (x_wn (n := i) (by omega)) (by omega) ?_
    rw [hl i (by omega)]
    refine Rn.run 4 (ls' := [_, _, _]) (st' := []) rfl ?_
    exact ih (i + 1) (a + L i) (by omega)
theorem c170 {ex : xO} {d : Nat} {c : Nat → Nat → Int} {b : Bool} {L : Nat → Nat} (hl : ∀ j, j < 8 → c 63 j = (L j : Nat)) : An ex d 170 3 [xA 54] (hp c b) (xI (s8 L : Nat), hp c b) := by
  refine Rn.run 4 (ls' := [_, _, _]) (st' := []) rfl ?_
  exact l170 hl 8 0 0 rfl
theorem c171 {ex : xO} {d : Nat} {c : Nat → Nat → Int} {b : Bool} {L : Nat → Nat} (hL : ∀ j, j < 8 → c 55 (3 + j) = (L j : Nat)) : An ex (d + 1) 171 1 [xA 54] (hp c b) (xI (s8 L : Nat), hp (lf c L) b) := by
  refine Rn.run 1 (ls' := [_]) (st' := [_]) rfl ?_
  refine Rn.call rfl rfl rfl rfl rfl (c168 hL) ?_
  refine Rn.run 1 (ls' := [_]) (st' := [_]) rfl ?_
  refine Rn.call rfl rfl rfl rfl rfl (c170 (fun j hj => lf_in c L hj)) ?_
  exact Rn.ret rfl rfl rfl rfl rfl rfl
theorem l172 {ex : xO} {d : Nat} {c : Nat → Nat → Int} {b : Bool} {n : Nat} {kd bo wo : Nat → Nat} (ho : gok n kd bo wo) (hM : mG c n kd bo wo) {y : Nat} (hy : y < 8) : ∀ (m i : Nat) (a : Nat), i + m = n → a < 64 → Rn ex xt172 d 4 [xA 54, xI (y : Int), xI (a : Int), xI (i : Int)] [] (hp c b) (xI ((xit (fun i z => if (bo i == y) = true then z ||| 2 ^ i else z) m i a : Nat) : Int), hp c b) := by
  intro m
  induction m with
  | zero =>
    intro i a hm hP
    have hn := ho.1
    refine Rn.run 4 (ls' := [_, _, _, _]) (st' := [_, _, _]) rfl ?_
    refine Rn.ald rfl ⟨by decide, rfl⟩ (0) rfl (by decide) ?_
    rw [hM.1]
    refine Rn.ge2 rfl (fun e11 => ?_) (fun e11 => absurd e11 (by exact fun h => h ((y_ge (by omega) (by omega)).mpr (by omega))))
    refine Rn.run 1 (ls' := [_, _, _, _]) (st' := [_]) rfl ?_
    exact Rn.ret rfl rfl rfl rfl rfl rfl
  | succ m ih =>
    intro i a hm hP
    have hn := ho.1
    refine Rn.run 4 (ls' := [_, _, _, _]) (st' := [_, _, _]) rfl ?_
    refine Rn.ald rfl ⟨by decide, rfl⟩ (0) rfl (by decide) ?_
    rw [hM.1]
    refine Rn.ge2 rfl (fun e11 => absurd e11 (by exact fun h => absurd ((y_ge (by omega) (by omega)).mp h) (by omega))) (fun e11 => ?_)
    refine Rn.run 6 (ls' := [_, _, _, _]) (st' := [_, _, _]) rfl ?_
    refine Rn.ald rfl ⟨by decide, rfl⟩ (17 + i) (x_wn (n := 17 + i) (by omega)) (by omega) ?_
    rw [(hM.2 i (by omega)).2.1]
    refine Rn.run 1 (ls' := [_, _, _, _]) (st' := [_, _, _]) rfl ?_
    refine Rn.ne2 rfl (fun e25 => ?_) (fun e25 => ?_)
    · have hi := ho.2 i (by omega)
      refine Rn.run 5 (ls' := [_, _, _, _]) (st' := []) rfl ?_
      refine Rn.ls ?_ (ih (i + 1) (if (bo i == y) = true then a ||| 2 ^ i else a) (by omega) (by split <;> first | exact or64 hP (by omega) | exact hP))
      first | (rw [show (if (bo i == y) = true then a ||| 2 ^ i else a) = a ||| 2 ^ i from if_pos (by simpa using (y_eq (by omega) (by omega)).mp (Classical.not_not.mp e25)), ← bt_add hP (by omega)]; first | done | rfl) | (rw [show (if (bo i == y) = true then a ||| 2 ^ i else a) = a from if_neg (fun q => e25 ((y_eq (by omega) (by omega)).mpr (by simpa using q)))]; first | rfl | (rw [bt_or0 hP]; rfl))
    · have hi := ho.2 i (by omega)
      refine Rn.run 8 (ls' := [_, _, _, _]) (st' := []) rfl ?_
      refine Rn.ls ?_ (ih (i + 1) (if (bo i == y) = true then a ||| 2 ^ i else a) (by omega) (by split <;> first | exact or64 hP (by omega) | exact hP))
      first | (rw [show (if (bo i == y) = true then a ||| 2 ^ i else a) = a ||| 2 ^ i from if_pos (by simpa using (y_eq (by omega) (by omega)).mp (Classical.not_not.mp e25)), ← bt_add hP (by omega)]; first | done | rfl) | (rw [show (if (bo i == y) = true then a ||| 2 ^ i else a) = a from if_neg (fun q => e25 ((y_eq (by omega) (by omega)).mpr (by simpa using q)))]; first | rfl | (rw [bt_or0 hP]; rfl))
theorem c172 {ex : xO} {d : Nat} {c : Nat → Nat → Int} {b : Bool} {n : Nat} {kd bo wo : Nat → Nat} (ho : gok n kd bo wo) (hM : mG c n kd bo wo) {y : Nat} (hy : y < 8) : An ex d 172 4 [xA 54, xI (y : Int)] (hp c b) (xI (bset (fun i => bo i == y) n : Nat), hp c b) := by
  refine Rn.run 4 (ls' := [_, _, _, _]) (st' := []) rfl ?_
  exact l172 ho hM hy n 0 0 (by omega) (by decide)
