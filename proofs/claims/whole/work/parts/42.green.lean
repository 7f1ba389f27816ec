-- the class: boughs, the green
theorem c0 {ex : xO} {d : Nat} {h : xH} {x : Int} {j : Nat} (hj : j < 8) : An ex d 0 2 [xI x, xI (j : Int)] h (xI (lv x j), h) := by
  refine Rn.run 7 (ls' := [_, _]) (st' := [_]) rfl ?_
  refine Rn.ret rfl rfl rfl rfl ?_ rfl
  exact congrArg xI (lv_leaf x hj)
theorem c1 {ex : xO} {d : Nat} {h : xH} {x y l : Int} : An ex d 1 3 [xI x, xI y, xI l] h (xI (xwith x y l), h) := by
  refine Rn.run 15 (ls' := [_, _, _]) (st' := [_]) rfl ?_
  exact Rn.ret rfl rfl rfl rfl rfl rfl
theorem l2 {ex : xO} {d : Nat} {h : xH} {x : Int} {L : Nat → Nat} (hL : pk x L) : ∀ (m i : Nat) (a : Nat), i + m = 8 → Rn ex xt2 (d + 1) 4 [xI x, xI (a : Int), xI (i : Int)] [] (h) (xI ((xit (fun i a => a + L i) m i a : Nat) : Int), h) := by
  intro m
  induction m with
  | zero =>
    intro i a hm
    refine Rn.run 2 (ls' := [_, _, _]) (st' := [_, _]) rfl ?_
    refine Rn.ge2 rfl (fun e7 => ?_) (fun e7 => absurd e7 (by exact fun h => h ((y_ge (n := 8) (by omega) (by omega)).mpr (by omega))))
    refine Rn.run 1 (ls' := [_, _, _]) (st' := [_]) rfl ?_
    exact Rn.ret rfl rfl rfl rfl rfl rfl
  | succ m ih =>
    intro i a hm
    refine Rn.run 2 (ls' := [_, _, _]) (st' := [_, _]) rfl ?_
    refine Rn.ge2 rfl (fun e7 => absurd e7 (by exact fun h => absurd ((y_ge (n := 8) (by omega) (by omega)).mp h) (by omega))) (fun e7 => ?_)
    refine Rn.run 3 (ls' := [_, _, _]) (st' := [_, _, _]) rfl ?_
    refine Rn.call rfl rfl rfl rfl rfl (c0 (by omega)) ?_
    rw [hL i (by omega)]
    refine Rn.run 4 (ls' := [_, _, _]) (st' := []) rfl ?_
    exact ih (i + 1) (a + L i) (by omega)
theorem c2 {ex : xO} {d : Nat} {h : xH} {x : Int} {L : Nat → Nat} (hL : pk x L) : An ex (d + 1) 2 3 [xI x] h (xI (s8 L : Nat), h) := by
  refine Rn.run 4 (ls' := [_, _, _]) (st' := []) rfl ?_
  exact l2 hL 8 0 0 rfl
def fev (L : Nat → Nat) (i : Nat) (a : Int) : Int := if i % 2 = 0 then a + (L i : Int) else a + -(L i : Int)
def ev8 (L : Nat → Nat) : Int := xit (fev L) 8 0 0
theorem ev8_congr {L L' : Nat → Nat} (h : ∀ j, j < 8 → L j = L' j) : ev8 L = ev8 L' := xit_congr 8 0 0 (fun j t _ hj => by unfold fev; rw [h j (by omega)])
theorem x_m2 {i : Nat} (hi : i < 1000) : (w32 (Int.tmod (w32 (i : Int)) (w32 2)) = 0) ↔ i % 2 = 0 := by
  rw [x_wn (by omega), show w32 2 = 2 from rfl, Int.tmod_eq_emod_of_nonneg (by omega)]
  unfold w32
  omega
theorem l3 {ex : xO} {d : Nat} {h : xH} {x : Int} {L : Nat → Nat} (hL : pk x L) : ∀ (m i : Nat) (a : Int), i + m = 8 → Rn ex xt3 (d + 1) 4 [xI x, xI a, xI (i : Int)] [] (h) (xI (xit (fev L) m i a), h) := by
  intro m
  induction m with
  | zero =>
    intro i a hm
    refine Rn.run 2 (ls' := [_, _, _]) (st' := [_, _]) rfl ?_
    refine Rn.ge2 rfl (fun e7 => ?_) (fun e7 => absurd e7 (by exact fun h => h ((y_ge (n := 8) (by omega) (by omega)).mpr (by omega))))
    refine Rn.run 1 (ls' := [_, _, _]) (st' := [_]) rfl ?_
    exact Rn.ret rfl rfl rfl rfl rfl rfl
  | succ m ih =>
    intro i a hm
    refine Rn.run 2 (ls' := [_, _, _]) (st' := [_, _]) rfl ?_
    refine Rn.ge2 rfl (fun e7 => absurd e7 (by exact fun h => absurd ((y_ge (n := 8) (by omega) (by omega)).mp h) (by omega))) (fun e7 => ?_)
    refine Rn.run 4 (ls' := [_, _, _]) (st' := [_, _]) rfl ?_
    refine Rn.ne0 rfl (fun e14 => ?_) (fun e14 => ?_)
    · refine Rn.run 2 (ls' := [_, _, _]) (st' := [_, _, _]) rfl ?_
      refine Rn.call rfl rfl rfl rfl rfl (c0 (by omega)) ?_
      rw [hL i (by omega)]
      refine Rn.run 5 (ls' := [_, _, _]) (st' := []) rfl ?_
      refine Rn.ls ?_ (ih (i + 1) (fev L i a) (by omega))
      first | (rw [show fev L i a = a + (L i : Int) from if_pos ((x_m2 (by omega)).mp (Classical.not_not.mp e14))]; rfl) | (rw [show fev L i a = a + -(L i : Int) from if_neg (fun q => e14 ((x_m2 (by omega)).mpr q))]; rfl)
    · refine Rn.run 2 (ls' := [_, _, _]) (st' := [_, _, _]) rfl ?_
      refine Rn.call rfl rfl rfl rfl rfl (c0 (by omega)) ?_
      rw [hL i (by omega)]
      refine Rn.run 5 (ls' := [_, _, _]) (st' := []) rfl ?_
      refine Rn.ls ?_ (ih (i + 1) (fev L i a) (by omega))
      first | (rw [show fev L i a = a + (L i : Int) from if_pos ((x_m2 (by omega)).mp (Classical.not_not.mp e14))]; rfl) | (rw [show fev L i a = a + -(L i : Int) from if_neg (fun q => e14 ((x_m2 (by omega)).mpr q))]; rfl)
theorem c3 {ex : xO} {d : Nat} {h : xH} {x : Int} {L : Nat → Nat} (hL : pk x L) : An ex (d + 1) 3 3 [xI x] h (xI (ev8 L), h) := by
  refine Rn.run 4 (ls' := [_, _, _]) (st' := []) rfl ?_
  exact l3 hL 8 0 0 rfl
set_option maxRecDepth 100000 in
theorem bt8_add : ∀ s, s < 1024 → ∀ i, i < 10 → xor3 ((s : Nat) : Int) (xshl 1 ((i : Nat) : Int)) = ((s ||| 2 ^ i : Nat) : Int) := by decide +kernel
set_option maxRecDepth 100000 in
theorem bt8_or0 : ∀ s, s < 1024 → xor3 ((s : Nat) : Int) 0 = ((s : Nat) : Int) := by decide +kernel
set_option maxRecDepth 100000 in
theorem bt8_cnt : ∀ s, s < 256 → xcnt ((s : Nat) : Int) = ((pop s : Nat) : Int) := by decide +kernel
theorem or1024 {s i : Nat} (hs : s < 1024) (hi : i < 10) : s ||| 2 ^ i < 1024 := by
  have h2 : 2 ^ i ≤ 2 ^ 9 := Nat.pow_le_pow_right (n := 2) (by decide) (by omega)
  exact Nat.or_lt_two_pow (n := 10) hs (by omega)
theorem l4 {ex : xO} {d : Nat} {h : xH} {x : Int} {L : Nat → Nat} (hL : pk x L) (h9 : l9 L) : ∀ (m i : Nat) (a : Nat), i + m = 8 → a < 1024 → Rn ex xt4 (d + 1) 4 [xI x, xI (a : Int), xI (i : Int)] [] (h) (xI ((xit (fun i z => if decide (L i = 0) = true then z ||| 2 ^ i else z) m i a : Nat) : Int), h) := by
  intro m
  induction m with
  | zero =>
    intro i a hm hP
    refine Rn.run 2 (ls' := [_, _, _]) (st' := [_, _]) rfl ?_
    refine Rn.ge2 rfl (fun e7 => ?_) (fun e7 => absurd e7 (by exact fun h => h ((y_ge (n := 8) (by omega) (by omega)).mpr (by omega))))
    refine Rn.run 1 (ls' := [_, _, _]) (st' := [_]) rfl ?_
    exact Rn.ret rfl rfl rfl rfl rfl rfl
  | succ m ih =>
    intro i a hm hP
    refine Rn.run 2 (ls' := [_, _, _]) (st' := [_, _]) rfl ?_
    refine Rn.ge2 rfl (fun e7 => absurd e7 (by exact fun h => absurd ((y_ge (n := 8) (by omega) (by omega)).mp h) (by omega))) (fun e7 => ?_)
    refine Rn.run 3 (ls' := [_, _, _]) (st' := [_, _, _]) rfl ?_
    refine Rn.call rfl rfl rfl rfl rfl (c0 (by omega)) ?_
    rw [hL i (by omega)]
    have g9 := h9 i (by omega)
    refine Rn.ne0 rfl (fun e16 => ?_) (fun e16 => ?_)
    · refine Rn.run 5 (ls' := [_, _, _]) (st' := []) rfl ?_
      refine Rn.ls ?_ (ih (i + 1) (if decide (L i = 0) = true then a ||| 2 ^ i else a) (by omega) (by split <;> first | exact or1024 hP (by omega) | exact hP))
      first | (rw [show (if decide (L i = 0) = true then a ||| 2 ^ i else a) = a ||| 2 ^ i from if_pos (decide_eq_true ((y_eq0 (by omega)).mp (Classical.not_not.mp e16))), ← bt8_add a hP i (by omega)]; first | done | rfl) | (rw [show (if decide (L i = 0) = true then a ||| 2 ^ i else a) = a from if_neg (fun q => e16 ((y_eq0 (by omega)).mpr (of_decide_eq_true q)))]; first | rfl | (rw [bt8_or0 a hP]; rfl))
    · refine Rn.run 8 (ls' := [_, _, _]) (st' := []) rfl ?_
      refine Rn.ls ?_ (ih (i + 1) (if decide (L i = 0) = true then a ||| 2 ^ i else a) (by omega) (by split <;> first | exact or1024 hP (by omega) | exact hP))
      first | (rw [show (if decide (L i = 0) = true then a ||| 2 ^ i else a) = a ||| 2 ^ i from if_pos (decide_eq_true ((y_eq0 (by omega)).mp (Classical.not_not.mp e16))), ← bt8_add a hP i (by omega)]; first | done | rfl) | (rw [show (if decide (L i = 0) = true then a ||| 2 ^ i else a) = a from if_neg (fun q => e16 ((y_eq0 (by omega)).mpr (of_decide_eq_true q)))]; first | rfl | (rw [bt8_or0 a hP]; rfl))
theorem c4 {ex : xO} {d : Nat} {h : xH} {x : Int} {L : Nat → Nat} (hL : pk x L) (h9 : l9 L) : An ex (d + 1) 4 3 [xI x] h (xI (bset (fun i => decide (L i = 0)) 8 : Nat), h) := by
  refine Rn.run 4 (ls' := [_, _, _]) (st' := []) rfl ?_
  exact l4 hL h9 8 0 0 rfl (by decide)
theorem x_ltr {x : Int} {h v m : Nat} (hx : x = (v : Int) + (if h = 0 then 1 else -(h : Int)) * m) (hh : h ≤ 100) (hv : v ≤ 9) (hm : m ≤ 100) : (if w32 0 < w32 (if w32 x < w32 9 then x else 9) then (if w32 x < w32 9 then x else 9) else 0) = (ltr h v m : Nat) := by
  have e0 : w32 0 = 0 := rfl
  have e9 : w32 9 = 9 := rfl
  have hb : h * m ≤ 100 * 100 := Nat.mul_le_mul hh hm
  by_cases h0 : h = 0
  · rw [if_pos h0, Int.one_mul] at hx
    have ex : w32 x = x := x_w x (by omega) (by omega)
    unfold ltr
    rw [if_pos h0, ex, e0, e9]
    by_cases h9 : x < 9
    · rw [if_pos h9, ex]
      split <;> split <;> omega
    · rw [if_neg h9, e9]
      split <;> split <;> omega
  · rw [if_neg h0, Int.neg_mul, show (h : Int) * (m : Int) = ((h * m : Nat) : Int) from rfl] at hx
    generalize hg : h * m = q at hx hb
    have ex : w32 x = x := x_w x (by omega) (by omega)
    unfold ltr
    rw [if_neg h0, ex, e0, e9, hg]
    by_cases h9 : x < 9
    · rw [if_pos h9, ex]
      split <;> omega
    · rw [if_neg h9, e9]
      split <;> omega
theorem c5 {ex : xO} {d : Nat} {h : xH} {v q m : Nat} (hh : q ≤ 100) (hv : v ≤ 9) (hm : m ≤ 100) : An ex (d + 1) 5 4 [xI (v : Int), xI (q : Int), xI (m : Int)] h (xI (ltr q v m : Nat), h) := by
  refine Rn.run 1 (ls' := [_, _, _, _]) (st' := [_]) rfl ?_
  refine Rn.le0 rfl (fun e1 => ?_) (fun e1 => ?_)
  · refine Rn.run 11 (ls' := [_, _, _, _]) (st' := [_]) rfl ?_
    refine Rn.ret rfl rfl rfl rfl ?_ rfl
    rw [x_wn (by omega)] at e1
    refine congrArg xI ?_
    first | (have hq : q = 0 := (by omega); exact x_ltr (x := (v : Int) + 1 * m) (by rw [if_pos hq]) hh hv hm) | (have hq : ¬ q = 0 := (by omega); exact x_ltr (x := (v : Int) + -(q : Int) * m) (by rw [if_neg hq]) hh hv hm)
  · refine Rn.run 13 (ls' := [_, _, _, _]) (st' := [_]) rfl ?_
    refine Rn.ret rfl rfl rfl rfl ?_ rfl
    rw [x_wn (by omega)] at e1
    refine congrArg xI ?_
    first | (have hq : q = 0 := (by omega); exact x_ltr (x := (v : Int) + 1 * m) (by rw [if_pos hq]) hh hv hm) | (have hq : ¬ q = 0 := (by omega); exact x_ltr (x := (v : Int) + -(q : Int) * m) (by rw [if_neg hq]) hh hv hm)
theorem c10 {ex : xO} {d : Nat} {c : Nat → Nat → Int} {b : Bool} {D : Nat} (hD : c 7 0 = D) (h40 : D ≤ 40) : An ex d 10 1 [xA 7] (hp c b) (xI (c 8 D), hp c b) := by
  refine Rn.run 2 (ls' := [_]) (st' := [_]) rfl ?_
  rw [hD]
  refine Rn.ge0 rfl (fun e4 => ?_) (fun e4 => absurd e4 (by exact fun q => q (by rw [x_wn (by omega)]; omega)))
  refine Rn.run 4 (ls' := [_]) (st' := [_, _]) rfl ?_
  rw [hD]
  refine Rn.ald rfl ⟨by decide, rfl⟩ (D) (x_wn (by omega)) (by omega) ?_
  exact Rn.ret rfl rfl rfl rfl rfl rfl
theorem c11 {ex : xO} {d : Nat} {c : Nat → Nat → Int} {b : Bool} {D : Nat} (hD : c 7 0 = D) (h40 : D ≤ 40) : An ex d 11 1 [xA 7] (hp c b) (xI (c 9 D), hp c b) := by
  refine Rn.run 2 (ls' := [_]) (st' := [_]) rfl ?_
  rw [hD]
  refine Rn.ge0 rfl (fun e4 => ?_) (fun e4 => absurd e4 (by exact fun q => q (by rw [x_wn (by omega)]; omega)))
  refine Rn.run 4 (ls' := [_]) (st' := [_, _]) rfl ?_
  rw [hD]
  refine Rn.ald rfl ⟨by decide, rfl⟩ (D) (x_wn (by omega)) (by omega) ?_
  exact Rn.ret rfl rfl rfl rfl rfl rfl
theorem c12 {ex : xO} {d : Nat} {c : Nat → Nat → Int} {b : Bool} {D : Nat} (hD : c 7 0 = D) (h40 : D ≤ 40) : An ex d 12 1 [xA 7] (hp c b) (xI (c 10 D), hp c b) := by
  refine Rn.run 2 (ls' := [_]) (st' := [_]) rfl ?_
  rw [hD]
  refine Rn.ge0 rfl (fun e4 => ?_) (fun e4 => absurd e4 (by exact fun q => q (by rw [x_wn (by omega)]; omega)))
  refine Rn.run 4 (ls' := [_]) (st' := [_, _]) rfl ?_
  rw [hD]
  refine Rn.ald rfl ⟨by decide, rfl⟩ (D) (x_wn (by omega)) (by omega) ?_
  exact Rn.ret rfl rfl rfl rfl rfl rfl
theorem c8 {ex : xO} {d : Nat} {c : Nat → Nat → Int} {b : Bool} {D m : Nat} (hD : c 7 0 = D) (h40 : D ≤ 40) (hm : m ≤ 100) : An ex d 8 2 [xA 7, xI (m : Int)] (hp c b) (xI (if D + m ≤ 40 then 1 else 0), hp c b) := by
  refine Rn.run 2 (ls' := [_, _]) (st' := [_]) rfl ?_
  rw [hD]
  refine Rn.run 3 (ls' := [_, _]) (st' := [_, _]) rfl ?_
  refine Rn.gt2 rfl (fun e8 => ?_) (fun e8 => ?_)
  · refine Rn.run 1 (ls' := [_, _]) (st' := [_]) rfl ?_
    have q := y_lt (n := 40) (i := D + m) (by omega) (by omega)
    first | exact Rn.retZ rfl (Or.inl rfl) (if_neg (Nat.not_le.mpr (q.mp e8))).symm | exact Rn.retZ rfl (Or.inr rfl) (if_pos (Nat.le_of_not_lt (fun z => e8 (q.mpr z)))).symm
  · refine Rn.run 2 (ls' := [_, _]) (st' := [_]) rfl ?_
    have q := y_lt (n := 40) (i := D + m) (by omega) (by omega)
    first | exact Rn.retZ rfl (Or.inl rfl) (if_neg (Nat.not_le.mpr (q.mp e8))).symm | exact Rn.retZ rfl (Or.inr rfl) (if_pos (Nat.le_of_not_lt (fun z => e8 (q.mpr z)))).symm
def cadd (c : Nat → Nat → Int) (D : Nat) (x s m : Int) : Nat → Nat → Int := xup (xup (xup (xup c 7 0 (D + 1 : Nat)) 8 (D + 1) x) 9 (D + 1) s) 10 (D + 1) m
theorem c9 {ex : xO} {d : Nat} {c : Nat → Nat → Int} {b : Bool} {D : Nat} {x s m : Int} (hD : c 7 0 = D) (h40 : D < 40) : An ex (d + 1) 9 4 [xA 7, xI x, xI s, xI m] (hp c b) (xU, hp (cadd c D x s m) b) := by
  refine Rn.run 2 (ls' := [_, _, _, _]) (st' := [_, _]) rfl ?_
  refine Rn.call rfl rfl rfl rfl rfl (c8 (m := 1) hD (by omega) (by omega)) ?_
  refine Rn.neB rfl (fun e5 => ?_) (fun e5 => absurd e5 (by exact fun q => q (by omega)))
  refine Rn.run 3 (ls' := [_, _, _, _]) (st' := [_, _]) rfl ?_
  rw [hD]
  refine Rn.run 7 (ls' := [_, _, _, _]) (st' := [_, _]) rfl ?_
  rw [xup_s]
  refine Rn.run 1 (ls' := [_, _, _, _]) (st' := [_, _, _]) rfl ?_
  refine Rn.ast rfl ⟨by decide, rfl⟩ (D + 1) (x_wn (n := D + 1) (by omega)) (by omega) ?_
  refine Rn.run 4 (ls' := [_, _, _, _]) (st' := [_, _]) rfl ?_
  rw [xup_n _ _ (by omega), xup_s]
  refine Rn.run 1 (ls' := [_, _, _, _]) (st' := [_, _, _]) rfl ?_
  refine Rn.ast rfl ⟨by decide, rfl⟩ (D + 1) (x_wn (n := D + 1) (by omega)) (by omega) ?_
  refine Rn.run 4 (ls' := [_, _, _, _]) (st' := [_, _]) rfl ?_
  rw [xup_n _ _ (by omega), xup_n _ _ (by omega), xup_s]
  refine Rn.run 1 (ls' := [_, _, _, _]) (st' := [_, _, _]) rfl ?_
  refine Rn.ast rfl ⟨by decide, rfl⟩ (D + 1) (x_wn (n := D + 1) (by omega)) (by omega) ?_
  exact Rn.ret rfl rfl rfl rfl rfl rfl
theorem c28 {ex : xO} {d : Nat} {h : xH} {k w : Nat} (hk : k ≤ 5) (hw : w ≤ 5) : An ex d 28 2 [xI (k : Int), xI (w : Int)] h (xI (if (w = 0 ∨ k = w ∨ (w = 1 ∧ (k = 4 ∨ k = 5))) then 1 else 0), h) := by
  have h6 : k = 0 ∨ k = 1 ∨ k = 2 ∨ k = 3 ∨ k = 4 ∨ k = 5 := by omega
  have w6 : w = 0 ∨ w = 1 ∨ w = 2 ∨ w = 3 ∨ w = 4 ∨ w = 5 := by omega
  rcases h6 with rfl | rfl | rfl | rfl | rfl | rfl <;> rcases w6 with rfl | rfl | rfl | rfl | rfl | rfl
  all_goals exact ⟨30, rfl⟩
def isg (k : Nat) : Bool := k == 1 || k == 4 || k == 5
theorem l18 {ex : xO} {d : Nat} {c : Nat → Nat → Int} {b : Bool} {n : Nat} {kd bo wo : Nat → Nat} (ho : gok n kd bo wo) (hC : cG c b n kd bo wo) : ∀ (m i : Nat) (a : Nat), i + m = n → a < 64 → Rn ex xt18 (d + 1) 4 [xA (gid b), xI (a : Int), xI (i : Int)] [] (hp c b) (xI ((xit (fun i z => if isg (kd i) = true then z ||| 2 ^ i else z) m i a : Nat) : Int), hp c b) := by
  intro m
  induction m with
  | zero =>
    intro i a hm hP
    have hn := ho.1
    refine Rn.run 2 (ls' := [_, _, _]) (st' := [_, _]) rfl ?_
    refine Rn.getI rfl (xS_g b) ?_
    rw [hC.1]
    refine Rn.ge2 rfl (fun e9 => ?_) (fun e9 => absurd e9 (by exact fun h => h ((y_ge (by omega) (by omega)).mpr (by omega))))
    refine Rn.run 1 (ls' := [_, _, _]) (st' := [_]) rfl ?_
    exact Rn.ret rfl rfl rfl rfl rfl rfl
  | succ m ih =>
    intro i a hm hP
    have hn := ho.1
    refine Rn.run 2 (ls' := [_, _, _]) (st' := [_, _]) rfl ?_
    refine Rn.getI rfl (xS_g b) ?_
    rw [hC.1]
    refine Rn.ge2 rfl (fun e9 => absurd e9 (by exact fun h => absurd ((y_ge (by omega) (by omega)).mp h) (by omega))) (fun e9 => ?_)
    refine Rn.run 2 (ls' := [_, _, _]) (st' := [_, _]) rfl ?_
    refine Rn.getR rfl (xS_g b) (xR_g b).1 ?_
    refine Rn.run 1 (ls' := [_, _, _]) (st' := [_, _, _]) rfl ?_
    refine Rn.ald rfl (xS_g1 b) (i) (x_wn (by omega)) (by omega) ?_
    rw [(hC.2.2 i (by omega)).1]
    refine Rn.run 1 (ls' := [_, _, _]) (st' := [_, _, _]) rfl ?_
    refine Rn.call rfl rfl rfl rfl rfl (c28 (k := kd i) (w := 1) (ho.2 i (by omega)).1 (by decide)) ?_
    refine Rn.eqB rfl (fun e23 => ?_) (fun e23 => ?_)
    · refine Rn.run 5 (ls' := [_, _, _]) (st' := []) rfl ?_
      refine Rn.ls ?_ (ih (i + 1) (if isg (kd i) = true then a ||| 2 ^ i else a) (by omega) (by split <;> first | exact or64 hP (by omega) | exact hP))
      first | (rw [show (if isg (kd i) = true then a ||| 2 ^ i else a) = a ||| 2 ^ i from if_pos (by unfold isg; simp; omega), ← bt_add hP (by omega)]; first | done | rfl) | (rw [show (if isg (kd i) = true then a ||| 2 ^ i else a) = a from if_neg (fun q => e23 (by unfold isg at q; simp at q; omega))]; first | rfl | (rw [bt_or0 hP]; rfl))
    · refine Rn.run 8 (ls' := [_, _, _]) (st' := []) rfl ?_
      refine Rn.ls ?_ (ih (i + 1) (if isg (kd i) = true then a ||| 2 ^ i else a) (by omega) (by split <;> first | exact or64 hP (by omega) | exact hP))
      first | (rw [show (if isg (kd i) = true then a ||| 2 ^ i else a) = a ||| 2 ^ i from if_pos (by unfold isg; simp; omega), ← bt_add hP (by omega)]; first | done | rfl) | (rw [show (if isg (kd i) = true then a ||| 2 ^ i else a) = a from if_neg (fun q => e23 (by unfold isg at q; simp at q; omega))]; first | rfl | (rw [bt_or0 hP]; rfl))
theorem c18 {ex : xO} {d : Nat} {c : Nat → Nat → Int} {b : Bool} {n : Nat} {kd bo wo : Nat → Nat} (ho : gok n kd bo wo) (hC : cG c b n kd bo wo) : An ex (d + 1) 18 3 [xA (gid b)] (hp c b) (xI (bset (fun i => isg (kd i)) n : Nat), hp c b) := by
  refine Rn.run 4 (ls' := [_, _, _]) (st' := []) rfl ?_
  exact l18 ho hC n 0 0 (by omega) (by decide)
theorem l19 {ex : xO} {d : Nat} {c : Nat → Nat → Int} {b : Bool} {n : Nat} {kd bo wo : Nat → Nat} (ho : gok n kd bo wo) (hC : cG c b n kd bo wo) {y : Nat} (hy : y < 8) : ∀ (m i : Nat) (a : Nat), i + m = n → a < 64 → Rn ex xt19 d 4 [xA (gid b), xI (y : Int), xI (a : Int), xI (i : Int)] [] (hp c b) (xI ((xit (fun i z => if (bo i == y) = true then z ||| 2 ^ i else z) m i a : Nat) : Int), hp c b) := by
  intro m
  induction m with
  | zero =>
    intro i a hm hP
    have hn := ho.1
    refine Rn.run 2 (ls' := [_, _, _, _]) (st' := [_, _]) rfl ?_
    refine Rn.getI rfl (xS_g b) ?_
    rw [hC.1]
    refine Rn.ge2 rfl (fun e9 => ?_) (fun e9 => absurd e9 (by exact fun h => h ((y_ge (by omega) (by omega)).mpr (by omega))))
    refine Rn.run 1 (ls' := [_, _, _, _]) (st' := [_]) rfl ?_
    exact Rn.ret rfl rfl rfl rfl rfl rfl
  | succ m ih =>
    intro i a hm hP
    have hn := ho.1
    refine Rn.run 2 (ls' := [_, _, _, _]) (st' := [_, _]) rfl ?_
    refine Rn.getI rfl (xS_g b) ?_
    rw [hC.1]
    refine Rn.ge2 rfl (fun e9 => absurd e9 (by exact fun h => absurd ((y_ge (by omega) (by omega)).mp h) (by omega))) (fun e9 => ?_)
    refine Rn.run 2 (ls' := [_, _, _, _]) (st' := [_, _]) rfl ?_
    refine Rn.getR rfl (xS_g b) (xR_g b).2.1 ?_
    refine Rn.run 1 (ls' := [_, _, _, _]) (st' := [_, _, _]) rfl ?_
    refine Rn.ald rfl (xS_g2 b) (i) (x_wn (by omega)) (by omega) ?_
    rw [(hC.2.2 i (by omega)).2.1]
    refine Rn.run 1 (ls' := [_, _, _, _]) (st' := [_, _, _]) rfl ?_
    refine Rn.ne2 rfl (fun e20 => ?_) (fun e20 => ?_)
    · have hi := ho.2 i (by omega)
      refine Rn.run 5 (ls' := [_, _, _, _]) (st' := []) rfl ?_
      refine Rn.ls ?_ (ih (i + 1) (if (bo i == y) = true then a ||| 2 ^ i else a) (by omega) (by split <;> first | exact or64 hP (by omega) | exact hP))
      first | (rw [show (if (bo i == y) = true then a ||| 2 ^ i else a) = a ||| 2 ^ i from if_pos (by simpa using (y_eq (by omega) (by omega)).mp (Classical.not_not.mp e20)), ← bt_add hP (by omega)]; first | done | rfl) | (rw [show (if (bo i == y) = true then a ||| 2 ^ i else a) = a from if_neg (fun q => e20 ((y_eq (by omega) (by omega)).mpr (by simpa using q)))]; first | rfl | (rw [bt_or0 hP]; rfl))
    · have hi := ho.2 i (by omega)
      refine Rn.run 8 (ls' := [_, _, _, _]) (st' := []) rfl ?_
      refine Rn.ls ?_ (ih (i + 1) (if (bo i == y) = true then a ||| 2 ^ i else a) (by omega) (by split <;> first | exact or64 hP (by omega) | exact hP))
      first | (rw [show (if (bo i == y) = true then a ||| 2 ^ i else a) = a ||| 2 ^ i from if_pos (by simpa using (y_eq (by omega) (by omega)).mp (Classical.not_not.mp e20)), ← bt_add hP (by omega)]; first | done | rfl) | (rw [show (if (bo i == y) = true then a ||| 2 ^ i else a) = a from if_neg (fun q => e20 ((y_eq (by omega) (by omega)).mpr (by simpa using q)))]; first | rfl | (rw [bt_or0 hP]; rfl))
theorem c19 {ex : xO} {d : Nat} {c : Nat → Nat → Int} {b : Bool} {n : Nat} {kd bo wo : Nat → Nat} (ho : gok n kd bo wo) (hC : cG c b n kd bo wo) {y : Nat} (hy : y < 8) : An ex d 19 4 [xA (gid b), xI (y : Int)] (hp c b) (xI (bset (fun i => bo i == y) n : Nat), hp c b) := by
  refine Rn.run 4 (ls' := [_, _, _, _]) (st' := []) rfl ?_
  exact l19 ho hC hy n 0 0 (by omega) (by decide)
def fwo (wo : Nat → Nat) (s i a : Nat) : Nat := if s.testBit i = true then a + wo i else a
def wsum (wo : Nat → Nat) (n s : Nat) : Nat := xit (fwo wo s) n 0 0
theorem l20 {ex : xO} {d : Nat} {c : Nat → Nat → Int} {b : Bool} {n : Nat} {kd bo wo : Nat → Nat} (ho : gok n kd bo wo) (hC : cG c b n kd bo wo) {s : Nat} (hs : s < 64) : ∀ (m i : Nat) (a : Nat), i + m = n → Rn ex xt20 d 4 [xA (gid b), xI (s : Int), xI (a : Int), xI (i : Int)] [] (hp c b) (xI ((xit (fwo wo s) m i a : Nat) : Int), hp c b) := by
  intro m
  induction m with
  | zero =>
    intro i a hm
    have hn := ho.1
    refine Rn.run 2 (ls' := [_, _, _, _]) (st' := [_, _]) rfl ?_
    refine Rn.getI rfl (xS_g b) ?_
    rw [hC.1]
    refine Rn.ge2 rfl (fun e9 => ?_) (fun e9 => absurd e9 (by exact fun h => h ((y_ge (by omega) (by omega)).mpr (by omega))))
    refine Rn.run 1 (ls' := [_, _, _, _]) (st' := [_]) rfl ?_
    exact Rn.ret rfl rfl rfl rfl rfl rfl
  | succ m ih =>
    intro i a hm
    have hn := ho.1
    refine Rn.run 2 (ls' := [_, _, _, _]) (st' := [_, _]) rfl ?_
    refine Rn.getI rfl (xS_g b) ?_
    rw [hC.1]
    refine Rn.ge2 rfl (fun e9 => absurd e9 (by exact fun h => absurd ((y_ge (by omega) (by omega)).mp h) (by omega))) (fun e9 => ?_)
    refine Rn.run 6 (ls' := [_, _, _, _]) (st' := [_, _]) rfl ?_
    rw [bt_has s hs i (by omega)]
    refine Rn.run 1 (ls' := [_, _, _, _]) (st' := [_, _, _]) rfl ?_
    refine Rn.getR rfl (xS_g b) (xR_g b).2.2 ?_
    refine Rn.run 1 (ls' := [_, _, _, _]) (st' := [_, _, _, _]) rfl ?_
    refine Rn.ald rfl (xS_g3 b) (i) (x_wn (by omega)) (by omega) ?_
    rw [(hC.2.2 i (by omega)).2.2]
    refine Rn.run 5 (ls' := [_, _, _, _]) (st' := []) rfl ?_
    refine Rn.ls ?_ (ih (i + 1) (fwo wo s i a) (by omega))
    unfold fwo
    by_cases ht : s.testBit i = true
    · rw [if_pos ht, if_pos ht, Int.one_mul]; rfl
    · rw [if_neg ht, if_neg ht, Int.zero_mul, Int.add_zero]; rfl
theorem c20 {ex : xO} {d : Nat} {c : Nat → Nat → Int} {b : Bool} {n : Nat} {kd bo wo : Nat → Nat} (ho : gok n kd bo wo) (hC : cG c b n kd bo wo) {s : Nat} (hs : s < 64) : An ex d 20 4 [xA (gid b), xI (s : Int)] (hp c b) (xI (wsum wo n s : Nat), hp c b) := by
  refine Rn.run 4 (ls' := [_, _, _, _]) (st' := []) rfl ?_
  exact l20 ho hC hs n 0 0 (by omega)
theorem c21 {ex : xO} {d : Nat} {c : Nat → Nat → Int} {b : Bool} {n : Nat} {kd bo wo : Nat → Nat} (ho : gok n kd bo wo) (hC : cG c b n kd bo wo) {i s : Nat} (hi : i < n) (hs : s < 64) : An ex (d + 1) 21 3 [xA (gid b), xI (i : Int), xI (s : Int)] (hp c b) (xI (if can kd n s i = true then 1 else 0), hp c b) := by
  have hn := ho.1
  have hk := ho.2 i hi
  have hcm : cm kd n < 64 := bset_64 _ hn
  have hx : cm kd n ^^^ (cm kd n &&& s) < 64 := Nat.xor_lt_two_pow (n := 6) hcm (Nat.and_lt_two_pow _ hs)
  have eb := bt_has s hs i (by omega)
  have hw : 0 ≤ w32 (i : Int) ∧ w32 (i : Int) < w32 (n : Int) := by rw [x_wn (by omega), x_wn (by omega)]; omega
  by_cases ht : s.testBit i = true
  · rw [if_pos ht] at eb
    rw [if_neg (show ¬ can kd n s i = true by simp [can, ht])]
    refine Rn.run 2 (ls' := [_, _, _]) (st' := [_, _]) rfl ?_
    refine Rn.getI rfl (xS_g b) ?_
    rw [hC.1]
    refine Rn.call rfl rfl rfl rfl rfl (c100) ?_
    refine Rn.eqB rfl (fun e8 => absurd e8 (by exact fun h => h hw)) (fun e8 => ?_)
    refine Rn.run 5 (ls' := [_, _, _]) (st' := [_]) rfl ?_
    rw [eb]
    refine Rn.run 1 (ls' := [_, _, _]) (st' := [_, _]) rfl ?_
    refine Rn.ne2 rfl (fun e17 => absurd e17 (by exact fun h => h rfl)) (fun e17 => ?_)
    refine Rn.run 1 (ls' := [_, _, _]) (st' := [_]) rfl ?_
    exact Rn.retZ rfl (Or.inl rfl) rfl
  · rw [if_neg ht] at eb
    have k5 : (w32 ((kd i : Nat) : Int) = w32 5) ↔ kd i = 5 := y_eq (i := 5) (by omega) (by omega)
    have kx : (w32 ((cm kd n ^^^ (cm kd n &&& s) : Nat) : Int) = 0) ↔ cm kd n ^^^ (cm kd n &&& s) = 0 := y_eq0 (by omega)
    by_cases g5 : kd i = 5
    · by_cases gx : cm kd n ^^^ (cm kd n &&& s) = 0
      · rw [if_pos (show can kd n s i = true by simp [can, ht, gx])]
        refine Rn.run 2 (ls' := [_, _, _]) (st' := [_, _]) rfl ?_
        refine Rn.getI rfl (xS_g b) ?_
        rw [hC.1]
        refine Rn.call rfl rfl rfl rfl rfl (c100) ?_
        refine Rn.eqB rfl (fun e8 => absurd e8 (by exact fun h => h hw)) (fun e8 => ?_)
        refine Rn.run 5 (ls' := [_, _, _]) (st' := [_]) rfl ?_
        rw [eb]
        refine Rn.run 1 (ls' := [_, _, _]) (st' := [_, _]) rfl ?_
        refine Rn.ne2 rfl (fun e17 => ?_) (fun e17 => absurd e17 (by exact fun h => h (by decide)))
        refine Rn.run 1 (ls' := [_, _, _]) (st' := [_]) rfl ?_
        refine Rn.getR rfl (xS_g b) (xR_g b).1 ?_
        refine Rn.run 1 (ls' := [_, _, _]) (st' := [_, _]) rfl ?_
        refine Rn.ald rfl (xS_g1 b) (i) (x_wn (by omega)) (by omega) ?_
        rw [(hC.2.2 i hi).1]
        refine Rn.run 1 (ls' := [_, _, _]) (st' := [_, _]) rfl ?_
        refine Rn.ne2 rfl (fun e29 => absurd e29 (by exact fun h => h (k5.mpr g5))) (fun e29 => ?_)
        refine Rn.run 1 (ls' := [_, _, _]) (st' := [_]) rfl ?_
        refine Rn.getI rfl (xS_g b) ?_
        rw [hC.2.1]
        refine Rn.run 4 (ls' := [_, _, _]) (st' := [_]) rfl ?_
        rw [bt_andn _ hcm s hs]
        refine Rn.ne0 rfl (fun e40 => absurd e40 (by exact fun h => h (kx.mpr gx))) (fun e40 => ?_)
        refine Rn.run 2 (ls' := [_, _, _]) (st' := [_]) rfl ?_
        exact Rn.retZ rfl (Or.inr rfl) rfl
      · rw [if_neg (show ¬ can kd n s i = true by simp [can, ht, g5, gx])]
        refine Rn.run 2 (ls' := [_, _, _]) (st' := [_, _]) rfl ?_
        refine Rn.getI rfl (xS_g b) ?_
        rw [hC.1]
        refine Rn.call rfl rfl rfl rfl rfl (c100) ?_
        refine Rn.eqB rfl (fun e8 => absurd e8 (by exact fun h => h hw)) (fun e8 => ?_)
        refine Rn.run 5 (ls' := [_, _, _]) (st' := [_]) rfl ?_
        rw [eb]
        refine Rn.run 1 (ls' := [_, _, _]) (st' := [_, _]) rfl ?_
        refine Rn.ne2 rfl (fun e17 => ?_) (fun e17 => absurd e17 (by exact fun h => h (by decide)))
        refine Rn.run 1 (ls' := [_, _, _]) (st' := [_]) rfl ?_
        refine Rn.getR rfl (xS_g b) (xR_g b).1 ?_
        refine Rn.run 1 (ls' := [_, _, _]) (st' := [_, _]) rfl ?_
        refine Rn.ald rfl (xS_g1 b) (i) (x_wn (by omega)) (by omega) ?_
        rw [(hC.2.2 i hi).1]
        refine Rn.run 1 (ls' := [_, _, _]) (st' := [_, _]) rfl ?_
        refine Rn.ne2 rfl (fun e29 => absurd e29 (by exact fun h => h (k5.mpr g5))) (fun e29 => ?_)
        refine Rn.run 1 (ls' := [_, _, _]) (st' := [_]) rfl ?_
        refine Rn.getI rfl (xS_g b) ?_
        rw [hC.2.1]
        refine Rn.run 4 (ls' := [_, _, _]) (st' := [_]) rfl ?_
        rw [bt_andn _ hcm s hs]
        refine Rn.ne0 rfl (fun e40 => ?_) (fun e40 => absurd e40 (by exact fun h => h (fun q => gx (kx.mp q))))
        refine Rn.run 1 (ls' := [_, _, _]) (st' := [_]) rfl ?_
        exact Rn.retZ rfl (Or.inl rfl) rfl
    · rw [if_pos (show can kd n s i = true by simp [can, ht, g5])]
      refine Rn.run 2 (ls' := [_, _, _]) (st' := [_, _]) rfl ?_
      refine Rn.getI rfl (xS_g b) ?_
      rw [hC.1]
      refine Rn.call rfl rfl rfl rfl rfl (c100) ?_
      refine Rn.eqB rfl (fun e8 => absurd e8 (by exact fun h => h hw)) (fun e8 => ?_)
      refine Rn.run 5 (ls' := [_, _, _]) (st' := [_]) rfl ?_
      rw [eb]
      refine Rn.run 1 (ls' := [_, _, _]) (st' := [_, _]) rfl ?_
      refine Rn.ne2 rfl (fun e17 => ?_) (fun e17 => absurd e17 (by exact fun h => h (by decide)))
      refine Rn.run 1 (ls' := [_, _, _]) (st' := [_]) rfl ?_
      refine Rn.getR rfl (xS_g b) (xR_g b).1 ?_
      refine Rn.run 1 (ls' := [_, _, _]) (st' := [_, _]) rfl ?_
      refine Rn.ald rfl (xS_g1 b) (i) (x_wn (by omega)) (by omega) ?_
      rw [(hC.2.2 i hi).1]
      refine Rn.run 1 (ls' := [_, _, _]) (st' := [_, _]) rfl ?_
      refine Rn.ne2 rfl (fun e29 => ?_) (fun e29 => absurd e29 (by exact fun h => h (fun q => g5 (k5.mp q))))
      refine Rn.run 2 (ls' := [_, _, _]) (st' := [_]) rfl ?_
      exact Rn.retZ rfl (Or.inr rfl) rfl
theorem l22 {ex : xO} {d : Nat} {c : Nat → Nat → Int} {b : Bool} {n : Nat} {kd bo wo : Nat → Nat} (ho : gok n kd bo wo) (hC : cG c b n kd bo wo) {s : Nat} (hs : s < 64) : ∀ (m i : Nat) (a : Nat), i + m = n → a < 64 → Rn ex xt22 (d + 2) 4 [xA (gid b), xI (s : Int), xI (a : Int), xI (i : Int)] [] (hp c b) (xI ((xit (fun i z => if can kd n s i = true then z ||| 2 ^ i else z) m i a : Nat) : Int), hp c b) := by
  intro m
  induction m with
  | zero =>
    intro i a hm hP
    have hn := ho.1
    refine Rn.run 2 (ls' := [_, _, _, _]) (st' := [_, _]) rfl ?_
    refine Rn.getI rfl (xS_g b) ?_
    rw [hC.1]
    refine Rn.ge2 rfl (fun e9 => ?_) (fun e9 => absurd e9 (by exact fun h => h ((y_ge (by omega) (by omega)).mpr (by omega))))
    refine Rn.run 1 (ls' := [_, _, _, _]) (st' := [_]) rfl ?_
    exact Rn.ret rfl rfl rfl rfl rfl rfl
  | succ m ih =>
    intro i a hm hP
    have hn := ho.1
    refine Rn.run 2 (ls' := [_, _, _, _]) (st' := [_, _]) rfl ?_
    refine Rn.getI rfl (xS_g b) ?_
    rw [hC.1]
    refine Rn.ge2 rfl (fun e9 => absurd e9 (by exact fun h => absurd ((y_ge (by omega) (by omega)).mp h) (by omega))) (fun e9 => ?_)
    refine Rn.run 4 (ls' := [_, _, _, _]) (st' := [_, _, _, _]) rfl ?_
    refine Rn.callV rfl (x_sv (xS_g b)) rfl rfl rfl (c21 ho hC (by omega) hs) ?_
    refine Rn.eqB rfl (fun e19 => ?_) (fun e19 => ?_)
    · refine Rn.run 5 (ls' := [_, _, _, _]) (st' := []) rfl ?_
      refine Rn.ls ?_ (ih (i + 1) (if can kd n s i = true then a ||| 2 ^ i else a) (by omega) (by split <;> first | exact or64 hP (by omega) | exact hP))
      first | (rw [show (if can kd n s i = true then a ||| 2 ^ i else a) = a ||| 2 ^ i from if_pos (e19), ← bt_add hP (by omega)]; first | done | rfl) | (rw [show (if can kd n s i = true then a ||| 2 ^ i else a) = a from if_neg (e19)]; first | rfl | (rw [bt_or0 hP]; rfl))
    · refine Rn.run 8 (ls' := [_, _, _, _]) (st' := []) rfl ?_
      refine Rn.ls ?_ (ih (i + 1) (if can kd n s i = true then a ||| 2 ^ i else a) (by omega) (by split <;> first | exact or64 hP (by omega) | exact hP))
      first | (rw [show (if can kd n s i = true then a ||| 2 ^ i else a) = a ||| 2 ^ i from if_pos (e19), ← bt_add hP (by omega)]; first | done | rfl) | (rw [show (if can kd n s i = true then a ||| 2 ^ i else a) = a from if_neg (e19)]; first | rfl | (rw [bt_or0 hP]; rfl))
theorem c22 {ex : xO} {d : Nat} {c : Nat → Nat → Int} {b : Bool} {n : Nat} {kd bo wo : Nat → Nat} (ho : gok n kd bo wo) (hC : cG c b n kd bo wo) {s : Nat} (hs : s < 64) : An ex (d + 2) 22 4 [xA (gid b), xI (s : Int)] (hp c b) (xI (bset (can kd n s) n : Nat), hp c b) := by
  refine Rn.run 4 (ls' := [_, _, _, _]) (st' := []) rfl ?_
  exact l22 ho hC hs n 0 0 (by omega) (by decide)
theorem l23 {ex : xO} {d : Nat} {c : Nat → Nat → Int} {b : Bool} {n : Nat} {kd bo wo : Nat → Nat} (ho : gok n kd bo wo) (hC : cG c b n kd bo wo) {s y : Nat} (hs : s < 64) (hy : y < 8) : ∀ (m i : Nat) (a : Nat), i + m = n → Rn ex xt23 (d + 1) 5 [xA (gid b), xI (y : Int), xI (s : Int), xI (a : Int), xI (i : Int)] [] (hp c b) (xI ((xit (fhn kd bo s y) m i a : Nat) : Int), hp c b) := by
  intro m
  induction m with
  | zero =>
    intro i a hm
    have hn := ho.1
    refine Rn.run 2 (ls' := [_, _, _, _, _]) (st' := [_, _]) rfl ?_
    refine Rn.getI rfl (xS_g b) ?_
    rw [hC.1]
    refine Rn.ge2 rfl (fun e11 => ?_) (fun e11 => absurd e11 (by exact fun h => h ((y_ge (by omega) (by omega)).mpr (by omega))))
    refine Rn.run 1 (ls' := [_, _, _, _, _]) (st' := [_]) rfl ?_
    exact Rn.ret rfl rfl rfl rfl rfl rfl
  | succ m ih =>
    intro i a hm
    have hn := ho.1
    refine Rn.run 2 (ls' := [_, _, _, _, _]) (st' := [_, _]) rfl ?_
    refine Rn.getI rfl (xS_g b) ?_
    rw [hC.1]
    refine Rn.ge2 rfl (fun e11 => absurd e11 (by exact fun h => absurd ((y_ge (by omega) (by omega)).mp h) (by omega))) (fun e11 => ?_)
    refine Rn.run 1 (ls' := [_, _, _, _, _]) (st' := [_]) rfl ?_
    refine Rn.getR rfl (xS_g b) (xR_g b).2.1 ?_
    refine Rn.run 1 (ls' := [_, _, _, _, _]) (st' := [_, _]) rfl ?_
    refine Rn.ald rfl (xS_g2 b) (i) (x_wn (by omega)) (by omega) ?_
    rw [(hC.2.2 i (by omega)).2.1]
    refine Rn.run 1 (ls' := [_, _, _, _, _]) (st' := [_, _]) rfl ?_
    refine Rn.ne2 rfl (fun e22 => ?_) (fun e22 => ?_)
    · have hi := ho.2 i (by omega)
      refine Rn.run 2 (ls' := [_, _, _, _, _]) (st' := []) rfl ?_
      refine Rn.ls ?_ (ih (i + 1) (fhn kd bo s y i a) (by omega))
      first | (rw [show fhn kd bo s y i a = a from if_neg (fun q => e22 ((y_eq (by omega) (by omega)).mpr q.1))]; rfl) | (rw [show fhn kd bo s y i a = a from if_neg (fun q => by rw [q.2] at e31; cases e31)]; rfl) | (rw [show fhn kd bo s y i a = a + shn (kd i) from if_pos ⟨(y_eq (by omega) (by omega)).mp (Classical.not_not.mp e22), by simpa using e31⟩]; rfl)
    · have hi := ho.2 i (by omega)
      refine Rn.run 5 (ls' := [_, _, _, _, _]) (st' := [_]) rfl ?_
      rw [bt_has s hs i (by omega)]
      refine Rn.neB rfl (fun e31 => ?_) (fun e31 => ?_)
      · refine Rn.run 2 (ls' := [_, _, _, _, _]) (st' := []) rfl ?_
        refine Rn.ls ?_ (ih (i + 1) (fhn kd bo s y i a) (by omega))
        first | (rw [show fhn kd bo s y i a = a from if_neg (fun q => e22 ((y_eq (by omega) (by omega)).mpr q.1))]; rfl) | (rw [show fhn kd bo s y i a = a from if_neg (fun q => by rw [q.2] at e31; cases e31)]; rfl) | (rw [show fhn kd bo s y i a = a + shn (kd i) from if_pos ⟨(y_eq (by omega) (by omega)).mp (Classical.not_not.mp e22), by simpa using e31⟩]; rfl)
      · refine Rn.run 2 (ls' := [_, _, _, _, _]) (st' := [_, _]) rfl ?_
        refine Rn.getR rfl (xS_g b) (xR_g b).1 ?_
        refine Rn.run 1 (ls' := [_, _, _, _, _]) (st' := [_, _, _]) rfl ?_
        refine Rn.ald rfl (xS_g1 b) (i) (x_wn (by omega)) (by omega) ?_
        rw [(hC.2.2 i (by omega)).1]
        refine Rn.call rfl rfl rfl rfl rfl (c29 (by have := ho.2 i (by omega); omega)) ?_
        rw [shn_c]
        refine Rn.run 4 (ls' := [_, _, _, _, _]) (st' := []) rfl ?_
        refine Rn.ls ?_ (ih (i + 1) (fhn kd bo s y i a) (by omega))
        first | (rw [show fhn kd bo s y i a = a from if_neg (fun q => e22 ((y_eq (by omega) (by omega)).mpr q.1))]; rfl) | (rw [show fhn kd bo s y i a = a from if_neg (fun q => by rw [q.2] at e31; cases e31)]; rfl) | (rw [show fhn kd bo s y i a = a + shn (kd i) from if_pos ⟨(y_eq (by omega) (by omega)).mp (Classical.not_not.mp e22), by simpa using e31⟩]; rfl)
theorem c23 {ex : xO} {d : Nat} {c : Nat → Nat → Int} {b : Bool} {n : Nat} {kd bo wo : Nat → Nat} (ho : gok n kd bo wo) (hC : cG c b n kd bo wo) {s y : Nat} (hs : s < 64) (hy : y < 8) : An ex (d + 1) 23 5 [xA (gid b), xI (y : Int), xI (s : Int)] (hp c b) (xI (hnt kd bo n s y : Nat), hp c b) := by
  refine Rn.run 4 (ls' := [_, _, _, _, _]) (st' := []) rfl ?_
  exact l23 ho hC hs hy n 0 0 (by omega)
theorem c24 {ex : xO} {d : Nat} {c : Nat → Nat → Int} {b : Bool} {n : Nat} {kd bo wo : Nat → Nat} (ho : gok n kd bo wo) (hC : cG c b n kd bo wo) {i v : Nat} (hi : i < n) (hv : v ≤ 9) : An ex (d + 3) 24 3 [xA (gid b), xI (i : Int), xI (v : Int)] (hp c b) (xI (ans (kd i) (wo i) v : Nat), hp c b) := by
  have hn := ho.1
  have hk := ho.2 i hi
  rw [← ans_c (k := kd i) (w := wo i) (v := v) (by omega) hv]
  refine Rn.run 1 (ls' := [_, _, _]) (st' := [_]) rfl ?_
  refine Rn.getR rfl (xS_g b) (xR_g b).1 ?_
  refine Rn.run 1 (ls' := [_, _, _]) (st' := [_, _]) rfl ?_
  refine Rn.ald rfl (xS_g1 b) (i) (x_wn (by omega)) (by omega) ?_
  rw [(hC.2.2 i hi).1]
  refine Rn.run 1 (ls' := [_, _, _]) (st' := [_, _]) rfl ?_
  refine Rn.getR rfl (xS_g b) (xR_g b).2.2 ?_
  refine Rn.run 1 (ls' := [_, _, _]) (st' := [_, _, _]) rfl ?_
  refine Rn.ald rfl (xS_g3 b) (i) (x_wn (by omega)) (by omega) ?_
  rw [(hC.2.2 i hi).2.2]
  refine Rn.run 1 (ls' := [_, _, _]) (st' := [_, _, _]) rfl ?_
  refine Rn.call rfl rfl rfl rfl rfl (c30 (by omega) (by omega) (by omega)) ?_
  exact Rn.ret rfl rfl rfl rfl rfl rfl
theorem c25 {ex : xO} {d : Nat} {c : Nat → Nat → Int} {b : Bool} {n : Nat} {kd bo wo : Nat → Nat} (ho : gok n kd bo wo) (hC : cG c b n kd bo wo) {i : Nat} {x : Int} {L : Nat → Nat} (hi : i < n) (hL : pk x L) (h9 : l9 L) : An ex (d + 4) 25 3 [xA (gid b), xI (i : Int), xI x] (hp c b) (xI (xwith x (bo i) (ans (kd i) (wo i) (L (bo i)))), hp c b) := by
  have hn := ho.1
  have hk := ho.2 i hi
  refine Rn.run 2 (ls' := [_, _, _]) (st' := [_, _]) rfl ?_
  refine Rn.getR rfl (xS_g b) (xR_g b).2.1 ?_
  refine Rn.run 1 (ls' := [_, _, _]) (st' := [_, _, _]) rfl ?_
  refine Rn.ald rfl (xS_g2 b) (i) (x_wn (by omega)) (by omega) ?_
  rw [(hC.2.2 i hi).2.1]
  refine Rn.run 4 (ls' := [_, _, _]) (st' := [_, _, _, _, _, _]) rfl ?_
  refine Rn.getR rfl (xS_g b) (xR_g b).2.1 ?_
  refine Rn.run 1 (ls' := [_, _, _]) (st' := [_, _, _, _, _, _, _]) rfl ?_
  refine Rn.ald rfl (xS_g2 b) (i) (x_wn (by omega)) (by omega) ?_
  rw [(hC.2.2 i hi).2.1]
  refine Rn.call rfl rfl rfl rfl rfl (c0 (by omega)) ?_
  rw [hL (bo i) (by omega)]
  refine Rn.callV rfl (x_sv (xS_g b)) rfl rfl rfl (c24 ho hC hi (h9 _ (by omega))) ?_
  refine Rn.call rfl rfl rfl rfl rfl (c1) ?_
  exact Rn.ret rfl rfl rfl rfl rfl rfl
def fbl (kd bo : Nat → Nat) (n s m : Nat) (L : Nat → Nat) (i : Nat) (y : Int) : Int := xwith y i ((ltr (hnt kd bo n s i) (L i) m : Nat) : Int)
theorem lv_0 : ∀ j, j < 8 → lv 0 j = 0 := by decide +kernel
theorem fbl_pk {kd bo : Nat → Nat} {n s m : Nat} {L : Nat → Nat} (h9 : l9 L) : pk (xit (fbl kd bo n s m L) 8 0 0) (mo kd bo n s m L) := by
  have key : ∀ k i y, i + k = 8 → (∀ j, j < i → lv y j = ((mo kd bo n s m L j : Nat) : Int)) → ∀ j, j < 8 → lv (xit (fbl kd bo n s m L) k i y) j = ((mo kd bo n s m L j : Nat) : Int) := by
    intro k
    induction k with
    | zero => intro i y h1 h2 j hj; exact h2 j (by omega)
    | succ k ih =>
      intro i y h1 h2
      refine ih (i + 1) _ (by omega) (fun j hj => ?_)
      have h9' := mo_9 (kd := kd) (bo := bo) (n := n) (s := s) (m := m) h9 i (by omega)
      unfold fbl
      rw [lv_with y (by omega) (by omega) (show ltr (hnt kd bo n s i) (L i) m < 16 by have : ltr (hnt kd bo n s i) (L i) m ≤ 9 := h9'; omega)]
      by_cases e : j = i
      · subst e; rw [if_pos rfl]; rfl
      · rw [if_neg e]; exact h2 j (by omega)
  exact key 8 0 0 rfl (fun j hj => absurd hj (by omega))
theorem l26 {ex : xO} {d : Nat} {c : Nat → Nat → Int} {b : Bool} {n : Nat} {kd bo wo : Nat → Nat} (ho : gok n kd bo wo) (hC : cG c b n kd bo wo) {s k : Nat} {x : Int} {L : Nat → Nat} (hs : s < 64) (hk : k ≤ 100) (hL : pk x L) (h9 : l9 L) : ∀ (m i : Nat) (a : Int) (u : xV), i + m = 8 → Rn ex xt26 (d + 2) 6 [xA (gid b), xI x, xI (s : Int), xI (k : Int), xI a, xI (i : Int), u] [] (hp c b) (xI (xit (fbl kd bo n s k L) m i a), hp c b) := by
  intro m
  induction m with
  | zero =>
    intro i a u hm
    have hn := ho.1
    refine Rn.run 2 (ls' := [_, _, _, _, _, _, _]) (st' := [_, _]) rfl ?_
    refine Rn.ge2 rfl (fun e10 => ?_) (fun e10 => absurd e10 (by exact fun h => h ((y_ge (n := 8) (by omega) (by omega)).mpr (by omega))))
    refine Rn.run 1 (ls' := [_, _, _, _, _, _, _]) (st' := [_]) rfl ?_
    exact Rn.ret rfl rfl rfl rfl rfl rfl
  | succ m ih =>
    intro i a u hm
    have hn := ho.1
    refine Rn.run 2 (ls' := [_, _, _, _, _, _, _]) (st' := [_, _]) rfl ?_
    refine Rn.ge2 rfl (fun e10 => absurd e10 (by exact fun h => absurd ((y_ge (n := 8) (by omega) (by omega)).mp h) (by omega))) (fun e10 => ?_)
    refine Rn.run 2 (ls' := [_, _, _, _, _, _, _]) (st' := [_, _]) rfl ?_
    refine Rn.call rfl rfl rfl rfl rfl (c0 (by omega)) ?_
    rw [hL i (by omega)]
    refine Rn.run 7 (ls' := [_, _, _, _, _, _, _]) (st' := [_, _, _, _, _, _]) rfl ?_
    refine Rn.callV rfl (x_sv (xS_g b)) rfl rfl rfl (c23 ho hC hs (by omega)) ?_
    refine Rn.run 1 (ls' := [_, _, _, _, _, _, _]) (st' := [_, _, _, _, _]) rfl ?_
    refine Rn.call rfl rfl rfl rfl rfl (c5 (by have := hnt_le kd bo n s i; omega) (h9 i (by omega)) hk) ?_
    refine Rn.call rfl rfl rfl rfl rfl (c1) ?_
    refine Rn.run 3 (ls' := [_, _, _, _, _, _, _]) (st' := []) rfl ?_
    exact ih (i + 1) (fbl kd bo n s k L i a) _ (by omega)
theorem c26 {ex : xO} {d : Nat} {c : Nat → Nat → Int} {b : Bool} {n : Nat} {kd bo wo : Nat → Nat} (ho : gok n kd bo wo) (hC : cG c b n kd bo wo) {s k : Nat} {x : Int} {L : Nat → Nat} (hs : s < 64) (hk : k ≤ 100) (hL : pk x L) (h9 : l9 L) : An ex (d + 2) 26 7 [xA (gid b), xI x, xI (s : Int), xI (k : Int)] (hp c b) (xI (xit (fbl kd bo n s k L) 8 0 0), hp c b) := by
  refine Rn.run 4 (ls' := [_, _, _, _, _, _, _]) (st' := []) rfl ?_
  exact l26 ho hC hs hk hL h9 8 0 0 _ rfl
