-- green
theorem xR_sw (b : Bool) : xup (xup (xR b) 0 8 (some (gid (!b)))) 0 9 (some (gid b)) = xR (!b) := by
  cases b
  all_goals
    funext a k
    match a with
    | 0 =>
      match k with
      | 0 => rfl
      | 1 => rfl
      | 2 => rfl
      | 3 => rfl
      | 4 => rfl
      | 5 => rfl
      | 6 => rfl
      | 7 => rfl
      | 8 => rfl
      | 9 => rfl
      | k + 10 => rfl
    | 1 => rfl
    | 2 => rfl
    | 3 => rfl
    | 4 => rfl
    | 5 => rfl
    | 6 => rfl
    | 7 => rfl
    | 8 => rfl
    | 9 => rfl
    | 10 => rfl
    | 11 => rfl
    | 12 => rfl
    | 13 => rfl
    | 14 => rfl
    | 15 => rfl
    | 16 => rfl
    | 17 => rfl
    | 18 => rfl
    | 19 => rfl
    | 20 => rfl
    | 21 => rfl
    | 22 => rfl
    | 23 => rfl
    | 24 => rfl
    | 25 => rfl
    | 26 => rfl
    | 27 => rfl
    | 28 => rfl
    | 29 => rfl
    | 30 => rfl
    | 31 => rfl
    | 32 => rfl
    | 33 => rfl
    | 34 => rfl
    | 35 => rfl
    | 36 => rfl
    | 37 => rfl
    | 38 => rfl
    | 39 => rfl
    | 40 => rfl
    | 41 => rfl
    | 42 => rfl
    | 43 => rfl
    | 44 => rfl
    | 45 => rfl
    | 46 => rfl
    | 47 => rfl
    | 48 => rfl
    | 49 => rfl
    | 50 => rfl
    | 51 => rfl
    | 52 => rfl
    | 53 => rfl
    | 54 => rfl
    | a + 55 => rfl
theorem x66_sw {ex : xO} {d : Nat} {b : Bool} {c : Nat → Nat → Int} {t : Nat} {w u : xV} {o : xV × xH} (k : Rn ex xt66 d 55 [xA 0, xI (t : Int), xI 0, xA (gid b), u] [] (hp c (!b)) o) : Rn ex xt66 d 37 [xA 0, xI (t : Int), xI 0, w, u] [] (hp c b) o := by
  have e : hp c (!b) = (71, 3590, 0, xS, c, xup (xup (xR b) 0 8 (some (gid (!b)))) 0 9 (some (gid b))) := by rw [xR_sw]
  rw [e] at k
  cases b
  · exact Rn.run 10 rfl k
  · exact Rn.run 10 rfl k
theorem c7 {ex : xO} {d : Nat} {b : Bool} {c : Nat → Nat → Int} {x : Int} : An ex d 7 2 [xA 7, xI x] (hp c b) (xU, hp (xup (xup (xup (xup c 7 0 0) 8 0 x) 9 0 0) 10 0 0) b) := by
  refine Rn.run 7 (ls' := [_, _]) (st' := [_, _, _]) rfl ?_
  refine Rn.ast rfl ⟨by decide, rfl⟩ (0) rfl (by decide) ?_
  refine Rn.run 4 (ls' := [_, _]) (st' := [_, _, _]) rfl ?_
  refine Rn.ast rfl ⟨by decide, rfl⟩ (0) rfl (by decide) ?_
  refine Rn.run 4 (ls' := [_, _]) (st' := [_, _, _]) rfl ?_
  refine Rn.ast rfl ⟨by decide, rfl⟩ (0) rfl (by decide) ?_
  exact Rn.ret rfl rfl rfl rfl rfl rfl
theorem x66_t {ex : xO} {d : Nat} {b : Bool} {c : Nat → Nat → Int} {t n g0 : Nat} {u : xV} (h0 : c (gid b) 0 = (n : Nat)) : Rn ex xt66 (d + 1) 55 [xA 0, xI (t : Int), xI 0, xA g0, u] [] (hp c b) (xI (n : Int), hp (xup (xup (xup (xup (xup (xup (xup c 7 0 0) 8 0 (c (gid b) 1)) 9 0 0) 10 0 0) 42 0 (-1)) 46 0 (-1)) 50 0 (-1)) b) := by
  have hg := gid_in b
  refine Rn.run 3 (ls' := [_, _, _, _, _]) (st' := [_, _]) rfl ?_
  refine Rn.getR rfl ⟨by decide, rfl, rfl⟩ (j := gid b) (rfl) ?_
  refine Rn.getI rfl (xS_g b) ?_
  refine Rn.call rfl rfl rfl rfl rfl (c7) ?_
  refine Rn.run 4 (ls' := [_, _, _, _, _]) (st' := [_, _]) rfl ?_
  refine Rn.ge2 rfl (fun e75 => absurd e75 (by decide)) (fun e75 => ?_)
  refine Rn.run 3 (ls' := [_, _, _, _, _]) (st' := [_, _]) rfl ?_
  refine Rn.aald rfl ⟨by decide, rfl, by decide, by decide⟩ (0) rfl (by decide) rfl ?_
  refine Rn.run 6 (ls' := [_, _, _, _, _]) (st' := [_, _]) rfl ?_
  refine Rn.ge2 rfl (fun e75 => absurd e75 (by decide)) (fun e75 => ?_)
  refine Rn.run 3 (ls' := [_, _, _, _, _]) (st' := [_, _]) rfl ?_
  refine Rn.aald rfl ⟨by decide, rfl, by decide, by decide⟩ (1) rfl (by decide) rfl ?_
  refine Rn.run 6 (ls' := [_, _, _, _, _]) (st' := [_, _]) rfl ?_
  refine Rn.ge2 rfl (fun e75 => absurd e75 (by decide)) (fun e75 => ?_)
  refine Rn.run 3 (ls' := [_, _, _, _, _]) (st' := [_, _]) rfl ?_
  refine Rn.aald rfl ⟨by decide, rfl, by decide, by decide⟩ (2) rfl (by decide) rfl ?_
  refine Rn.run 6 (ls' := [_, _, _, _, _]) (st' := [_, _]) rfl ?_
  refine Rn.ge2 rfl (fun e75 => ?_) (fun e75 => absurd e75 (by decide))
  refine Rn.run 1 (ls' := [_, _, _, _, _]) (st' := [_]) rfl ?_
  refine Rn.getR rfl ⟨by decide, rfl, rfl⟩ (j := gid b) (rfl) ?_
  refine Rn.getI rfl (xS_g b) ?_
  rw [xup_n _ _ (by omega), xup_n _ _ (by omega), xup_n _ _ (by omega), xup_n _ _ (by omega), xup_n _ _ (by omega), xup_n _ _ (by omega), xup_n _ _ (by omega), h0]
  exact Rn.ret rfl rfl rfl rfl rfl rfl
theorem k66_f {ex : xO} (hL : ex 1 = (6, xlet)) {d : Nat} {b : Bool} {c : Nat → Nat → Int} {t S : Nat} (ht : t < 4) (i2 : iTxt c) (hS : c 58 t = (S : Nat)) (hf : (rdr S (fun k => c 59 (60 * t + k))).1 ≠ -9) (hr9 : w32 (rdr S (fun k => c 59 (60 * t + k))).1 = (rdr S (fun k => c 59 (60 * t + k))).1) : ∃ e, An ex (d + 20) 66 5 [xA 0, xI (t : Int)] (hp c b) (xI (-4), hp e b) ∧ ∀ a z, a ≠ 3 → ¬ (gid (!b) ≤ a ∧ a ≤ gid (!b) + 3) → e a z = c a z := by
  have t31 : t < 2147483648 := by omega
  have S31 : S < 2147483648 := by have := (i2 t ht).2.2.1; omega
  obtain ⟨S60, hx, hb⟩ := iTxt_tx i2 ht hS
  have S0 : ¬ w32 (c (34 + 2 * t) 0) < 0 := by rw [hx.1, x_wn S31]; omega
  obtain ⟨e, r, fr, -⟩ := c41 (d := d + 14) (b := b) hL ht S60 hb hx
  refine ⟨e, ?_, fr⟩
  refine Rn.run 2 (ls' := [_, _, _, _, _]) (st' := [_, _]) rfl ?_
  refine Rn.call rfl rfl rfl rfl rfl (c108_ok t ht (x_wn t31) S0) ?_
  refine Rn.run 2 (ls' := [_, _, _, _, _]) (st' := [_]) rfl ?_
  refine Rn.eq0 rfl (fun e7 => ?_) (fun e7 => absurd e7 (by decide))
  refine Rn.run 5 (ls' := [_, _, _, _, _]) (st' := [_, _, _]) rfl ?_
  refine Rn.aald rfl ⟨by decide, rfl, by decide, by decide⟩ (t) (x_wn (n := t) (by omega)) (by omega) (xR_txt ht).1 ?_
  refine Rn.run 1 (ls' := [_, _, _, _, _]) (st' := [_, _, _]) rfl ?_
  refine Rn.getR rfl ⟨by decide, rfl, rfl⟩ (j := gid (!b)) (by cases b <;> rfl) ?_
  refine Rn.call rfl rfl rfl rfl rfl (r) ?_
  refine Rn.run 1 (ls' := [_, _, _, _, _]) (st' := [_, _]) rfl ?_
  refine Rn.eq2 rfl (fun e31 => absurd e31 (by rw [hr9]; exact hf)) (fun e31 => ?_)
  refine Rn.run 1 (ls' := [_, _, _, _, _]) (st' := [_]) rfl ?_
  exact Rn.ret rfl rfl rfl rfl rfl rfl
theorem k66_o {ex : xO} (hL : ex 1 = (6, xlet)) {d : Nat} {b : Bool} {c : Nat → Nat → Int} {t S : Nat} (ht : t < 4) (i2 : iTxt c) (hS : c 58 t = (S : Nat)) (hf : (rdr S (fun k => c 59 (60 * t + k))).1 = -9) : ∃ e, An ex (d + 20) 66 5 [xA 0, xI (t : Int)] (hp c b) (xI ((rdr S (fun k => c 59 (60 * t + k))).2.1 : Nat), hp e (!b)) ∧ (∀ a z, a ≠ 3 → ¬ (gid (!b) ≤ a ∧ a ≤ gid (!b) + 3) → ¬ (7 ≤ a ∧ a ≤ 10) → a ≠ 42 → a ≠ 46 → a ≠ 50 → e a z = c a z) ∧ DG e (gid (!b)) (rdr S (fun k => c 59 (60 * t + k))).2.1 (rdr S (fun k => c 59 (60 * t + k))).2.2 ∧ pk (e 8 0) (fun j => fgv (fun k => c 59 (60 * t + k)) (sk S (fun k => c 59 (60 * t + k)) 0 + 1 + j)) ∧ e 7 0 = 0 ∧ e 9 0 = 0 ∧ e 10 0 = 0 ∧ e 42 0 = -1 ∧ e 46 0 = -1 ∧ e 50 0 = -1 := by
  have t31 : t < 2147483648 := by omega
  have S31 : S < 2147483648 := by have := (i2 t ht).2.2.1; omega
  obtain ⟨S60, hx, hb⟩ := iTxt_tx i2 ht hS
  have S0 : ¬ w32 (c (34 + 2 * t) 0) < 0 := by rw [hx.1, x_wn S31]; omega
  have hg := gid_in (!b)
  obtain ⟨e, r, fr, fD⟩ := c41 (d := d + 14) (b := b) hL ht S60 hb hx
  obtain ⟨dD, dP⟩ := fD hf
  have tl := x66_t (ex := ex) (d := d + 19) (b := !b) (t := t) (g0 := gid b) (u := xU) dD.1
  have sw := x66_sw (w := xU) tl
  rw [hf] at r
  refine ⟨(xup (xup (xup (xup (xup (xup (xup e 7 0 0) 8 0 (e (gid (!b)) 1)) 9 0 0) 10 0 0) 42 0 (-1)) 46 0 (-1)) 50 0 (-1)), ?_, fun a z g1 g2 g3 g4 g5 g6 => ?_, ⟨?_, ?_, fun i hi => ?_⟩, ?_, ?_, ?_, ?_, ?_, ?_, ?_⟩
  · refine Rn.run 2 (ls' := [_, _, _, _, _]) (st' := [_, _]) rfl ?_
    refine Rn.call rfl rfl rfl rfl rfl (c108_ok t ht (x_wn t31) S0) ?_
    refine Rn.run 2 (ls' := [_, _, _, _, _]) (st' := [_]) rfl ?_
    refine Rn.eq0 rfl (fun e7 => ?_) (fun e7 => absurd e7 (by decide))
    refine Rn.run 5 (ls' := [_, _, _, _, _]) (st' := [_, _, _]) rfl ?_
    refine Rn.aald rfl ⟨by decide, rfl, by decide, by decide⟩ (t) (x_wn (n := t) (by omega)) (by omega) (xR_txt ht).1 ?_
    refine Rn.run 1 (ls' := [_, _, _, _, _]) (st' := [_, _, _]) rfl ?_
    refine Rn.getR rfl ⟨by decide, rfl, rfl⟩ (j := gid (!b)) (by cases b <;> rfl) ?_
    refine Rn.call rfl rfl rfl rfl rfl (r) ?_
    refine Rn.run 1 (ls' := [_, _, _, _, _]) (st' := [_, _]) rfl ?_
    refine Rn.eq2 rfl (fun e31 => ?_) (fun e31 => absurd e31 (by exact fun h => h rfl))
    exact sw
  · rw [xup_n _ _ (by omega), xup_n _ _ (by omega), xup_n _ _ (by omega), xup_n _ _ (by omega), xup_n _ _ (by omega), xup_n _ _ (by omega), xup_n _ _ (by omega)]
    exact fr a z g1 g2
  · rw [xup_n _ _ (by omega), xup_n _ _ (by omega), xup_n _ _ (by omega), xup_n _ _ (by omega), xup_n _ _ (by omega), xup_n _ _ (by omega), xup_n _ _ (by omega)]
    exact dD.1
  · rw [xup_n _ _ (by omega), xup_n _ _ (by omega), xup_n _ _ (by omega), xup_n _ _ (by omega), xup_n _ _ (by omega), xup_n _ _ (by omega), xup_n _ _ (by omega)]
    exact dD.2.1
  · rw [xup_n _ _ (by omega), xup_n _ _ (by omega), xup_n _ _ (by omega), xup_n _ _ (by omega), xup_n _ _ (by omega), xup_n _ _ (by omega), xup_n _ _ (by omega), xup_n _ _ (by omega), xup_n _ _ (by omega), xup_n _ _ (by omega), xup_n _ _ (by omega), xup_n _ _ (by omega), xup_n _ _ (by omega), xup_n _ _ (by omega), xup_n _ _ (by omega), xup_n _ _ (by omega), xup_n _ _ (by omega), xup_n _ _ (by omega), xup_n _ _ (by omega), xup_n _ _ (by omega), xup_n _ _ (by omega)]
    exact dD.2.2 i hi
  · rw [xup_n _ _ (by omega), xup_n _ _ (by omega), xup_n _ _ (by omega), xup_n _ _ (by omega), xup_n _ _ (by omega), xup_s]
    exact dP
  · rw [xup_n _ _ (by omega), xup_n _ _ (by omega), xup_n _ _ (by omega), xup_n _ _ (by omega), xup_n _ _ (by omega), xup_n _ _ (by omega), xup_s]
  · rw [xup_n _ _ (by omega), xup_n _ _ (by omega), xup_n _ _ (by omega), xup_n _ _ (by omega), xup_s]
  · rw [xup_n _ _ (by omega), xup_n _ _ (by omega), xup_n _ _ (by omega), xup_s]
  · rw [xup_n _ _ (by omega), xup_n _ _ (by omega), xup_s]
  · rw [xup_n _ _ (by omega), xup_s]
  · rw [xup_s]
theorem l158a {ex : xO} {d : Nat} {b : Bool} {t : Nat} {o : xV × xH} : ∀ (m i : Nat) (c : Nat → Nat → Int), i + m = 1720 → Rn ex xt158 d 39 [xA 54, xI (t : Int), xI ((1720 : Nat) : Int)] [] (hp (xfl2 c 55 i 1720 0) b) o → Rn ex xt158 d 39 [xA 54, xI (t : Int), xI (i : Int)] [] (hp c b) o := by
  intro m
  induction m with
  | zero =>
    intro i c hm kk
    obtain rfl : i = 1720 := by omega
    rw [xfl2_e] at kk
    exact kk
  | succ m ih =>
    intro i c hm kk
    have i17 : i < 1720 := by omega
    have i31 : i < 2147483648 := by omega
    have ni : ¬ w32 1720 ≤ w32 (i : Int) := fun h => absurd ((y_ge (n := 1720) (by omega) (by omega)).mp h) (by omega)
    rw [← xfl2_s c 0 i17] at kk
    refine Rn.run 2 (ls' := [_, _, _]) (st' := [_, _]) rfl ?_
    refine Rn.ge2 rfl (fun e43 => absurd e43 (by exact ni)) (fun e43 => ?_)
    refine Rn.run 4 (ls' := [_, _, _]) (st' := [_, _, _]) rfl ?_
    refine Rn.ast rfl ⟨by decide, rfl⟩ (i) (x_wn i31) i17 ?_
    refine Rn.run 2 (ls' := [_, _, _]) (st' := []) rfl ?_
    exact ih (i + 1) _ (by omega) kk
theorem l158b {ex : xO} {d : Nat} {b : Bool} {t : Nat} {f : Nat → Int} {o : xV × xH} : ∀ (m i : Nat) (c : Nat → Nat → Int), i + m = 8 → (∀ j, j < 8 → c 62 j = f (3 + j)) → Rn ex xt158 d 71 [xA 54, xI (t : Int), xI ((8 : Nat) : Int)] [] (hp (xfl3 c 55 (3 + i) 11 f) b) o → Rn ex xt158 d 71 [xA 54, xI (t : Int), xI (i : Int)] [] (hp c b) o := by
  intro m
  induction m with
  | zero =>
    intro i c hm hf kk
    obtain rfl : i = 8 := by omega
    rw [xfl3_e] at kk
    exact kk
  | succ m ih =>
    intro i c hm hf kk
    have i8 : i < 8 := by omega
    have i26 : i < 26 := by omega
    have i31 : i < 2147483648 := by omega
    have j31 : 3 + i < 2147483648 := by omega
    have j17 : 3 + i < 1720 := by omega
    have ni : ¬ w32 8 ≤ w32 (i : Int) := fun h => absurd ((y_ge (n := 8) (by omega) (by omega)).mp h) (by omega)
    rw [← xfl3_s c f (show 3 + i < 11 by omega)] at kk
    refine Rn.run 2 (ls' := [_, _, _]) (st' := [_, _]) rfl ?_
    refine Rn.ge2 rfl (fun e74 => absurd e74 (by exact ni)) (fun e74 => ?_)
    refine Rn.run 8 (ls' := [_, _, _]) (st' := [_, _, _, _]) rfl ?_
    refine Rn.ald rfl ⟨by decide, rfl⟩ (i) (x_wn i31) i26 ?_
    rw [hf i i8]
    refine Rn.ast rfl ⟨by decide, rfl⟩ (3 + i) (x_wn j31) j17 ?_
    refine Rn.run 2 (ls' := [_, _, _]) (st' := []) rfl ?_
    exact ih (i + 1) _ (by omega) (fun j hj => by rw [xup_n _ _ (by omega)]; exact hf j hj) kk
theorem l158c {ex : xO} {d : Nat} {b : Bool} {t n : Nat} {G : Nat → Nat × Nat × Nat} (hn : n ≤ 6) : ∀ (m i : Nat) (c : Nat → Nat → Int), i + m = n → c 54 14 = (n : Nat) → MG c n G → ∃ e, Rn ex xt158 d 99 [xA 54, xI (t : Int), xI (i : Int)] [] (hp c b) (xI (n : Int), hp e b) ∧ (∀ a z, ¬ (a = 55 ∧ 11 ≤ z ∧ z ≤ 28) → e a z = c a z) ∧ (∀ j, i ≤ j → j < n → e 55 (11 + j) = ((G j).1 : Nat) ∧ e 55 (17 + j) = ((G j).2.1 : Nat) ∧ e 55 (23 + j) = ((G j).2.2 : Nat)) ∧ (∀ j, j < i → e 55 (11 + j) = c 55 (11 + j) ∧ e 55 (17 + j) = c 55 (17 + j) ∧ e 55 (23 + j) = c 55 (23 + j)) := by
  intro m
  induction m with
  | zero =>
    intro i c hm h14 hG
    obtain rfl : i = n := by omega
    refine ⟨c, ?_, fun _ _ _ => rfl, fun j h1 h2 => by omega, fun j _ => ⟨rfl, rfl, rfl⟩⟩
    refine Rn.run 3 (ls' := [_, _, _]) (st' := [_, _]) rfl ?_
    rw [h14]
    refine Rn.ge2 rfl (fun e104 => ?_) (fun e104 => absurd e104 (by exact fun h => h ((y_ge (by omega) (by omega)).mpr (Nat.le_refl _))))
    refine Rn.run 2 (ls' := [_, _, _]) (st' := [_]) rfl ?_
    rw [h14]
    exact Rn.ret rfl rfl rfl rfl rfl rfl
  | succ m ih =>
    intro i c hm h14 hG
    have ni : ¬ w32 (n : Int) ≤ w32 (i : Int) := fun h => absurd ((y_ge (by omega) (by omega)).mp h) (by omega)
    obtain ⟨g1, g2, g3⟩ := hG i (by omega)
    obtain ⟨e, r, fr, f1, f2⟩ := ih (i + 1) (xup (xup (xup c 55 (11 + i) ((G i).1 : Nat)) 55 (17 + i) ((G i).2.1 : Nat)) 55 (23 + i) ((G i).2.2 : Nat)) (by omega) (by rw [xup_n _ _ (by omega), xup_n _ _ (by omega), xup_n _ _ (by omega)]; exact h14) (fun j hj => by rw [xup_n _ _ (by omega), xup_n _ _ (by omega), xup_n _ _ (by omega), xup_n _ _ (by omega), xup_n _ _ (by omega), xup_n _ _ (by omega), xup_n _ _ (by omega), xup_n _ _ (by omega), xup_n _ _ (by omega)]; exact hG j hj)
    refine ⟨e, ?_, fun a z h => by rw [fr a z h, xup_n _ _ (by omega), xup_n _ _ (by omega), xup_n _ _ (by omega)], fun j h1 h2 => ?_, fun j h1 => ?_⟩
    · refine Rn.run 3 (ls' := [_, _, _]) (st' := [_, _]) rfl ?_
      rw [h14]
      refine Rn.ge2 rfl (fun e104 => absurd e104 (by exact ni)) (fun e104 => ?_)
      refine Rn.run 12 (ls' := [_, _, _]) (st' := [_, _, _, _]) rfl ?_
      refine Rn.ald rfl ⟨by decide, rfl⟩ (8 + 3 * i) (x_wn (n := 8 + 3 * i) (by omega)) (by omega) ?_
      rw [g1]
      refine Rn.ast rfl ⟨by decide, rfl⟩ (11 + i) (x_wn (n := 11 + i) (by omega)) (by omega) ?_
      refine Rn.run 14 (ls' := [_, _, _]) (st' := [_, _, _, _]) rfl ?_
      refine Rn.ald rfl ⟨by decide, rfl⟩ (8 + 3 * i + 1) (x_wn (n := 8 + 3 * i + 1) (by omega)) (by omega) ?_
      rw [xup_n _ _ (by omega), g2]
      refine Rn.ast rfl ⟨by decide, rfl⟩ (17 + i) (x_wn (n := 17 + i) (by omega)) (by omega) ?_
      refine Rn.run 14 (ls' := [_, _, _]) (st' := [_, _, _, _]) rfl ?_
      refine Rn.ald rfl ⟨by decide, rfl⟩ (8 + 3 * i + 2) (x_wn (n := 8 + 3 * i + 2) (by omega)) (by omega) ?_
      rw [xup_n _ _ (by omega), xup_n _ _ (by omega), g3]
      refine Rn.ast rfl ⟨by decide, rfl⟩ (23 + i) (x_wn (n := 23 + i) (by omega)) (by omega) ?_
      refine Rn.run 2 (ls' := [_, _, _]) (st' := []) rfl ?_
      exact r
    · by_cases ej : j = i
      · obtain ⟨p1, p2, p3⟩ := f2 j (by omega)
        rw [p1, p2, p3, ej]
        refine ⟨?_, ?_, ?_⟩
        · rw [xup_n _ _ (by omega), xup_n _ _ (by omega), xup_s]
        · rw [xup_n _ _ (by omega), xup_s]
        · rw [xup_s]
      · exact f1 j (by omega) h2
    · obtain ⟨p1, p2, p3⟩ := f2 j (by omega)
      rw [p1, p2, p3]
      refine ⟨?_, ?_, ?_⟩
      · rw [xup_n _ _ (by omega), xup_n _ _ (by omega), xup_n _ _ (by omega)]
      · rw [xup_n _ _ (by omega), xup_n _ _ (by omega), xup_n _ _ (by omega)]
      · rw [xup_n _ _ (by omega), xup_n _ _ (by omega), xup_n _ _ (by omega)]
theorem k158_f {ex : xO} {d : Nat} {b : Bool} {c : Nat → Nat → Int} {t S : Nat} (ht : t < 4) (i2 : iTxt c) (hS : c 58 t = (S : Nat)) (hf : (rdr S (fun k => c 59 (60 * t + k))).1 ≠ -9) (hr9 : w32 (rdr S (fun k => c 59 (60 * t + k))).1 = (rdr S (fun k => c 59 (60 * t + k))).1) : ∃ e, An ex (d + 20) 158 3 [xA 54, xI (t : Int)] (hp c b) (xI (-4), hp e b) ∧ (∀ a z, a ≠ 62 → ¬ (a = 54 ∧ 11 ≤ z ∧ z ≤ 14) → e a z = c a z) := by
  have t31 : t < 2147483648 := by omega
  have S31 : S < 2147483648 := by have := (i2 t ht).2.2.1; omega
  obtain ⟨S60, hx, hb⟩ := iTxt_tx i2 ht hS
  have S0 : 0 ≤ w32 (c 58 t) := by rw [hS, x_wn S31]; omega
  obtain ⟨e, r, fr, -⟩ := c156 (ex := ex) (d := d + 15) (b := b) (c := c) ht S60 hb hS (fun k hk => rfl)
  refine ⟨e, ?_, fr⟩
  refine Rn.run 1 (ls' := [_, _, _]) (st' := [_]) rfl ?_
  refine Rn.call rfl rfl rfl rfl rfl (c139) ?_
  refine Rn.neB rfl (fun e4 => ?_) (fun e4 => absurd e4 (by exact fun h => h (z_in' (m := 4) ht (by omega))))
  refine Rn.run 3 (ls' := [_, _, _]) (st' := [_, _]) rfl ?_
  refine Rn.ald rfl ⟨by decide, rfl⟩ (t) (x_wn t31) ht ?_
  refine Rn.ge0 rfl (fun e15 => ?_) (fun e15 => absurd e15 (by exact fun h => h S0))
  refine Rn.run 2 (ls' := [_, _, _]) (st' := [_, _]) rfl ?_
  refine Rn.call rfl rfl rfl rfl rfl (r) ?_
  refine Rn.run 1 (ls' := [_, _, _]) (st' := [_, _]) rfl ?_
  refine Rn.eq2 rfl (fun e31 => absurd e31 (by rw [hr9]; exact hf)) (fun e31 => ?_)
  refine Rn.run 1 (ls' := [_, _, _]) (st' := [_]) rfl ?_
  exact Rn.ret rfl rfl rfl rfl rfl rfl
theorem k158_o {ex : xO} {d : Nat} {b : Bool} {c : Nat → Nat → Int} {t S : Nat} (ht : t < 4) (i2 : iTxt c) (hS : c 58 t = (S : Nat)) (hf : (rdr S (fun k => c 59 (60 * t + k))).1 = -9) (hn6 : (rdr S (fun k => c 59 (60 * t + k))).2.1 ≤ 6) : ∃ e, An ex (d + 20) 158 3 [xA 54, xI (t : Int)] (hp c b) (xI ((rdr S (fun k => c 59 (60 * t + k))).2.1 : Nat), hp e b) ∧ (∀ a z, a ≠ 62 → a ≠ 55 → ¬ (a = 54 ∧ 11 ≤ z ∧ z ≤ 14) → e a z = c a z) ∧ e 55 0 = ((rdr S (fun k => c 59 (60 * t + k))).2.1 : Nat) ∧ (∀ j, j < 8 → e 55 (3 + j) = (fgv (fun k => c 59 (60 * t + k)) (sk S (fun k => c 59 (60 * t + k)) 0 + 1 + j) : Nat)) ∧ (∀ i, i < (rdr S (fun k => c 59 (60 * t + k))).2.1 → e 55 (11 + i) = (((rdr S (fun k => c 59 (60 * t + k))).2.2 i).1 : Nat) ∧ e 55 (17 + i) = (((rdr S (fun k => c 59 (60 * t + k))).2.2 i).2.1 : Nat) ∧ e 55 (23 + i) = (((rdr S (fun k => c 59 (60 * t + k))).2.2 i).2.2 : Nat)) ∧ ∀ z, z < 1720 → z ≠ 0 → ¬ (3 ≤ z ∧ z ≤ 28) → e 55 z = 0 := by
  have t31 : t < 2147483648 := by omega
  have S31 : S < 2147483648 := by have := (i2 t ht).2.2.1; omega
  obtain ⟨S60, hx, hb⟩ := iTxt_tx i2 ht hS
  have S0 : 0 ≤ w32 (c 58 t) := by rw [hS, x_wn S31]; omega
  obtain ⟨e1, r1, f1, fD⟩ := c156 (ex := ex) (d := d + 15) (b := b) (c := c) ht S60 hb hS (fun k hk => rfl)
  obtain ⟨d14, dG, d8⟩ := fD hf
  rw [hf] at r1
  generalize hn : (rdr S (fun k => c 59 (60 * t + k))).2.1 = n at hn6 d14 dG ⊢
  generalize hG : (rdr S (fun k => c 59 (60 * t + k))).2.2 = G at dG ⊢
  have cA : ∀ a z, a ≠ 55 → xup (xfl2 e1 55 0 1720 0) 55 0 (n : Nat) a z = e1 a z := fun a z h => by rw [xup_n _ _ (by omega), xfl2_out _ _ (Or.inl h)]
  obtain ⟨e, r, fr, g1, -⟩ := l158c (ex := ex) (d := d + 20) (b := b) (t := t) (n := n) (G := G) hn6 n 0 (xfl3 (xup (xfl2 e1 55 0 1720 0) 55 0 (n : Nat)) 55 (3 + 0) 11 (fun x => ((fgv (fun k => c 59 (60 * t + k)) (sk S (fun k => c 59 (60 * t + k)) 0 + 1 + (x - 3)) : Nat) : Int))) (Nat.zero_add n) (by rw [xfl3_out _ _ (by omega), cA _ _ (by omega)]; exact d14) (fun i hi => by rw [xfl3_out _ _ (by omega), xfl3_out _ _ (by omega), xfl3_out _ _ (by omega), cA _ _ (by omega), cA _ _ (by omega), cA _ _ (by omega)]; exact dG i hi)
  refine ⟨e, ?_, fun a z h1 h2 h3 => ?_, ?_, fun j hj => ?_, fun i hi => g1 i (Nat.zero_le i) hi, fun z h1 h2 h3 => ?_⟩
  · refine Rn.run 1 (ls' := [_, _, _]) (st' := [_]) rfl ?_
    refine Rn.call rfl rfl rfl rfl rfl (c139) ?_
    refine Rn.neB rfl (fun e4 => ?_) (fun e4 => absurd e4 (by exact fun h => h (z_in' (m := 4) ht (by omega))))
    refine Rn.run 3 (ls' := [_, _, _]) (st' := [_, _]) rfl ?_
    refine Rn.ald rfl ⟨by decide, rfl⟩ (t) (x_wn t31) ht ?_
    refine Rn.ge0 rfl (fun e15 => ?_) (fun e15 => absurd e15 (by exact fun h => h S0))
    refine Rn.run 2 (ls' := [_, _, _]) (st' := [_, _]) rfl ?_
    refine Rn.call rfl rfl rfl rfl rfl (r1) ?_
    refine Rn.run 1 (ls' := [_, _, _]) (st' := [_, _]) rfl ?_
    refine Rn.eq2 rfl (fun e31 => ?_) (fun e31 => absurd e31 (by exact fun h => h rfl))
    refine Rn.run 2 (ls' := [_, _, _]) (st' := []) rfl ?_
    refine l158a 1720 0 e1 rfl ?_
    refine Rn.run 2 (ls' := [_, _, _]) (st' := [_, _]) rfl ?_
    refine Rn.ge2 rfl (fun e43 => ?_) (fun e43 => absurd e43 (by decide))
    refine Rn.run 5 (ls' := [_, _, _]) (st' := [_, _, _]) rfl ?_
    rw [xfl2_out _ _ (by omega), d14]
    refine Rn.ast rfl ⟨by decide, rfl⟩ (0) rfl (by decide) ?_
    refine Rn.run 2 (ls' := [_, _, _]) (st' := []) rfl ?_
    refine l158b (f := fun x => ((fgv (fun k => c 59 (60 * t + k)) (sk S (fun k => c 59 (60 * t + k)) 0 + 1 + (x - 3)) : Nat) : Int)) 8 0 _ rfl (fun j hj => ?_) ?_
    · rw [cA _ _ (by omega), d8 j hj]
      show _ = ((fgv (fun k => c 59 (60 * t + k)) (sk S (fun k => c 59 (60 * t + k)) 0 + 1 + (3 + j - 3)) : Nat) : Int)
      rw [Nat.add_sub_cancel_left]
    refine Rn.run 2 (ls' := [_, _, _]) (st' := [_, _]) rfl ?_
    refine Rn.ge2 rfl (fun e74 => ?_) (fun e74 => absurd e74 (by decide))
    refine Rn.run 2 (ls' := [_, _, _]) (st' := []) rfl ?_
    exact r
  · rw [fr a z (by omega), xfl3_out _ _ (by omega), cA a z h2]
    exact f1 a z h1 h3
  · rw [fr _ _ (by omega), xfl3_out _ _ (by omega), xup_s]
  · rw [fr _ _ (by omega), xfl3_in _ _ (by omega)]
    show ((fgv (fun k => c 59 (60 * t + k)) (sk S (fun k => c 59 (60 * t + k)) 0 + 1 + (3 + j - 3)) : Nat) : Int) = _
    rw [Nat.add_sub_cancel_left]
  · rw [fr _ _ (by omega), xfl3_out _ _ (by omega), xup_n _ _ (by omega), xfl2_in _ _ (by omega)]
theorem prs_P {S : Nat} {bs : Nat → Int} (hS : S ≤ 60) : ∀ (m k q : Nat) (G : Nat → Nat × Nat × Nat), k + m = 7 → k ≤ 6 → q ≤ S → (prs S bs m k q G).2.1 ≤ 6 ∧ -9 ≤ (prs S bs m k q G).1 ∧ (prs S bs m k q G).1 ≤ 62 ∧ ((prs S bs m k q G).1 = -9 → 0 < (prs S bs m k q G).2.1) := by
  intro m
  induction m with
  | zero => intro k q G h1 h2; omega
  | succ m ih =>
    intro k q G h1 h2 h3
    unfold prs
    split
    · split
      · exact ⟨h2, by show (-9 : Int) ≤ (q : Int); omega, by show (q : Int) ≤ 62; omega, fun h => by have h : (q : Int) = -9 := h; omega⟩
      · split
        · exact ⟨h2, by show (-9 : Int) ≤ ((q + 1 : Nat) : Int); omega, by show ((q + 1 : Nat) : Int) ≤ 62; omega, fun h => by have h : ((q + 1 : Nat) : Int) = -9 := h; omega⟩
        · split
          · exact ⟨h2, by show (-9 : Int) ≤ ((q + 2 : Nat) : Int); omega, by show ((q + 2 : Nat) : Int) ≤ 62; omega, fun h => by have h : ((q + 2 : Nat) : Int) = -9 := h; omega⟩
          · next hA hB hC =>
            have hC' : fgo S bs 9 (q + 2) = true := Classical.not_not.mp hC
            obtain ⟨c1, -, -⟩ := fg_in hC'
            have k6 : k ≠ 6 := fun z => hA (Or.inl z)
            exact ih (k + 1) _ _ (by omega) (by omega) (sk_le bs (by omega))
    · split
      · exact ⟨h2, by show (-9 : Int) ≤ (q : Int); omega, by show (q : Int) ≤ 62; omega, fun h => by have h : (q : Int) = -9 := h; omega⟩
      · exact ⟨h2, Int.le_refl _, by show (-9 : Int) ≤ 62; decide, fun _ => by show 0 < k; omega⟩
theorem trr_9 {S : Nat} {bs : Nat → Int} {q : Nat} (h : trr S bs q = -9) : q + 9 ≤ S := by
  unfold trr at h
  split at h
  · next hT =>
    split at h
    · next h8 =>
      have key : ∀ m i, i + m = 8 → fbd (ok9 S bs q) m i = 8 → (m = 0 ∨ q + 9 ≤ S) := by
        intro m
        induction m with
        | zero => intro i _ _; exact Or.inl rfl
        | succ m ih =>
          intro i hi hf
          unfold fbd at hf
          split at hf
          · next hok =>
            obtain ⟨c1, -, -⟩ := fg_in hok
            rcases ih (i + 1) (by omega) hf with h | h
            · exact Or.inr (by omega)
            · exact Or.inr h
          · omega
      rcases key 8 0 rfl h8 with h | h
      · omega
      · exact h
    · omega
  · omega
theorem rdr_P {S : Nat} {bs : Nat → Int} (hS : S ≤ 60) : (rdr S bs).2.1 ≤ 6 ∧ w32 (rdr S bs).1 = (rdr S bs).1 ∧ ((rdr S bs).1 = -9 → 0 < (rdr S bs).2.1) := by
  have q0 : sk S bs 0 ≤ S := sk_le bs (Nat.zero_le S)
  unfold rdr
  split
  · next h =>
    obtain ⟨a1, a2, a3, a4⟩ := prs_P (bs := bs) hS 7 0 (sk S bs (sk S bs 0 + 9)) G0 rfl (by decide) (sk_le bs (trr_9 h))
    exact ⟨a1, x_w _ (by omega) (by omega), a4⟩
  · next h =>
    obtain ⟨f, f1, f2⟩ := (trr_n bs (S := S) (q := sk S bs 0) (by omega)).resolve_left h
    exact ⟨by show 0 ≤ 6; decide, by show w32 (trr S bs (sk S bs 0)) = _; rw [f2]; exact x_wn (by omega), fun z => absurd z h⟩
theorem Inv_green {c c2 : Nat → Nat → Int} {b b2 : Bool} {n : Nat} {G : Nat → Nat × Nat × Nat} {L : Nat → Nat} (hI : Inv c b) (hn : n ≤ 6) (hD : DG c2 (gid b2) n G) (h9 : l9 L) (hL : pk (c2 8 0) L) (h7 : c2 7 0 = 0) (hc9 : c2 9 0 = 0) (h10 : c2 10 0 = 0) (hk : ∀ k, k < 3 → c2 (42 + 4 * k) 0 = -1) (m0 : c2 55 0 = (n : Nat)) (mL : ∀ j, j < 8 → c2 55 (3 + j) = (L j : Nat)) (mG' : ∀ i, i < n → c2 55 (11 + i) = ((G i).1 : Nat) ∧ c2 55 (17 + i) = ((G i).2.1 : Nat) ∧ c2 55 (23 + i) = ((G i).2.2 : Nat)) (mz : ∀ z, z < 1720 → z ≠ 0 → ¬ (3 ≤ z ∧ z ≤ 28) → c2 55 z = 0) (fr : ∀ a z, (a = 0 ∧ 10 ≤ z ∧ z ≤ 13) ∨ a = 13 ∨ (22 ≤ a ∧ a ≤ 41) ∨ (a = 54 ∧ (z = 5 ∨ 7 ≤ z ∧ z ≤ 9)) ∨ (56 ≤ a ∧ a ≤ 60) → c2 a z = c a z) : Inv c2 b2 := by
  have hp : (0 : Int) < 2 ^ n := by
    have h1 : 1 ≤ 2 ^ n := Nat.one_le_two_pow
    have e : ((2 ^ n : Nat) : Int) = (2 : Int) ^ n := by push_cast; rfl
    omega
  refine ⟨iRow_fr (fun a z h => fr a z (by omega)) hI.1, iTxt_fr (fun a z h => fr a z (by omega)) hI.2.1, iFnd_fr (fun a z h => fr a z (by omega)) hI.2.2.1, iAsk_fr (fun a z h => fr a z (by omega)) hI.2.2.2.1, n, ⟨hn, m0, hD.1, ?_, fun i hi => ?_⟩, ⟨0, by omega, h7, ?_, fun y hy => ?_, ?_, ?_, fun j hj => absurd hj (Nat.not_lt_zero j)⟩, fun k hk3 => Or.inl ⟨hk k hk3, mz _ (by omega) (by omega) (by omega)⟩⟩
  · rw [hD.2.1]
    exact congrArg (fun z : Nat => (z : Int)) (cmn_cm (kd := fun i => (G i).1) (fun i hi => (mG' i hi).1)).symm
  · obtain ⟨⟨d1, d2, d3⟩, d4, d5, d6⟩ := hD.2.2 i hi
    obtain ⟨p1, p2, p3⟩ := mG' i hi
    rw [d1, d2, d3, p1, p2, p3]
    exact ⟨⟨rfl, by omega, by omega⟩, ⟨rfl, by omega, by omega⟩, ⟨rfl, by omega, by omega⟩⟩
  · exact mz 29 (by omega) (by omega) (by omega)
  · rw [Nat.zero_add, mL y hy]
    have := h9 y hy
    exact ⟨hL y hy, by omega, by omega⟩
  · rw [Nat.zero_add, mz 2 (by omega) (by omega) (by omega), hc9]
    exact ⟨rfl, Int.le_refl _, hp⟩
  · rw [Nat.zero_add, mz 1 (by omega) (by omega) (by omega), h10]
    exact ⟨rfl, Int.le_refl _, Int.le_refl _⟩
theorem trr_f9 {S : Nat} {bs : Nat → Int} {q : Nat} (h : trr S bs q = -9) : l9 (fun j => fgv bs (q + 1 + j)) := by
  unfold trr at h
  split at h
  · split at h
    · next h8 =>
      have key : ∀ m i, i + m = 8 → fbd (ok9 S bs q) m i = 8 → ∀ j, i ≤ j → j < 8 → fgv bs (q + 1 + j) ≤ 9 := by
        intro m
        induction m with
        | zero => intro i h1 _ j h2 h3; omega
        | succ m ih =>
          intro i hi hf j h2 h3
          unfold fbd at hf
          split at hf
          · next hok =>
            by_cases e : j = i
            · rw [e]; exact (fg_in hok).2.2
            · exact ih (i + 1) (by omega) hf j (by omega) h3
          · omega
      exact fun j hj => key 8 0 rfl h8 j (Nat.zero_le j) hj
    · omega
  · omega
theorem g_green {ex : xO} (hL : ex 1 = (6, xlet)) (a1 : Int) (h1 : w32 a1 = a1) : AgI ex 66 5 158 3 [xI a1] := by
  intro d c b hI
  by_cases q1 : 0 ≤ a1 ∧ a1 < 4
  · obtain ⟨t, ht, rfl⟩ : ∃ j : Nat, j < 4 ∧ a1 = (j : Int) := ⟨a1.toNat, by omega, by omega⟩
    have i2 := hI.2.1
    by_cases hn : c 58 t < 0
    · exact Ag_find2 hI 1 (by decide) (k66_n ht i2 hn) (fun c' hq => k158_n ht (iTxt_fr (fun a k ha => hq a k (by omega) (by omega)) i2) (by rw [hq 58 t (by decide) (by decide)]; exact hn))
    · obtain ⟨S, hS⟩ : ∃ S : Nat, c 58 t = (S : Nat) := ⟨(c 58 t).toNat, by omega⟩
      have hg := gdd b
      obtain ⟨S60, -, -⟩ := iTxt_tx i2 ht hS
      obtain ⟨n6, w9, npos⟩ := rdr_P (S := S) (bs := fun k => c 59 (60 * t + k)) S60
      by_cases hf : (rdr S (fun k => c 59 (60 * t + k))).1 = -9
      · obtain ⟨e1, r1, f1, dD, dP, z7, z9, z10, z42, z46, z50⟩ := k66_o (d := d) (b := b) hL ht i2 hS hf
        have fr : ∀ a z, 22 ≤ a → a ≠ 42 → a ≠ 46 → a ≠ 50 → e1 a z = c a z := fun a z h1 h2 h3 h4 => f1 a z (by omega) (by omega) (by omega) h2 h3 h4
        have eb : (fun k => e1 59 (60 * t + k)) = fun k => c 59 (60 * t + k) := funext (fun k => fr 59 _ (by omega) (by omega) (by omega) (by omega))
        obtain ⟨e2, r2, f2, m0, mL, mG', mz⟩ := k158_o (ex := ex) (d := d) (b := !b) (c := e1) ht (iTxt_fr (fun a k ha => fr a k (by omega) (by omega) (by omega) (by omega)) i2) (by rw [fr 58 t (by omega) (by omega) (by omega) (by omega)]; exact hS) (by rw [eb]; exact hf) (by rw [eb]; exact n6)
        rw [eb] at r2 m0 mL mG'
        have ht9 : trr S (fun k => c 59 (60 * t + k)) (sk S (fun k => c 59 (60 * t + k)) 0) = -9 := by
          refine Classical.byContradiction (fun hq => ?_)
          have : (rdr S (fun k => c 59 (60 * t + k))).1 = trr S (fun k => c 59 (60 * t + k)) (sk S (fun k => c 59 (60 * t + k)) 0) := by
            unfold rdr
            rw [if_neg hq]
          exact hq (this.symm.trans hf)
        have fc : ∀ a z, a ≠ 62 → a ≠ 55 → a ≠ 54 → e2 a z = e1 a z := fun a z h1 h2 h3 => f2 a z h1 h2 (by omega)
        have hg2 := gid_in (!b)
        refine ⟨_, _, e1, !b, e2, !b, r1, r2, rfl, Inv_green hI n6 ⟨by rw [fc _ _ (by omega) (by omega) (by omega)]; exact dD.1, by rw [fc _ _ (by omega) (by omega) (by omega)]; exact dD.2.1, fun i hi => by rw [fc _ _ (by omega) (by omega) (by omega), fc _ _ (by omega) (by omega) (by omega), fc _ _ (by omega) (by omega) (by omega)]; exact dD.2.2 i hi⟩ (trr_f9 ht9) (by rw [fc _ _ (by omega) (by omega) (by omega)]; exact dP) (by rw [fc _ _ (by omega) (by omega) (by omega)]; exact z7) (by rw [fc _ _ (by omega) (by omega) (by omega)]; exact z9) (by rw [fc _ _ (by omega) (by omega) (by omega)]; exact z10) (fun k hk => ?_) m0 mL mG' mz (fun a z h => ?_)⟩
        · rw [fc _ _ (by omega) (by omega) (by omega)]
          rcases (by omega : k = 0 ∨ k = 1 ∨ k = 2) with rfl | rfl | rfl
          · exact z42
          · exact z46
          · exact z50
        · rw [f2 a z (by omega) (by omega) (by omega)]
          exact f1 a z (by omega) (by omega) (by omega) (by omega) (by omega) (by omega)
      · obtain ⟨e1, r1, f1⟩ := k66_f (d := d) (b := b) hL ht i2 hS hf w9
        have fr : ∀ a z, 22 ≤ a → e1 a z = c a z := fun a z ha => f1 a z (by omega) (by omega)
        have eb : (fun k => e1 59 (60 * t + k)) = fun k => c 59 (60 * t + k) := funext (fun k => fr 59 _ (by omega))
        obtain ⟨e2, r2, f2⟩ := k158_f (ex := ex) (d := d) (b := b) (c := e1) ht (iTxt_fr (fun a k ha => fr a k (by omega)) i2) (by rw [fr 58 t (by omega)]; exact hS) (by rw [eb]; exact hf) (by rw [eb]; exact w9)
        exact ⟨_, _, e1, b, e2, b, r1, r2, rfl, Inv_fr (fun a k ha => by rw [f2 a k (by omega) (by omega)]; exact f1 a k (by omega) (by omega)) hI⟩
  · exact Ag_same hI (-1) (k66_b h1 q1) (k158_b h1 q1)
