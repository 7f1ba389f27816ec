def xexO (L : Nat) (xs : Nat → Int) : xO := fun j => match j with
  | 0 => (L, xs)
  | _ => (6, xlet)
-- THE LAW'S LOOP
theorem Rn.sld {L : Nat} {xs : Nat → Int} {t : xT} {d pc nx : Nat} {ls st : List xV} {h : xH} {o : xV × xH} {r : Nat × Nat × Nat × Nat × Nat × Int} {i : Int} (he : xfind t pc = some (.iaload, nx, r)) (k : Nat) (hi : w32 i = (k : Int)) (hk : k < L) (kk : Rn (xexO L xs) t d nx ls (xI (xs k) :: st) h o) : Rn (xexO L xs) t d pc ls (xI i :: xX 0 :: st) h o := by
  obtain ⟨r1, r2, r3, r4, r5, r6⟩ := r
  obtain ⟨K, S, F, sh, c, rf⟩ := h
  obtain ⟨h1, h2⟩ := x_ix hi hk
  refine Rn.A he (q := (nx, ls, xI (xs k) :: st)) ?_ kk
  have h3 : xin i (xexO L xs 0).1 = true := h1
  simp only [xstA]
  rw [if_pos ⟨by decide, h3⟩, h2]
  rfl
theorem x_63 (x : Int) : ∃ k : Nat, k < 64 ∧ xand x 63 = (k : Int) := by
  obtain ⟨j, h1, h2⟩ := pk_andE (Int32.ofInt x) (m := 63) 6 (by decide)
  refine ⟨j, h1, ?_⟩
  show (Int32.ofInt x &&& 63).toInt = j
  rw [h2, nI_toInt (by omega)]
theorem lawc0 {L : Nat} {xs : Nat → Int} {i : Nat} (hxs : ∀ j, w32 (xs j) = xs j) (hi : i + 6 ≤ L) (hL : L ≤ 3072) {c : Nat → Nat → Int} {b : Bool} (hI : Inv c b) (ih : ∀ c b, Inv c b → ∃ h', Rn (xexO L xs) xt240 25 18 [xX 0, xA 0, xA 54, xI ((i + 6 : Nat) : Int)] [] (hp c b) (xI 1, h') ∧ h'.1 = 71 ∧ h'.2.1 = 3590) : ∃ h', Rn (xexO L xs) xt240 25 220 [xX 0, xA 0, xA 54, xI (i : Int)] [] (hp c b) (xI 1, h') ∧ h'.1 = 71 ∧ h'.2.1 = 3590 := by
  obtain ⟨v1, v2, c1, b1, c2, b2, h1, h2, h3, h4⟩ := g_row (ex := xexO L xs) (xs (i + 1)) (xs (i + 2)) (hxs _) (hxs _) 4 c b hI
  obtain ⟨h', hr, e1, e2⟩ := ih c2 b2 h4
  refine ⟨h', ?_, e1, e2⟩
  refine Rn.run 5 rfl ?_
  refine Rn.sld rfl (i + 1) (by unfold w32; omega) (by omega) ?_
  refine Rn.run 4 rfl ?_
  refine Rn.sld rfl (i + 2) (by unfold w32; omega) (by omega) ?_
  refine Rn.call rfl rfl rfl rfl rfl h1 ?_
  refine Rn.run 5 rfl ?_
  refine Rn.sld rfl (i + 1) (by unfold w32; omega) (by omega) ?_
  refine Rn.run 4 rfl ?_
  refine Rn.sld rfl (i + 2) (by unfold w32; omega) (by omega) ?_
  refine Rn.call rfl rfl rfl rfl rfl h2 ?_
  refine Rn.eq2 rfl (fun _ => ?_) (fun e => absurd h3 e)
  refine Rn.run 2 rfl ?_
  exact hr
theorem lawc1 {L : Nat} {xs : Nat → Int} {i : Nat} (hxs : ∀ j, w32 (xs j) = xs j) (hi : i + 6 ≤ L) (hL : L ≤ 3072) {c : Nat → Nat → Int} {b : Bool} (hI : Inv c b) (ih : ∀ c b, Inv c b → ∃ h', Rn (xexO L xs) xt240 25 18 [xX 0, xA 0, xA 54, xI ((i + 6 : Nat) : Int)] [] (hp c b) (xI 1, h') ∧ h'.1 = 71 ∧ h'.2.1 = 3590) : ∃ h', Rn (xexO L xs) xt240 25 253 [xX 0, xA 0, xA 54, xI (i : Int)] [] (hp c b) (xI 1, h') ∧ h'.1 = 71 ∧ h'.2.1 = 3590 := by
  obtain ⟨v1, v2, c1, b1, c2, b2, h1, h2, h3, h4⟩ := g_lay (ex := xexO L xs) (xs (i + 1)) (xs (i + 2)) (xs (i + 3)) (hxs _) (hxs _) (hxs _) 4 c b hI
  obtain ⟨h', hr, e1, e2⟩ := ih c2 b2 h4
  refine ⟨h', ?_, e1, e2⟩
  refine Rn.run 5 rfl ?_
  refine Rn.sld rfl (i + 1) (by unfold w32; omega) (by omega) ?_
  refine Rn.run 4 rfl ?_
  refine Rn.sld rfl (i + 2) (by unfold w32; omega) (by omega) ?_
  refine Rn.run 4 rfl ?_
  refine Rn.sld rfl (i + 3) (by unfold w32; omega) (by omega) ?_
  refine Rn.call rfl rfl rfl rfl rfl h1 ?_
  refine Rn.run 5 rfl ?_
  refine Rn.sld rfl (i + 1) (by unfold w32; omega) (by omega) ?_
  refine Rn.run 4 rfl ?_
  refine Rn.sld rfl (i + 2) (by unfold w32; omega) (by omega) ?_
  refine Rn.run 4 rfl ?_
  refine Rn.sld rfl (i + 3) (by unfold w32; omega) (by omega) ?_
  refine Rn.call rfl rfl rfl rfl rfl h2 ?_
  refine Rn.eq2 rfl (fun _ => ?_) (fun e => absurd h3 e)
  refine Rn.run 2 rfl ?_
  exact hr
theorem lawc2 {L : Nat} {xs : Nat → Int} {i : Nat} (hxs : ∀ j, w32 (xs j) = xs j) (hi : i + 6 ≤ L) (hL : L ≤ 3072) {c : Nat → Nat → Int} {b : Bool} (hI : Inv c b) (ih : ∀ c b, Inv c b → ∃ h', Rn (xexO L xs) xt240 25 18 [xX 0, xA 0, xA 54, xI ((i + 6 : Nat) : Int)] [] (hp c b) (xI 1, h') ∧ h'.1 = 71 ∧ h'.2.1 = 3590) : ∃ h', Rn (xexO L xs) xt240 25 296 [xX 0, xA 0, xA 54, xI (i : Int)] [] (hp c b) (xI 1, h') ∧ h'.1 = 71 ∧ h'.2.1 = 3590 := by
  obtain ⟨v1, v2, c1, b1, c2, b2, h1, h2, h3, h4⟩ := g_at (ex := xexO L xs) (xs (i + 1)) (xs (i + 2)) (hxs _) (hxs _) 4 c b hI
  obtain ⟨h', hr, e1, e2⟩ := ih c2 b2 h4
  refine ⟨h', ?_, e1, e2⟩
  refine Rn.run 5 rfl ?_
  refine Rn.sld rfl (i + 1) (by unfold w32; omega) (by omega) ?_
  refine Rn.run 4 rfl ?_
  refine Rn.sld rfl (i + 2) (by unfold w32; omega) (by omega) ?_
  refine Rn.call rfl rfl rfl rfl rfl h1 ?_
  refine Rn.run 5 rfl ?_
  refine Rn.sld rfl (i + 1) (by unfold w32; omega) (by omega) ?_
  refine Rn.run 4 rfl ?_
  refine Rn.sld rfl (i + 2) (by unfold w32; omega) (by omega) ?_
  refine Rn.call rfl rfl rfl rfl rfl h2 ?_
  refine Rn.eq2 rfl (fun _ => ?_) (fun e => absurd h3 e)
  refine Rn.run 2 rfl ?_
  exact hr
theorem lawc3 {L : Nat} {xs : Nat → Int} {i : Nat} (hxs : ∀ j, w32 (xs j) = xs j) (hi : i + 6 ≤ L) (hL : L ≤ 3072) {c : Nat → Nat → Int} {b : Bool} (hI : Inv c b) (ih : ∀ c b, Inv c b → ∃ h', Rn (xexO L xs) xt240 25 18 [xX 0, xA 0, xA 54, xI ((i + 6 : Nat) : Int)] [] (hp c b) (xI 1, h') ∧ h'.1 = 71 ∧ h'.2.1 = 3590) : ∃ h', Rn (xexO L xs) xt240 25 329 [xX 0, xA 0, xA 54, xI (i : Int)] [] (hp c b) (xI 1, h') ∧ h'.1 = 71 ∧ h'.2.1 = 3590 := by
  obtain ⟨v1, v2, c1, b1, c2, b2, h1, h2, h3, h4⟩ := g_tear (ex := xexO L xs) (xs (i + 1)) (hxs _) 4 c b hI
  obtain ⟨h', hr, e1, e2⟩ := ih c2 b2 h4
  refine ⟨h', ?_, e1, e2⟩
  refine Rn.run 5 rfl ?_
  refine Rn.sld rfl (i + 1) (by unfold w32; omega) (by omega) ?_
  refine Rn.call rfl rfl rfl rfl rfl h1 ?_
  refine Rn.run 5 rfl ?_
  refine Rn.sld rfl (i + 1) (by unfold w32; omega) (by omega) ?_
  refine Rn.call rfl rfl rfl rfl rfl h2 ?_
  refine Rn.eq2 rfl (fun _ => ?_) (fun e => absurd h3 e)
  refine Rn.run 2 rfl ?_
  exact hr
theorem lawc4 {L : Nat} {xs : Nat → Int} {i : Nat} (hxs : ∀ j, w32 (xs j) = xs j) (hi : i + 6 ≤ L) (hL : L ≤ 3072) {c : Nat → Nat → Int} {b : Bool} (hI : Inv c b) (ih : ∀ c b, Inv c b → ∃ h', Rn (xexO L xs) xt240 25 18 [xX 0, xA 0, xA 54, xI ((i + 6 : Nat) : Int)] [] (hp c b) (xI 1, h') ∧ h'.1 = 71 ∧ h'.2.1 = 3590) : ∃ h', Rn (xexO L xs) xt240 25 352 [xX 0, xA 0, xA 54, xI (i : Int)] [] (hp c b) (xI 1, h') ∧ h'.1 = 71 ∧ h'.2.1 = 3590 := by
  obtain ⟨v1, v2, c1, b1, c2, b2, h1, h2, h3, h4⟩ := g_copy (ex := xexO L xs) (xs (i + 1)) (xs (i + 2)) (xs (i + 3)) (xs (i + 4)) (xs (i + 5)) (hxs _) (hxs _) (hxs _) (hxs _) (hxs _) 4 c b hI
  obtain ⟨h', hr, e1, e2⟩ := ih c2 b2 h4
  refine ⟨h', ?_, e1, e2⟩
  refine Rn.run 5 rfl ?_
  refine Rn.sld rfl (i + 1) (by unfold w32; omega) (by omega) ?_
  refine Rn.run 4 rfl ?_
  refine Rn.sld rfl (i + 2) (by unfold w32; omega) (by omega) ?_
  refine Rn.run 4 rfl ?_
  refine Rn.sld rfl (i + 3) (by unfold w32; omega) (by omega) ?_
  refine Rn.run 4 rfl ?_
  refine Rn.sld rfl (i + 4) (by unfold w32; omega) (by omega) ?_
  refine Rn.run 4 rfl ?_
  refine Rn.sld rfl (i + 5) (by unfold w32; omega) (by omega) ?_
  refine Rn.call rfl rfl rfl rfl rfl h1 ?_
  refine Rn.run 5 rfl ?_
  refine Rn.sld rfl (i + 1) (by unfold w32; omega) (by omega) ?_
  refine Rn.run 4 rfl ?_
  refine Rn.sld rfl (i + 2) (by unfold w32; omega) (by omega) ?_
  refine Rn.run 4 rfl ?_
  refine Rn.sld rfl (i + 3) (by unfold w32; omega) (by omega) ?_
  refine Rn.run 4 rfl ?_
  refine Rn.sld rfl (i + 4) (by unfold w32; omega) (by omega) ?_
  refine Rn.run 4 rfl ?_
  refine Rn.sld rfl (i + 5) (by unfold w32; omega) (by omega) ?_
  refine Rn.call rfl rfl rfl rfl rfl h2 ?_
  refine Rn.eq2 rfl (fun _ => ?_) (fun e => absurd h3 e)
  refine Rn.run 2 rfl ?_
  exact hr
theorem lawc5 {L : Nat} {xs : Nat → Int} {i : Nat} (hxs : ∀ j, w32 (xs j) = xs j) (hi : i + 6 ≤ L) (hL : L ≤ 3072) {c : Nat → Nat → Int} {b : Bool} (hI : Inv c b) (ih : ∀ c b, Inv c b → ∃ h', Rn (xexO L xs) xt240 25 18 [xX 0, xA 0, xA 54, xI ((i + 6 : Nat) : Int)] [] (hp c b) (xI 1, h') ∧ h'.1 = 71 ∧ h'.2.1 = 3590) : ∃ h', Rn (xexO L xs) xt240 25 415 [xX 0, xA 0, xA 54, xI (i : Int)] [] (hp c b) (xI 1, h') ∧ h'.1 = 71 ∧ h'.2.1 = 3590 := by
  obtain ⟨v1, v2, c1, b1, c2, b2, h1, h2, h3, h4⟩ := g_mean (ex := xexO L xs) (xs (i + 1)) (hxs _) 4 c b hI
  obtain ⟨h', hr, e1, e2⟩ := ih c2 b2 h4
  refine ⟨h', ?_, e1, e2⟩
  refine Rn.run 5 rfl ?_
  refine Rn.sld rfl (i + 1) (by unfold w32; omega) (by omega) ?_
  refine Rn.call rfl rfl rfl rfl rfl h1 ?_
  refine Rn.run 5 rfl ?_
  refine Rn.sld rfl (i + 1) (by unfold w32; omega) (by omega) ?_
  refine Rn.call rfl rfl rfl rfl rfl h2 ?_
  refine Rn.eq2 rfl (fun _ => ?_) (fun e => absurd h3 e)
  refine Rn.run 2 rfl ?_
  exact hr
theorem lawc6 {L : Nat} {xs : Nat → Int} {i : Nat} (hxs : ∀ j, w32 (xs j) = xs j) (hi : i + 6 ≤ L) (hL : L ≤ 3072) {c : Nat → Nat → Int} {b : Bool} (hI : Inv c b) (ih : ∀ c b, Inv c b → ∃ h', Rn (xexO L xs) xt240 25 18 [xX 0, xA 0, xA 54, xI ((i + 6 : Nat) : Int)] [] (hp c b) (xI 1, h') ∧ h'.1 = 71 ∧ h'.2.1 = 3590) : ∃ h', Rn (xexO L xs) xt240 25 438 [xX 0, xA 0, xA 54, xI (i : Int)] [] (hp c b) (xI 1, h') ∧ h'.1 = 71 ∧ h'.2.1 = 3590 := by
  obtain ⟨v1, v2, c1, b1, c2, b2, h1, h2, h3, h4⟩ := g_text (ex := xexO L xs) (xs (i + 1)) (xs (i + 2)) (hxs _) (hxs _) 4 c b hI
  obtain ⟨h', hr, e1, e2⟩ := ih c2 b2 h4
  refine ⟨h', ?_, e1, e2⟩
  refine Rn.run 5 rfl ?_
  refine Rn.sld rfl (i + 1) (by unfold w32; omega) (by omega) ?_
  refine Rn.run 4 rfl ?_
  refine Rn.sld rfl (i + 2) (by unfold w32; omega) (by omega) ?_
  refine Rn.call rfl rfl rfl rfl rfl h1 ?_
  refine Rn.run 5 rfl ?_
  refine Rn.sld rfl (i + 1) (by unfold w32; omega) (by omega) ?_
  refine Rn.run 4 rfl ?_
  refine Rn.sld rfl (i + 2) (by unfold w32; omega) (by omega) ?_
  refine Rn.call rfl rfl rfl rfl rfl h2 ?_
  refine Rn.eq2 rfl (fun _ => ?_) (fun e => absurd h3 e)
  refine Rn.run 2 rfl ?_
  exact hr
theorem lawc7 {L : Nat} {xs : Nat → Int} {i : Nat} (hxs : ∀ j, w32 (xs j) = xs j) (hi : i + 6 ≤ L) (hL : L ≤ 3072) {c : Nat → Nat → Int} {b : Bool} (hI : Inv c b) (ih : ∀ c b, Inv c b → ∃ h', Rn (xexO L xs) xt240 25 18 [xX 0, xA 0, xA 54, xI ((i + 6 : Nat) : Int)] [] (hp c b) (xI 1, h') ∧ h'.1 = 71 ∧ h'.2.1 = 3590) : ∃ h', Rn (xexO L xs) xt240 25 471 [xX 0, xA 0, xA 54, xI (i : Int)] [] (hp c b) (xI 1, h') ∧ h'.1 = 71 ∧ h'.2.1 = 3590 := by
  obtain ⟨v1, v2, c1, b1, c2, b2, h1, h2, h3, h4⟩ := g_put (ex := xexO L xs) (xs (i + 1)) (xs (i + 2)) (xs (i + 3)) (hxs _) (hxs _) (hxs _) 4 c b hI
  obtain ⟨h', hr, e1, e2⟩ := ih c2 b2 h4
  refine ⟨h', ?_, e1, e2⟩
  refine Rn.run 5 rfl ?_
  refine Rn.sld rfl (i + 1) (by unfold w32; omega) (by omega) ?_
  refine Rn.run 4 rfl ?_
  refine Rn.sld rfl (i + 2) (by unfold w32; omega) (by omega) ?_
  refine Rn.run 4 rfl ?_
  refine Rn.sld rfl (i + 3) (by unfold w32; omega) (by omega) ?_
  refine Rn.call rfl rfl rfl rfl rfl h1 ?_
  refine Rn.run 5 rfl ?_
  refine Rn.sld rfl (i + 1) (by unfold w32; omega) (by omega) ?_
  refine Rn.run 4 rfl ?_
  refine Rn.sld rfl (i + 2) (by unfold w32; omega) (by omega) ?_
  refine Rn.run 4 rfl ?_
  refine Rn.sld rfl (i + 3) (by unfold w32; omega) (by omega) ?_
  refine Rn.call rfl rfl rfl rfl rfl h2 ?_
  refine Rn.eq2 rfl (fun _ => ?_) (fun e => absurd h3 e)
  refine Rn.run 2 rfl ?_
  exact hr
theorem lawc8 {L : Nat} {xs : Nat → Int} {i : Nat} (hxs : ∀ j, w32 (xs j) = xs j) (hi : i + 6 ≤ L) (hL : L ≤ 3072) {c : Nat → Nat → Int} {b : Bool} (hI : Inv c b) (ih : ∀ c b, Inv c b → ∃ h', Rn (xexO L xs) xt240 25 18 [xX 0, xA 0, xA 54, xI ((i + 6 : Nat) : Int)] [] (hp c b) (xI 1, h') ∧ h'.1 = 71 ∧ h'.2.1 = 3590) : ∃ h', Rn (xexO L xs) xt240 25 514 [xX 0, xA 0, xA 54, xI (i : Int)] [] (hp c b) (xI 1, h') ∧ h'.1 = 71 ∧ h'.2.1 = 3590 := by
  obtain ⟨v1, v2, c1, b1, c2, b2, h1, h2, h3, h4⟩ := g_fault (ex := xexO L xs) rfl (xs (i + 1)) (hxs _) 4 c b hI
  obtain ⟨h', hr, e1, e2⟩ := ih c2 b2 h4
  refine ⟨h', ?_, e1, e2⟩
  refine Rn.run 5 rfl ?_
  refine Rn.sld rfl (i + 1) (by unfold w32; omega) (by omega) ?_
  refine Rn.call rfl rfl rfl rfl rfl h1 ?_
  refine Rn.run 5 rfl ?_
  refine Rn.sld rfl (i + 1) (by unfold w32; omega) (by omega) ?_
  refine Rn.call rfl rfl rfl rfl rfl h2 ?_
  refine Rn.eq2 rfl (fun _ => ?_) (fun e => absurd h3 e)
  refine Rn.run 2 rfl ?_
  exact hr
theorem lawc9 {L : Nat} {xs : Nat → Int} {i : Nat} (hxs : ∀ j, w32 (xs j) = xs j) (hi : i + 6 ≤ L) (hL : L ≤ 3072) {c : Nat → Nat → Int} {b : Bool} (hI : Inv c b) (ih : ∀ c b, Inv c b → ∃ h', Rn (xexO L xs) xt240 25 18 [xX 0, xA 0, xA 54, xI ((i + 6 : Nat) : Int)] [] (hp c b) (xI 1, h') ∧ h'.1 = 71 ∧ h'.2.1 = 3590) : ∃ h', Rn (xexO L xs) xt240 25 537 [xX 0, xA 0, xA 54, xI (i : Int)] [] (hp c b) (xI 1, h') ∧ h'.1 = 71 ∧ h'.2.1 = 3590 := by
  obtain ⟨v1, v2, c1, b1, c2, b2, h1, h2, h3, h4⟩ := g_green (ex := xexO L xs) rfl (xs (i + 1)) (hxs _) 4 c b hI
  obtain ⟨h', hr, e1, e2⟩ := ih c2 b2 h4
  refine ⟨h', ?_, e1, e2⟩
  refine Rn.run 5 rfl ?_
  refine Rn.sld rfl (i + 1) (by unfold w32; omega) (by omega) ?_
  refine Rn.call rfl rfl rfl rfl rfl h1 ?_
  refine Rn.run 5 rfl ?_
  refine Rn.sld rfl (i + 1) (by unfold w32; omega) (by omega) ?_
  refine Rn.call rfl rfl rfl rfl rfl h2 ?_
  refine Rn.eq2 rfl (fun _ => ?_) (fun e => absurd h3 e)
  refine Rn.run 2 rfl ?_
  exact hr
theorem lawc10 {L : Nat} {xs : Nat → Int} {i : Nat} (hxs : ∀ j, w32 (xs j) = xs j) (hi : i + 6 ≤ L) (hL : L ≤ 3072) {c : Nat → Nat → Int} {b : Bool} (hI : Inv c b) (ih : ∀ c b, Inv c b → ∃ h', Rn (xexO L xs) xt240 25 18 [xX 0, xA 0, xA 54, xI ((i + 6 : Nat) : Int)] [] (hp c b) (xI 1, h') ∧ h'.1 = 71 ∧ h'.2.1 = 3590) : ∃ h', Rn (xexO L xs) xt240 25 560 [xX 0, xA 0, xA 54, xI (i : Int)] [] (hp c b) (xI 1, h') ∧ h'.1 = 71 ∧ h'.2.1 = 3590 := by
  obtain ⟨v1, v2, c1, b1, c2, b2, h1, h2, h3, h4⟩ := g_bough (ex := xexO L xs) (xs (i + 1)) (xs (i + 2)) (hxs _) (hxs _) 4 c b hI
  obtain ⟨h', hr, e1, e2⟩ := ih c2 b2 h4
  refine ⟨h', ?_, e1, e2⟩
  refine Rn.run 5 rfl ?_
  refine Rn.sld rfl (i + 1) (by unfold w32; omega) (by omega) ?_
  refine Rn.run 4 rfl ?_
  refine Rn.sld rfl (i + 2) (by unfold w32; omega) (by omega) ?_
  refine Rn.call rfl rfl rfl rfl rfl h1 ?_
  refine Rn.run 5 rfl ?_
  refine Rn.sld rfl (i + 1) (by unfold w32; omega) (by omega) ?_
  refine Rn.run 4 rfl ?_
  refine Rn.sld rfl (i + 2) (by unfold w32; omega) (by omega) ?_
  refine Rn.call rfl rfl rfl rfl rfl h2 ?_
  refine Rn.eq2 rfl (fun _ => ?_) (fun e => absurd h3 e)
  refine Rn.run 2 rfl ?_
  exact hr
theorem lawc11 {L : Nat} {xs : Nat → Int} {i : Nat} (hxs : ∀ j, w32 (xs j) = xs j) (hi : i + 6 ≤ L) (hL : L ≤ 3072) {c : Nat → Nat → Int} {b : Bool} (hI : Inv c b) (ih : ∀ c b, Inv c b → ∃ h', Rn (xexO L xs) xt240 25 18 [xX 0, xA 0, xA 54, xI ((i + 6 : Nat) : Int)] [] (hp c b) (xI 1, h') ∧ h'.1 = 71 ∧ h'.2.1 = 3590) : ∃ h', Rn (xexO L xs) xt240 25 593 [xX 0, xA 0, xA 54, xI (i : Int)] [] (hp c b) (xI 1, h') ∧ h'.1 = 71 ∧ h'.2.1 = 3590 := by
  obtain ⟨v1, v2, c1, b1, c2, b2, h1, h2, h3, h4⟩ := g_death (ex := xexO L xs) (xs (i + 1)) (xs (i + 2)) (hxs _) (hxs _) 4 c b hI
  obtain ⟨h', hr, e1, e2⟩ := ih c2 b2 h4
  refine ⟨h', ?_, e1, e2⟩
  refine Rn.run 5 rfl ?_
  refine Rn.sld rfl (i + 1) (by unfold w32; omega) (by omega) ?_
  refine Rn.run 4 rfl ?_
  refine Rn.sld rfl (i + 2) (by unfold w32; omega) (by omega) ?_
  refine Rn.call rfl rfl rfl rfl rfl h1 ?_
  refine Rn.run 5 rfl ?_
  refine Rn.sld rfl (i + 1) (by unfold w32; omega) (by omega) ?_
  refine Rn.run 4 rfl ?_
  refine Rn.sld rfl (i + 2) (by unfold w32; omega) (by omega) ?_
  refine Rn.call rfl rfl rfl rfl rfl h2 ?_
  refine Rn.eq2 rfl (fun _ => ?_) (fun e => absurd h3 e)
  refine Rn.run 2 rfl ?_
  exact hr
theorem lawc12 {L : Nat} {xs : Nat → Int} {i : Nat} (hxs : ∀ j, w32 (xs j) = xs j) (hi : i + 6 ≤ L) (hL : L ≤ 3072) {c : Nat → Nat → Int} {b : Bool} (hI : Inv c b) (ih : ∀ c b, Inv c b → ∃ h', Rn (xexO L xs) xt240 25 18 [xX 0, xA 0, xA 54, xI ((i + 6 : Nat) : Int)] [] (hp c b) (xI 1, h') ∧ h'.1 = 71 ∧ h'.2.1 = 3590) : ∃ h', Rn (xexO L xs) xt240 25 626 [xX 0, xA 0, xA 54, xI (i : Int)] [] (hp c b) (xI 1, h') ∧ h'.1 = 71 ∧ h'.2.1 = 3590 := by
  obtain ⟨v1, v2, c1, b1, c2, b2, h1, h2, h3, h4⟩ := g_mark (ex := xexO L xs) (xs (i + 1)) (xs (i + 2)) (hxs _) (hxs _) 4 c b hI
  obtain ⟨h', hr, e1, e2⟩ := ih c2 b2 h4
  refine ⟨h', ?_, e1, e2⟩
  refine Rn.run 5 rfl ?_
  refine Rn.sld rfl (i + 1) (by unfold w32; omega) (by omega) ?_
  refine Rn.run 4 rfl ?_
  refine Rn.sld rfl (i + 2) (by unfold w32; omega) (by omega) ?_
  refine Rn.call rfl rfl rfl rfl rfl h1 ?_
  refine Rn.run 5 rfl ?_
  refine Rn.sld rfl (i + 1) (by unfold w32; omega) (by omega) ?_
  refine Rn.run 4 rfl ?_
  refine Rn.sld rfl (i + 2) (by unfold w32; omega) (by omega) ?_
  refine Rn.call rfl rfl rfl rfl rfl h2 ?_
  refine Rn.eq2 rfl (fun _ => ?_) (fun e => absurd h3 e)
  refine Rn.run 2 rfl ?_
  exact hr
theorem lawc13 {L : Nat} {xs : Nat → Int} {i : Nat} (hxs : ∀ j, w32 (xs j) = xs j) (hi : i + 6 ≤ L) (hL : L ≤ 3072) {c : Nat → Nat → Int} {b : Bool} (hI : Inv c b) (ih : ∀ c b, Inv c b → ∃ h', Rn (xexO L xs) xt240 25 18 [xX 0, xA 0, xA 54, xI ((i + 6 : Nat) : Int)] [] (hp c b) (xI 1, h') ∧ h'.1 = 71 ∧ h'.2.1 = 3590) : ∃ h', Rn (xexO L xs) xt240 25 659 [xX 0, xA 0, xA 54, xI (i : Int)] [] (hp c b) (xI 1, h') ∧ h'.1 = 71 ∧ h'.2.1 = 3590 := by
  obtain ⟨v1, v2, c1, b1, c2, b2, h1, h2, h3, h4⟩ := g_morning (ex := xexO L xs)   4 c b hI
  obtain ⟨h', hr, e1, e2⟩ := ih c2 b2 h4
  refine ⟨h', ?_, e1, e2⟩
  refine Rn.run 1 rfl ?_
  refine Rn.call rfl rfl rfl rfl rfl h1 ?_
  refine Rn.run 1 rfl ?_
  refine Rn.call rfl rfl rfl rfl rfl h2 ?_
  refine Rn.eq2 rfl (fun _ => ?_) (fun e => absurd h3 e)
  refine Rn.run 2 rfl ?_
  exact hr
theorem lawc14 {L : Nat} {xs : Nat → Int} {i : Nat} (hxs : ∀ j, w32 (xs j) = xs j) (hi : i + 6 ≤ L) (hL : L ≤ 3072) {c : Nat → Nat → Int} {b : Bool} (hI : Inv c b) (ih : ∀ c b, Inv c b → ∃ h', Rn (xexO L xs) xt240 25 18 [xX 0, xA 0, xA 54, xI ((i + 6 : Nat) : Int)] [] (hp c b) (xI 1, h') ∧ h'.1 = 71 ∧ h'.2.1 = 3590) : ∃ h', Rn (xexO L xs) xt240 25 672 [xX 0, xA 0, xA 54, xI (i : Int)] [] (hp c b) (xI 1, h') ∧ h'.1 = 71 ∧ h'.2.1 = 3590 := by
  obtain ⟨v1, v2, c1, b1, c2, b2, h1, h2, h3, h4⟩ := g_tell (ex := xexO L xs) (xs (i + 1)) (hxs _) 4 c b hI
  obtain ⟨h', hr, e1, e2⟩ := ih c2 b2 h4
  refine ⟨h', ?_, e1, e2⟩
  refine Rn.run 5 rfl ?_
  refine Rn.sld rfl (i + 1) (by unfold w32; omega) (by omega) ?_
  refine Rn.call rfl rfl rfl rfl rfl h1 ?_
  refine Rn.run 5 rfl ?_
  refine Rn.sld rfl (i + 1) (by unfold w32; omega) (by omega) ?_
  refine Rn.call rfl rfl rfl rfl rfl h2 ?_
  refine Rn.eq2 rfl (fun _ => ?_) (fun e => absurd h3 e)
  refine Rn.run 2 rfl ?_
  exact hr
theorem lawc15 {L : Nat} {xs : Nat → Int} {i : Nat} (hxs : ∀ j, w32 (xs j) = xs j) (hi : i + 6 ≤ L) (hL : L ≤ 3072) {c : Nat → Nat → Int} {b : Bool} (hI : Inv c b) (ih : ∀ c b, Inv c b → ∃ h', Rn (xexO L xs) xt240 25 18 [xX 0, xA 0, xA 54, xI ((i + 6 : Nat) : Int)] [] (hp c b) (xI 1, h') ∧ h'.1 = 71 ∧ h'.2.1 = 3590) : ∃ h', Rn (xexO L xs) xt240 25 695 [xX 0, xA 0, xA 54, xI (i : Int)] [] (hp c b) (xI 1, h') ∧ h'.1 = 71 ∧ h'.2.1 = 3590 := by
  obtain ⟨v1, v2, c1, b1, c2, b2, h1, h2, h3, h4⟩ := g_water (ex := xexO L xs) (xs (i + 1)) (xs (i + 2)) (hxs _) (hxs _) 4 c b hI
  obtain ⟨h', hr, e1, e2⟩ := ih c2 b2 h4
  refine ⟨h', ?_, e1, e2⟩
  refine Rn.run 5 rfl ?_
  refine Rn.sld rfl (i + 1) (by unfold w32; omega) (by omega) ?_
  refine Rn.run 4 rfl ?_
  refine Rn.sld rfl (i + 2) (by unfold w32; omega) (by omega) ?_
  refine Rn.call rfl rfl rfl rfl rfl h1 ?_
  refine Rn.run 5 rfl ?_
  refine Rn.sld rfl (i + 1) (by unfold w32; omega) (by omega) ?_
  refine Rn.run 4 rfl ?_
  refine Rn.sld rfl (i + 2) (by unfold w32; omega) (by omega) ?_
  refine Rn.call rfl rfl rfl rfl rfl h2 ?_
  refine Rn.eq2 rfl (fun _ => ?_) (fun e => absurd h3 e)
  refine Rn.run 2 rfl ?_
  exact hr
theorem lawc16 {L : Nat} {xs : Nat → Int} {i : Nat} (hxs : ∀ j, w32 (xs j) = xs j) (hi : i + 6 ≤ L) (hL : L ≤ 3072) {c : Nat → Nat → Int} {b : Bool} (hI : Inv c b) (ih : ∀ c b, Inv c b → ∃ h', Rn (xexO L xs) xt240 25 18 [xX 0, xA 0, xA 54, xI ((i + 6 : Nat) : Int)] [] (hp c b) (xI 1, h') ∧ h'.1 = 71 ∧ h'.2.1 = 3590) : ∃ h', Rn (xexO L xs) xt240 25 728 [xX 0, xA 0, xA 54, xI (i : Int)] [] (hp c b) (xI 1, h') ∧ h'.1 = 71 ∧ h'.2.1 = 3590 := by
  obtain ⟨v1, v2, c1, b1, c2, b2, h1, h2, h3, h4⟩ := g_prune (ex := xexO L xs) (xs (i + 1)) (hxs _) 4 c b hI
  obtain ⟨h', hr, e1, e2⟩ := ih c2 b2 h4
  refine ⟨h', ?_, e1, e2⟩
  refine Rn.run 5 rfl ?_
  refine Rn.sld rfl (i + 1) (by unfold w32; omega) (by omega) ?_
  refine Rn.call rfl rfl rfl rfl rfl h1 ?_
  refine Rn.run 5 rfl ?_
  refine Rn.sld rfl (i + 1) (by unfold w32; omega) (by omega) ?_
  refine Rn.call rfl rfl rfl rfl rfl h2 ?_
  refine Rn.eq2 rfl (fun _ => ?_) (fun e => absurd h3 e)
  refine Rn.run 2 rfl ?_
  exact hr
theorem lawc17 {L : Nat} {xs : Nat → Int} {i : Nat} (hxs : ∀ j, w32 (xs j) = xs j) (hi : i + 6 ≤ L) (hL : L ≤ 3072) {c : Nat → Nat → Int} {b : Bool} (hI : Inv c b) (ih : ∀ c b, Inv c b → ∃ h', Rn (xexO L xs) xt240 25 18 [xX 0, xA 0, xA 54, xI ((i + 6 : Nat) : Int)] [] (hp c b) (xI 1, h') ∧ h'.1 = 71 ∧ h'.2.1 = 3590) : ∃ h', Rn (xexO L xs) xt240 25 751 [xX 0, xA 0, xA 54, xI (i : Int)] [] (hp c b) (xI 1, h') ∧ h'.1 = 71 ∧ h'.2.1 = 3590 := by
  obtain ⟨v1, v2, c1, b1, c2, b2, h1, h2, h3, h4⟩ := g_undo (ex := xexO L xs) (xs (i + 1)) (hxs _) 4 c b hI
  obtain ⟨h', hr, e1, e2⟩ := ih c2 b2 h4
  refine ⟨h', ?_, e1, e2⟩
  refine Rn.run 5 rfl ?_
  refine Rn.sld rfl (i + 1) (by unfold w32; omega) (by omega) ?_
  refine Rn.call rfl rfl rfl rfl rfl h1 ?_
  refine Rn.run 5 rfl ?_
  refine Rn.sld rfl (i + 1) (by unfold w32; omega) (by omega) ?_
  refine Rn.call rfl rfl rfl rfl rfl h2 ?_
  refine Rn.eq2 rfl (fun _ => ?_) (fun e => absurd h3 e)
  refine Rn.run 2 rfl ?_
  exact hr
theorem lawc18 {L : Nat} {xs : Nat → Int} {i : Nat} (hxs : ∀ j, w32 (xs j) = xs j) (hi : i + 6 ≤ L) (hL : L ≤ 3072) {c : Nat → Nat → Int} {b : Bool} (hI : Inv c b) (ih : ∀ c b, Inv c b → ∃ h', Rn (xexO L xs) xt240 25 18 [xX 0, xA 0, xA 54, xI ((i + 6 : Nat) : Int)] [] (hp c b) (xI 1, h') ∧ h'.1 = 71 ∧ h'.2.1 = 3590) : ∃ h', Rn (xexO L xs) xt240 25 774 [xX 0, xA 0, xA 54, xI (i : Int)] [] (hp c b) (xI 1, h') ∧ h'.1 = 71 ∧ h'.2.1 = 3590 := by
  obtain ⟨v1, v2, c1, b1, c2, b2, h1, h2, h3, h4⟩ := g_keep (ex := xexO L xs) (xs (i + 1)) (hxs _) 4 c b hI
  obtain ⟨h', hr, e1, e2⟩ := ih c2 b2 h4
  refine ⟨h', ?_, e1, e2⟩
  refine Rn.run 5 rfl ?_
  refine Rn.sld rfl (i + 1) (by unfold w32; omega) (by omega) ?_
  refine Rn.call rfl rfl rfl rfl rfl h1 ?_
  refine Rn.run 5 rfl ?_
  refine Rn.sld rfl (i + 1) (by unfold w32; omega) (by omega) ?_
  refine Rn.call rfl rfl rfl rfl rfl h2 ?_
  refine Rn.eq2 rfl (fun _ => ?_) (fun e => absurd h3 e)
  refine Rn.run 2 rfl ?_
  exact hr
theorem lawc19 {L : Nat} {xs : Nat → Int} {i : Nat} (hxs : ∀ j, w32 (xs j) = xs j) (hi : i + 6 ≤ L) (hL : L ≤ 3072) {c : Nat → Nat → Int} {b : Bool} (hI : Inv c b) (ih : ∀ c b, Inv c b → ∃ h', Rn (xexO L xs) xt240 25 18 [xX 0, xA 0, xA 54, xI ((i + 6 : Nat) : Int)] [] (hp c b) (xI 1, h') ∧ h'.1 = 71 ∧ h'.2.1 = 3590) : ∃ h', Rn (xexO L xs) xt240 25 797 [xX 0, xA 0, xA 54, xI (i : Int)] [] (hp c b) (xI 1, h') ∧ h'.1 = 71 ∧ h'.2.1 = 3590 := by
  obtain ⟨v1, v2, c1, b1, c2, b2, h1, h2, h3, h4⟩ := g_on (ex := xexO L xs) (xs (i + 1)) (hxs _) 4 c b hI
  obtain ⟨h', hr, e1, e2⟩ := ih c2 b2 h4
  refine ⟨h', ?_, e1, e2⟩
  refine Rn.run 5 rfl ?_
  refine Rn.sld rfl (i + 1) (by unfold w32; omega) (by omega) ?_
  refine Rn.call rfl rfl rfl rfl rfl h1 ?_
  refine Rn.run 5 rfl ?_
  refine Rn.sld rfl (i + 1) (by unfold w32; omega) (by omega) ?_
  refine Rn.call rfl rfl rfl rfl rfl h2 ?_
  refine Rn.eq2 rfl (fun _ => ?_) (fun e => absurd h3 e)
  refine Rn.run 2 rfl ?_
  exact hr
theorem lawc20 {L : Nat} {xs : Nat → Int} {i : Nat} (hxs : ∀ j, w32 (xs j) = xs j) (hi : i + 6 ≤ L) (hL : L ≤ 3072) {c : Nat → Nat → Int} {b : Bool} (hI : Inv c b) (ih : ∀ c b, Inv c b → ∃ h', Rn (xexO L xs) xt240 25 18 [xX 0, xA 0, xA 54, xI ((i + 6 : Nat) : Int)] [] (hp c b) (xI 1, h') ∧ h'.1 = 71 ∧ h'.2.1 = 3590) : ∃ h', Rn (xexO L xs) xt240 25 820 [xX 0, xA 0, xA 54, xI (i : Int)] [] (hp c b) (xI 1, h') ∧ h'.1 = 71 ∧ h'.2.1 = 3590 := by
  obtain ⟨v1, v2, c1, b1, c2, b2, h1, h2, h3, h4⟩ := g_answers (ex := xexO L xs) (xs (i + 1)) (xs (i + 2)) (xs (i + 3)) (hxs _) (hxs _) (hxs _) 4 c b hI
  obtain ⟨h', hr, e1, e2⟩ := ih c2 b2 h4
  refine ⟨h', ?_, e1, e2⟩
  refine Rn.run 5 rfl ?_
  refine Rn.sld rfl (i + 1) (by unfold w32; omega) (by omega) ?_
  refine Rn.run 4 rfl ?_
  refine Rn.sld rfl (i + 2) (by unfold w32; omega) (by omega) ?_
  refine Rn.run 4 rfl ?_
  refine Rn.sld rfl (i + 3) (by unfold w32; omega) (by omega) ?_
  refine Rn.call rfl rfl rfl rfl rfl h1 ?_
  refine Rn.run 5 rfl ?_
  refine Rn.sld rfl (i + 1) (by unfold w32; omega) (by omega) ?_
  refine Rn.run 4 rfl ?_
  refine Rn.sld rfl (i + 2) (by unfold w32; omega) (by omega) ?_
  refine Rn.run 4 rfl ?_
  refine Rn.sld rfl (i + 3) (by unfold w32; omega) (by omega) ?_
  refine Rn.call rfl rfl rfl rfl rfl h2 ?_
  refine Rn.eq2 rfl (fun _ => ?_) (fun e => absurd h3 e)
  refine Rn.run 2 rfl ?_
  exact hr
theorem lawc21 {L : Nat} {xs : Nat → Int} {i : Nat} (hxs : ∀ j, w32 (xs j) = xs j) (hi : i + 6 ≤ L) (hL : L ≤ 3072) {c : Nat → Nat → Int} {b : Bool} (hI : Inv c b) (ih : ∀ c b, Inv c b → ∃ h', Rn (xexO L xs) xt240 25 18 [xX 0, xA 0, xA 54, xI ((i + 6 : Nat) : Int)] [] (hp c b) (xI 1, h') ∧ h'.1 = 71 ∧ h'.2.1 = 3590) : ∃ h', Rn (xexO L xs) xt240 25 863 [xX 0, xA 0, xA 54, xI (i : Int)] [] (hp c b) (xI 1, h') ∧ h'.1 = 71 ∧ h'.2.1 = 3590 := by
  obtain ⟨v1, v2, c1, b1, c2, b2, h1, h2, h3, h4⟩ := g_leaves (ex := xexO L xs) (xs (i + 1)) (hxs _) 4 c b hI
  obtain ⟨h', hr, e1, e2⟩ := ih c2 b2 h4
  refine ⟨h', ?_, e1, e2⟩
  refine Rn.run 5 rfl ?_
  refine Rn.sld rfl (i + 1) (by unfold w32; omega) (by omega) ?_
  refine Rn.call rfl rfl rfl rfl rfl h1 ?_
  refine Rn.run 5 rfl ?_
  refine Rn.sld rfl (i + 1) (by unfold w32; omega) (by omega) ?_
  refine Rn.call rfl rfl rfl rfl rfl h2 ?_
  refine Rn.eq2 rfl (fun _ => ?_) (fun e => absurd h3 e)
  refine Rn.run 2 rfl ?_
  exact hr
theorem lawc22 {L : Nat} {xs : Nat → Int} {i : Nat} (hxs : ∀ j, w32 (xs j) = xs j) (hi : i + 6 ≤ L) (hL : L ≤ 3072) {c : Nat → Nat → Int} {b : Bool} (hI : Inv c b) (ih : ∀ c b, Inv c b → ∃ h', Rn (xexO L xs) xt240 25 18 [xX 0, xA 0, xA 54, xI ((i + 6 : Nat) : Int)] [] (hp c b) (xI 1, h') ∧ h'.1 = 71 ∧ h'.2.1 = 3590) : ∃ h', Rn (xexO L xs) xt240 25 886 [xX 0, xA 0, xA 54, xI (i : Int)] [] (hp c b) (xI 1, h') ∧ h'.1 = 71 ∧ h'.2.1 = 3590 := by
  obtain ⟨v1, v2, c1, b1, c2, b2, h1, h2, h3, h4⟩ := g_bare (ex := xexO L xs) (xs (i + 1)) (hxs _) 4 c b hI
  obtain ⟨h', hr, e1, e2⟩ := ih c2 b2 h4
  refine ⟨h', ?_, e1, e2⟩
  refine Rn.run 5 rfl ?_
  refine Rn.sld rfl (i + 1) (by unfold w32; omega) (by omega) ?_
  refine Rn.call rfl rfl rfl rfl rfl h1 ?_
  refine Rn.run 5 rfl ?_
  refine Rn.sld rfl (i + 1) (by unfold w32; omega) (by omega) ?_
  refine Rn.call rfl rfl rfl rfl rfl h2 ?_
  refine Rn.eq2 rfl (fun _ => ?_) (fun e => absurd h3 e)
  refine Rn.run 2 rfl ?_
  exact hr
theorem lawc23 {L : Nat} {xs : Nat → Int} {i : Nat} (hxs : ∀ j, w32 (xs j) = xs j) (hi : i + 6 ≤ L) (hL : L ≤ 3072) {c : Nat → Nat → Int} {b : Bool} (hI : Inv c b) (ih : ∀ c b, Inv c b → ∃ h', Rn (xexO L xs) xt240 25 18 [xX 0, xA 0, xA 54, xI ((i + 6 : Nat) : Int)] [] (hp c b) (xI 1, h') ∧ h'.1 = 71 ∧ h'.2.1 = 3590) : ∃ h', Rn (xexO L xs) xt240 25 909 [xX 0, xA 0, xA 54, xI (i : Int)] [] (hp c b) (xI 1, h') ∧ h'.1 = 71 ∧ h'.2.1 = 3590 := by
  obtain ⟨v1, v2, c1, b1, c2, b2, h1, h2, h3, h4⟩ := g_round (ex := xexO L xs) (xs (i + 1)) (xs (i + 2)) (hxs _) (hxs _) 4 c b hI
  obtain ⟨h', hr, e1, e2⟩ := ih c2 b2 h4
  refine ⟨h', ?_, e1, e2⟩
  refine Rn.run 5 rfl ?_
  refine Rn.sld rfl (i + 1) (by unfold w32; omega) (by omega) ?_
  refine Rn.run 4 rfl ?_
  refine Rn.sld rfl (i + 2) (by unfold w32; omega) (by omega) ?_
  refine Rn.call rfl rfl rfl rfl rfl h1 ?_
  refine Rn.run 5 rfl ?_
  refine Rn.sld rfl (i + 1) (by unfold w32; omega) (by omega) ?_
  refine Rn.run 4 rfl ?_
  refine Rn.sld rfl (i + 2) (by unfold w32; omega) (by omega) ?_
  refine Rn.call rfl rfl rfl rfl rfl h2 ?_
  refine Rn.eq2 rfl (fun _ => ?_) (fun e => absurd h3 e)
  refine Rn.run 2 rfl ?_
  exact hr
theorem lawc24 {L : Nat} {xs : Nat → Int} {i : Nat} (hxs : ∀ j, w32 (xs j) = xs j) (hi : i + 6 ≤ L) (hL : L ≤ 3072) {c : Nat → Nat → Int} {b : Bool} (hI : Inv c b) (ih : ∀ c b, Inv c b → ∃ h', Rn (xexO L xs) xt240 25 18 [xX 0, xA 0, xA 54, xI ((i + 6 : Nat) : Int)] [] (hp c b) (xI 1, h') ∧ h'.1 = 71 ∧ h'.2.1 = 3590) : ∃ h', Rn (xexO L xs) xt240 25 942 [xX 0, xA 0, xA 54, xI (i : Int)] [] (hp c b) (xI 1, h') ∧ h'.1 = 71 ∧ h'.2.1 = 3590 := by
  obtain ⟨v1, v2, c1, b1, c2, b2, h1, h2, h3, h4⟩ := g_plan (ex := xexO L xs) (xs (i + 1)) (xs (i + 2)) (xs (i + 3)) (hxs _) (hxs _) (hxs _) 4 c b hI
  obtain ⟨h', hr, e1, e2⟩ := ih c2 b2 h4
  refine ⟨h', ?_, e1, e2⟩
  refine Rn.run 5 rfl ?_
  refine Rn.sld rfl (i + 1) (by unfold w32; omega) (by omega) ?_
  refine Rn.run 4 rfl ?_
  refine Rn.sld rfl (i + 2) (by unfold w32; omega) (by omega) ?_
  refine Rn.run 4 rfl ?_
  refine Rn.sld rfl (i + 3) (by unfold w32; omega) (by omega) ?_
  refine Rn.call rfl rfl rfl rfl rfl h1 ?_
  refine Rn.run 5 rfl ?_
  refine Rn.sld rfl (i + 1) (by unfold w32; omega) (by omega) ?_
  refine Rn.run 4 rfl ?_
  refine Rn.sld rfl (i + 2) (by unfold w32; omega) (by omega) ?_
  refine Rn.run 4 rfl ?_
  refine Rn.sld rfl (i + 3) (by unfold w32; omega) (by omega) ?_
  refine Rn.call rfl rfl rfl rfl rfl h2 ?_
  refine Rn.eq2 rfl (fun _ => ?_) (fun e => absurd h3 e)
  refine Rn.run 2 rfl ?_
  exact hr
theorem lawc25 {L : Nat} {xs : Nat → Int} {i : Nat} (hxs : ∀ j, w32 (xs j) = xs j) (hi : i + 6 ≤ L) (hL : L ≤ 3072) {c : Nat → Nat → Int} {b : Bool} (hI : Inv c b) (ih : ∀ c b, Inv c b → ∃ h', Rn (xexO L xs) xt240 25 18 [xX 0, xA 0, xA 54, xI ((i + 6 : Nat) : Int)] [] (hp c b) (xI 1, h') ∧ h'.1 = 71 ∧ h'.2.1 = 3590) : ∃ h', Rn (xexO L xs) xt240 25 985 [xX 0, xA 0, xA 54, xI (i : Int)] [] (hp c b) (xI 1, h') ∧ h'.1 = 71 ∧ h'.2.1 = 3590 := by
  obtain ⟨v1, v2, c1, b1, c2, b2, h1, h2, h3, h4⟩ := g_about (ex := xexO L xs) (xs (i + 1)) (xs (i + 2)) (hxs _) (hxs _) 4 c b hI
  obtain ⟨h', hr, e1, e2⟩ := ih c2 b2 h4
  refine ⟨h', ?_, e1, e2⟩
  refine Rn.run 5 rfl ?_
  refine Rn.sld rfl (i + 1) (by unfold w32; omega) (by omega) ?_
  refine Rn.run 4 rfl ?_
  refine Rn.sld rfl (i + 2) (by unfold w32; omega) (by omega) ?_
  refine Rn.call rfl rfl rfl rfl rfl h1 ?_
  refine Rn.run 5 rfl ?_
  refine Rn.sld rfl (i + 1) (by unfold w32; omega) (by omega) ?_
  refine Rn.run 4 rfl ?_
  refine Rn.sld rfl (i + 2) (by unfold w32; omega) (by omega) ?_
  refine Rn.call rfl rfl rfl rfl rfl h2 ?_
  refine Rn.eq2 rfl (fun _ => ?_) (fun e => absurd h3 e)
  refine Rn.run 2 rfl ?_
  exact hr
theorem lawc26 {L : Nat} {xs : Nat → Int} {i : Nat} (hxs : ∀ j, w32 (xs j) = xs j) (hi : i + 6 ≤ L) (hL : L ≤ 3072) {c : Nat → Nat → Int} {b : Bool} (hI : Inv c b) (ih : ∀ c b, Inv c b → ∃ h', Rn (xexO L xs) xt240 25 18 [xX 0, xA 0, xA 54, xI ((i + 6 : Nat) : Int)] [] (hp c b) (xI 1, h') ∧ h'.1 = 71 ∧ h'.2.1 = 3590) : ∃ h', Rn (xexO L xs) xt240 25 1018 [xX 0, xA 0, xA 54, xI (i : Int)] [] (hp c b) (xI 1, h') ∧ h'.1 = 71 ∧ h'.2.1 = 3590 := by
  obtain ⟨v1, v2, c1, b1, c2, b2, h1, h2, h3, h4⟩ := g_sure (ex := xexO L xs) (xs (i + 1)) (xs (i + 2)) (hxs _) (hxs _) 4 c b hI
  obtain ⟨h', hr, e1, e2⟩ := ih c2 b2 h4
  refine ⟨h', ?_, e1, e2⟩
  refine Rn.run 5 rfl ?_
  refine Rn.sld rfl (i + 1) (by unfold w32; omega) (by omega) ?_
  refine Rn.run 4 rfl ?_
  refine Rn.sld rfl (i + 2) (by unfold w32; omega) (by omega) ?_
  refine Rn.call rfl rfl rfl rfl rfl h1 ?_
  refine Rn.run 5 rfl ?_
  refine Rn.sld rfl (i + 1) (by unfold w32; omega) (by omega) ?_
  refine Rn.run 4 rfl ?_
  refine Rn.sld rfl (i + 2) (by unfold w32; omega) (by omega) ?_
  refine Rn.call rfl rfl rfl rfl rfl h2 ?_
  refine Rn.eq2 rfl (fun _ => ?_) (fun e => absurd h3 e)
  refine Rn.run 2 rfl ?_
  exact hr
theorem lawc27 {L : Nat} {xs : Nat → Int} {i : Nat} (hxs : ∀ j, w32 (xs j) = xs j) (hi : i + 6 ≤ L) (hL : L ≤ 3072) {c : Nat → Nat → Int} {b : Bool} (hI : Inv c b) (ih : ∀ c b, Inv c b → ∃ h', Rn (xexO L xs) xt240 25 18 [xX 0, xA 0, xA 54, xI ((i + 6 : Nat) : Int)] [] (hp c b) (xI 1, h') ∧ h'.1 = 71 ∧ h'.2.1 = 3590) : ∃ h', Rn (xexO L xs) xt240 25 1051 [xX 0, xA 0, xA 54, xI (i : Int)] [] (hp c b) (xI 1, h') ∧ h'.1 = 71 ∧ h'.2.1 = 3590 := by
  obtain ⟨v1, v2, c1, b1, c2, b2, h1, h2, h3, h4⟩ := g_next (ex := xexO L xs) (xs (i + 1)) (xs (i + 2)) (hxs _) (hxs _) 4 c b hI
  obtain ⟨h', hr, e1, e2⟩ := ih c2 b2 h4
  refine ⟨h', ?_, e1, e2⟩
  refine Rn.run 5 rfl ?_
  refine Rn.sld rfl (i + 1) (by unfold w32; omega) (by omega) ?_
  refine Rn.run 4 rfl ?_
  refine Rn.sld rfl (i + 2) (by unfold w32; omega) (by omega) ?_
  refine Rn.call rfl rfl rfl rfl rfl h1 ?_
  refine Rn.run 5 rfl ?_
  refine Rn.sld rfl (i + 1) (by unfold w32; omega) (by omega) ?_
  refine Rn.run 4 rfl ?_
  refine Rn.sld rfl (i + 2) (by unfold w32; omega) (by omega) ?_
  refine Rn.call rfl rfl rfl rfl rfl h2 ?_
  refine Rn.eq2 rfl (fun _ => ?_) (fun e => absurd h3 e)
  refine Rn.run 2 rfl ?_
  exact hr
theorem lawc28 {L : Nat} {xs : Nat → Int} {i : Nat} (hxs : ∀ j, w32 (xs j) = xs j) (hi : i + 6 ≤ L) (hL : L ≤ 3072) {c : Nat → Nat → Int} {b : Bool} (hI : Inv c b) (ih : ∀ c b, Inv c b → ∃ h', Rn (xexO L xs) xt240 25 18 [xX 0, xA 0, xA 54, xI ((i + 6 : Nat) : Int)] [] (hp c b) (xI 1, h') ∧ h'.1 = 71 ∧ h'.2.1 = 3590) : ∃ h', Rn (xexO L xs) xt240 25 1084 [xX 0, xA 0, xA 54, xI (i : Int)] [] (hp c b) (xI 1, h') ∧ h'.1 = 71 ∧ h'.2.1 = 3590 := by
  obtain ⟨v1, v2, c1, b1, c2, b2, h1, h2, h3, h4⟩ := g_worths (ex := xexO L xs) (xs (i + 1)) (xs (i + 2)) (hxs _) (hxs _) 4 c b hI
  obtain ⟨h', hr, e1, e2⟩ := ih c2 b2 h4
  refine ⟨h', ?_, e1, e2⟩
  refine Rn.run 5 rfl ?_
  refine Rn.sld rfl (i + 1) (by unfold w32; omega) (by omega) ?_
  refine Rn.run 4 rfl ?_
  refine Rn.sld rfl (i + 2) (by unfold w32; omega) (by omega) ?_
  refine Rn.call rfl rfl rfl rfl rfl h1 ?_
  refine Rn.run 5 rfl ?_
  refine Rn.sld rfl (i + 1) (by unfold w32; omega) (by omega) ?_
  refine Rn.run 4 rfl ?_
  refine Rn.sld rfl (i + 2) (by unfold w32; omega) (by omega) ?_
  refine Rn.call rfl rfl rfl rfl rfl h2 ?_
  refine Rn.eq2 rfl (fun _ => ?_) (fun e => absurd h3 e)
  refine Rn.run 2 rfl ?_
  exact hr
theorem lawc29 {L : Nat} {xs : Nat → Int} {i : Nat} (hxs : ∀ j, w32 (xs j) = xs j) (hi : i + 6 ≤ L) (hL : L ≤ 3072) {c : Nat → Nat → Int} {b : Bool} (hI : Inv c b) (ih : ∀ c b, Inv c b → ∃ h', Rn (xexO L xs) xt240 25 18 [xX 0, xA 0, xA 54, xI ((i + 6 : Nat) : Int)] [] (hp c b) (xI 1, h') ∧ h'.1 = 71 ∧ h'.2.1 = 3590) : ∃ h', Rn (xexO L xs) xt240 25 1117 [xX 0, xA 0, xA 54, xI (i : Int)] [] (hp c b) (xI 1, h') ∧ h'.1 = 71 ∧ h'.2.1 = 3590 := by
  obtain ⟨v1, v2, c1, b1, c2, b2, h1, h2, h3, h4⟩ := g_kinds (ex := xexO L xs) (xs (i + 1)) (xs (i + 2)) (hxs _) (hxs _) 4 c b hI
  obtain ⟨h', hr, e1, e2⟩ := ih c2 b2 h4
  refine ⟨h', ?_, e1, e2⟩
  refine Rn.run 5 rfl ?_
  refine Rn.sld rfl (i + 1) (by unfold w32; omega) (by omega) ?_
  refine Rn.run 4 rfl ?_
  refine Rn.sld rfl (i + 2) (by unfold w32; omega) (by omega) ?_
  refine Rn.call rfl rfl rfl rfl rfl h1 ?_
  refine Rn.run 5 rfl ?_
  refine Rn.sld rfl (i + 1) (by unfold w32; omega) (by omega) ?_
  refine Rn.run 4 rfl ?_
  refine Rn.sld rfl (i + 2) (by unfold w32; omega) (by omega) ?_
  refine Rn.call rfl rfl rfl rfl rfl h2 ?_
  refine Rn.eq2 rfl (fun _ => ?_) (fun e => absurd h3 e)
  refine Rn.run 2 rfl ?_
  exact hr
theorem lawc30 {L : Nat} {xs : Nat → Int} {i : Nat} (hxs : ∀ j, w32 (xs j) = xs j) (hi : i + 6 ≤ L) (hL : L ≤ 3072) {c : Nat → Nat → Int} {b : Bool} (hI : Inv c b) (ih : ∀ c b, Inv c b → ∃ h', Rn (xexO L xs) xt240 25 18 [xX 0, xA 0, xA 54, xI ((i + 6 : Nat) : Int)] [] (hp c b) (xI 1, h') ∧ h'.1 = 71 ∧ h'.2.1 = 3590) : ∃ h', Rn (xexO L xs) xt240 25 1150 [xX 0, xA 0, xA 54, xI (i : Int)] [] (hp c b) (xI 1, h') ∧ h'.1 = 71 ∧ h'.2.1 = 3590 := by
  obtain ⟨v1, v2, c1, b1, c2, b2, h1, h2, h3, h4⟩ := g_sets (ex := xexO L xs) (xs (i + 1)) (hxs _) 4 c b hI
  obtain ⟨h', hr, e1, e2⟩ := ih c2 b2 h4
  refine ⟨h', ?_, e1, e2⟩
  refine Rn.run 5 rfl ?_
  refine Rn.sld rfl (i + 1) (by unfold w32; omega) (by omega) ?_
  refine Rn.call rfl rfl rfl rfl rfl h1 ?_
  refine Rn.run 5 rfl ?_
  refine Rn.sld rfl (i + 1) (by unfold w32; omega) (by omega) ?_
  refine Rn.call rfl rfl rfl rfl rfl h2 ?_
  refine Rn.eq2 rfl (fun _ => ?_) (fun e => absurd h3 e)
  refine Rn.run 2 rfl ?_
  exact hr
theorem lawc31 {L : Nat} {xs : Nat → Int} {i : Nat} (hxs : ∀ j, w32 (xs j) = xs j) (hi : i + 6 ≤ L) (hL : L ≤ 3072) {c : Nat → Nat → Int} {b : Bool} (hI : Inv c b) (ih : ∀ c b, Inv c b → ∃ h', Rn (xexO L xs) xt240 25 18 [xX 0, xA 0, xA 54, xI ((i + 6 : Nat) : Int)] [] (hp c b) (xI 1, h') ∧ h'.1 = 71 ∧ h'.2.1 = 3590) : ∃ h', Rn (xexO L xs) xt240 25 1173 [xX 0, xA 0, xA 54, xI (i : Int)] [] (hp c b) (xI 1, h') ∧ h'.1 = 71 ∧ h'.2.1 = 3590 := by
  obtain ⟨v1, v2, c1, b1, c2, b2, h1, h2, h3, h4⟩ := g_surely (ex := xexO L xs) (xs (i + 1)) (hxs _) 4 c b hI
  obtain ⟨h', hr, e1, e2⟩ := ih c2 b2 h4
  refine ⟨h', ?_, e1, e2⟩
  refine Rn.run 5 rfl ?_
  refine Rn.sld rfl (i + 1) (by unfold w32; omega) (by omega) ?_
  refine Rn.call rfl rfl rfl rfl rfl h1 ?_
  refine Rn.run 5 rfl ?_
  refine Rn.sld rfl (i + 1) (by unfold w32; omega) (by omega) ?_
  refine Rn.call rfl rfl rfl rfl rfl h2 ?_
  refine Rn.eq2 rfl (fun _ => ?_) (fun e => absurd h3 e)
  refine Rn.run 2 rfl ?_
  exact hr
theorem lawc32 {L : Nat} {xs : Nat → Int} {i : Nat} (hxs : ∀ j, w32 (xs j) = xs j) (hi : i + 6 ≤ L) (hL : L ≤ 3072) {c : Nat → Nat → Int} {b : Bool} (hI : Inv c b) (ih : ∀ c b, Inv c b → ∃ h', Rn (xexO L xs) xt240 25 18 [xX 0, xA 0, xA 54, xI ((i + 6 : Nat) : Int)] [] (hp c b) (xI 1, h') ∧ h'.1 = 71 ∧ h'.2.1 = 3590) : ∃ h', Rn (xexO L xs) xt240 25 1196 [xX 0, xA 0, xA 54, xI (i : Int)] [] (hp c b) (xI 1, h') ∧ h'.1 = 71 ∧ h'.2.1 = 3590 := by
  obtain ⟨v1, v2, c1, b1, c2, b2, h1, h2, h3, h4⟩ := g_duel (ex := xexO L xs) (xs (i + 1)) (hxs _) 4 c b hI
  obtain ⟨h', hr, e1, e2⟩ := ih c2 b2 h4
  refine ⟨h', ?_, e1, e2⟩
  refine Rn.run 5 rfl ?_
  refine Rn.sld rfl (i + 1) (by unfold w32; omega) (by omega) ?_
  refine Rn.call rfl rfl rfl rfl rfl h1 ?_
  refine Rn.run 5 rfl ?_
  refine Rn.sld rfl (i + 1) (by unfold w32; omega) (by omega) ?_
  refine Rn.call rfl rfl rfl rfl rfl h2 ?_
  refine Rn.eq2 rfl (fun _ => ?_) (fun e => absurd h3 e)
  refine Rn.run 2 rfl ?_
  exact hr
theorem lawc33 {L : Nat} {xs : Nat → Int} {i : Nat} (hxs : ∀ j, w32 (xs j) = xs j) (hi : i + 6 ≤ L) (hL : L ≤ 3072) {c : Nat → Nat → Int} {b : Bool} (hI : Inv c b) (ih : ∀ c b, Inv c b → ∃ h', Rn (xexO L xs) xt240 25 18 [xX 0, xA 0, xA 54, xI ((i + 6 : Nat) : Int)] [] (hp c b) (xI 1, h') ∧ h'.1 = 71 ∧ h'.2.1 = 3590) : ∃ h', Rn (xexO L xs) xt240 25 1219 [xX 0, xA 0, xA 54, xI (i : Int)] [] (hp c b) (xI 1, h') ∧ h'.1 = 71 ∧ h'.2.1 = 3590 := by
  obtain ⟨v1, v2, c1, b1, c2, b2, h1, h2, h3, h4⟩ := g_odds (ex := xexO L xs) (xs (i + 1)) (xs (i + 2)) (xs (i + 3)) (hxs _) (hxs _) (hxs _) 4 c b hI
  obtain ⟨h', hr, e1, e2⟩ := ih c2 b2 h4
  refine ⟨h', ?_, e1, e2⟩
  refine Rn.run 5 rfl ?_
  refine Rn.sld rfl (i + 1) (by unfold w32; omega) (by omega) ?_
  refine Rn.run 4 rfl ?_
  refine Rn.sld rfl (i + 2) (by unfold w32; omega) (by omega) ?_
  refine Rn.run 4 rfl ?_
  refine Rn.sld rfl (i + 3) (by unfold w32; omega) (by omega) ?_
  refine Rn.call rfl rfl rfl rfl rfl h1 ?_
  refine Rn.run 5 rfl ?_
  refine Rn.sld rfl (i + 1) (by unfold w32; omega) (by omega) ?_
  refine Rn.run 4 rfl ?_
  refine Rn.sld rfl (i + 2) (by unfold w32; omega) (by omega) ?_
  refine Rn.run 4 rfl ?_
  refine Rn.sld rfl (i + 3) (by unfold w32; omega) (by omega) ?_
  refine Rn.call rfl rfl rfl rfl rfl h2 ?_
  refine Rn.eq2 rfl (fun _ => ?_) (fun e => absurd h3 e)
  refine Rn.run 2 rfl ?_
  exact hr
theorem lawc34 {L : Nat} {xs : Nat → Int} {i : Nat} (hxs : ∀ j, w32 (xs j) = xs j) (hi : i + 6 ≤ L) (hL : L ≤ 3072) {c : Nat → Nat → Int} {b : Bool} (hI : Inv c b) (ih : ∀ c b, Inv c b → ∃ h', Rn (xexO L xs) xt240 25 18 [xX 0, xA 0, xA 54, xI ((i + 6 : Nat) : Int)] [] (hp c b) (xI 1, h') ∧ h'.1 = 71 ∧ h'.2.1 = 3590) : ∃ h', Rn (xexO L xs) xt240 25 1262 [xX 0, xA 0, xA 54, xI (i : Int)] [] (hp c b) (xI 1, h') ∧ h'.1 = 71 ∧ h'.2.1 = 3590 := by
  obtain ⟨v1, v2, c1, b1, c2, b2, h1, h2, h3, h4⟩ := g_mid (ex := xexO L xs) (xs (i + 1)) (hxs _) 4 c b hI
  obtain ⟨h', hr, e1, e2⟩ := ih c2 b2 h4
  refine ⟨h', ?_, e1, e2⟩
  refine Rn.run 5 rfl ?_
  refine Rn.sld rfl (i + 1) (by unfold w32; omega) (by omega) ?_
  refine Rn.call rfl rfl rfl rfl rfl h1 ?_
  refine Rn.run 5 rfl ?_
  refine Rn.sld rfl (i + 1) (by unfold w32; omega) (by omega) ?_
  refine Rn.call rfl rfl rfl rfl rfl h2 ?_
  refine Rn.eq2 rfl (fun _ => ?_) (fun e => absurd h3 e)
  refine Rn.run 2 rfl ?_
  exact hr
theorem lawc35 {L : Nat} {xs : Nat → Int} {i : Nat} (hxs : ∀ j, w32 (xs j) = xs j) (hi : i + 6 ≤ L) (hL : L ≤ 3072) {c : Nat → Nat → Int} {b : Bool} (hI : Inv c b) (ih : ∀ c b, Inv c b → ∃ h', Rn (xexO L xs) xt240 25 18 [xX 0, xA 0, xA 54, xI ((i + 6 : Nat) : Int)] [] (hp c b) (xI 1, h') ∧ h'.1 = 71 ∧ h'.2.1 = 3590) : ∃ h', Rn (xexO L xs) xt240 25 1285 [xX 0, xA 0, xA 54, xI (i : Int)] [] (hp c b) (xI 1, h') ∧ h'.1 = 71 ∧ h'.2.1 = 3590 := by
  obtain ⟨v1, v2, c1, b1, c2, b2, h1, h2, h3, h4⟩ := g_lots (ex := xexO L xs) (xs (i + 1)) (xs (i + 2)) (hxs _) (hxs _) 4 c b hI
  obtain ⟨h', hr, e1, e2⟩ := ih c2 b2 h4
  refine ⟨h', ?_, e1, e2⟩
  refine Rn.run 5 rfl ?_
  refine Rn.sld rfl (i + 1) (by unfold w32; omega) (by omega) ?_
  refine Rn.run 4 rfl ?_
  refine Rn.sld rfl (i + 2) (by unfold w32; omega) (by omega) ?_
  refine Rn.call rfl rfl rfl rfl rfl h1 ?_
  refine Rn.run 5 rfl ?_
  refine Rn.sld rfl (i + 1) (by unfold w32; omega) (by omega) ?_
  refine Rn.run 4 rfl ?_
  refine Rn.sld rfl (i + 2) (by unfold w32; omega) (by omega) ?_
  refine Rn.call rfl rfl rfl rfl rfl h2 ?_
  refine Rn.eq2 rfl (fun _ => ?_) (fun e => absurd h3 e)
  refine Rn.run 2 rfl ?_
  exact hr
theorem lawc36 {L : Nat} {xs : Nat → Int} {i : Nat} (hxs : ∀ j, w32 (xs j) = xs j) (hi : i + 6 ≤ L) (hL : L ≤ 3072) {c : Nat → Nat → Int} {b : Bool} (hI : Inv c b) (ih : ∀ c b, Inv c b → ∃ h', Rn (xexO L xs) xt240 25 18 [xX 0, xA 0, xA 54, xI ((i + 6 : Nat) : Int)] [] (hp c b) (xI 1, h') ∧ h'.1 = 71 ∧ h'.2.1 = 3590) : ∃ h', Rn (xexO L xs) xt240 25 1318 [xX 0, xA 0, xA 54, xI (i : Int)] [] (hp c b) (xI 1, h') ∧ h'.1 = 71 ∧ h'.2.1 = 3590 := by
  obtain ⟨v1, v2, c1, b1, c2, b2, h1, h2, h3, h4⟩ := g_asked (ex := xexO L xs)   4 c b hI
  obtain ⟨h', hr, e1, e2⟩ := ih c2 b2 h4
  refine ⟨h', ?_, e1, e2⟩
  refine Rn.run 1 rfl ?_
  refine Rn.call rfl rfl rfl rfl rfl h1 ?_
  refine Rn.run 1 rfl ?_
  refine Rn.call rfl rfl rfl rfl rfl h2 ?_
  refine Rn.eq2 rfl (fun _ => ?_) (fun e => absurd h3 e)
  refine Rn.run 2 rfl ?_
  exact hr
theorem lawc37 {L : Nat} {xs : Nat → Int} {i : Nat} (hxs : ∀ j, w32 (xs j) = xs j) (hi : i + 6 ≤ L) (hL : L ≤ 3072) {c : Nat → Nat → Int} {b : Bool} (hI : Inv c b) (ih : ∀ c b, Inv c b → ∃ h', Rn (xexO L xs) xt240 25 18 [xX 0, xA 0, xA 54, xI ((i + 6 : Nat) : Int)] [] (hp c b) (xI 1, h') ∧ h'.1 = 71 ∧ h'.2.1 = 3590) : ∃ h', Rn (xexO L xs) xt240 25 1331 [xX 0, xA 0, xA 54, xI (i : Int)] [] (hp c b) (xI 1, h') ∧ h'.1 = 71 ∧ h'.2.1 = 3590 := by
  obtain ⟨v1, v2, c1, b1, c2, b2, h1, h2, h3, h4⟩ := g_upper (ex := xexO L xs)   4 c b hI
  obtain ⟨h', hr, e1, e2⟩ := ih c2 b2 h4
  refine ⟨h', ?_, e1, e2⟩
  refine Rn.run 1 rfl ?_
  refine Rn.call rfl rfl rfl rfl rfl h1 ?_
  refine Rn.run 1 rfl ?_
  refine Rn.call rfl rfl rfl rfl rfl h2 ?_
  refine Rn.run 1 rfl ?_
  refine Rn.eq0 rfl (fun _ => ?_) (fun e => absurd (by simp only [xcmp, h3]; simp [w32]) e)
  refine Rn.run 2 rfl ?_
  exact hr
theorem lawc38 {L : Nat} {xs : Nat → Int} {i : Nat} (hxs : ∀ j, w32 (xs j) = xs j) (hi : i + 6 ≤ L) (hL : L ≤ 3072) {c : Nat → Nat → Int} {b : Bool} (hI : Inv c b) (ih : ∀ c b, Inv c b → ∃ h', Rn (xexO L xs) xt240 25 18 [xX 0, xA 0, xA 54, xI ((i + 6 : Nat) : Int)] [] (hp c b) (xI 1, h') ∧ h'.1 = 71 ∧ h'.2.1 = 3590) : ∃ h', Rn (xexO L xs) xt240 25 1345 [xX 0, xA 0, xA 54, xI (i : Int)] [] (hp c b) (xI 1, h') ∧ h'.1 = 71 ∧ h'.2.1 = 3590 := by
  obtain ⟨v1, v2, c1, b1, c2, b2, h1, h2, h3, h4⟩ := g_lower (ex := xexO L xs)   4 c b hI
  obtain ⟨h', hr, e1, e2⟩ := ih c2 b2 h4
  refine ⟨h', ?_, e1, e2⟩
  refine Rn.run 1 rfl ?_
  refine Rn.call rfl rfl rfl rfl rfl h1 ?_
  refine Rn.run 1 rfl ?_
  refine Rn.call rfl rfl rfl rfl rfl h2 ?_
  refine Rn.run 1 rfl ?_
  refine Rn.eq0 rfl (fun _ => ?_) (fun e => absurd (by simp only [xcmp, h3]; simp [w32]) e)
  refine Rn.run 2 rfl ?_
  exact hr
theorem lawc39 {L : Nat} {xs : Nat → Int} {i : Nat} (hxs : ∀ j, w32 (xs j) = xs j) (hi : i + 6 ≤ L) (hL : L ≤ 3072) {c : Nat → Nat → Int} {b : Bool} (hI : Inv c b) (ih : ∀ c b, Inv c b → ∃ h', Rn (xexO L xs) xt240 25 18 [xX 0, xA 0, xA 54, xI ((i + 6 : Nat) : Int)] [] (hp c b) (xI 1, h') ∧ h'.1 = 71 ∧ h'.2.1 = 3590) : ∃ h', Rn (xexO L xs) xt240 25 1359 [xX 0, xA 0, xA 54, xI (i : Int)] [] (hp c b) (xI 1, h') ∧ h'.1 = 71 ∧ h'.2.1 = 3590 := by
  obtain ⟨v1, v2, c1, b1, c2, b2, h1, h2, h3, h4⟩ := g_count (ex := xexO L xs) (xs (i + 1)) (hxs _) 4 c b hI
  obtain ⟨h', hr, e1, e2⟩ := ih c2 b2 h4
  refine ⟨h', ?_, e1, e2⟩
  refine Rn.run 5 rfl ?_
  refine Rn.sld rfl (i + 1) (by unfold w32; omega) (by omega) ?_
  refine Rn.call rfl rfl rfl rfl rfl h1 ?_
  refine Rn.run 5 rfl ?_
  refine Rn.sld rfl (i + 1) (by unfold w32; omega) (by omega) ?_
  refine Rn.call rfl rfl rfl rfl rfl h2 ?_
  refine Rn.eq2 rfl (fun _ => ?_) (fun e => absurd h3 e)
  refine Rn.run 2 rfl ?_
  exact hr
theorem lawc40 {L : Nat} {xs : Nat → Int} {i : Nat} (hxs : ∀ j, w32 (xs j) = xs j) (hi : i + 6 ≤ L) (hL : L ≤ 3072) {c : Nat → Nat → Int} {b : Bool} (hI : Inv c b) (ih : ∀ c b, Inv c b → ∃ h', Rn (xexO L xs) xt240 25 18 [xX 0, xA 0, xA 54, xI ((i + 6 : Nat) : Int)] [] (hp c b) (xI 1, h') ∧ h'.1 = 71 ∧ h'.2.1 = 3590) : ∃ h', Rn (xexO L xs) xt240 25 1382 [xX 0, xA 0, xA 54, xI (i : Int)] [] (hp c b) (xI 1, h') ∧ h'.1 = 71 ∧ h'.2.1 = 3590 := by
  obtain ⟨v1, v2, c1, b1, c2, b2, h1, h2, h3, h4⟩ := g_finding (ex := xexO L xs)   4 c b hI
  obtain ⟨h', hr, e1, e2⟩ := ih c2 b2 h4
  refine ⟨h', ?_, e1, e2⟩
  refine Rn.run 1 rfl ?_
  refine Rn.call rfl rfl rfl rfl rfl h1 ?_
  refine Rn.run 1 rfl ?_
  refine Rn.call rfl rfl rfl rfl rfl h2 ?_
  refine Rn.eq2 rfl (fun _ => ?_) (fun e => absurd h3 e)
  refine Rn.run 2 rfl ?_
  exact hr
theorem lawc41 {L : Nat} {xs : Nat → Int} {i : Nat} (hxs : ∀ j, w32 (xs j) = xs j) (hi : i + 6 ≤ L) (hL : L ≤ 3072) {c : Nat → Nat → Int} {b : Bool} (hI : Inv c b) (ih : ∀ c b, Inv c b → ∃ h', Rn (xexO L xs) xt240 25 18 [xX 0, xA 0, xA 54, xI ((i + 6 : Nat) : Int)] [] (hp c b) (xI 1, h') ∧ h'.1 = 71 ∧ h'.2.1 = 3590) : ∃ h', Rn (xexO L xs) xt240 25 1395 [xX 0, xA 0, xA 54, xI (i : Int)] [] (hp c b) (xI 1, h') ∧ h'.1 = 71 ∧ h'.2.1 = 3590 := by
  obtain ⟨v1, v2, c1, b1, c2, b2, h1, h2, h3, h4⟩ := g_findings (ex := xexO L xs) (xs (i + 1)) (hxs _) 4 c b hI
  obtain ⟨h', hr, e1, e2⟩ := ih c2 b2 h4
  refine ⟨h', ?_, e1, e2⟩
  refine Rn.run 5 rfl ?_
  refine Rn.sld rfl (i + 1) (by unfold w32; omega) (by omega) ?_
  refine Rn.call rfl rfl rfl rfl rfl h1 ?_
  refine Rn.run 5 rfl ?_
  refine Rn.sld rfl (i + 1) (by unfold w32; omega) (by omega) ?_
  refine Rn.call rfl rfl rfl rfl rfl h2 ?_
  refine Rn.eq2 rfl (fun _ => ?_) (fun e => absurd h3 e)
  refine Rn.run 2 rfl ?_
  exact hr
theorem lawc42 {L : Nat} {xs : Nat → Int} {i : Nat} (hxs : ∀ j, w32 (xs j) = xs j) (hi : i + 6 ≤ L) (hL : L ≤ 3072) {c : Nat → Nat → Int} {b : Bool} (hI : Inv c b) (ih : ∀ c b, Inv c b → ∃ h', Rn (xexO L xs) xt240 25 18 [xX 0, xA 0, xA 54, xI ((i + 6 : Nat) : Int)] [] (hp c b) (xI 1, h') ∧ h'.1 = 71 ∧ h'.2.1 = 3590) : ∃ h', Rn (xexO L xs) xt240 25 1418 [xX 0, xA 0, xA 54, xI (i : Int)] [] (hp c b) (xI 1, h') ∧ h'.1 = 71 ∧ h'.2.1 = 3590 := by
  obtain ⟨v1, v2, c1, b1, c2, b2, h1, h2, h3, h4⟩ := g_digest (ex := xexO L xs)   4 c b hI
  obtain ⟨h', hr, e1, e2⟩ := ih c2 b2 h4
  refine ⟨h', ?_, e1, e2⟩
  refine Rn.run 1 rfl ?_
  refine Rn.call rfl rfl rfl rfl rfl h1 ?_
  refine Rn.run 1 rfl ?_
  refine Rn.call rfl rfl rfl rfl rfl h2 ?_
  refine Rn.run 1 rfl ?_
  refine Rn.eq0 rfl (fun _ => ?_) (fun e => absurd (by simp only [xcmp, h3]; simp [w32]) e)
  refine Rn.run 2 rfl ?_
  exact hr
theorem law_loop {L : Nat} {xs : Nat → Int} (hxs : ∀ j, w32 (xs j) = xs j) (hL : L ≤ 3072) : ∀ (n i : Nat) (c : Nat → Nat → Int) (b : Bool), L < i + 6 * n + 6 → i ≤ 3072 + 6 → Inv c b → ∃ h', Rn (xexO L xs) xt240 25 18 [xX 0, xA 0, xA 54, xI (i : Int)] [] (hp c b) (xI 1, h') ∧ h'.1 = 71 ∧ h'.2.1 = 3590 := by
  intro n
  induction n with
  | zero =>
    intro i c b h1 h2 hI
    refine ⟨hp c b, ?_, rfl, rfl⟩
    refine Rn.run 5 rfl ?_
    refine Rn.gt2 rfl (fun e => ?_) (fun e => absurd (show w32 ((xexO L xs 0).1 - 6) < w32 (i : Int) by show w32 ((L : Int) - 6) < w32 (i : Int); unfold w32; omega) e)
    refine Rn.run 1 rfl ?_
    exact Rn.ret rfl rfl rfl rfl rfl rfl
  | succ n ih =>
    intro i c b h1 h2 hI
    by_cases hi : i + 6 ≤ L
    · have ih' := fun c b hI => ih (i + 6) c b (by omega) (by omega) hI
      obtain ⟨k, hk, hx⟩ := x_63 (xs i)
      have key : ∃ h', Rn (xexO L xs) xt240 25 33 [xX 0, xA 0, xA 54, xI (i : Int)] [xI (k : Int)] (hp c b) (xI 1, h') ∧ h'.1 = 71 ∧ h'.2.1 = 3590 := by
        match k, hk with
        | 0, _ => obtain ⟨h', g1, g2⟩ := lawc0 hxs hi hL hI ih'; exact ⟨h', Rn.run 1 rfl g1, g2⟩
        | 1, _ => obtain ⟨h', g1, g2⟩ := lawc1 hxs hi hL hI ih'; exact ⟨h', Rn.run 1 rfl g1, g2⟩
        | 2, _ => obtain ⟨h', g1, g2⟩ := lawc2 hxs hi hL hI ih'; exact ⟨h', Rn.run 1 rfl g1, g2⟩
        | 3, _ => obtain ⟨h', g1, g2⟩ := lawc3 hxs hi hL hI ih'; exact ⟨h', Rn.run 1 rfl g1, g2⟩
        | 4, _ => obtain ⟨h', g1, g2⟩ := lawc4 hxs hi hL hI ih'; exact ⟨h', Rn.run 1 rfl g1, g2⟩
        | 5, _ => obtain ⟨h', g1, g2⟩ := lawc5 hxs hi hL hI ih'; exact ⟨h', Rn.run 1 rfl g1, g2⟩
        | 6, _ => obtain ⟨h', g1, g2⟩ := lawc6 hxs hi hL hI ih'; exact ⟨h', Rn.run 1 rfl g1, g2⟩
        | 7, _ => obtain ⟨h', g1, g2⟩ := lawc7 hxs hi hL hI ih'; exact ⟨h', Rn.run 1 rfl g1, g2⟩
        | 8, _ => obtain ⟨h', g1, g2⟩ := lawc8 hxs hi hL hI ih'; exact ⟨h', Rn.run 1 rfl g1, g2⟩
        | 9, _ => obtain ⟨h', g1, g2⟩ := lawc9 hxs hi hL hI ih'; exact ⟨h', Rn.run 1 rfl g1, g2⟩
        | 10, _ => obtain ⟨h', g1, g2⟩ := lawc10 hxs hi hL hI ih'; exact ⟨h', Rn.run 1 rfl g1, g2⟩
        | 11, _ => obtain ⟨h', g1, g2⟩ := lawc11 hxs hi hL hI ih'; exact ⟨h', Rn.run 1 rfl g1, g2⟩
        | 12, _ => obtain ⟨h', g1, g2⟩ := lawc12 hxs hi hL hI ih'; exact ⟨h', Rn.run 1 rfl g1, g2⟩
        | 13, _ => obtain ⟨h', g1, g2⟩ := lawc13 hxs hi hL hI ih'; exact ⟨h', Rn.run 1 rfl g1, g2⟩
        | 14, _ => obtain ⟨h', g1, g2⟩ := lawc14 hxs hi hL hI ih'; exact ⟨h', Rn.run 1 rfl g1, g2⟩
        | 15, _ => obtain ⟨h', g1, g2⟩ := lawc15 hxs hi hL hI ih'; exact ⟨h', Rn.run 1 rfl g1, g2⟩
        | 16, _ => obtain ⟨h', g1, g2⟩ := lawc16 hxs hi hL hI ih'; exact ⟨h', Rn.run 1 rfl g1, g2⟩
        | 17, _ => obtain ⟨h', g1, g2⟩ := lawc17 hxs hi hL hI ih'; exact ⟨h', Rn.run 1 rfl g1, g2⟩
        | 18, _ => obtain ⟨h', g1, g2⟩ := lawc18 hxs hi hL hI ih'; exact ⟨h', Rn.run 1 rfl g1, g2⟩
        | 19, _ => obtain ⟨h', g1, g2⟩ := lawc19 hxs hi hL hI ih'; exact ⟨h', Rn.run 1 rfl g1, g2⟩
        | 20, _ => obtain ⟨h', g1, g2⟩ := lawc20 hxs hi hL hI ih'; exact ⟨h', Rn.run 1 rfl g1, g2⟩
        | 21, _ => obtain ⟨h', g1, g2⟩ := lawc21 hxs hi hL hI ih'; exact ⟨h', Rn.run 1 rfl g1, g2⟩
        | 22, _ => obtain ⟨h', g1, g2⟩ := lawc22 hxs hi hL hI ih'; exact ⟨h', Rn.run 1 rfl g1, g2⟩
        | 23, _ => obtain ⟨h', g1, g2⟩ := lawc23 hxs hi hL hI ih'; exact ⟨h', Rn.run 1 rfl g1, g2⟩
        | 24, _ => obtain ⟨h', g1, g2⟩ := lawc24 hxs hi hL hI ih'; exact ⟨h', Rn.run 1 rfl g1, g2⟩
        | 25, _ => obtain ⟨h', g1, g2⟩ := lawc25 hxs hi hL hI ih'; exact ⟨h', Rn.run 1 rfl g1, g2⟩
        | 26, _ => obtain ⟨h', g1, g2⟩ := lawc26 hxs hi hL hI ih'; exact ⟨h', Rn.run 1 rfl g1, g2⟩
        | 27, _ => obtain ⟨h', g1, g2⟩ := lawc27 hxs hi hL hI ih'; exact ⟨h', Rn.run 1 rfl g1, g2⟩
        | 28, _ => obtain ⟨h', g1, g2⟩ := lawc28 hxs hi hL hI ih'; exact ⟨h', Rn.run 1 rfl g1, g2⟩
        | 29, _ => obtain ⟨h', g1, g2⟩ := lawc29 hxs hi hL hI ih'; exact ⟨h', Rn.run 1 rfl g1, g2⟩
        | 30, _ => obtain ⟨h', g1, g2⟩ := lawc30 hxs hi hL hI ih'; exact ⟨h', Rn.run 1 rfl g1, g2⟩
        | 31, _ => obtain ⟨h', g1, g2⟩ := lawc31 hxs hi hL hI ih'; exact ⟨h', Rn.run 1 rfl g1, g2⟩
        | 32, _ => obtain ⟨h', g1, g2⟩ := lawc32 hxs hi hL hI ih'; exact ⟨h', Rn.run 1 rfl g1, g2⟩
        | 33, _ => obtain ⟨h', g1, g2⟩ := lawc33 hxs hi hL hI ih'; exact ⟨h', Rn.run 1 rfl g1, g2⟩
        | 34, _ => obtain ⟨h', g1, g2⟩ := lawc34 hxs hi hL hI ih'; exact ⟨h', Rn.run 1 rfl g1, g2⟩
        | 35, _ => obtain ⟨h', g1, g2⟩ := lawc35 hxs hi hL hI ih'; exact ⟨h', Rn.run 1 rfl g1, g2⟩
        | 36, _ => obtain ⟨h', g1, g2⟩ := lawc36 hxs hi hL hI ih'; exact ⟨h', Rn.run 1 rfl g1, g2⟩
        | 37, _ => obtain ⟨h', g1, g2⟩ := lawc37 hxs hi hL hI ih'; exact ⟨h', Rn.run 1 rfl g1, g2⟩
        | 38, _ => obtain ⟨h', g1, g2⟩ := lawc38 hxs hi hL hI ih'; exact ⟨h', Rn.run 1 rfl g1, g2⟩
        | 39, _ => obtain ⟨h', g1, g2⟩ := lawc39 hxs hi hL hI ih'; exact ⟨h', Rn.run 1 rfl g1, g2⟩
        | 40, _ => obtain ⟨h', g1, g2⟩ := lawc40 hxs hi hL hI ih'; exact ⟨h', Rn.run 1 rfl g1, g2⟩
        | 41, _ => obtain ⟨h', g1, g2⟩ := lawc41 hxs hi hL hI ih'; exact ⟨h', Rn.run 1 rfl g1, g2⟩
        | 42, _ => obtain ⟨h', g1, g2⟩ := lawc42 hxs hi hL hI ih'; exact ⟨h', Rn.run 1 rfl g1, g2⟩
        | 43, _ => obtain ⟨h', g1, g2⟩ := ih' c b hI; exact ⟨h', Rn.run 3 rfl g1, g2⟩
        | 44, _ => obtain ⟨h', g1, g2⟩ := ih' c b hI; exact ⟨h', Rn.run 3 rfl g1, g2⟩
        | 45, _ => obtain ⟨h', g1, g2⟩ := ih' c b hI; exact ⟨h', Rn.run 3 rfl g1, g2⟩
        | 46, _ => obtain ⟨h', g1, g2⟩ := ih' c b hI; exact ⟨h', Rn.run 3 rfl g1, g2⟩
        | 47, _ => obtain ⟨h', g1, g2⟩ := ih' c b hI; exact ⟨h', Rn.run 3 rfl g1, g2⟩
        | 48, _ => obtain ⟨h', g1, g2⟩ := ih' c b hI; exact ⟨h', Rn.run 3 rfl g1, g2⟩
        | 49, _ => obtain ⟨h', g1, g2⟩ := ih' c b hI; exact ⟨h', Rn.run 3 rfl g1, g2⟩
        | 50, _ => obtain ⟨h', g1, g2⟩ := ih' c b hI; exact ⟨h', Rn.run 3 rfl g1, g2⟩
        | 51, _ => obtain ⟨h', g1, g2⟩ := ih' c b hI; exact ⟨h', Rn.run 3 rfl g1, g2⟩
        | 52, _ => obtain ⟨h', g1, g2⟩ := ih' c b hI; exact ⟨h', Rn.run 3 rfl g1, g2⟩
        | 53, _ => obtain ⟨h', g1, g2⟩ := ih' c b hI; exact ⟨h', Rn.run 3 rfl g1, g2⟩
        | 54, _ => obtain ⟨h', g1, g2⟩ := ih' c b hI; exact ⟨h', Rn.run 3 rfl g1, g2⟩
        | 55, _ => obtain ⟨h', g1, g2⟩ := ih' c b hI; exact ⟨h', Rn.run 3 rfl g1, g2⟩
        | 56, _ => obtain ⟨h', g1, g2⟩ := ih' c b hI; exact ⟨h', Rn.run 3 rfl g1, g2⟩
        | 57, _ => obtain ⟨h', g1, g2⟩ := ih' c b hI; exact ⟨h', Rn.run 3 rfl g1, g2⟩
        | 58, _ => obtain ⟨h', g1, g2⟩ := ih' c b hI; exact ⟨h', Rn.run 3 rfl g1, g2⟩
        | 59, _ => obtain ⟨h', g1, g2⟩ := ih' c b hI; exact ⟨h', Rn.run 3 rfl g1, g2⟩
        | 60, _ => obtain ⟨h', g1, g2⟩ := ih' c b hI; exact ⟨h', Rn.run 3 rfl g1, g2⟩
        | 61, _ => obtain ⟨h', g1, g2⟩ := ih' c b hI; exact ⟨h', Rn.run 3 rfl g1, g2⟩
        | 62, _ => obtain ⟨h', g1, g2⟩ := ih' c b hI; exact ⟨h', Rn.run 3 rfl g1, g2⟩
        | 63, _ => obtain ⟨h', g1, g2⟩ := ih' c b hI; exact ⟨h', Rn.run 3 rfl g1, g2⟩
        | k + 64, h => omega
      obtain ⟨h', g1, g2⟩ := key
      refine ⟨h', ?_, g2⟩
      refine Rn.run 5 rfl ?_
      refine Rn.gt2 rfl (fun e => absurd e (show ¬ w32 ((xexO L xs 0).1 - 6) < w32 (i : Int) by show ¬ w32 ((L : Int) - 6) < w32 (i : Int); unfold w32; omega)) (fun e => ?_)
      refine Rn.run 2 rfl ?_
      refine Rn.sld rfl i (by unfold w32; omega) (by omega) ?_
      refine Rn.run 2 rfl ?_
      rw [hx]
      exact g1
    · refine ⟨hp c b, ?_, rfl, rfl⟩
      refine Rn.run 5 rfl ?_
      refine Rn.gt2 rfl (fun e => ?_) (fun e => absurd (show w32 ((xexO L xs 0).1 - 6) < w32 (i : Int) by show w32 ((L : Int) - 6) < w32 (i : Int); unfold w32; omega) e)
      refine Rn.run 1 rfl ?_
      exact Rn.ret rfl rfl rfl rfl rfl rfl
