-- count
theorem Rn.swd {ex : xO} {t : xT} {d pc : Nat} {ls st : List xV} {h : xH} {o : xV × xH} {df lo hi : Int} {offs : Array Int} {nx P X : Nat} {r : Nat × Nat × Nat × Int} {a : Int} (he : xfind t pc = some (.tableswitch df lo hi offs, nx, P, X, r)) (hw : w32 a < lo ∨ hi < w32 a) (kk : Rn ex t d (X + df).toNat ls st h o) : Rn ex t d pc ls (xI a :: st) h o := by
  obtain ⟨r1, r2, r3, r4⟩ := r
  refine Rn.A he (q := ((X + df).toNat, ls, st)) ?_ kk
  simp only [xstA]
  rw [if_pos hw]
def rws (c : Nat → Nat → Int) : Nat := cnt (fun r => decide (0 ≤ c 56 r)) 6
def txs (c : Nat → Nat → Int) : Nat := cnt (fun r => decide (0 ≤ c 58 r)) 4
def kps (c : Nat → Nat → Int) : Nat := cnt (fun k => !decide (c 55 (430 * (k + 1)) = 0)) 3
def cvl (n : Nat) (kd : Nat → Nat) (D T Mo : Nat) (L : Nat → Nat) (rr tt kk : Nat) (w : Nat) : Nat := match w with
  | 0 => n
  | 1 => s8 L
  | 2 => Mo
  | 3 => D
  | 4 => T
  | 5 => bset (can kd n T) n
  | 6 => bset (fun i => decide (0 < n) && decide (L i = 0)) 8
  | 7 => cnt (fun i => isg (kd i)) n
  | 8 => cnt (fun i => kd i == 5) n
  | 9 => rr
  | 10 => tt
  | _ => kk
theorem cv6_0 {n : Nat} {L : Nat → Nat} (h : n = 0) : bset (fun i => decide (0 < n) && decide (L i = 0)) 8 = 0 := by
  rw [h]
  rfl
theorem cv6_n {n : Nat} {L : Nat → Nat} (h : n ≠ 0) : bset (fun i => decide (0 < n) && decide (L i = 0)) 8 = bset (fun i => decide (L i = 0)) 8 := bset_congr (fun i _ => by rw [decide_eq_true (by omega : 0 < n), Bool.true_and])
theorem cv8 (kd : Nat → Nat) {n : Nat} (hn : n ≤ 6) : (n : Int) - (pop (cm kd n) : Nat) = (cnt (fun i => kd i == 5) n : Nat) := by
  have h1 : pop (cm kd n) = cnt (fun i => kd i != 5) n := pop_bset _ (by omega)
  have h2 := cnt_not (fun i => kd i != 5) n
  have h3 : cnt (fun i => !(kd i != 5)) n = cnt (fun i => kd i == 5) n := cnt_congr (fun i _ => by simp [bne])
  rw [h1]
  rw [h3] at h2
  omega
theorem iRow_w {c : Nat → Nat → Int} (h : iRow c) {r : Nat} (hr : r < 6) : w32 (c 56 r) = c 56 r ∧ w32 (c (22 + 2 * r) 0) = c 56 r := by
  obtain ⟨h1, h2, h3, -⟩ := h r hr
  exact ⟨x_w _ (by omega) (by omega), by rw [h1]; exact x_w _ (by omega) (by omega)⟩
theorem iTxt_w {c : Nat → Nat → Int} (h : iTxt c) {r : Nat} (hr : r < 4) : w32 (c 58 r) = c 58 r ∧ w32 (c (34 + 2 * r) 0) = c 58 r := by
  obtain ⟨h1, h2, h3, -⟩ := h r hr
  exact ⟨x_w _ (by omega) (by omega), by rw [h1]; exact x_w _ (by omega) (by omega)⟩
theorem iKpt_w {c : Nat → Nat → Int} {n k : Nat} (hn : n ≤ 6) (h : iKpt c n k) : ((w32 (c (42 + 4 * k) 0) = w32 (-1)) ↔ c 55 (430 * (k + 1)) = 0) ∧ ((w32 (c 55 (430 * (k + 1))) = 0) ↔ c 55 (430 * (k + 1)) = 0) := by
  rcases h with ⟨a1, a2⟩ | ⟨a1, a2, a3, ⟨E, b1, b2, b3, -⟩⟩
  · rw [a1, a2]
    exact ⟨⟨fun _ => rfl, fun _ => rfl⟩, ⟨fun _ => rfl, fun _ => rfl⟩⟩
  · rw [b2, a2, x_wn (by omega), x_wn (by omega), show w32 (-1) = -1 from rfl]
    exact ⟨⟨fun h => by omega, fun h => by omega⟩, Iff.rfl⟩
theorem l115 {ex : xO} {d : Nat} {c : Nat → Nat → Int} {b : Bool} (i1 : iRow c) : ∀ (m i : Nat) (a : Nat), i + m = 6 → Rn ex xt115 (d + 1) 4 [xA 0, xI (a : Int), xI (i : Int)] [] (hp c b) (xI ((xit (fun i a => a + (if decide (0 ≤ c 56 i) = true then 1 else 0)) m i a : Nat) : Int), hp c b) := by
  intro m
  induction m with
  | zero =>
    intro i a hm
    refine Rn.run 2 (ls' := [_, _, _]) (st' := [_, _]) rfl ?_
    refine Rn.ge2 rfl (fun e7 => ?_) (fun e7 => absurd e7 (by exact fun h => h ((y_ge (n := 6) (by omega) (by omega)).mpr (by omega))))
    refine Rn.run 1 (ls' := [_, _, _]) (st' := [_]) rfl ?_
    exact Rn.ret rfl rfl rfl rfl rfl rfl
  | succ m ih =>
    intro i a hm
    have hi : i < 6 := by omega
    have hw := iRow_w i1 hi
    refine Rn.run 2 (ls' := [_, _, _]) (st' := [_, _]) rfl ?_
    refine Rn.ge2 rfl (fun e7 => absurd e7 (by exact fun h => absurd ((y_ge (n := 6) (by omega) (by omega)).mp h) (by omega))) (fun e7 => ?_)
    refine Rn.run 4 (ls' := [_, _, _]) (st' := [_, _, _]) rfl ?_
    refine Rn.aald rfl ⟨by decide, rfl, by decide, by decide⟩ (i) (x_wn (n := i) (by omega)) (by omega) (xR_row hi).1 ?_
    refine Rn.callV rfl (x_sv (xS_row hi)) rfl rfl rfl (c47 hi) ?_
    refine Rn.eqB rfl (fun e20 => ?_) (fun e20 => ?_)
    · rw [hw.2] at e20
      refine Rn.run 5 (ls' := [_, _, _]) (st' := []) rfl ?_
      refine Rn.ls ?_ (ih (i + 1) (a + (if decide (0 ≤ c 56 i) = true then 1 else 0)) (by omega))
      first | (rw [show (if decide (0 ≤ c 56 i) = true then 1 else 0) = 1 from if_pos (decide_eq_true (Int.not_lt.mp e20))]; first | done | rfl) | (rw [show (if decide (0 ≤ c 56 i) = true then 1 else 0) = 0 from if_neg (fun q => absurd (of_decide_eq_true q) (Int.not_le.mpr e20))]; first | done | rfl)
    · rw [hw.2] at e20
      refine Rn.run 6 (ls' := [_, _, _]) (st' := []) rfl ?_
      refine Rn.ls ?_ (ih (i + 1) (a + (if decide (0 ≤ c 56 i) = true then 1 else 0)) (by omega))
      first | (rw [show (if decide (0 ≤ c 56 i) = true then 1 else 0) = 1 from if_pos (decide_eq_true (Int.not_lt.mp e20))]; first | done | rfl) | (rw [show (if decide (0 ≤ c 56 i) = true then 1 else 0) = 0 from if_neg (fun q => absurd (of_decide_eq_true q) (Int.not_le.mpr e20))]; first | done | rfl)
theorem c115 {ex : xO} {d : Nat} {c : Nat → Nat → Int} {b : Bool} (i1 : iRow c) : An ex (d + 1) 115 3 [xA 0] (hp c b) (xI (rws c : Nat), hp c b) := by
  refine Rn.run 4 (ls' := [_, _, _]) (st' := []) rfl ?_
  exact l115 i1 6 0 0 rfl
theorem l224 {ex : xO} {d : Nat} {c : Nat → Nat → Int} {b : Bool} (i1 : iRow c) : ∀ (m i : Nat) (a : Nat), i + m = 6 → Rn ex xt224 d 4 [xA 54, xI (a : Int), xI (i : Int)] [] (hp c b) (xI ((xit (fun i a => a + (if decide (0 ≤ c 56 i) = true then 1 else 0)) m i a : Nat) : Int), hp c b) := by
  intro m
  induction m with
  | zero =>
    intro i a hm
    refine Rn.run 2 (ls' := [_, _, _]) (st' := [_, _]) rfl ?_
    refine Rn.ge2 rfl (fun e7 => ?_) (fun e7 => absurd e7 (by exact fun h => h ((y_ge (n := 6) (by omega) (by omega)).mpr (by omega))))
    refine Rn.run 1 (ls' := [_, _, _]) (st' := [_]) rfl ?_
    exact Rn.ret rfl rfl rfl rfl rfl rfl
  | succ m ih =>
    intro i a hm
    have hi : i < 6 := by omega
    have hw := iRow_w i1 hi
    refine Rn.run 2 (ls' := [_, _, _]) (st' := [_, _]) rfl ?_
    refine Rn.ge2 rfl (fun e7 => absurd e7 (by exact fun h => absurd ((y_ge (n := 6) (by omega) (by omega)).mp h) (by omega))) (fun e7 => ?_)
    refine Rn.run 4 (ls' := [_, _, _]) (st' := [_, _, _]) rfl ?_
    refine Rn.ald rfl ⟨by decide, rfl⟩ (i) (x_wn (n := i) (by omega)) (by omega) ?_
    refine Rn.ge0 rfl (fun e17 => ?_) (fun e17 => ?_)
    · rw [hw.1] at e17
      refine Rn.run 5 (ls' := [_, _, _]) (st' := []) rfl ?_
      refine Rn.ls ?_ (ih (i + 1) (a + (if decide (0 ≤ c 56 i) = true then 1 else 0)) (by omega))
      first | (rw [show (if decide (0 ≤ c 56 i) = true then 1 else 0) = 1 from if_pos (decide_eq_true e17)]; first | done | rfl) | (rw [show (if decide (0 ≤ c 56 i) = true then 1 else 0) = 0 from if_neg (fun q => e17 (of_decide_eq_true q))]; first | done | rfl)
    · rw [hw.1] at e17
      refine Rn.run 6 (ls' := [_, _, _]) (st' := []) rfl ?_
      refine Rn.ls ?_ (ih (i + 1) (a + (if decide (0 ≤ c 56 i) = true then 1 else 0)) (by omega))
      first | (rw [show (if decide (0 ≤ c 56 i) = true then 1 else 0) = 1 from if_pos (decide_eq_true e17)]; first | done | rfl) | (rw [show (if decide (0 ≤ c 56 i) = true then 1 else 0) = 0 from if_neg (fun q => e17 (of_decide_eq_true q))]; first | done | rfl)
theorem c224 {ex : xO} {d : Nat} {c : Nat → Nat → Int} {b : Bool} (i1 : iRow c) : An ex d 224 3 [xA 54] (hp c b) (xI (rws c : Nat), hp c b) := by
  refine Rn.run 4 (ls' := [_, _, _]) (st' := []) rfl ?_
  exact l224 i1 6 0 0 rfl
theorem l116 {ex : xO} {d : Nat} {c : Nat → Nat → Int} {b : Bool} (i1 : iTxt c) : ∀ (m i : Nat) (a : Nat), i + m = 4 → Rn ex xt116 (d + 1) 4 [xA 0, xI (a : Int), xI (i : Int)] [] (hp c b) (xI ((xit (fun i a => a + (if decide (0 ≤ c 58 i) = true then 1 else 0)) m i a : Nat) : Int), hp c b) := by
  intro m
  induction m with
  | zero =>
    intro i a hm
    refine Rn.run 2 (ls' := [_, _, _]) (st' := [_, _]) rfl ?_
    refine Rn.ge2 rfl (fun e6 => ?_) (fun e6 => absurd e6 (by exact fun h => h ((y_ge (n := 4) (by omega) (by omega)).mpr (by omega))))
    refine Rn.run 1 (ls' := [_, _, _]) (st' := [_]) rfl ?_
    exact Rn.ret rfl rfl rfl rfl rfl rfl
  | succ m ih =>
    intro i a hm
    have hi : i < 4 := by omega
    have hw := iTxt_w i1 hi
    refine Rn.run 2 (ls' := [_, _, _]) (st' := [_, _]) rfl ?_
    refine Rn.ge2 rfl (fun e6 => absurd e6 (by exact fun h => absurd ((y_ge (n := 4) (by omega) (by omega)).mp h) (by omega))) (fun e6 => ?_)
    refine Rn.run 4 (ls' := [_, _, _]) (st' := [_, _, _]) rfl ?_
    refine Rn.aald rfl ⟨by decide, rfl, by decide, by decide⟩ (i) (x_wn (n := i) (by omega)) (by omega) (xR_txt hi).1 ?_
    refine Rn.callV rfl (x_sv (xS_txt hi)) rfl rfl rfl (c53 hi) ?_
    refine Rn.eqB rfl (fun e19 => ?_) (fun e19 => ?_)
    · rw [hw.2] at e19
      refine Rn.run 5 (ls' := [_, _, _]) (st' := []) rfl ?_
      refine Rn.ls ?_ (ih (i + 1) (a + (if decide (0 ≤ c 58 i) = true then 1 else 0)) (by omega))
      first | (rw [show (if decide (0 ≤ c 58 i) = true then 1 else 0) = 1 from if_pos (decide_eq_true (Int.not_lt.mp e19))]; first | done | rfl) | (rw [show (if decide (0 ≤ c 58 i) = true then 1 else 0) = 0 from if_neg (fun q => absurd (of_decide_eq_true q) (Int.not_le.mpr e19))]; first | done | rfl)
    · rw [hw.2] at e19
      refine Rn.run 6 (ls' := [_, _, _]) (st' := []) rfl ?_
      refine Rn.ls ?_ (ih (i + 1) (a + (if decide (0 ≤ c 58 i) = true then 1 else 0)) (by omega))
      first | (rw [show (if decide (0 ≤ c 58 i) = true then 1 else 0) = 1 from if_pos (decide_eq_true (Int.not_lt.mp e19))]; first | done | rfl) | (rw [show (if decide (0 ≤ c 58 i) = true then 1 else 0) = 0 from if_neg (fun q => absurd (of_decide_eq_true q) (Int.not_le.mpr e19))]; first | done | rfl)
theorem c116 {ex : xO} {d : Nat} {c : Nat → Nat → Int} {b : Bool} (i1 : iTxt c) : An ex (d + 1) 116 3 [xA 0] (hp c b) (xI (txs c : Nat), hp c b) := by
  refine Rn.run 4 (ls' := [_, _, _]) (st' := []) rfl ?_
  exact l116 i1 4 0 0 rfl
theorem l225 {ex : xO} {d : Nat} {c : Nat → Nat → Int} {b : Bool} (i1 : iTxt c) : ∀ (m i : Nat) (a : Nat), i + m = 4 → Rn ex xt225 d 4 [xA 54, xI (a : Int), xI (i : Int)] [] (hp c b) (xI ((xit (fun i a => a + (if decide (0 ≤ c 58 i) = true then 1 else 0)) m i a : Nat) : Int), hp c b) := by
  intro m
  induction m with
  | zero =>
    intro i a hm
    refine Rn.run 2 (ls' := [_, _, _]) (st' := [_, _]) rfl ?_
    refine Rn.ge2 rfl (fun e6 => ?_) (fun e6 => absurd e6 (by exact fun h => h ((y_ge (n := 4) (by omega) (by omega)).mpr (by omega))))
    refine Rn.run 1 (ls' := [_, _, _]) (st' := [_]) rfl ?_
    exact Rn.ret rfl rfl rfl rfl rfl rfl
  | succ m ih =>
    intro i a hm
    have hi : i < 4 := by omega
    have hw := iTxt_w i1 hi
    refine Rn.run 2 (ls' := [_, _, _]) (st' := [_, _]) rfl ?_
    refine Rn.ge2 rfl (fun e6 => absurd e6 (by exact fun h => absurd ((y_ge (n := 4) (by omega) (by omega)).mp h) (by omega))) (fun e6 => ?_)
    refine Rn.run 4 (ls' := [_, _, _]) (st' := [_, _, _]) rfl ?_
    refine Rn.ald rfl ⟨by decide, rfl⟩ (i) (x_wn (n := i) (by omega)) (by omega) ?_
    refine Rn.ge0 rfl (fun e16 => ?_) (fun e16 => ?_)
    · rw [hw.1] at e16
      refine Rn.run 5 (ls' := [_, _, _]) (st' := []) rfl ?_
      refine Rn.ls ?_ (ih (i + 1) (a + (if decide (0 ≤ c 58 i) = true then 1 else 0)) (by omega))
      first | (rw [show (if decide (0 ≤ c 58 i) = true then 1 else 0) = 1 from if_pos (decide_eq_true e16)]; first | done | rfl) | (rw [show (if decide (0 ≤ c 58 i) = true then 1 else 0) = 0 from if_neg (fun q => e16 (of_decide_eq_true q))]; first | done | rfl)
    · rw [hw.1] at e16
      refine Rn.run 6 (ls' := [_, _, _]) (st' := []) rfl ?_
      refine Rn.ls ?_ (ih (i + 1) (a + (if decide (0 ≤ c 58 i) = true then 1 else 0)) (by omega))
      first | (rw [show (if decide (0 ≤ c 58 i) = true then 1 else 0) = 1 from if_pos (decide_eq_true e16)]; first | done | rfl) | (rw [show (if decide (0 ≤ c 58 i) = true then 1 else 0) = 0 from if_neg (fun q => e16 (of_decide_eq_true q))]; first | done | rfl)
theorem c225 {ex : xO} {d : Nat} {c : Nat → Nat → Int} {b : Bool} (i1 : iTxt c) : An ex d 225 3 [xA 54] (hp c b) (xI (txs c : Nat), hp c b) := by
  refine Rn.run 4 (ls' := [_, _, _]) (st' := []) rfl ?_
  exact l225 i1 4 0 0 rfl
theorem l117 {ex : xO} {d : Nat} {c : Nat → Nat → Int} {b : Bool} {n : Nat} (hn : n ≤ 6) (hK : ∀ k, k < 3 → iKpt c n k) : ∀ (m i : Nat) (a : Nat), i + m = 3 → Rn ex xt117 d 4 [xA 0, xI (a : Int), xI (i : Int)] [] (hp c b) (xI ((xit (fun i a => a + (if (!decide (c 55 (430 * (i + 1)) = 0)) = true then 1 else 0)) m i a : Nat) : Int), hp c b) := by
  intro m
  induction m with
  | zero =>
    intro i a hm
    refine Rn.run 2 (ls' := [_, _, _]) (st' := [_, _]) rfl ?_
    refine Rn.ge2 rfl (fun e6 => ?_) (fun e6 => absurd e6 (by exact fun h => h ((y_ge (n := 3) (by omega) (by omega)).mpr (by omega))))
    refine Rn.run 1 (ls' := [_, _, _]) (st' := [_]) rfl ?_
    exact Rn.ret rfl rfl rfl rfl rfl rfl
  | succ m ih =>
    intro i a hm
    have hi : i < 3 := by omega
    have hw := iKpt_w hn (hK i hi)
    refine Rn.run 2 (ls' := [_, _, _]) (st' := [_, _]) rfl ?_
    refine Rn.ge2 rfl (fun e6 => absurd e6 (by exact fun h => absurd ((y_ge (n := 3) (by omega) (by omega)).mp h) (by omega))) (fun e6 => ?_)
    refine Rn.run 4 (ls' := [_, _, _]) (st' := [_, _, _]) rfl ?_
    refine Rn.aald rfl ⟨by decide, rfl, by decide, by decide⟩ (i) (x_wn (n := i) (by omega)) (by omega) (xR_kpt hi).1 ?_
    refine Rn.getI rfl (xS_kpt hi) ?_
    refine Rn.run 1 (ls' := [_, _, _]) (st' := [_, _, _]) rfl ?_
    refine Rn.ne2 rfl (fun e20 => ?_) (fun e20 => ?_)
    · refine Rn.run 5 (ls' := [_, _, _]) (st' := []) rfl ?_
      refine Rn.ls ?_ (ih (i + 1) (a + (if (!decide (c 55 (430 * (i + 1)) = 0)) = true then 1 else 0)) (by omega))
      first | (rw [show (if (!decide (c 55 (430 * (i + 1)) = 0)) = true then 1 else 0) = 1 from if_pos (by rw [decide_eq_false (fun z => e20 (hw.1.mpr z))]; rfl)]; first | done | rfl) | (rw [show (if (!decide (c 55 (430 * (i + 1)) = 0)) = true then 1 else 0) = 0 from if_neg (fun q => by rw [decide_eq_true (hw.1.mp (Classical.not_not.mp e20))] at q; cases q)]; first | done | rfl)
    · refine Rn.run 6 (ls' := [_, _, _]) (st' := []) rfl ?_
      refine Rn.ls ?_ (ih (i + 1) (a + (if (!decide (c 55 (430 * (i + 1)) = 0)) = true then 1 else 0)) (by omega))
      first | (rw [show (if (!decide (c 55 (430 * (i + 1)) = 0)) = true then 1 else 0) = 1 from if_pos (by rw [decide_eq_false (fun z => e20 (hw.1.mpr z))]; rfl)]; first | done | rfl) | (rw [show (if (!decide (c 55 (430 * (i + 1)) = 0)) = true then 1 else 0) = 0 from if_neg (fun q => by rw [decide_eq_true (hw.1.mp (Classical.not_not.mp e20))] at q; cases q)]; first | done | rfl)
theorem c117 {ex : xO} {d : Nat} {c : Nat → Nat → Int} {b : Bool} {n : Nat} (hn : n ≤ 6) (hK : ∀ k, k < 3 → iKpt c n k) : An ex d 117 3 [xA 0] (hp c b) (xI (kps c : Nat), hp c b) := by
  refine Rn.run 4 (ls' := [_, _, _]) (st' := []) rfl ?_
  exact l117 hn hK 3 0 0 rfl
theorem l226 {ex : xO} {d : Nat} {c : Nat → Nat → Int} {b : Bool} {n : Nat} (hn : n ≤ 6) (hK : ∀ k, k < 3 → iKpt c n k) : ∀ (m i : Nat) (a : Nat), i + m = 3 → Rn ex xt226 d 4 [xA 54, xI (a : Int), xI (i : Int)] [] (hp c b) (xI ((xit (fun i a => a + (if (!decide (c 55 (430 * (i + 1)) = 0)) = true then 1 else 0)) m i a : Nat) : Int), hp c b) := by
  intro m
  induction m with
  | zero =>
    intro i a hm
    refine Rn.run 2 (ls' := [_, _, _]) (st' := [_, _]) rfl ?_
    refine Rn.ge2 rfl (fun e6 => ?_) (fun e6 => absurd e6 (by exact fun h => h ((y_ge (n := 3) (by omega) (by omega)).mpr (by omega))))
    refine Rn.run 1 (ls' := [_, _, _]) (st' := [_]) rfl ?_
    exact Rn.ret rfl rfl rfl rfl rfl rfl
  | succ m ih =>
    intro i a hm
    have hi : i < 3 := by omega
    have hw := iKpt_w hn (hK i hi)
    refine Rn.run 2 (ls' := [_, _, _]) (st' := [_, _]) rfl ?_
    refine Rn.ge2 rfl (fun e6 => absurd e6 (by exact fun h => absurd ((y_ge (n := 3) (by omega) (by omega)).mp h) (by omega))) (fun e6 => ?_)
    refine Rn.run 10 (ls' := [_, _, _]) (st' := [_, _, _]) rfl ?_
    refine Rn.ald rfl ⟨by decide, rfl⟩ (430 * (i + 1)) (by unfold w32; omega) (by omega) ?_
    refine Rn.ne0 rfl (fun e26 => ?_) (fun e26 => ?_)
    · refine Rn.run 5 (ls' := [_, _, _]) (st' := []) rfl ?_
      refine Rn.ls ?_ (ih (i + 1) (a + (if (!decide (c 55 (430 * (i + 1)) = 0)) = true then 1 else 0)) (by omega))
      first | (rw [show (if (!decide (c 55 (430 * (i + 1)) = 0)) = true then 1 else 0) = 1 from if_pos (by rw [decide_eq_false (fun z => e26 (hw.2.mpr z))]; rfl)]; first | done | rfl) | (rw [show (if (!decide (c 55 (430 * (i + 1)) = 0)) = true then 1 else 0) = 0 from if_neg (fun q => by rw [decide_eq_true (hw.2.mp (Classical.not_not.mp e26))] at q; cases q)]; first | done | rfl)
    · refine Rn.run 6 (ls' := [_, _, _]) (st' := []) rfl ?_
      refine Rn.ls ?_ (ih (i + 1) (a + (if (!decide (c 55 (430 * (i + 1)) = 0)) = true then 1 else 0)) (by omega))
      first | (rw [show (if (!decide (c 55 (430 * (i + 1)) = 0)) = true then 1 else 0) = 1 from if_pos (by rw [decide_eq_false (fun z => e26 (hw.2.mpr z))]; rfl)]; first | done | rfl) | (rw [show (if (!decide (c 55 (430 * (i + 1)) = 0)) = true then 1 else 0) = 0 from if_neg (fun q => by rw [decide_eq_true (hw.2.mp (Classical.not_not.mp e26))] at q; cases q)]; first | done | rfl)
theorem c226 {ex : xO} {d : Nat} {c : Nat → Nat → Int} {b : Bool} {n : Nat} (hn : n ≤ 6) (hK : ∀ k, k < 3 → iKpt c n k) : An ex d 226 3 [xA 54] (hp c b) (xI (kps c : Nat), hp c b) := by
  refine Rn.run 4 (ls' := [_, _, _]) (st' := []) rfl ?_
  exact l226 hn hK 3 0 0 rfl
theorem l227 {ex : xO} {d : Nat} {c : Nat → Nat → Int} {b : Bool} {n : Nat} {kd bo wo : Nat → Nat} (ho : gok n kd bo wo) (hM : mG c n kd bo wo) {s : Nat} (hs : s < 2 ^ n) (t2 : c 55 2 = (s : Nat)) : ∀ (m i : Nat) (a : Nat), i + m = n → a < 64 → Rn ex xt227 (d + 2) 4 [xA 54, xI (a : Int), xI (i : Int)] [] (hp c b) (xI ((xit (fun i z => if can kd n s i = true then z ||| 2 ^ i else z) m i a : Nat) : Int), hp c b) := by
  intro m
  induction m with
  | zero =>
    intro i a hm hP
    have hn := ho.1
    refine Rn.run 4 (ls' := [_, _, _]) (st' := [_, _, _]) rfl ?_
    refine Rn.ald rfl ⟨by decide, rfl⟩ (0) rfl (by decide) ?_
    rw [hM.1]
    refine Rn.ge2 rfl (fun e11 => ?_) (fun e11 => absurd e11 (by exact fun h => h ((y_ge (by omega) (by omega)).mpr (by omega))))
    refine Rn.run 1 (ls' := [_, _, _]) (st' := [_]) rfl ?_
    exact Rn.ret rfl rfl rfl rfl rfl rfl
  | succ m ih =>
    intro i a hm hP
    have hn := ho.1
    refine Rn.run 4 (ls' := [_, _, _]) (st' := [_, _, _]) rfl ?_
    refine Rn.ald rfl ⟨by decide, rfl⟩ (0) rfl (by decide) ?_
    rw [hM.1]
    refine Rn.ge2 rfl (fun e11 => absurd e11 (by exact fun h => absurd ((y_ge (by omega) (by omega)).mp h) (by omega))) (fun e11 => ?_)
    refine Rn.run 6 (ls' := [_, _, _]) (st' := [_, _, _, _, _]) rfl ?_
    refine Rn.ald rfl ⟨by decide, rfl⟩ (2) rfl (by decide) ?_
    rw [t2]
    refine Rn.call rfl rfl rfl rfl rfl (c165 ho hM (by omega) hs) ?_
    refine Rn.eqB rfl (fun e26 => ?_) (fun e26 => ?_)
    · refine Rn.run 5 (ls' := [_, _, _]) (st' := []) rfl ?_
      refine Rn.ls ?_ (ih (i + 1) (if can kd n s i = true then a ||| 2 ^ i else a) (by omega) (by split <;> first | exact or64 hP (by omega) | exact hP))
      first | (rw [show (if can kd n s i = true then a ||| 2 ^ i else a) = a ||| 2 ^ i from if_pos (e26), ← bt_add hP (by omega)]; first | done | rfl) | (rw [show (if can kd n s i = true then a ||| 2 ^ i else a) = a from if_neg (e26)]; first | rfl | (rw [bt_or0 hP]; rfl))
    · refine Rn.run 8 (ls' := [_, _, _]) (st' := []) rfl ?_
      refine Rn.ls ?_ (ih (i + 1) (if can kd n s i = true then a ||| 2 ^ i else a) (by omega) (by split <;> first | exact or64 hP (by omega) | exact hP))
      first | (rw [show (if can kd n s i = true then a ||| 2 ^ i else a) = a ||| 2 ^ i from if_pos (e26), ← bt_add hP (by omega)]; first | done | rfl) | (rw [show (if can kd n s i = true then a ||| 2 ^ i else a) = a from if_neg (e26)]; first | rfl | (rw [bt_or0 hP]; rfl))
theorem c227 {ex : xO} {d : Nat} {c : Nat → Nat → Int} {b : Bool} {n : Nat} {kd bo wo : Nat → Nat} (ho : gok n kd bo wo) (hM : mG c n kd bo wo) {s : Nat} (hs : s < 2 ^ n) (t2 : c 55 2 = (s : Nat)) : An ex (d + 2) 227 3 [xA 54] (hp c b) (xI (bset (can kd n s) n : Nat), hp c b) := by
  refine Rn.run 4 (ls' := [_, _, _]) (st' := []) rfl ?_
  exact l227 ho hM hs t2 n 0 0 (by omega) (by decide)
theorem l228 {ex : xO} {d : Nat} {c : Nat → Nat → Int} {b : Bool} {n : Nat} {L : Nat → Nat} (hn : n ≤ 6) (h9 : l9 L) (h0 : c 55 0 = (n : Nat)) (l55 : ∀ j, j < 8 → c 55 (3 + j) = (L j : Nat)) : ∀ (m i : Nat) (a : Nat), i + m = 8 → a < 1024 → Rn ex xt228 d 4 [xA 54, xI (a : Int), xI (i : Int)] [] (hp c b) (xI ((xit (fun i z => if (decide (0 < n) && decide (L i = 0)) = true then z ||| 2 ^ i else z) m i a : Nat) : Int), hp c b) := by
  intro m
  induction m with
  | zero =>
    intro i a hm hP
    refine Rn.run 2 (ls' := [_, _, _]) (st' := [_, _]) rfl ?_
    refine Rn.ge2 rfl (fun e7 => ?_) (fun e7 => absurd e7 (by exact fun h => h ((y_ge (n := 8) (by omega) (by omega)).mpr (by omega))))
    refine Rn.run 1 (ls' := [_, _, _]) (st' := [_]) rfl ?_
    exact Rn.ret rfl rfl rfl rfl rfl rfl
  | succ m ih =>
    intro i a hm hP
    refine Rn.run 2 (ls' := [_, _, _]) (st' := [_, _]) rfl ?_
    refine Rn.ge2 rfl (fun e7 => absurd e7 (by exact fun h => absurd ((y_ge (n := 8) (by omega) (by omega)).mp h) (by omega))) (fun e7 => ?_)
    refine Rn.run 4 (ls' := [_, _, _]) (st' := [_, _, _]) rfl ?_
    refine Rn.ald rfl ⟨by decide, rfl⟩ (0) rfl (by decide) ?_
    rw [h0]
    refine Rn.le0 rfl (fun e17 => ?_) (fun e17 => ?_)
    · rw [x_wn (by omega)] at e17
      refine Rn.run 5 (ls' := [_, _, _]) (st' := []) rfl ?_
      refine Rn.ls ?_ (ih (i + 1) (if (decide (0 < n) && decide (L i = 0)) = true then a ||| 2 ^ i else a) (by omega) (by split <;> first | exact or1024 hP (by omega) | exact hP))
      first | (rw [show (if (decide (0 < n) && decide (L i = 0)) = true then a ||| 2 ^ i else a) = a from if_neg (fun q => by simp at q; omega)]; first | rfl | (rw [bt8_or0 a hP]; rfl)) | (rw [show (if (decide (0 < n) && decide (L i = 0)) = true then a ||| 2 ^ i else a) = a from if_neg (fun q => e28 ((y_eq0 (by omega)).mpr (by simp at q; exact q.2)))]; first | rfl | (rw [bt8_or0 a hP]; rfl)) | (rw [show (if (decide (0 < n) && decide (L i = 0)) = true then a ||| 2 ^ i else a) = a ||| 2 ^ i from if_pos (by simp; exact ⟨by omega, (y_eq0 (by omega)).mp (Classical.not_not.mp e28)⟩), ← bt8_add a hP i (by omega)]; first | done | rfl)
    · rw [x_wn (by omega)] at e17
      refine Rn.run 5 (ls' := [_, _, _]) (st' := [_, _, _]) rfl ?_
      refine Rn.ald rfl ⟨by decide, rfl⟩ (3 + i) (x_wn (n := 3 + i) (by omega)) (by omega) ?_
      rw [l55 i (by omega)]
      have h9i := h9 i (by omega)
      refine Rn.ne0 rfl (fun e28 => ?_) (fun e28 => ?_)
      · refine Rn.run 5 (ls' := [_, _, _]) (st' := []) rfl ?_
        refine Rn.ls ?_ (ih (i + 1) (if (decide (0 < n) && decide (L i = 0)) = true then a ||| 2 ^ i else a) (by omega) (by split <;> first | exact or1024 hP (by omega) | exact hP))
        first | (rw [show (if (decide (0 < n) && decide (L i = 0)) = true then a ||| 2 ^ i else a) = a from if_neg (fun q => by simp at q; omega)]; first | rfl | (rw [bt8_or0 a hP]; rfl)) | (rw [show (if (decide (0 < n) && decide (L i = 0)) = true then a ||| 2 ^ i else a) = a from if_neg (fun q => e28 ((y_eq0 (by omega)).mpr (by simp at q; exact q.2)))]; first | rfl | (rw [bt8_or0 a hP]; rfl)) | (rw [show (if (decide (0 < n) && decide (L i = 0)) = true then a ||| 2 ^ i else a) = a ||| 2 ^ i from if_pos (by simp; exact ⟨by omega, (y_eq0 (by omega)).mp (Classical.not_not.mp e28)⟩), ← bt8_add a hP i (by omega)]; first | done | rfl)
      · refine Rn.run 8 (ls' := [_, _, _]) (st' := []) rfl ?_
        refine Rn.ls ?_ (ih (i + 1) (if (decide (0 < n) && decide (L i = 0)) = true then a ||| 2 ^ i else a) (by omega) (by split <;> first | exact or1024 hP (by omega) | exact hP))
        first | (rw [show (if (decide (0 < n) && decide (L i = 0)) = true then a ||| 2 ^ i else a) = a from if_neg (fun q => by simp at q; omega)]; first | rfl | (rw [bt8_or0 a hP]; rfl)) | (rw [show (if (decide (0 < n) && decide (L i = 0)) = true then a ||| 2 ^ i else a) = a from if_neg (fun q => e28 ((y_eq0 (by omega)).mpr (by simp at q; exact q.2)))]; first | rfl | (rw [bt8_or0 a hP]; rfl)) | (rw [show (if (decide (0 < n) && decide (L i = 0)) = true then a ||| 2 ^ i else a) = a ||| 2 ^ i from if_pos (by simp; exact ⟨by omega, (y_eq0 (by omega)).mp (Classical.not_not.mp e28)⟩), ← bt8_add a hP i (by omega)]; first | done | rfl)
theorem c228 {ex : xO} {d : Nat} {c : Nat → Nat → Int} {b : Bool} {n : Nat} {L : Nat → Nat} (hn : n ≤ 6) (h9 : l9 L) (h0 : c 55 0 = (n : Nat)) (l55 : ∀ j, j < 8 → c 55 (3 + j) = (L j : Nat)) : An ex d 228 3 [xA 54] (hp c b) (xI (bset (fun i => decide (0 < n) && decide (L i = 0)) 8 : Nat), hp c b) := by
  refine Rn.run 4 (ls' := [_, _, _]) (st' := []) rfl ?_
  exact l228 hn h9 h0 l55 8 0 0 rfl (by decide)
theorem l229 {ex : xO} {d : Nat} {c : Nat → Nat → Int} {b : Bool} {n : Nat} {kd bo wo : Nat → Nat} (ho : gok n kd bo wo) (hM : mG c n kd bo wo) : ∀ (m i : Nat) (a : Nat), i + m = n → Rn ex xt229 (d + 1) 4 [xA 54, xI (a : Int), xI (i : Int)] [] (hp c b) (xI ((xit (fun i a => a + (if isg (kd i) = true then 1 else 0)) m i a : Nat) : Int), hp c b) := by
  intro m
  induction m with
  | zero =>
    intro i a hm
    have hn := ho.1
    refine Rn.run 4 (ls' := [_, _, _]) (st' := [_, _, _]) rfl ?_
    refine Rn.ald rfl ⟨by decide, rfl⟩ (0) rfl (by decide) ?_
    rw [hM.1]
    refine Rn.ge2 rfl (fun e11 => ?_) (fun e11 => absurd e11 (by exact fun h => h ((y_ge (by omega) (by omega)).mpr (by omega))))
    refine Rn.run 1 (ls' := [_, _, _]) (st' := [_]) rfl ?_
    exact Rn.ret rfl rfl rfl rfl rfl rfl
  | succ m ih =>
    intro i a hm
    have hn := ho.1
    refine Rn.run 4 (ls' := [_, _, _]) (st' := [_, _, _]) rfl ?_
    refine Rn.ald rfl ⟨by decide, rfl⟩ (0) rfl (by decide) ?_
    rw [hM.1]
    refine Rn.ge2 rfl (fun e11 => absurd e11 (by exact fun h => absurd ((y_ge (by omega) (by omega)).mp h) (by omega))) (fun e11 => ?_)
    refine Rn.run 6 (ls' := [_, _, _]) (st' := [_, _, _]) rfl ?_
    refine Rn.ald rfl ⟨by decide, rfl⟩ (11 + i) (x_wn (n := 11 + i) (by omega)) (by omega) ?_
    rw [(hM.2 i (by omega)).1]
    refine Rn.run 1 (ls' := [_, _, _]) (st' := [_, _, _]) rfl ?_
    refine Rn.call rfl rfl rfl rfl rfl (c159 (k := kd i) (w := 1) (ho.2 i (by omega)).1 (by decide)) ?_
    refine Rn.eqB rfl (fun e28 => ?_) (fun e28 => ?_)
    · refine Rn.run 5 (ls' := [_, _, _]) (st' := []) rfl ?_
      refine Rn.ls ?_ (ih (i + 1) (a + (if isg (kd i) = true then 1 else 0)) (by omega))
      first | (rw [show (if isg (kd i) = true then 1 else 0) = 1 from if_pos (by unfold isg; simp; omega)]; first | done | rfl) | (rw [show (if isg (kd i) = true then 1 else 0) = 0 from if_neg (fun q => e28 (by unfold isg at q; simp at q; omega))]; first | done | rfl)
    · refine Rn.run 6 (ls' := [_, _, _]) (st' := []) rfl ?_
      refine Rn.ls ?_ (ih (i + 1) (a + (if isg (kd i) = true then 1 else 0)) (by omega))
      first | (rw [show (if isg (kd i) = true then 1 else 0) = 1 from if_pos (by unfold isg; simp; omega)]; first | done | rfl) | (rw [show (if isg (kd i) = true then 1 else 0) = 0 from if_neg (fun q => e28 (by unfold isg at q; simp at q; omega))]; first | done | rfl)
theorem c229 {ex : xO} {d : Nat} {c : Nat → Nat → Int} {b : Bool} {n : Nat} {kd bo wo : Nat → Nat} (ho : gok n kd bo wo) (hM : mG c n kd bo wo) : An ex (d + 1) 229 3 [xA 54] (hp c b) (xI (cnt (fun i => isg (kd i)) n : Nat), hp c b) := by
  refine Rn.run 4 (ls' := [_, _, _]) (st' := []) rfl ?_
  exact l229 ho hM n 0 0 (by omega)
theorem c96 {ex : xO} {d : Nat} {c : Nat → Nat → Int} {b : Bool} {n D T Mo : Nat} {kd bo wo L : Nat → Nat} (hP : pS n kd bo wo D T Mo L) (hc : cS c b n kd bo wo D T Mo L) (i1 : iRow c) (i2 : iTxt c) (hK : ∀ k, k < 3 → iKpt c n k) {w : Nat} (hw : w < 12) : An ex (d + 5) 96 2 [xA 0, xI (w : Int)] (hp c b) (xI (cvl n kd D T Mo L (rws c) (txs c) (kps c) w : Nat), hp c b) := by
  obtain ⟨ho, h40, hT, h9, hMo⟩ := hP
  obtain ⟨hC, d7, t9, hL, m10⟩ := hc
  have hn := ho.1
  have hT6 := p64 hn hT
  rcases (by omega : w = 0 ∨ w = 1 ∨ w = 2 ∨ w = 3 ∨ w = 4 ∨ w = 5 ∨ w = 6 ∨ w = 7 ∨ w = 8 ∨ w = 9 ∨ w = 10 ∨ w = 11) with rfl | rfl | rfl | rfl | rfl | rfl | rfl | rfl | rfl | rfl | rfl | rfl
  · refine Rn.run 1 (ls' := [_, _]) (st' := [_]) rfl ?_
    refine Rn.run 1 rfl ?_
    refine Rn.run 1 (ls' := [_, _]) (st' := [_]) rfl ?_
    refine Rn.getR rfl ⟨by decide, rfl, rfl⟩ (j := gid b) (rfl) ?_
    refine Rn.getI rfl (xS_g b) ?_
    rw [hC.1]
    exact Rn.ret rfl rfl rfl rfl rfl rfl
  · refine Rn.run 1 (ls' := [_, _]) (st' := [_]) rfl ?_
    refine Rn.run 1 rfl ?_
    refine Rn.run 2 (ls' := [_, _]) (st' := [_]) rfl ?_
    refine Rn.call rfl rfl rfl rfl rfl (c10 d7 h40) ?_
    refine Rn.call rfl rfl rfl rfl rfl (c2 hL) ?_
    exact Rn.ret rfl rfl rfl rfl rfl rfl
  · refine Rn.run 1 (ls' := [_, _]) (st' := [_]) rfl ?_
    refine Rn.run 1 rfl ?_
    refine Rn.run 2 (ls' := [_, _]) (st' := [_]) rfl ?_
    refine Rn.call rfl rfl rfl rfl rfl (c12 d7 h40) ?_
    rw [m10]
    exact Rn.ret rfl rfl rfl rfl rfl rfl
  · refine Rn.run 1 (ls' := [_, _]) (st' := [_]) rfl ?_
    refine Rn.run 1 rfl ?_
    refine Rn.run 3 (ls' := [_, _]) (st' := [_]) rfl ?_
    rw [d7]
    exact Rn.ret rfl rfl rfl rfl rfl rfl
  · refine Rn.run 1 (ls' := [_, _]) (st' := [_]) rfl ?_
    refine Rn.run 1 rfl ?_
    refine Rn.run 2 (ls' := [_, _]) (st' := [_]) rfl ?_
    refine Rn.call rfl rfl rfl rfl rfl (c11 d7 h40) ?_
    rw [t9]
    exact Rn.ret rfl rfl rfl rfl rfl rfl
  · refine Rn.run 1 (ls' := [_, _]) (st' := [_]) rfl ?_
    refine Rn.run 1 rfl ?_
    refine Rn.run 1 (ls' := [_, _]) (st' := [_]) rfl ?_
    refine Rn.getR rfl ⟨by decide, rfl, rfl⟩ (j := gid b) (rfl) ?_
    refine Rn.run 2 (ls' := [_, _]) (st' := [_, _]) rfl ?_
    refine Rn.call rfl rfl rfl rfl rfl (c11 d7 h40) ?_
    rw [t9]
    refine Rn.callV rfl (x_sv (xS_g b)) rfl rfl rfl (c22 ho hC hT6) ?_
    exact Rn.ret rfl rfl rfl rfl rfl rfl
  · by_cases h0 : n = 0
    · refine Rn.run 1 (ls' := [_, _]) (st' := [_]) rfl ?_
      refine Rn.run 1 rfl ?_
      refine Rn.run 1 (ls' := [_, _]) (st' := [_]) rfl ?_
      refine Rn.getR rfl ⟨by decide, rfl, rfl⟩ (j := gid b) (rfl) ?_
      refine Rn.getI rfl (xS_g b) ?_
      rw [hC.1]
      refine Rn.ne0 rfl (fun e129 => absurd e129 (by rw [h0]; decide)) (fun e129 => ?_)
      refine Rn.run 2 (ls' := [_, _]) (st' := [_]) rfl ?_
      exact Rn.ret rfl rfl rfl rfl (congrArg (fun z : Nat => xI (z : Int)) (by first | exact (cv6_0 h0).symm | exact (cv6_n h0).symm)) rfl
    · refine Rn.run 1 (ls' := [_, _]) (st' := [_]) rfl ?_
      refine Rn.run 1 rfl ?_
      refine Rn.run 1 (ls' := [_, _]) (st' := [_]) rfl ?_
      refine Rn.getR rfl ⟨by decide, rfl, rfl⟩ (j := gid b) (rfl) ?_
      refine Rn.getI rfl (xS_g b) ?_
      rw [hC.1]
      refine Rn.ne0 rfl (fun e129 => ?_) (fun e129 => absurd e129 (by exact fun h => h (z_ne0 h0 hn)))
      refine Rn.run 2 (ls' := [_, _]) (st' := [_]) rfl ?_
      refine Rn.call rfl rfl rfl rfl rfl (c10 d7 h40) ?_
      refine Rn.call rfl rfl rfl rfl rfl (c4 hL h9) ?_
      exact Rn.ret rfl rfl rfl rfl (congrArg (fun z : Nat => xI (z : Int)) (by first | exact (cv6_0 h0).symm | exact (cv6_n h0).symm)) rfl
  · refine Rn.run 1 (ls' := [_, _]) (st' := [_]) rfl ?_
    refine Rn.run 1 rfl ?_
    refine Rn.run 1 (ls' := [_, _]) (st' := [_]) rfl ?_
    refine Rn.getR rfl ⟨by decide, rfl, rfl⟩ (j := gid b) (rfl) ?_
    refine Rn.callV rfl (x_sv (xS_g b)) rfl rfl rfl (c18 ho hC) ?_
    refine Rn.call rfl rfl rfl rfl rfl (c235 (bset_64 _ hn)) ?_
    exact Rn.ret rfl rfl rfl rfl (congrArg (fun z : Nat => xI (z : Int)) (pop_bset _ (by omega))) rfl
  · refine Rn.run 1 (ls' := [_, _]) (st' := [_]) rfl ?_
    refine Rn.run 1 rfl ?_
    refine Rn.run 1 (ls' := [_, _]) (st' := [_]) rfl ?_
    refine Rn.getR rfl ⟨by decide, rfl, rfl⟩ (j := gid b) (rfl) ?_
    refine Rn.getI rfl (xS_g b) ?_
    rw [hC.1]
    refine Rn.run 1 (ls' := [_, _]) (st' := [_, _]) rfl ?_
    refine Rn.getR rfl ⟨by decide, rfl, rfl⟩ (j := gid b) (rfl) ?_
    refine Rn.getI rfl (xS_g b) ?_
    rw [hC.2.1]
    refine Rn.call rfl rfl rfl rfl rfl (c235 (show cm kd n < 64 from bset_64 _ hn)) ?_
    refine Rn.run 1 (ls' := [_, _]) (st' := [_]) rfl ?_
    exact Rn.ret rfl rfl rfl rfl (congrArg xI (cv8 kd hn)) rfl
  · refine Rn.run 1 (ls' := [_, _]) (st' := [_]) rfl ?_
    refine Rn.run 1 rfl ?_
    refine Rn.run 1 (ls' := [_, _]) (st' := [_]) rfl ?_
    refine Rn.call rfl rfl rfl rfl rfl (c115 i1) ?_
    exact Rn.ret rfl rfl rfl rfl rfl rfl
  · refine Rn.run 1 (ls' := [_, _]) (st' := [_]) rfl ?_
    refine Rn.run 1 rfl ?_
    refine Rn.run 1 (ls' := [_, _]) (st' := [_]) rfl ?_
    refine Rn.call rfl rfl rfl rfl rfl (c116 i2) ?_
    exact Rn.ret rfl rfl rfl rfl rfl rfl
  · refine Rn.run 1 (ls' := [_, _]) (st' := [_]) rfl ?_
    refine Rn.run 1 rfl ?_
    refine Rn.run 1 (ls' := [_, _]) (st' := [_]) rfl ?_
    refine Rn.call rfl rfl rfl rfl rfl (c117 hn hK) ?_
    exact Rn.ret rfl rfl rfl rfl rfl rfl
theorem c230 {ex : xO} {d : Nat} {c : Nat → Nat → Int} {b : Bool} {n D T Mo : Nat} {kd bo wo L : Nat → Nat} (hP : pS n kd bo wo D T Mo L) (hm : mS c n kd bo wo D T Mo L) (i1 : iRow c) (i2 : iTxt c) (hK : ∀ k, k < 3 → iKpt c n k) {w : Nat} (hw : w < 12) : An ex (d + 5) 230 2 [xA 54, xI (w : Int)] (hp c b) (xI (cvl n kd D T Mo L (rws c) (txs c) (kps c) w : Nat), hp (if w = 1 then lf c L else c) b) := by
  obtain ⟨ho, h40, hT, h9, hMo⟩ := hP
  obtain ⟨hM, d29, t2, l55, m1⟩ := hm
  have hn := ho.1
  have hT6 := p64 hn hT
  rcases (by omega : w = 0 ∨ w = 1 ∨ w = 2 ∨ w = 3 ∨ w = 4 ∨ w = 5 ∨ w = 6 ∨ w = 7 ∨ w = 8 ∨ w = 9 ∨ w = 10 ∨ w = 11) with rfl | rfl | rfl | rfl | rfl | rfl | rfl | rfl | rfl | rfl | rfl | rfl
  · refine Rn.run 1 (ls' := [_, _]) (st' := [_]) rfl ?_
    refine Rn.run 1 rfl ?_
    refine Rn.run 3 (ls' := [_, _]) (st' := [_, _]) rfl ?_
    refine Rn.ald rfl ⟨by decide, rfl⟩ (0) rfl (by decide) ?_
    rw [hM.1]
    exact Rn.ret rfl rfl rfl rfl rfl rfl
  · refine Rn.run 1 (ls' := [_, _]) (st' := [_]) rfl ?_
    refine Rn.run 1 rfl ?_
    refine Rn.run 1 (ls' := [_, _]) (st' := [_]) rfl ?_
    refine Rn.call rfl rfl rfl rfl rfl (c171 l55) ?_
    exact Rn.ret rfl rfl rfl rfl rfl rfl
  · refine Rn.run 1 (ls' := [_, _]) (st' := [_]) rfl ?_
    refine Rn.run 1 rfl ?_
    refine Rn.run 3 (ls' := [_, _]) (st' := [_, _]) rfl ?_
    refine Rn.ald rfl ⟨by decide, rfl⟩ (1) rfl (by decide) ?_
    rw [m1]
    exact Rn.ret rfl rfl rfl rfl rfl rfl
  · refine Rn.run 1 (ls' := [_, _]) (st' := [_]) rfl ?_
    refine Rn.run 1 rfl ?_
    refine Rn.run 3 (ls' := [_, _]) (st' := [_, _]) rfl ?_
    refine Rn.ald rfl ⟨by decide, rfl⟩ (29) rfl (by decide) ?_
    rw [d29]
    exact Rn.ret rfl rfl rfl rfl rfl rfl
  · refine Rn.run 1 (ls' := [_, _]) (st' := [_]) rfl ?_
    refine Rn.run 1 rfl ?_
    refine Rn.run 3 (ls' := [_, _]) (st' := [_, _]) rfl ?_
    refine Rn.ald rfl ⟨by decide, rfl⟩ (2) rfl (by decide) ?_
    rw [t2]
    exact Rn.ret rfl rfl rfl rfl rfl rfl
  · refine Rn.run 1 (ls' := [_, _]) (st' := [_]) rfl ?_
    refine Rn.run 1 rfl ?_
    refine Rn.run 1 (ls' := [_, _]) (st' := [_]) rfl ?_
    refine Rn.call rfl rfl rfl rfl rfl (c227 ho hM hT t2) ?_
    exact Rn.ret rfl rfl rfl rfl rfl rfl
  · refine Rn.run 1 (ls' := [_, _]) (st' := [_]) rfl ?_
    refine Rn.run 1 rfl ?_
    refine Rn.run 1 (ls' := [_, _]) (st' := [_]) rfl ?_
    refine Rn.call rfl rfl rfl rfl rfl (c228 hn h9 hM.1 l55) ?_
    exact Rn.ret rfl rfl rfl rfl rfl rfl
  · refine Rn.run 1 (ls' := [_, _]) (st' := [_]) rfl ?_
    refine Rn.run 1 rfl ?_
    refine Rn.run 1 (ls' := [_, _]) (st' := [_]) rfl ?_
    refine Rn.call rfl rfl rfl rfl rfl (c229 ho hM) ?_
    exact Rn.ret rfl rfl rfl rfl rfl rfl
  · refine Rn.run 1 (ls' := [_, _]) (st' := [_]) rfl ?_
    refine Rn.run 1 rfl ?_
    refine Rn.run 1 (ls' := [_, _]) (st' := [_]) rfl ?_
    refine Rn.call rfl rfl rfl rfl rfl (c164 ho hM) ?_
    refine Rn.call rfl rfl rfl rfl rfl (c133 (bset_64 _ hn)) ?_
    exact Rn.ret rfl rfl rfl rfl (congrArg (fun z : Nat => xI (z : Int)) (pop_bset _ (by omega))) rfl
  · refine Rn.run 1 (ls' := [_, _]) (st' := [_]) rfl ?_
    refine Rn.run 1 rfl ?_
    refine Rn.run 1 (ls' := [_, _]) (st' := [_]) rfl ?_
    refine Rn.call rfl rfl rfl rfl rfl (c224 i1) ?_
    exact Rn.ret rfl rfl rfl rfl rfl rfl
  · refine Rn.run 1 (ls' := [_, _]) (st' := [_]) rfl ?_
    refine Rn.run 1 rfl ?_
    refine Rn.run 1 (ls' := [_, _]) (st' := [_]) rfl ?_
    refine Rn.call rfl rfl rfl rfl rfl (c225 i2) ?_
    exact Rn.ret rfl rfl rfl rfl rfl rfl
  · refine Rn.run 1 (ls' := [_, _]) (st' := [_]) rfl ?_
    refine Rn.run 1 rfl ?_
    refine Rn.run 1 (ls' := [_, _]) (st' := [_]) rfl ?_
    refine Rn.call rfl rfl rfl rfl rfl (c226 hn hK) ?_
    exact Rn.ret rfl rfl rfl rfl rfl rfl
theorem g_count {ex : xO} (a1 : Int) (h1 : w32 a1 = a1) : AgI ex 96 2 230 2 [xI a1] := by
  intro d c b hI
  by_cases q1 : 0 ≤ a1 ∧ a1 < 12
  · obtain ⟨w, hw, rfl⟩ : ∃ j : Nat, j < 12 ∧ a1 = (j : Int) := ⟨a1.toNat, by omega, by omega⟩
    obtain ⟨n, kd, bo, wo, D, T, Mo, L, hP, hc, hm⟩ := Inv_St hI
    have hK : ∀ k, k < 3 → iKpt c n k := by
      obtain ⟨n', hG, -, hK⟩ := hI.2.2.2.2
      obtain rfl : n' = n := by have h1 := hG.2.2.1; have h2 := hc.1.1; omega
      exact hK
    refine Ag_scr hI _ (c96 (d := d + 15) hP hc hI.1 hI.2.1 hK hw) (c230 (d := d + 15) hP hm hI.1 hI.2.1 hK hw) (fun a k h => ?_)
    split
    · exact lf_out _ _ (fun z => h (by unfold scr; omega))
    · rfl
  · refine Ag_same hI (-1) ?_ ?_
    · refine Rn.run 1 rfl ?_
      refine Rn.swd rfl (by rw [h1]; omega) ?_
      refine Rn.run 1 rfl ?_
      exact Rn.ret rfl rfl rfl rfl rfl rfl
    · refine Rn.run 1 rfl ?_
      refine Rn.swd rfl (by rw [h1]; omega) ?_
      refine Rn.run 1 rfl ?_
      exact Rn.ret rfl rfl rfl rfl rfl rfl
