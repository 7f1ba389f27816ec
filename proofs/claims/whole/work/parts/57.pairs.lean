-- worths, kinds
def alls (q : Nat → Bool) : Nat → Nat → Bool
  | 0, _ => true
  | m + 1, i => q i && alls q m (i + 1)
theorem alls_all {q : Nat → Bool} : ∀ {m i : Nat}, alls q m i = true → ∀ j, i ≤ j → j < i + m → q j = true := by
  intro m
  induction m with
  | zero => intro i _ j h1 h2; omega
  | succ m ih =>
    intro i h j h1 h2
    simp only [alls, Bool.and_eq_true] at h
    by_cases e : j = i
    · rw [e]; exact h.1
    · exact ih h.2 j (by omega) (by omega)
/-- place k of row r is a figure -/
def fq (c : Nat → Nat → Int) (r k : Nat) : Bool := decide (0 ≤ w32 (c 57 (40 * r + k)) ∧ w32 (c 57 (40 * r + k)) < 10)
theorem l50 {ex : xO} {d : Nat} {c : Nat → Nat → Int} {b : Bool} {r S : Nat} (hr : r < 6) (i1 : iRow c) (hS : c 56 r = (S : Nat)) : ∀ (m i : Nat), i + m = S → Rn ex xt50 (d + 1) 2 [xA (22 + 2 * r), xI (i : Int)] [] (hp c b) (xI (if alls (fq c r) m i = true then 1 else 0), hp c b) := by
  obtain ⟨r1, r2, r3, r4⟩ := i1 r hr
  have S40 : S ≤ 40 := by omega
  have rS : c (22 + 2 * r) 0 = (S : Nat) := by rw [r1]; exact hS
  intro m
  induction m with
  | zero =>
    intro i hm
    refine Rn.run 2 (ls' := [_, _]) (st' := [_, _]) rfl ?_
    refine Rn.getI rfl (xS_row hr) ?_
    rw [rS]
    refine Rn.ge2 rfl (fun e7 => ?_) (fun e7 => absurd e7 (by exact fun h => h ((y_ge (by omega) (by omega)).mpr (by omega))))
    refine Rn.run 1 (ls' := [_, _]) (st' := [_]) rfl ?_
    exact Rn.retZ rfl (Or.inr rfl) rfl
  | succ m ih =>
    intro i hm
    by_cases hq : fq c r i = true
    · rw [show alls (fq c r) (m + 1) i = alls (fq c r) m (i + 1) by simp only [alls, hq, Bool.true_and]]
      have hf := of_decide_eq_true hq
      refine Rn.run 2 (ls' := [_, _]) (st' := [_, _]) rfl ?_
      refine Rn.getI rfl (xS_row hr) ?_
      rw [rS]
      refine Rn.ge2 rfl (fun e7 => absurd e7 (by exact fun h => absurd ((y_ge (by omega) (by omega)).mp h) (by omega))) (fun e7 => ?_)
      refine Rn.run 1 (ls' := [_, _]) (st' := [_]) rfl ?_
      refine Rn.getR rfl (xS_row hr) (xR_row hr).2 ?_
      refine Rn.run 1 (ls' := [_, _]) (st' := [_, _]) rfl ?_
      refine Rn.ald rfl (xS_pl hr) (i) (x_wn (by omega)) (by omega) ?_
      rw [r4 i (by omega)]
      refine Rn.run 1 (ls' := [_, _]) (st' := [_, _]) rfl ?_
      refine Rn.call rfl rfl rfl rfl rfl (c100) ?_
      refine Rn.neB rfl (fun e21 => ?_) (fun e21 => absurd e21 (by exact fun h => h hf))
      refine Rn.run 2 (ls' := [_, _]) (st' := []) rfl ?_
      exact ih (i + 1) (by omega)
    · rw [show alls (fq c r) (m + 1) i = false by simp only [alls, hq, Bool.false_and]]
      have hf : ¬ (0 ≤ w32 (c 57 (40 * r + i)) ∧ w32 (c 57 (40 * r + i)) < w32 10) := fun z => hq (decide_eq_true z)
      refine Rn.run 2 (ls' := [_, _]) (st' := [_, _]) rfl ?_
      refine Rn.getI rfl (xS_row hr) ?_
      rw [rS]
      refine Rn.ge2 rfl (fun e7 => absurd e7 (by exact fun h => absurd ((y_ge (by omega) (by omega)).mp h) (by omega))) (fun e7 => ?_)
      refine Rn.run 1 (ls' := [_, _]) (st' := [_]) rfl ?_
      refine Rn.getR rfl (xS_row hr) (xR_row hr).2 ?_
      refine Rn.run 1 (ls' := [_, _]) (st' := [_, _]) rfl ?_
      refine Rn.ald rfl (xS_pl hr) (i) (x_wn (by omega)) (by omega) ?_
      rw [r4 i (by omega)]
      refine Rn.run 1 (ls' := [_, _]) (st' := [_, _]) rfl ?_
      refine Rn.call rfl rfl rfl rfl rfl (c100) ?_
      refine Rn.neB rfl (fun e21 => absurd e21 (by exact hf)) (fun e21 => ?_)
      refine Rn.run 1 (ls' := [_, _]) (st' := [_]) rfl ?_
      exact Rn.retZ rfl (Or.inl rfl) rfl
theorem c50 {ex : xO} {d : Nat} {c : Nat → Nat → Int} {b : Bool} {r S : Nat} (hr : r < 6) (i1 : iRow c) (hS : c 56 r = (S : Nat)) : An ex (d + 1) 50 2 [xA (22 + 2 * r)] (hp c b) (xI (if alls (fq c r) S 0 = true then 1 else 0), hp c b) := by
  refine Rn.run 2 (ls' := [_, _]) (st' := []) rfl ?_
  exact l50 hr i1 hS S 0 (Nat.zero_add S)
theorem l200 {ex : xO} {d : Nat} {c : Nat → Nat → Int} {b : Bool} {r S : Nat} (hr : r < 6) (i1 : iRow c) (hS : c 56 r = (S : Nat)) : ∀ (m i : Nat) (y : Bool), i + m = S → Rn ex xt200 (d + 1) 4 [xA 54, xI (r : Int), xI (if y = true then 1 else 0), xI (i : Int)] [] (hp c b) (xI (if (y && alls (fq c r) m i) = true then 1 else 0), hp c b) := by
  obtain ⟨r1, r2, r3, r4⟩ := i1 r hr
  have S40 : S ≤ 40 := by omega
  have rS : c (22 + 2 * r) 0 = (S : Nat) := by rw [r1]; exact hS
  intro m
  induction m with
  | zero =>
    intro i y hm
    rw [show (y && alls (fq c r) 0 i) = y from Bool.and_true y]
    refine Rn.run 4 (ls' := [_, _, _, _]) (st' := [_, _, _]) rfl ?_
    refine Rn.ald rfl ⟨by decide, rfl⟩ (r) (x_wn (n := r) (by omega)) (by omega) ?_
    rw [hS]
    refine Rn.ge2 rfl (fun e11 => ?_) (fun e11 => absurd e11 (by exact fun h => h ((y_ge (by omega) (by omega)).mpr (by omega))))
    refine Rn.run 1 (ls' := [_, _, _, _]) (st' := [_]) rfl ?_
    exact Rn.retZ rfl (x_01 _) rfl
  | succ m ih =>
    intro i y hm
    cases y
    · have rr := ih (i + 1) false (by omega)
      refine Rn.run 4 (ls' := [_, _, _, _]) (st' := [_, _, _]) rfl ?_
      refine Rn.ald rfl ⟨by decide, rfl⟩ (r) (x_wn (n := r) (by omega)) (by omega) ?_
      rw [hS]
      refine Rn.ge2 rfl (fun e11 => absurd e11 (by exact fun h => absurd ((y_ge (by omega) (by omega)).mp h) (by omega))) (fun e11 => ?_)
      refine Rn.run 1 (ls' := [_, _, _, _]) (st' := [_]) rfl ?_
      refine Rn.eq0 rfl (fun e15 => ?_) (fun e15 => absurd e15 (by decide))
      refine Rn.run 4 (ls' := [_, _, _, _]) (st' := []) rfl ?_
      exact rr
    · by_cases hq : fq c r i = true
      · rw [show (true && alls (fq c r) (m + 1) i) = (true && alls (fq c r) m (i + 1)) by simp only [alls, hq, Bool.true_and]]
        have hf := (x_in9 (m := 9) (by omega)).mpr (of_decide_eq_true hq)
        have rr := ih (i + 1) true (by omega)
        refine Rn.run 4 (ls' := [_, _, _, _]) (st' := [_, _, _]) rfl ?_
        refine Rn.ald rfl ⟨by decide, rfl⟩ (r) (x_wn (n := r) (by omega)) (by omega) ?_
        rw [hS]
        refine Rn.ge2 rfl (fun e11 => absurd e11 (by exact fun h => absurd ((y_ge (by omega) (by omega)).mp h) (by omega))) (fun e11 => ?_)
        refine Rn.run 1 (ls' := [_, _, _, _]) (st' := [_]) rfl ?_
        refine Rn.eq0 rfl (fun e15 => absurd e15 (by decide)) (fun e15 => ?_)
        refine Rn.run 7 (ls' := [_, _, _, _]) (st' := [_, _]) rfl ?_
        refine Rn.ald rfl ⟨by decide, rfl⟩ (40 * r + i) (x_wn (n := 40 * r + i) (by omega)) (by omega) ?_
        refine Rn.run 3 (ls' := [_, _, _, _]) (st' := [_, _, _]) rfl ?_
        refine Rn.call rfl rfl rfl rfl rfl (c131) ?_
        refine Rn.eqB rfl (fun e37 => absurd e37 (by exact fun h => h hf)) (fun e37 => ?_)
        refine Rn.run 5 (ls' := [_, _, _, _]) (st' := []) rfl ?_
        exact rr
      · rw [show (true && alls (fq c r) (m + 1) i) = (false && alls (fq c r) m (i + 1)) by simp only [alls, hq, Bool.true_and, Bool.false_and]]
        have hf : ¬ (w64 0 ≤ w64 (w32 (c 57 (40 * r + i))) ∧ w64 (w32 (c 57 (40 * r + i))) ≤ w64 9) := fun z => hq (decide_eq_true ((x_in9 (m := 9) (by omega)).mp z))
        have rr := ih (i + 1) false (by omega)
        refine Rn.run 4 (ls' := [_, _, _, _]) (st' := [_, _, _]) rfl ?_
        refine Rn.ald rfl ⟨by decide, rfl⟩ (r) (x_wn (n := r) (by omega)) (by omega) ?_
        rw [hS]
        refine Rn.ge2 rfl (fun e11 => absurd e11 (by exact fun h => absurd ((y_ge (by omega) (by omega)).mp h) (by omega))) (fun e11 => ?_)
        refine Rn.run 1 (ls' := [_, _, _, _]) (st' := [_]) rfl ?_
        refine Rn.eq0 rfl (fun e15 => absurd e15 (by decide)) (fun e15 => ?_)
        refine Rn.run 7 (ls' := [_, _, _, _]) (st' := [_, _]) rfl ?_
        refine Rn.ald rfl ⟨by decide, rfl⟩ (40 * r + i) (x_wn (n := 40 * r + i) (by omega)) (by omega) ?_
        refine Rn.run 3 (ls' := [_, _, _, _]) (st' := [_, _, _]) rfl ?_
        refine Rn.call rfl rfl rfl rfl rfl (c131) ?_
        refine Rn.eqB rfl (fun e37 => ?_) (fun e37 => absurd e37 (by exact hf))
        refine Rn.run 4 (ls' := [_, _, _, _]) (st' := []) rfl ?_
        exact rr
theorem c200 {ex : xO} {d : Nat} {c : Nat → Nat → Int} {b : Bool} {r S : Nat} (hr : r < 6) (i1 : iRow c) (hS : c 56 r = (S : Nat)) : An ex (d + 1) 200 4 [xA 54, xI (r : Int)] (hp c b) (xI (if alls (fq c r) S 0 = true then 1 else 0), hp c b) := by
  refine Rn.run 4 (ls' := [_, _, _, _]) (st' := []) rfl ?_
  exact l200 hr i1 hS S 0 true (Nat.zero_add S)
theorem x_rq {w v v' : Int} (hw : 0 ≤ w ∧ w ≤ 9) (hv : w32 v = v') (hb : 0 ≤ v' ∧ v' ≤ 9) : w32 (v + (w + 2) / 3) = v' + (w + 2) / 3 := by
  unfold w32 at hv ⊢
  omega
theorem x_rg {w v v' : Int} (hw : 0 ≤ w ∧ w ≤ 9) (hv : w32 v = v') (hb : 0 ≤ v' ∧ v' ≤ 9) : w32 (if w32 (v + (w + 2) / 3) < w32 9 then v + (w + 2) / 3 else 9) = sgood w v' := by
  have h := x_rq hw hv hb
  unfold sgood
  rw [h, show w32 9 = 9 from rfl]
  split
  · rw [h]; split <;> omega
  · split <;> first | omega | (show (9 : Int) = _; omega)
theorem c31r {ex : xO} {d : Nat} {h : xH} {w v v' : Int} (hw : 0 ≤ w ∧ w ≤ 9) (hv : w32 v = v') (hb : 0 ≤ v' ∧ v' ≤ 9) : ∃ r, An ex (d + 1) 31 2 [xI w, xI v] h (xI r, h) ∧ w32 r = sgood w v' := by
  refine ⟨if w32 (v + (w + 2) / 3) < w32 9 then v + (w + 2) / 3 else 9, ?_, x_rg hw hv hb⟩
  refine Rn.run 9 rfl ?_
  refine Rn.ret rfl rfl rfl rfl ?_ rfl
  rw [x_tdv 3 (by omega) (by omega) (by omega)]
theorem c160r {ex : xO} {d : Nat} {h : xH} {w v v' : Int} (hw : 0 ≤ w ∧ w ≤ 9) (hv : w32 v = v') (hb : 0 ≤ v' ∧ v' ≤ 9) : ∃ r, An ex d 160 3 [xI w, xI v] h (xI r, h) ∧ w32 r = sgood w v' := by
  have e : Int.tdiv (w32 (w + 2)) (w32 3) = (w + 2) / 3 := x_tdv 3 (by omega) (by omega) (by omega)
  have hx := x_rq hw hv hb
  by_cases hl : v' + (w + 2) / 3 ≤ 9
  · refine ⟨v + (w + 2) / 3, ?_, by rw [hx]; unfold sgood; rw [if_pos hl]⟩
    refine Rn.run 10 rfl ?_
    rw [e]
    refine Rn.le2 rfl (fun e11 => ?_) (fun e11 => absurd e11 (by rw [hx]; exact fun z => z hl))
    refine Rn.run 1 rfl ?_
    exact Rn.ret rfl rfl rfl rfl rfl rfl
  · refine ⟨9, ?_, by unfold sgood; rw [if_neg hl]; rfl⟩
    refine Rn.run 10 rfl ?_
    rw [e]
    refine Rn.le2 rfl (fun e11 => absurd e11 (by rw [hx]; exact hl)) (fun e11 => ?_)
    refine Rn.run 2 rfl ?_
    exact Rn.ret rfl rfl rfl rfl rfl rfl
theorem x_rs1 {v v' : Int} (hv : w32 v = v') (hb : 0 ≤ v' ∧ v' ≤ 9) : w32 (v - 1) = v' - 1 ∧ w32 (v + 1) = v' + 1 := by
  unfold w32 at hv ⊢
  omega
theorem c30r {ex : xO} {d : Nat} {h : xH} {k w v v' : Int} (hk : 0 ≤ k ∧ k ≤ 5) (hw : 0 ≤ w ∧ w ≤ 9) (hv : w32 v = v') (hb : 0 ≤ v' ∧ v' ≤ 9) : ∃ r, An ex (d + 2) 30 3 [xI k, xI w, xI v] h (xI r, h) ∧ w32 r = sans k w v' := by
  have g1 := sgood_in hw hb
  obtain ⟨q1, a1, e1⟩ := c31r (ex := ex) (d := d) (h := h) hw hv hb
  obtain ⟨q2, a2, e2⟩ := c31r (ex := ex) (d := d) (h := h) hw e1 g1
  obtain ⟨m1, -⟩ := x_rs1 hv hb
  obtain ⟨-, p1⟩ := x_rs1 e1 g1
  rcases (by omega : k = 0 ∨ k = 1 ∨ k = 2 ∨ k = 3 ∨ k = 4 ∨ k = 5) with rfl | rfl | rfl | rfl | rfl | rfl
  · refine ⟨if w32 0 < w32 (v - 1) then v - 1 else 0, ?_, ?_⟩
    · refine Rn.run 2 rfl ?_
      refine Rn.run 5 rfl ?_
      exact Rn.ret rfl rfl rfl rfl rfl rfl
    · show _ = if 0 < v' then v' - 1 else 0
      rw [m1, show w32 0 = 0 from rfl]
      split
      · rw [m1]; split <;> omega
      · split <;> first | omega | (show (0 : Int) = _; omega)
  · refine ⟨q1, ?_, e1⟩
    refine Rn.run 2 rfl ?_
    refine Rn.run 2 rfl ?_
    refine Rn.call rfl rfl rfl rfl rfl a1 ?_
    exact Rn.ret rfl rfl rfl rfl rfl rfl
  · refine ⟨v' / 2, ?_, x_w _ (by omega) (by omega)⟩
    refine Rn.run 2 rfl ?_
    refine Rn.run 3 rfl ?_
    refine Rn.ret rfl rfl rfl rfl ?_ rfl
    rw [hv, show w32 2 = 2 from rfl, Int.tdiv_eq_ediv_of_nonneg hb.1]
  · refine ⟨0, ?_, rfl⟩
    refine Rn.run 2 rfl ?_
    refine Rn.run 1 rfl ?_
    exact Rn.ret rfl rfl rfl rfl rfl rfl
  · refine ⟨if w32 (q1 + 1) < w32 9 then q1 + 1 else 9, ?_, ?_⟩
    · refine Rn.run 2 rfl ?_
      refine Rn.run 3 rfl ?_
      refine Rn.call rfl rfl rfl rfl rfl a1 ?_
      refine Rn.run 3 rfl ?_
      exact Rn.ret rfl rfl rfl rfl rfl rfl
    · show _ = if sgood w v' < 9 then sgood w v' + 1 else 9
      rw [p1, show w32 9 = 9 from rfl]
      split
      · rw [p1]; split <;> omega
      · split <;> first | omega | (show (9 : Int) = _; omega)
  · refine ⟨q2, ?_, e2⟩
    refine Rn.run 2 rfl ?_
    refine Rn.run 3 rfl ?_
    refine Rn.call rfl rfl rfl rfl rfl a1 ?_
    refine Rn.call rfl rfl rfl rfl rfl a2 ?_
    exact Rn.ret rfl rfl rfl rfl rfl rfl
theorem c161r {ex : xO} {d : Nat} {h : xH} {k w v v' : Int} (hk : 0 ≤ k ∧ k ≤ 5) (hw : 0 ≤ w ∧ w ≤ 9) (hv : w32 v = v') (hb : 0 ≤ v' ∧ v' ≤ 9) : ∃ r, An ex (d + 1) 161 3 [xI k, xI w, xI v] h (xI r, h) ∧ w32 r = sans k w v' := by
  have g1 := sgood_in hw hb
  obtain ⟨q1, a1, e1⟩ := c160r (ex := ex) (d := d) (h := h) hw hv hb
  obtain ⟨q2, a2, e2⟩ := c160r (ex := ex) (d := d) (h := h) hw e1 g1
  obtain ⟨m1, -⟩ := x_rs1 hv hb
  obtain ⟨-, p1⟩ := x_rs1 e1 g1
  rcases (by omega : k = 0 ∨ k = 1 ∨ k = 2 ∨ k = 3 ∨ k = 4 ∨ k = 5) with rfl | rfl | rfl | rfl | rfl | rfl
  · by_cases h0 : v' ≤ 0
    · refine ⟨0, ?_, ?_⟩
      · refine Rn.run 2 rfl ?_
        refine Rn.run 1 rfl ?_
        refine Rn.le0 rfl (fun e82 => ?_) (fun e82 => absurd e82 (by rw [hv]; exact fun z => z h0))
        refine Rn.run 1 rfl ?_
        exact Rn.ret rfl rfl rfl rfl rfl rfl
      · show (0 : Int) = if 0 < v' then v' - 1 else 0
        rw [if_neg (by omega)]
    · refine ⟨v - 1, ?_, ?_⟩
      · refine Rn.run 2 rfl ?_
        refine Rn.run 1 rfl ?_
        refine Rn.le0 rfl (fun e82 => absurd e82 (by rw [hv]; exact h0)) (fun e82 => ?_)
        refine Rn.run 4 rfl ?_
        exact Rn.ret rfl rfl rfl rfl rfl rfl
      · show _ = if 0 < v' then v' - 1 else 0
        rw [if_pos (by omega), m1]
  · refine ⟨q1, ?_, e1⟩
    refine Rn.run 2 rfl ?_
    refine Rn.run 2 rfl ?_
    refine Rn.call rfl rfl rfl rfl rfl a1 ?_
    exact Rn.ret rfl rfl rfl rfl rfl rfl
  · refine ⟨v' / 2, ?_, x_w _ (by omega) (by omega)⟩
    refine Rn.run 2 rfl ?_
    refine Rn.run 3 rfl ?_
    refine Rn.ret rfl rfl rfl rfl ?_ rfl
    rw [hv, show w32 2 = 2 from rfl, Int.tdiv_eq_ediv_of_nonneg hb.1]
  · refine ⟨0, ?_, rfl⟩
    refine Rn.run 2 rfl ?_
    refine Rn.run 1 rfl ?_
    exact Rn.ret rfl rfl rfl rfl rfl rfl
  · by_cases h9 : 9 ≤ sgood w v'
    · refine ⟨9, ?_, ?_⟩
      · refine Rn.run 2 rfl ?_
        refine Rn.run 2 rfl ?_
        refine Rn.call rfl rfl rfl rfl rfl a1 ?_
        refine Rn.run 1 rfl ?_
        refine Rn.ge2 rfl (fun e55 => ?_) (fun e55 => absurd e55 (by rw [e1]; exact fun z => z h9))
        refine Rn.run 1 rfl ?_
        exact Rn.ret rfl rfl rfl rfl rfl rfl
      · show (9 : Int) = if sgood w v' < 9 then sgood w v' + 1 else 9
        rw [if_neg (by omega)]
    · refine ⟨q1 + 1, ?_, ?_⟩
      · refine Rn.run 2 rfl ?_
        refine Rn.run 2 rfl ?_
        refine Rn.call rfl rfl rfl rfl rfl a1 ?_
        refine Rn.run 1 rfl ?_
        refine Rn.ge2 rfl (fun e55 => absurd e55 (by rw [e1]; exact h9)) (fun e55 => ?_)
        refine Rn.run 2 rfl ?_
        refine Rn.call rfl rfl rfl rfl rfl a1 ?_
        refine Rn.run 3 rfl ?_
        exact Rn.ret rfl rfl rfl rfl rfl rfl
      · show _ = if sgood w v' < 9 then sgood w v' + 1 else 9
        rw [if_pos (by omega), p1]
  · refine ⟨q2, ?_, e2⟩
    refine Rn.run 2 rfl ?_
    refine Rn.run 3 rfl ?_
    refine Rn.call rfl rfl rfl rfl rfl a1 ?_
    refine Rn.call rfl rfl rfl rfl rfl a2 ?_
    exact Rn.ret rfl rfl rfl rfl rfl rfl
/-- pair j of row r answers so -/
def pq (c : Nat → Nat → Int) (r k w j : Nat) : Bool := decide (sans k w (w32 (c 57 (40 * r + 2 * j))) = w32 (c 57 (40 * r + 2 * j + 1)))
theorem l126 {ex : xO} {d : Nat} {c : Nat → Nat → Int} {b : Bool} {r M k w : Nat} (hr : r < 6) (i1 : iRow c) (hS : c 56 r = ((2 * M : Nat) : Int)) (hM8 : M ≤ 8) (hf : alls (fq c r) (2 * M) 0 = true) (hk : k ≤ 5) (hw : w ≤ 9) : ∀ (m j : Nat), j + m = M → Rn ex xt126 (d + 3) 2 [xI (k : Int), xI (w : Int), xA (22 + 2 * r), xI ((2 * j : Nat) : Int)] [] (hp c b) (xI (if alls (pq c r k w) m j = true then 1 else 0), hp c b) := by
  obtain ⟨r1, r2, r3, r4⟩ := i1 r hr
  have rS : c (22 + 2 * r) 0 = ((2 * M : Nat) : Int) := by rw [r1]; exact hS
  intro m
  induction m with
  | zero =>
    intro j hm
    refine Rn.run 4 (ls' := [_, _, _, _]) (st' := [_, _]) rfl ?_
    refine Rn.getI rfl (xS_row hr) ?_
    rw [rS]
    refine Rn.ge2 rfl (fun e9 => ?_) (fun e9 => absurd e9 (by exact fun h => h ((y_ge (i := 2 * j + 1) (n := 2 * M) (by omega) (by omega)).mpr (by omega))))
    refine Rn.run 1 (ls' := [_, _, _, _]) (st' := [_]) rfl ?_
    exact Rn.retZ rfl (Or.inr rfl) rfl
  | succ m ih =>
    intro j hm
    have s4 : c (23 + 2 * r) (2 * j) = c 57 (40 * r + 2 * j) := r4 (2 * j) (by omega)
    have s5 : c (23 + 2 * r) (2 * j + 1) = c 57 (40 * r + 2 * j + 1) := r4 (2 * j + 1) (by omega)
    have f1 : fq c r (2 * j) = true := alls_all hf (2 * j) (by omega) (by omega)
    have f2 := of_decide_eq_true f1
    obtain ⟨z, a1, e1⟩ := c30r (ex := ex) (d := d) (h := hp c b) (k := (k : Int)) (w := (w : Int)) (v := c 57 (40 * r + 2 * j)) (by omega) (by omega) rfl (by omega)
    by_cases hq : pq c r k w j = true
    · rw [show alls (pq c r k w) (m + 1) j = alls (pq c r k w) m (j + 1) by simp only [alls, hq, Bool.true_and]]
      have hz : w32 z = w32 (c 57 (40 * r + 2 * j + 1)) := e1.trans (of_decide_eq_true hq)
      have e2 : ((2 * j : Nat) : Int) + 2 = ((2 * (j + 1) : Nat) : Int) := by omega
      refine Rn.run 4 (ls' := [_, _, _, _]) (st' := [_, _]) rfl ?_
      refine Rn.getI rfl (xS_row hr) ?_
      rw [rS]
      refine Rn.ge2 rfl (fun e9 => absurd e9 (by exact fun h => absurd ((y_ge (i := 2 * j + 1) (n := 2 * M) (by omega) (by omega)).mp h) (by omega))) (fun e9 => ?_)
      refine Rn.run 3 (ls' := [_, _, _, _]) (st' := [_, _, _]) rfl ?_
      refine Rn.getR rfl (xS_row hr) (xR_row hr).2 ?_
      refine Rn.run 1 (ls' := [_, _, _, _]) (st' := [_, _, _, _]) rfl ?_
      refine Rn.ald rfl (xS_pl hr) (2 * j) (x_wn (n := 2 * j) (by omega)) (by omega) ?_
      rw [s4]
      refine Rn.call rfl rfl rfl rfl rfl (a1) ?_
      refine Rn.run 1 (ls' := [_, _, _, _]) (st' := [_, _]) rfl ?_
      refine Rn.getR rfl (xS_row hr) (xR_row hr).2 ?_
      refine Rn.run 3 (ls' := [_, _, _, _]) (st' := [_, _, _]) rfl ?_
      refine Rn.ald rfl (xS_pl hr) (2 * j + 1) (x_wn (n := 2 * j + 1) (by omega)) (by omega) ?_
      rw [s5]
      refine Rn.eq2 rfl (fun e31 => ?_) (fun e31 => absurd e31 (by exact fun h => h hz))
      refine Rn.run 2 (ls' := [_, _, _, _]) (st' := []) rfl ?_
      rw [e2]
      exact ih (j + 1) (by omega)
    · rw [show alls (pq c r k w) (m + 1) j = false by simp only [alls, hq, Bool.false_and]]
      have hz : ¬ w32 z = w32 (c 57 (40 * r + 2 * j + 1)) := fun q => hq (decide_eq_true (e1.symm.trans q))
      refine Rn.run 4 (ls' := [_, _, _, _]) (st' := [_, _]) rfl ?_
      refine Rn.getI rfl (xS_row hr) ?_
      rw [rS]
      refine Rn.ge2 rfl (fun e9 => absurd e9 (by exact fun h => absurd ((y_ge (i := 2 * j + 1) (n := 2 * M) (by omega) (by omega)).mp h) (by omega))) (fun e9 => ?_)
      refine Rn.run 3 (ls' := [_, _, _, _]) (st' := [_, _, _]) rfl ?_
      refine Rn.getR rfl (xS_row hr) (xR_row hr).2 ?_
      refine Rn.run 1 (ls' := [_, _, _, _]) (st' := [_, _, _, _]) rfl ?_
      refine Rn.ald rfl (xS_pl hr) (2 * j) (x_wn (n := 2 * j) (by omega)) (by omega) ?_
      rw [s4]
      refine Rn.call rfl rfl rfl rfl rfl (a1) ?_
      refine Rn.run 1 (ls' := [_, _, _, _]) (st' := [_, _]) rfl ?_
      refine Rn.getR rfl (xS_row hr) (xR_row hr).2 ?_
      refine Rn.run 3 (ls' := [_, _, _, _]) (st' := [_, _, _]) rfl ?_
      refine Rn.ald rfl (xS_pl hr) (2 * j + 1) (x_wn (n := 2 * j + 1) (by omega)) (by omega) ?_
      rw [s5]
      refine Rn.eq2 rfl (fun e31 => absurd e31 (by exact hz)) (fun e31 => ?_)
      refine Rn.run 1 (ls' := [_, _, _, _]) (st' := [_]) rfl ?_
      exact Rn.retZ rfl (Or.inl rfl) rfl
theorem c126 {ex : xO} {d : Nat} {c : Nat → Nat → Int} {b : Bool} {r M k w : Nat} (hr : r < 6) (i1 : iRow c) (hS : c 56 r = ((2 * M : Nat) : Int)) (hM8 : M ≤ 8) (hf : alls (fq c r) (2 * M) 0 = true) (hk : k ≤ 5) (hw : w ≤ 9) : An ex (d + 3) 126 4 [xI (k : Int), xI (w : Int), xA (22 + 2 * r)] (hp c b) (xI (if alls (pq c r k w) M 0 = true then 1 else 0), hp c b) := by
  refine Rn.run 2 (ls' := [_, _, _, _]) (st' := []) rfl ?_
  exact l126 hr i1 hS hM8 hf hk hw M 0 (Nat.zero_add M)
theorem l206 {ex : xO} {d : Nat} {c : Nat → Nat → Int} {b : Bool} {r M k w : Nat} (hr : r < 6) (i1 : iRow c) (hS : c 56 r = ((2 * M : Nat) : Int)) (hM8 : M ≤ 8) (hf : alls (fq c r) (2 * M) 0 = true) (hk : k ≤ 5) (hw : w ≤ 9) : ∀ (m j : Nat) (y : Bool), j + m = M → Rn ex xt206 (d + 2) 6 [xA 54, xI (k : Int), xI (w : Int), xI (r : Int), xI (if y = true then 1 else 0), xI ((2 * j : Nat) : Int)] [] (hp c b) (xI (if (y && alls (pq c r k w) m j) = true then 1 else 0), hp c b) := by
  intro m
  induction m with
  | zero =>
    intro j y hm
    rw [show (y && alls (pq c r k w) 0 j) = y from Bool.and_true y]
    refine Rn.run 4 (ls' := [_, _, _, _, _, _]) (st' := [_, _, _]) rfl ?_
    refine Rn.ald rfl ⟨by decide, rfl⟩ (r) (x_wn (n := r) (by omega)) (by omega) ?_
    rw [hS]
    refine Rn.ge2 rfl (fun e14 => ?_) (fun e14 => absurd e14 (by exact fun h => h ((y_ge (i := 2 * j) (n := 2 * M) (by omega) (by omega)).mpr (by omega))))
    refine Rn.run 1 (ls' := [_, _, _, _, _, _]) (st' := [_]) rfl ?_
    exact Rn.retZ rfl (x_01 _) rfl
  | succ m ih =>
    intro j y hm
    have e2 : ((2 * j : Nat) : Int) + 2 = ((2 * (j + 1) : Nat) : Int) := by omega
    cases y
    · have q := ih (j + 1) false (by omega)
      rw [← e2] at q
      refine Rn.run 4 (ls' := [_, _, _, _, _, _]) (st' := [_, _, _]) rfl ?_
      refine Rn.ald rfl ⟨by decide, rfl⟩ (r) (x_wn (n := r) (by omega)) (by omega) ?_
      rw [hS]
      refine Rn.ge2 rfl (fun e14 => absurd e14 (by exact fun h => absurd ((y_ge (i := 2 * j) (n := 2 * M) (by omega) (by omega)).mp h) (by omega))) (fun e14 => ?_)
      refine Rn.run 1 (ls' := [_, _, _, _, _, _]) (st' := [_]) rfl ?_
      refine Rn.eq0 rfl (fun e19 => ?_) (fun e19 => absurd e19 (by decide))
      refine Rn.run 4 (ls' := [_, _, _, _, _, _]) (st' := []) rfl ?_
      exact q
    · have f1 : fq c r (2 * j) = true := alls_all hf (2 * j) (by omega) (by omega)
      have f2 := of_decide_eq_true f1
      obtain ⟨z, a1, e1⟩ := c161r (ex := ex) (d := d) (h := hp c b) (k := (k : Int)) (w := (w : Int)) (v := c 57 (40 * r + 2 * j)) (by omega) (by omega) rfl (by omega)
      by_cases hq : pq c r k w j = true
      · rw [show (true && alls (pq c r k w) (m + 1) j) = (true && alls (pq c r k w) m (j + 1)) by simp only [alls, hq, Bool.true_and]]
        have hz : w32 z = w32 (c 57 (40 * r + 2 * j + 1)) := e1.trans (of_decide_eq_true hq)
        have q := ih (j + 1) true (by omega)
        rw [← e2] at q
        refine Rn.run 4 (ls' := [_, _, _, _, _, _]) (st' := [_, _, _]) rfl ?_
        refine Rn.ald rfl ⟨by decide, rfl⟩ (r) (x_wn (n := r) (by omega)) (by omega) ?_
        rw [hS]
        refine Rn.ge2 rfl (fun e14 => absurd e14 (by exact fun h => absurd ((y_ge (i := 2 * j) (n := 2 * M) (by omega) (by omega)).mp h) (by omega))) (fun e14 => ?_)
        refine Rn.run 1 (ls' := [_, _, _, _, _, _]) (st' := [_]) rfl ?_
        refine Rn.eq0 rfl (fun e19 => absurd e19 (by decide)) (fun e19 => ?_)
        refine Rn.run 9 (ls' := [_, _, _, _, _, _]) (st' := [_, _, _, _]) rfl ?_
        refine Rn.ald rfl ⟨by decide, rfl⟩ (40 * r + 2 * j) (x_wn (n := 40 * r + 2 * j) (by omega)) (by omega) ?_
        refine Rn.call rfl rfl rfl rfl rfl (a1) ?_
        refine Rn.run 9 (ls' := [_, _, _, _, _, _]) (st' := [_, _, _]) rfl ?_
        refine Rn.ald rfl ⟨by decide, rfl⟩ (40 * r + 2 * j + 1) (x_wn (n := 40 * r + 2 * j + 1) (by omega)) (by omega) ?_
        refine Rn.ne2 rfl (fun e53 => absurd e53 (by exact fun h => h hz)) (fun e53 => ?_)
        refine Rn.run 5 (ls' := [_, _, _, _, _, _]) (st' := []) rfl ?_
        exact q
      · rw [show (true && alls (pq c r k w) (m + 1) j) = (false && alls (pq c r k w) m (j + 1)) by simp only [alls, hq, Bool.true_and, Bool.false_and]]
        have hz : ¬ w32 z = w32 (c 57 (40 * r + 2 * j + 1)) := fun q => hq (decide_eq_true (e1.symm.trans q))
        have q := ih (j + 1) false (by omega)
        rw [← e2] at q
        refine Rn.run 4 (ls' := [_, _, _, _, _, _]) (st' := [_, _, _]) rfl ?_
        refine Rn.ald rfl ⟨by decide, rfl⟩ (r) (x_wn (n := r) (by omega)) (by omega) ?_
        rw [hS]
        refine Rn.ge2 rfl (fun e14 => absurd e14 (by exact fun h => absurd ((y_ge (i := 2 * j) (n := 2 * M) (by omega) (by omega)).mp h) (by omega))) (fun e14 => ?_)
        refine Rn.run 1 (ls' := [_, _, _, _, _, _]) (st' := [_]) rfl ?_
        refine Rn.eq0 rfl (fun e19 => absurd e19 (by decide)) (fun e19 => ?_)
        refine Rn.run 9 (ls' := [_, _, _, _, _, _]) (st' := [_, _, _, _]) rfl ?_
        refine Rn.ald rfl ⟨by decide, rfl⟩ (40 * r + 2 * j) (x_wn (n := 40 * r + 2 * j) (by omega)) (by omega) ?_
        refine Rn.call rfl rfl rfl rfl rfl (a1) ?_
        refine Rn.run 9 (ls' := [_, _, _, _, _, _]) (st' := [_, _, _]) rfl ?_
        refine Rn.ald rfl ⟨by decide, rfl⟩ (40 * r + 2 * j + 1) (x_wn (n := 40 * r + 2 * j + 1) (by omega)) (by omega) ?_
        refine Rn.ne2 rfl (fun e53 => ?_) (fun e53 => absurd e53 (by exact fun h => h hz))
        refine Rn.run 4 (ls' := [_, _, _, _, _, _]) (st' := []) rfl ?_
        exact q
theorem c206 {ex : xO} {d : Nat} {c : Nat → Nat → Int} {b : Bool} {r M k w : Nat} (hr : r < 6) (i1 : iRow c) (hS : c 56 r = ((2 * M : Nat) : Int)) (hM8 : M ≤ 8) (hf : alls (fq c r) (2 * M) 0 = true) (hk : k ≤ 5) (hw : w ≤ 9) : An ex (d + 2) 206 6 [xA 54, xI (k : Int), xI (w : Int), xI (r : Int)] (hp c b) (xI (if alls (pq c r k w) M 0 = true then 1 else 0), hp c b) := by
  refine Rn.run 4 (ls' := [_, _, _, _, _, _]) (st' := []) rfl ?_
  exact l206 hr i1 hS hM8 hf hk hw M 0 true (Nat.zero_add M)
