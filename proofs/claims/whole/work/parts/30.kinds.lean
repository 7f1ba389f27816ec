-- kinds: what a death does
def sgood (w v : Int) : Int := if v + (w + 2) / 3 ≤ 9 then v + (w + 2) / 3 else 9
def sans (k w v : Int) : Int := if k = 1 then sgood w v else if k = 2 then v / 2 else if k = 3 then 0 else if k = 4 then (if sgood w v < 9 then sgood w v + 1 else 9) else if k = 5 then sgood w (sgood w v) else (if 0 < v then v - 1 else 0)
def shnt (k : Int) : Int := if k = 2 ∨ k = 3 then 0 else if k = 5 then 2 else 1
theorem x_w (x : Int) (h1 : -2147483648 ≤ x) (h2 : x < 2147483648) : w32 x = x := by unfold w32; omega
theorem x_tdv {x : Int} (n : Int) (h0 : 0 ≤ x) (h1 : x < 2147483648) (hn : 0 < n ∧ n < 2147483648) : Int.tdiv (w32 x) (w32 n) = x / n := by
  rw [x_w x (by omega) h1, x_w n (by omega) hn.2, Int.tdiv_eq_ediv_of_nonneg h0]
theorem sgood_in {w v : Int} (hw : 0 ≤ w ∧ w ≤ 9) (hv : 0 ≤ v ∧ v ≤ 9) : 0 ≤ sgood w v ∧ sgood w v ≤ 9 := by
  unfold sgood
  split <;> omega
theorem sans_in {k w v : Int} (hw : 0 ≤ w ∧ w ≤ 9) (hv : 0 ≤ v ∧ v ≤ 9) : 0 ≤ sans k w v ∧ sans k w v ≤ 9 := by
  have h1 := sgood_in hw hv
  have h2 := sgood_in hw h1
  unfold sans
  repeat' split
  all_goals omega
theorem x_mn {x : Int} (h0 : 0 ≤ x ∧ x < 1000) : (if w32 x < w32 9 then x else 9) = if x ≤ 9 then x else 9 := by
  rw [x_w x (by omega) (by omega), show w32 9 = 9 from rfl]
  split <;> split <;> omega
theorem c31 {ex : xO} {d : Nat} {h : xH} {w v : Int} (hw : 0 ≤ w ∧ w ≤ 9) (hv : 0 ≤ v ∧ v ≤ 9) : An ex (d + 1) 31 2 [xI w, xI v] h (xI (sgood w v), h) := by
  refine Rn.run 9 rfl ?_
  refine Rn.ret rfl rfl rfl rfl ?_ rfl
  rw [x_tdv 3 (by omega) (by omega) (by omega), x_mn (by omega)]
  rfl
theorem c160 {ex : xO} {d : Nat} {h : xH} {w v : Int} (hw : 0 ≤ w ∧ w ≤ 9) (hv : 0 ≤ v ∧ v ≤ 9) : An ex d 160 3 [xI w, xI v] h (xI (sgood w v), h) := by
  have e : Int.tdiv (w32 (w + 2)) (w32 3) = (w + 2) / 3 := x_tdv 3 (by omega) (by omega) (by omega)
  have e2 : w32 (v + (w + 2) / 3) = v + (w + 2) / 3 := x_w _ (by omega) (by omega)
  refine Rn.run 10 rfl ?_
  refine Rn.le2 rfl (fun e11 => ?_) (fun e11 => ?_)
  · refine Rn.run 1 rfl ?_
    refine Rn.ret rfl rfl rfl rfl ?_ rfl
    rw [e, e2] at e11
    have e11 := e11
    unfold sgood
    first | (rw [if_pos (show v + (w + 2) / 3 ≤ 9 from e11), e]) | (rw [if_neg (show ¬ v + (w + 2) / 3 ≤ 9 from e11)])
  · refine Rn.run 2 rfl ?_
    refine Rn.ret rfl rfl rfl rfl ?_ rfl
    rw [e, e2] at e11
    have e11 := e11
    unfold sgood
    first | (rw [if_pos (show v + (w + 2) / 3 ≤ 9 from e11), e]) | (rw [if_neg (show ¬ v + (w + 2) / 3 ≤ 9 from e11)])
theorem c30 {ex : xO} {d : Nat} {h : xH} {k w v : Int} (hk : 0 ≤ k ∧ k ≤ 5) (hw : 0 ≤ w ∧ w ≤ 9) (hv : 0 ≤ v ∧ v ≤ 9) : An ex (d + 2) 30 3 [xI k, xI w, xI v] h (xI (sans k w v), h) := by
  have g1 := sgood_in hw hv
  have hk6 : k = 0 ∨ k = 1 ∨ k = 2 ∨ k = 3 ∨ k = 4 ∨ k = 5 := by omega
  rcases hk6 with rfl | rfl | rfl | rfl | rfl | rfl
  · refine Rn.run 2 rfl ?_
    refine Rn.run 5 rfl ?_
    refine Rn.ret rfl rfl rfl rfl ?_ rfl
    rw [x_w (v - 1) (by omega) (by omega), show w32 0 = 0 from rfl]
    show xI _ = xI (if 0 < v then v - 1 else 0)
    congr 1 <;> (split <;> split <;> omega)
  · refine Rn.run 2 rfl ?_
    refine Rn.run 2 rfl ?_
    refine Rn.call rfl rfl rfl rfl rfl (c31 hw hv) ?_
    exact Rn.ret rfl rfl rfl rfl (rfl) (rfl)
  · refine Rn.run 2 rfl ?_
    refine Rn.run 3 rfl ?_
    refine Rn.ret rfl rfl rfl rfl ?_ rfl
    rw [x_tdv 2 (by omega) (by omega) (by omega)]
    rfl
  · refine Rn.run 2 rfl ?_
    refine Rn.run 1 rfl ?_
    exact Rn.ret rfl rfl rfl rfl (rfl) (rfl)
  · refine Rn.run 2 rfl ?_
    refine Rn.run 3 rfl ?_
    refine Rn.call rfl rfl rfl rfl rfl (c31 hw hv) ?_
    refine Rn.run 3 rfl ?_
    refine Rn.ret rfl rfl rfl rfl ?_ rfl
    rw [x_mn (by omega)]
    show xI _ = xI (if sgood w v < 9 then sgood w v + 1 else 9)
    congr 1 <;> (split <;> split <;> omega)
  · refine Rn.run 2 rfl ?_
    refine Rn.run 3 rfl ?_
    refine Rn.call rfl rfl rfl rfl rfl (c31 hw hv) ?_
    refine Rn.call rfl rfl rfl rfl rfl (c31 hw g1) ?_
    exact Rn.ret rfl rfl rfl rfl (rfl) (rfl)
theorem c161 {ex : xO} {d : Nat} {h : xH} {k w v : Int} (hk : 0 ≤ k ∧ k ≤ 5) (hw : 0 ≤ w ∧ w ≤ 9) (hv : 0 ≤ v ∧ v ≤ 9) : An ex (d + 1) 161 3 [xI k, xI w, xI v] h (xI (sans k w v), h) := by
  have g1 := sgood_in hw hv
  have ew : w32 v = v := x_w v (by omega) (by omega)
  have eg : w32 (sgood w v) = sgood w v := x_w _ (by omega) (by omega)
  have hk6 : k = 0 ∨ k = 1 ∨ k = 2 ∨ k = 3 ∨ k = 4 ∨ k = 5 := by omega
  rcases hk6 with rfl | rfl | rfl | rfl | rfl | rfl
  · refine Rn.run 2 rfl ?_
    refine Rn.run 1 rfl ?_
    refine Rn.le0 rfl (fun e82 => ?_) (fun e82 => ?_)
    · refine Rn.run 1 rfl ?_
      refine Rn.ret rfl rfl rfl rfl ?_ rfl
      rw [ew] at e82
      show xI _ = xI (if 0 < v then v - 1 else 0)
      congr 1 <;> (split <;> omega)
    · refine Rn.run 4 rfl ?_
      refine Rn.ret rfl rfl rfl rfl ?_ rfl
      rw [ew] at e82
      show xI _ = xI (if 0 < v then v - 1 else 0)
      congr 1 <;> (split <;> omega)
  · refine Rn.run 2 rfl ?_
    refine Rn.run 2 rfl ?_
    refine Rn.call rfl rfl rfl rfl rfl (c160 hw hv) ?_
    exact Rn.ret rfl rfl rfl rfl (rfl) (rfl)
  · refine Rn.run 2 rfl ?_
    refine Rn.run 3 rfl ?_
    refine Rn.ret rfl rfl rfl rfl ?_ rfl
    rw [x_tdv 2 (by omega) (by omega) (by omega)]
    rfl
  · refine Rn.run 2 rfl ?_
    refine Rn.run 1 rfl ?_
    exact Rn.ret rfl rfl rfl rfl (rfl) (rfl)
  · refine Rn.run 2 rfl ?_
    refine Rn.run 2 rfl ?_
    refine Rn.call rfl rfl rfl rfl rfl (c160 hw hv) ?_
    refine Rn.run 1 rfl ?_
    refine Rn.ge2 rfl (fun e55 => ?_) (fun e55 => ?_)
    · refine Rn.run 1 rfl ?_
      refine Rn.ret rfl rfl rfl rfl ?_ rfl
      rw [eg, show w32 9 = 9 from rfl] at e55
      show xI _ = xI (if sgood w v < 9 then sgood w v + 1 else 9)
      congr 1 <;> (split <;> omega)
    · refine Rn.run 2 rfl ?_
      refine Rn.call rfl rfl rfl rfl rfl (c160 hw hv) ?_
      refine Rn.run 3 rfl ?_
      refine Rn.ret rfl rfl rfl rfl ?_ rfl
      rw [eg, show w32 9 = 9 from rfl] at e55
      show xI _ = xI (if sgood w v < 9 then sgood w v + 1 else 9)
      congr 1 <;> (split <;> omega)
  · refine Rn.run 2 rfl ?_
    refine Rn.run 3 rfl ?_
    refine Rn.call rfl rfl rfl rfl rfl (c160 hw hv) ?_
    refine Rn.call rfl rfl rfl rfl rfl (c160 hw g1) ?_
    exact Rn.ret rfl rfl rfl rfl (rfl) (rfl)
theorem c29 {ex : xO} {d : Nat} {h : xH} {k : Int} (hk : 0 ≤ k ∧ k ≤ 5) : An ex d 29 1 [xI k] h (xI (shnt k), h) := by
  have hk6 : k = 0 ∨ k = 1 ∨ k = 2 ∨ k = 3 ∨ k = 4 ∨ k = 5 := by omega
  rcases hk6 with rfl | rfl | rfl | rfl | rfl | rfl
  all_goals exact ⟨30, rfl⟩
theorem c166 {ex : xO} {d : Nat} {h : xH} {k : Int} (hk : 0 ≤ k ∧ k ≤ 5) : An ex d 166 1 [xI k] h (xI (shnt k), h) := by
  have hk6 : k = 0 ∨ k = 1 ∨ k = 2 ∨ k = 3 ∨ k = 4 ∨ k = 5 := by omega
  rcases hk6 with rfl | rfl | rfl | rfl | rfl | rfl
  all_goals exact ⟨30, rfl⟩
def sisA (own k : Int) : Prop := k = own ∨ (k = 1 ∧ (own = 4 ∨ own = 5))
