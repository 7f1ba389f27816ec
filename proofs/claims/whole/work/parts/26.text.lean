-- texts
theorem w8_w8 (x : Int) : w8 (w8 x) = w8 x := by unfold w8; omega
theorem w8_in (x : Int) : -128 ≤ w8 x ∧ w8 x < 128 := by unfold w8; omega
theorem c108_bad {ex : xO} {d : Nat} {c : Nat → Nat → Int} {b : Bool} {r : Int} (hr : ¬ (0 ≤ w32 r ∧ w32 r < 4)) : An ex (d + 2) 108 2 [xA 0, xI r] (hp c b) (xI (-1), hp c b) := by
  refine Rn.run 2 rfl ?_
  refine Rn.call rfl rfl rfl rfl rfl (c100) ?_
  refine Rn.neB rfl (fun e5 => absurd e5 (by exact hr)) (fun e5 => ?_)
  refine Rn.run 1 rfl ?_
  exact Rn.ret rfl rfl rfl rfl (rfl) (rfl)
theorem c108_no {ex : xO} {d : Nat} {c : Nat → Nat → Int} {b : Bool} {r : Int} (k : Nat) (hk : k < 4) (hr : w32 r = (k : Int)) (hm : w32 (c (34 + 2 * k) 0) < 0) : An ex (d + 2) 108 2 [xA 0, xI r] (hp c b) (xI (-3), hp (xup (xup c 0 13 1) 13 1 (c 13 1 + 1)) b) := by
  refine Rn.run 2 rfl ?_
  refine Rn.call rfl rfl rfl rfl rfl (c100) ?_
  refine Rn.neB rfl (fun e5 => ?_) (fun e5 => absurd e5 (by exact fun h => h ⟨by omega, by show _ < (4 : Int); omega⟩))
  refine Rn.run 3 rfl ?_
  refine Rn.aald rfl ⟨by decide, rfl, by decide, by decide⟩ k hr (by omega) (xR_txt hk).1 ?_
  refine Rn.callV rfl (by have := xS_txt hk; omega) rfl rfl rfl (c53 hk) ?_
  refine Rn.eqB rfl (fun e19 => absurd e19 (by intro h; exact h hm)) (fun e19 => ?_)
  refine Rn.run 2 rfl ?_
  refine Rn.call rfl rfl rfl rfl rfl (c101 1 rfl (by decide)) ?_
  refine Rn.run 1 rfl ?_
  exact Rn.ret rfl rfl rfl rfl (rfl) (rfl)
theorem c108_ok {ex : xO} {d : Nat} {c : Nat → Nat → Int} {b : Bool} {r : Int} (k : Nat) (hk : k < 4) (hr : w32 r = (k : Int)) (hm : ¬ w32 (c (34 + 2 * k) 0) < 0) : An ex (d + 2) 108 2 [xA 0, xI r] (hp c b) (xI 0, hp c b) := by
  refine Rn.run 2 rfl ?_
  refine Rn.call rfl rfl rfl rfl rfl (c100) ?_
  refine Rn.neB rfl (fun e5 => ?_) (fun e5 => absurd e5 (by exact fun h => h ⟨by omega, by show _ < (4 : Int); omega⟩))
  refine Rn.run 3 rfl ?_
  refine Rn.aald rfl ⟨by decide, rfl, by decide, by decide⟩ k hr (by omega) (xR_txt hk).1 ?_
  refine Rn.callV rfl (by have := xS_txt hk; omega) rfl rfl rfl (c53 hk) ?_
  refine Rn.eqB rfl (fun e19 => ?_) (fun e19 => absurd e19 (by exact hm))
  refine Rn.run 1 rfl ?_
  exact Rn.ret rfl rfl rfl rfl (rfl) (rfl)
theorem l239 {ex : xO} {d : Nat} {b : Bool} {a n : Nat} {v : Int} (hs : a < 71 ∧ xS a = (1, 1, n)) (hn : n ≤ 2000) : ∀ (m i : Nat) (c : Nat → Nat → Int), i + m = n → Rn ex xt239 d 5 [xA a, xI v, xI (i : Int), xI (n : Int)] [] (hp c b) (xU, hp (xfl2 c a i n (w8 v)) b) := by
  intro m
  induction m with
  | zero =>
    intro i c h
    obtain rfl : i = n := by omega
    refine Rn.run 2 rfl ?_
    refine Rn.ge2 rfl (fun e7 => ?_) (fun e7 => absurd e7 (by omega))
    exact Rn.ret rfl rfl rfl rfl (rfl) (by rw [xfl2_e])
  | succ m ih =>
    intro i c h
    refine Rn.run 2 rfl ?_
    refine Rn.ge2 rfl (fun e7 => absurd e7 (by simp only [w32]; omega)) (fun e7 => ?_)
    refine Rn.run 3 rfl ?_
    refine Rn.bast rfl hs i (by unfold w32; omega) (by omega) ?_
    refine Rn.run 2 rfl ?_
    rw [← xfl2_s c (w8 v) (show i < n by omega)]
    exact ih (i + 1) _ (by omega)
theorem c239 {ex : xO} {d : Nat} {c : Nat → Nat → Int} {b : Bool} {a n : Nat} {v : Int} (hs : a < 71 ∧ xS a = (1, 1, n)) (hn : n ≤ 2000) : An ex d 239 4 [xA a, xI v] (hp c b) (xU, hp (xfl2 c a 0 n (w8 v)) b) := by
  refine Rn.run 3 rfl ?_
  refine Rn.A rfl (q := (4, [xA a, xI v, xI 0, xU], [xI (n : Int)])) (by simp only [xstA, hs.2]; simp [hs.1]; rfl) ?_
  refine Rn.run 1 rfl ?_
  exact l239 hs hn n 0 c (by omega)
theorem c54 {ex : xO} {d : Nat} {c : Nat → Nat → Int} {b : Bool} {k : Nat} {n : Int} (hk : k < 4) (hn : w32 n = n) (h0 : 0 ≤ n) (h1 : n ≤ 60) : An ex (d + 1) 54 2 [xA (34 + 2 * k), xI n] (hp c b) (xU, hp (xfl2 (xup c (34 + 2 * k) 0 n) (35 + 2 * k) 0 60 32) b) := by
  refine Rn.run 6 rfl ?_
  rw [show (if w32 0 < w32 (if w32 60 < w32 n then 60 else n) then (if w32 60 < w32 n then 60 else n) else 0) = n by rw [if_neg (show ¬ w32 60 < w32 n by rw [hn]; simp only [w32]; omega)]; split <;> simp only [w32] at * <;> omega]
  refine Rn.putI rfl (xS_txt hk) ?_
  refine Rn.run 1 rfl ?_
  refine Rn.getR rfl (xS_txt hk) (xR_txt hk).2 ?_
  refine Rn.run 1 rfl ?_
  refine Rn.call rfl rfl rfl rfl rfl (c239 (v := 32) (xS_by hk) (by decide)) ?_
  exact Rn.ret rfl rfl rfl rfl (rfl) (rfl)
theorem l148 {ex : xO} {d : Nat} {b : Bool} {k : Nat} {n : Int} (hk : k < 4) : ∀ (m i : Nat) (c : Nat → Nat → Int), i + m = 60 → Rn ex xt148 d 34 [xA 54, xI (k : Int), xI n, xI (i : Int)] [] (hp c b) (xI n, hp (xfl2 c 59 (60 * k + i) (60 * k + 60) 32) b) := by
  intro m
  induction m with
  | zero =>
    intro i c h
    obtain rfl : i = 60 := by omega
    refine Rn.run 2 rfl ?_
    refine Rn.ge2 rfl (fun e37 => ?_) (fun e37 => absurd e37 (by decide))
    refine Rn.run 1 rfl ?_
    exact Rn.ret rfl rfl rfl rfl (rfl) (by rw [xfl2_e])
  | succ m ih =>
    intro i c h
    refine Rn.run 2 rfl ?_
    refine Rn.ge2 rfl (fun e37 => absurd e37 (by simp only [w32]; omega)) (fun e37 => ?_)
    refine Rn.run 8 rfl ?_
    refine Rn.ast rfl ⟨by decide, rfl⟩ (60 * k + i) (by simp only [w32]; omega) (by omega) ?_
    refine Rn.run 2 rfl ?_
    rw [← xfl2_s c 32 (show 60 * k + i < 60 * k + 60 by omega)]
    exact ih (i + 1) _ (by omega)
theorem g_text {ex : xO} (a1 a2 : Int) (h1 : w32 a1 = a1) (h2 : w32 a2 = a2) : AgI ex 63 3 148 4 [xI a1, xI a2] := by
  intro d c b hI
  by_cases hr : (0 ≤ a1 ∧ a1 < 4) ∧ a2 ≤ 60
  · obtain ⟨k, hk, rfl⟩ : ∃ k : Nat, k < 4 ∧ a1 = (k : Int) := ⟨a1.toNat, by omega, by omega⟩
    by_cases hn : a2 < 0
    · refine Ag_find hI 5 (by decide) ?_ ?_
      · show Rn ex xt63 (d + 20) 0 [xA 0, xI (k : Int), xI a2] [] (hp c b) _
        refine Rn.run 2 rfl ?_
        refine Rn.call rfl rfl rfl rfl rfl (c100) ?_
        refine Rn.eqB rfl (fun e5 => absurd e5 (by exact fun h => h ⟨by omega, by show _ < (4 : Int); omega⟩)) (fun e5 => ?_)
        refine Rn.run 2 rfl ?_
        refine Rn.le2 rfl (fun e11 => ?_) (fun e11 => absurd e11 (by show ¬ ¬ w32 a2 ≤ 60; omega))
        refine Rn.run 1 rfl ?_
        refine Rn.ge0 rfl (fun e17 => absurd e17 (by omega)) (fun e17 => ?_)
        refine Rn.run 2 rfl ?_
        refine Rn.call rfl rfl rfl rfl rfl (c101 5 rfl (by decide)) ?_
        exact Rn.ret rfl rfl rfl rfl (rfl) (rfl)
      · show Rn ex xt148 (d + 20) 0 [xA 54, xI (k : Int), xI a2, xU] [] (hp (xup (xup c 0 13 5) 13 5 (c 13 5 + 1)) b) _
        refine Rn.run 1 rfl ?_
        refine Rn.call rfl rfl rfl rfl rfl (c139) ?_
        refine Rn.eqB rfl (fun e4 => absurd e4 (by exact fun h => h ⟨by omega, by omega⟩)) (fun e4 => ?_)
        refine Rn.run 2 rfl ?_
        refine Rn.le2 rfl (fun e10 => ?_) (fun e10 => absurd e10 (by show ¬ ¬ w32 a2 ≤ 60; omega))
        refine Rn.run 1 rfl ?_
        refine Rn.ge0 rfl (fun e16 => absurd e16 (by omega)) (fun e16 => ?_)
        refine Rn.run 2 rfl ?_
        refine Rn.call rfl rfl rfl rfl rfl (c134 5 rfl (by decide)) ?_
        exact Rn.ret rfl rfl rfl rfl (rfl) (rfl)
    · refine ⟨a2, a2, xfl2 (xup c (34 + 2 * k) 0 a2) (35 + 2 * k) 0 60 32, b, xfl2 (xup (xfl2 (xup c (34 + 2 * k) 0 a2) (35 + 2 * k) 0 60 32) 58 k a2) 59 (60 * k + 0) (60 * k + 60) 32, b, ?_, ?_, rfl, ?_⟩
      · show Rn ex xt63 (d + 20) 0 [xA 0, xI (k : Int), xI a2] [] (hp c b) _
        refine Rn.run 2 rfl ?_
        refine Rn.call rfl rfl rfl rfl rfl (c100) ?_
        refine Rn.eqB rfl (fun e5 => absurd e5 (by exact fun h => h ⟨by omega, by show _ < (4 : Int); omega⟩)) (fun e5 => ?_)
        refine Rn.run 2 rfl ?_
        refine Rn.le2 rfl (fun e11 => ?_) (fun e11 => absurd e11 (by show ¬ ¬ w32 a2 ≤ 60; omega))
        refine Rn.run 1 rfl ?_
        refine Rn.ge0 rfl (fun e17 => ?_) (fun e17 => absurd e17 (by omega))
        refine Rn.run 3 rfl ?_
        refine Rn.aald rfl ⟨by decide, rfl, by decide, by decide⟩ k h1 (by omega) (xR_txt hk).1 ?_
        refine Rn.run 1 rfl ?_
        refine Rn.callV rfl (by have := xS_txt hk; omega) rfl rfl rfl (c54 hk h2 (by omega) (by omega)) ?_
        refine Rn.run 1 rfl ?_
        exact Rn.ret rfl rfl rfl rfl (rfl) (rfl)
      · show Rn ex xt148 (d + 20) 0 [xA 54, xI (k : Int), xI a2, xU] [] (hp (xfl2 (xup c (34 + 2 * k) 0 a2) (35 + 2 * k) 0 60 32) b) _
        refine Rn.run 1 rfl ?_
        refine Rn.call rfl rfl rfl rfl rfl (c139) ?_
        refine Rn.eqB rfl (fun e4 => absurd e4 (by exact fun h => h ⟨by omega, by omega⟩)) (fun e4 => ?_)
        refine Rn.run 2 rfl ?_
        refine Rn.le2 rfl (fun e10 => ?_) (fun e10 => absurd e10 (by show ¬ ¬ w32 a2 ≤ 60; omega))
        refine Rn.run 1 rfl ?_
        refine Rn.ge0 rfl (fun e16 => ?_) (fun e16 => absurd e16 (by omega))
        refine Rn.run 4 rfl ?_
        refine Rn.ast rfl ⟨by decide, rfl⟩ (k) h1 (by omega) ?_
        refine Rn.run 2 rfl ?_
        exact l148 hk 60 0 _ (by omega)
      · have hg := gid_in b
        have key : ∀ a j, ¬ ((a = 34 + 2 * k ∧ j = 0) ∨ (a = 35 + 2 * k ∧ j < 60) ∨ (a = 58 ∧ j = k) ∨ (a = 59 ∧ 60 * k ≤ j ∧ j < 60 * k + 60)) → xfl2 (xup (xfl2 (xup c (34 + 2 * k) 0 a2) (35 + 2 * k) 0 60 32) 58 k a2) 59 (60 * k + 0) (60 * k + 60) 32 a j = c a j := by
          intro a j h
          rw [xfl2_out _ _ (by omega), xup_n _ _ (by omega), xfl2_out _ _ (by omega), xup_n _ _ (by omega)]
        refine Inv_mk (iRow_fr (fun a j h => key a j (by omega)) hI.1) (fun r hr => ?_) (iFnd_fr (fun a j h => key a j (by omega)) hI.2.2.1) (iAsk_fr (fun a j h => key a j (by omega)) hI.2.2.2.1) (iG_fr (fun a j h => key a j (by omega)) hI.2.2.2.2)
        by_cases e : r = k
        · subst e
          refine ⟨?_, ?_, ?_, fun j hj => ?_⟩
          · rw [xfl2_out _ _ (by omega), xup_n _ _ (by omega), xfl2_out _ _ (by omega), xup_s, xfl2_out _ _ (by omega), xup_s]
          · rw [xfl2_out _ _ (by omega), xup_s]; omega
          · rw [xfl2_out _ _ (by omega), xup_s]; omega
          · rw [xfl2_out _ _ (by omega), xup_n _ _ (by omega), xfl2_in _ _ (by omega), xfl2_in _ _ (by omega)]
            omega
        · obtain ⟨s1, s2, s3, s4⟩ := hI.2.1 r hr
          rw [key _ _ (by omega), key _ _ (by omega)]
          refine ⟨s1, s2, s3, fun j hj => ?_⟩
          rw [key _ _ (by omega), key _ _ (by omega)]
          exact s4 j hj
  · refine Ag_same hI (-1) ?_ ?_
    · show Rn ex xt63 (d + 20) 0 [xA 0, xI a1, xI a2] [] (hp c b) _
      refine Rn.run 2 rfl ?_
      refine Rn.call rfl rfl rfl rfl rfl (c100) ?_
      refine Rn.eqB rfl (fun e5 => ?_) (fun e5 => ?_)
      · refine Rn.run 1 rfl ?_
        exact Rn.ret rfl rfl rfl rfl (rfl) (rfl)
      · refine Rn.run 2 rfl ?_
        refine Rn.le2 rfl (fun e11 => absurd e11 (by have h9 : w32 a1 < 4 := e5.2; show ¬ w32 a2 ≤ 60; omega)) (fun e11 => ?_)
        refine Rn.run 1 rfl ?_
        exact Rn.ret rfl rfl rfl rfl (rfl) (rfl)
    · show Rn ex xt148 (d + 20) 0 [xA 54, xI a1, xI a2, xU] [] (hp c b) _
      refine Rn.run 1 rfl ?_
      refine Rn.call rfl rfl rfl rfl rfl (c139) ?_
      refine Rn.eqB rfl (fun e4 => ?_) (fun e4 => ?_)
      · refine Rn.run 1 rfl ?_
        exact Rn.ret rfl rfl rfl rfl (rfl) (rfl)
      · refine Rn.run 2 rfl ?_
        refine Rn.le2 rfl (fun e10 => absurd e10 (by have h9 : w32 a1 < 4 := e4.2; show ¬ w32 a2 ≤ 60; omega)) (fun e10 => ?_)
        refine Rn.run 1 rfl ?_
        exact Rn.ret rfl rfl rfl rfl (rfl) (rfl)
theorem x_inj {j : Nat} {s : Int} (hj : (j : Int) < s) (hw : w32 s = s) (h3 : s ≤ 60) : w64 0 ≤ w64 (j : Int) ∧ w64 (j : Int) ≤ w64 (w32 (s - 1)) := by
  simp only [w64, w32] at *
  omega
theorem x_injn {i s : Int} (h2 : w32 i = i) (hi : ¬ (0 ≤ i ∧ i < s)) (h0 : -1 ≤ s) (h3 : s ≤ 60) : ¬ (w64 0 ≤ w64 (w32 i) ∧ w64 (w32 i) ≤ w64 (w32 (s - 1))) := by
  simp only [w64, w32] at *
  omega
theorem g_put {ex : xO} (a1 a2 a3 : Int) (h1 : w32 a1 = a1) (h2 : w32 a2 = a2) (h3 : w32 a3 = a3) : AgI ex 64 7 149 5 [xI a1, xI a2, xI a3] := by
  intro d c b hI
  by_cases hr : 0 ≤ a1 ∧ a1 < 4
  · obtain ⟨k, hk, rfl⟩ : ∃ k : Nat, k < 4 ∧ a1 = (k : Int) := ⟨a1.toNat, by omega, by omega⟩
    obtain ⟨s1, s2, s3, s4⟩ := hI.2.1 k hk
    have hw : w32 (c 58 k) = c 58 k := by simp only [w32]; omega
    by_cases hm : c 58 k < 0
    · refine Ag_find hI 1 (by decide) ?_ ?_
      · show Rn ex xt64 (d + 20) 0 [xA 0, xI (k : Int), xI a2, xI a3, xU, xU, xU] [] (hp c b) _
        refine Rn.run 2 rfl ?_
        refine Rn.call rfl rfl rfl rfl rfl (c108_no k hk h1 (by rw [s1, hw]; exact hm)) ?_
        refine Rn.run 2 rfl ?_
        refine Rn.eq0 rfl (fun e9 => absurd e9 (by decide)) (fun e9 => ?_)
        refine Rn.run 1 rfl ?_
        exact Rn.ret rfl rfl rfl rfl (rfl) (rfl)
      · show Rn ex xt149 (d + 20) 0 [xA 54, xI (k : Int), xI a2, xI a3, xU] [] (hp (xup (xup c 0 13 1) 13 1 (c 13 1 + 1)) b) _
        refine Rn.run 1 rfl ?_
        refine Rn.call rfl rfl rfl rfl rfl (c139) ?_
        refine Rn.neB rfl (fun e4 => ?_) (fun e4 => absurd e4 (by exact fun h => h ⟨by omega, by omega⟩))
        refine Rn.run 3 rfl ?_
        refine Rn.ald rfl ⟨by decide, rfl⟩ (k) h1 (by omega) ?_
        refine Rn.ge0 rfl (fun e15 => absurd e15 (by show ¬ 0 ≤ w32 (c 58 k); omega)) (fun e15 => ?_)
        refine Rn.run 2 rfl ?_
        refine Rn.call rfl rfl rfl rfl rfl (c134 1 rfl (by decide)) ?_
        exact Rn.ret rfl rfl rfl rfl (rfl) (rfl)
    · by_cases hi : 0 ≤ a2 ∧ a2 < c 58 k
      · obtain ⟨j, hj, rfl⟩ : ∃ j : Nat, (j : Int) < c 58 k ∧ a2 = (j : Int) := ⟨a2.toNat, by omega, by omega⟩
        refine ⟨c (35 + 2 * k) j + 1000, c 59 (60 * k + j) + 1000, xup c (35 + 2 * k) j (w8 (w8 a3)), b, xup (xup c (35 + 2 * k) j (w8 (w8 a3))) 59 (60 * k + j) (w8 a3), b, ?_, ?_, by rw [(s4 j (by omega)).1], ?_⟩
        · show Rn ex xt64 (d + 20) 0 [xA 0, xI (k : Int), xI (j : Int), xI a3, xU, xU, xU] [] (hp c b) _
          refine Rn.run 2 rfl ?_
          refine Rn.call rfl rfl rfl rfl rfl (c108_ok k hk h1 (by rw [s1, hw]; omega)) ?_
          refine Rn.run 2 rfl ?_
          refine Rn.eq0 rfl (fun e9 => ?_) (fun e9 => absurd e9 (by decide))
          refine Rn.run 3 rfl ?_
          refine Rn.aald rfl ⟨by decide, rfl, by decide, by decide⟩ k h1 (by omega) (xR_txt hk).1 ?_
          refine Rn.run 3 rfl ?_
          refine Rn.getI rfl (xS_txt hk) ?_
          refine Rn.call rfl rfl rfl rfl rfl (c100) ?_
          refine Rn.neB rfl (fun e32 => ?_) (fun e32 => absurd e32 (by exact fun h => h (by rw [s1, hw, h2]; omega)))
          refine Rn.run 1 rfl ?_
          refine Rn.getR rfl (xS_txt hk) (xR_txt hk).2 ?_
          refine Rn.run 1 rfl ?_
          refine Rn.bald rfl ⟨(xS_by hk).1, (xS_by hk).2, by decide⟩ j h2 (by omega) ?_
          refine Rn.run 2 rfl ?_
          refine Rn.getR rfl (xS_txt hk) (xR_txt hk).2 ?_
          refine Rn.run 3 rfl ?_
          refine Rn.bast rfl (xS_by hk) j h2 (by omega) ?_
          refine Rn.run 3 rfl ?_
          exact Rn.ret rfl rfl rfl rfl (rfl) (rfl)
        · show Rn ex xt149 (d + 20) 0 [xA 54, xI (k : Int), xI (j : Int), xI a3, xU] [] (hp (xup c (35 + 2 * k) j (w8 (w8 a3))) b) _
          have e58 : xup c (35 + 2 * k) j (w8 (w8 a3)) 58 k = c 58 k := by rw [xup_n _ _ (by omega)]
          have e59 : xup c (35 + 2 * k) j (w8 (w8 a3)) 59 (60 * k + j) = c 59 (60 * k + j) := by rw [xup_n _ _ (by omega)]
          refine Rn.run 1 rfl ?_
          refine Rn.call rfl rfl rfl rfl rfl (c139) ?_
          refine Rn.neB rfl (fun e4 => ?_) (fun e4 => absurd e4 (by exact fun h => h ⟨by omega, by omega⟩))
          refine Rn.run 3 rfl ?_
          refine Rn.ald rfl ⟨by decide, rfl⟩ (k) h1 (by omega) ?_
          refine Rn.ge0 rfl (fun e15 => ?_) (fun e15 => absurd e15 (by rw [e58]; omega))
          refine Rn.run 6 rfl ?_
          refine Rn.ald rfl ⟨by decide, rfl⟩ (k) h1 (by omega) ?_
          refine Rn.run 3 rfl ?_
          refine Rn.call rfl rfl rfl rfl rfl (c131) ?_
          refine Rn.neB rfl (fun e39 => ?_) (fun e39 => absurd e39 (by rw [e58, h2]; exact fun h => h (x_inj hj hw s3)))
          refine Rn.run 7 rfl ?_
          refine Rn.ald rfl ⟨by decide, rfl⟩ (60 * k + j) (by simp only [w32]; omega) (by omega) ?_
          refine Rn.run 10 rfl ?_
          refine Rn.ast rfl ⟨by decide, rfl⟩ (60 * k + j) (by simp only [w32]; omega) (by omega) ?_
          refine Rn.run 3 rfl ?_
          exact Rn.ret rfl rfl rfl rfl (by rw [e59]) (rfl)
        · have hg := gid_in b
          rw [w8_w8]
          have key : ∀ a i, ¬ ((a = 35 + 2 * k ∧ i = j) ∨ (a = 59 ∧ i = 60 * k + j)) → xup (xup c (35 + 2 * k) j (w8 a3)) 59 (60 * k + j) (w8 a3) a i = c a i := by
            intro a i h
            rw [xup_n _ _ (by omega), xup_n _ _ (by omega)]
          refine Inv_mk (iRow_fr (fun a j h => key a j (by omega)) hI.1) (fun r hr => ?_) (iFnd_fr (fun a j h => key a j (by omega)) hI.2.2.1) (iAsk_fr (fun a j h => key a j (by omega)) hI.2.2.2.1) (iG_fr (fun a j h => key a j (by omega)) hI.2.2.2.2)
          obtain ⟨z1, z2, z3, z4⟩ := hI.2.1 r hr
          rw [key _ _ (by omega), key _ _ (by omega)]
          refine ⟨z1, z2, z3, fun i hi => ?_⟩
          by_cases e : r = k ∧ i = j
          · obtain ⟨rfl, rfl⟩ := e
            rw [xup_s, xup_n _ _ (by omega), xup_s]
            have := w8_in a3
            omega
          · rw [key _ _ (by omega), key _ _ (by omega)]
            exact z4 i hi
      · refine Ag_find hI 2 (by decide) ?_ ?_
        · show Rn ex xt64 (d + 20) 0 [xA 0, xI (k : Int), xI a2, xI a3, xU, xU, xU] [] (hp c b) _
          refine Rn.run 2 rfl ?_
          refine Rn.call rfl rfl rfl rfl rfl (c108_ok k hk h1 (by rw [s1, hw]; omega)) ?_
          refine Rn.run 2 rfl ?_
          refine Rn.eq0 rfl (fun e9 => ?_) (fun e9 => absurd e9 (by decide))
          refine Rn.run 3 rfl ?_
          refine Rn.aald rfl ⟨by decide, rfl, by decide, by decide⟩ k h1 (by omega) (xR_txt hk).1 ?_
          refine Rn.run 3 rfl ?_
          refine Rn.getI rfl (xS_txt hk) ?_
          refine Rn.call rfl rfl rfl rfl rfl (c100) ?_
          refine Rn.neB rfl (fun e32 => absurd e32 (by rw [s1, hw, h2]; exact hi)) (fun e32 => ?_)
          refine Rn.run 2 rfl ?_
          refine Rn.call rfl rfl rfl rfl rfl (c101 2 rfl (by decide)) ?_
          exact Rn.ret rfl rfl rfl rfl (rfl) (rfl)
        · show Rn ex xt149 (d + 20) 0 [xA 54, xI (k : Int), xI a2, xI a3, xU] [] (hp (xup (xup c 0 13 2) 13 2 (c 13 2 + 1)) b) _
          refine Rn.run 1 rfl ?_
          refine Rn.call rfl rfl rfl rfl rfl (c139) ?_
          refine Rn.neB rfl (fun e4 => ?_) (fun e4 => absurd e4 (by exact fun h => h ⟨by omega, by omega⟩))
          refine Rn.run 3 rfl ?_
          refine Rn.ald rfl ⟨by decide, rfl⟩ (k) h1 (by omega) ?_
          refine Rn.ge0 rfl (fun e15 => ?_) (fun e15 => absurd e15 (by show ¬ ¬ 0 ≤ w32 (c 58 k); omega))
          refine Rn.run 6 rfl ?_
          refine Rn.ald rfl ⟨by decide, rfl⟩ (k) h1 (by omega) ?_
          refine Rn.run 3 rfl ?_
          refine Rn.call rfl rfl rfl rfl rfl (c131) ?_
          refine Rn.neB rfl (fun e39 => absurd e39 (by show ¬ (w64 0 ≤ w64 (w32 a2) ∧ w64 (w32 a2) ≤ w64 (w32 (c 58 k - 1))); exact x_injn h2 hi s2 s3)) (fun e39 => ?_)
          refine Rn.run 2 rfl ?_
          refine Rn.call rfl rfl rfl rfl rfl (c134 2 rfl (by decide)) ?_
          exact Rn.ret rfl rfl rfl rfl (rfl) (rfl)
  · refine Ag_same hI (-1) ?_ ?_
    · show Rn ex xt64 (d + 20) 0 [xA 0, xI a1, xI a2, xI a3, xU, xU, xU] [] (hp c b) _
      refine Rn.run 2 rfl ?_
      refine Rn.call rfl rfl rfl rfl rfl (c108_bad (by rw [h1]; exact hr)) ?_
      refine Rn.run 2 rfl ?_
      refine Rn.eq0 rfl (fun e9 => absurd e9 (by decide)) (fun e9 => ?_)
      refine Rn.run 1 rfl ?_
      exact Rn.ret rfl rfl rfl rfl (rfl) (rfl)
    · show Rn ex xt149 (d + 20) 0 [xA 54, xI a1, xI a2, xI a3, xU] [] (hp c b) _
      refine Rn.run 1 rfl ?_
      refine Rn.call rfl rfl rfl rfl rfl (c139) ?_
      refine Rn.neB rfl (fun e4 => absurd e4 (by exact fun h => hr (by omega))) (fun e4 => ?_)
      refine Rn.run 1 rfl ?_
      exact Rn.ret rfl rfl rfl rfl (rfl) (rfl)
