-- mean, copy
section RD
variable {ex : xO} {t : xT} {d pc : Nat} {ls st : List xV} {h : xH} {o : xV × xH}
theorem Rn.idiv {nx : Nat} {r : Nat × Nat × Nat × Nat × Nat × Int} {a b : Int} (he : xfind t pc = some (.idiv, nx, r)) (hb : w32 b ≠ 0) (kk : Rn ex t d nx ls (xI (Int.tdiv (w32 a) (w32 b)) :: st) h o) : Rn ex t d pc ls (xI b :: xI a :: st) h o := by
  obtain ⟨r1, r2, r3, r4, r5, r6⟩ := r
  refine Rn.A he (q := (nx, ls, xI (Int.tdiv (w32 a) (w32 b)) :: st)) ?_ kk
  simp only [xstA]
  rw [if_neg hb]
theorem Rn.irem {nx : Nat} {r : Nat × Nat × Nat × Nat × Nat × Int} {a b : Int} (he : xfind t pc = some (.irem, nx, r)) (hb : w32 b ≠ 0) (kk : Rn ex t d nx ls (xI (Int.tmod (w32 a) (w32 b)) :: st) h o) : Rn ex t d pc ls (xI b :: xI a :: st) h o := by
  obtain ⟨r1, r2, r3, r4, r5, r6⟩ := r
  refine Rn.A he (q := (nx, ls, xI (Int.tmod (w32 a) (w32 b)) :: st)) ?_ kk
  simp only [xstA]
  rw [if_neg hb]
theorem Rn.ldiv {nx : Nat} {r : Nat × Nat × Nat × Nat × Nat × Int} {a b : Int} (he : xfind t pc = some (.ldiv, nx, r)) (hb : w64 b ≠ 0) (kk : Rn ex t d nx ls (xL (Int.tdiv (w64 a) (w64 b)) :: st) h o) : Rn ex t d pc ls (xL b :: xL a :: st) h o := by
  obtain ⟨r1, r2, r3, r4, r5, r6⟩ := r
  refine Rn.A he (q := (nx, ls, xL (Int.tdiv (w64 a) (w64 b)) :: st)) ?_ kk
  simp only [xstA]
  rw [if_neg hb]
theorem Rn.lrem {nx : Nat} {r : Nat × Nat × Nat × Nat × Nat × Int} {a b : Int} (he : xfind t pc = some (.lrem, nx, r)) (hb : w64 b ≠ 0) (kk : Rn ex t d nx ls (xL (Int.tmod (w64 a) (w64 b)) :: st) h o) : Rn ex t d pc ls (xL b :: xL a :: st) h o := by
  obtain ⟨r1, r2, r3, r4, r5, r6⟩ := r
  refine Rn.A he (q := (nx, ls, xL (Int.tmod (w64 a) (w64 b)) :: st)) ?_ kk
  simp only [xstA]
  rw [if_neg hb]
end RD
theorem Rn.cpy {ex : xO} {t : xT} {d pc : Nat} {ls st : List xV} {o : xV × xH} {c : Nat → Nat → Int} {b : Bool} {i nx P X Z W0 : Nat} {V : Int} {a a2 n0 n1 : Nat} {sp dp n : Int} (he : xfind t pc = some (.invokestatic i, nx, P, X, 9, Z, W0, V)) (hd : 0 < d) (h8 : Nat.ble (xcat st) 8 = true) (hs : a < 71 ∧ xS a = (1, 0, n0)) (hs2 : a2 < 71 ∧ xS a2 = (1, 0, n1)) (p q m : Nat) (h1 : w32 sp = (p : Int)) (h2 : w32 dp = (q : Int)) (h3 : w32 n = (m : Int)) (h4 : p + m ≤ n0) (h5 : q + m ≤ n1)
    (kk : Rn ex t d nx ls st (hp (xrow c a2 (xcp (c a) (c a2) p q m)) b) o) : Rn ex t d pc ls (xI n :: xI dp :: xA a2 :: xI sp :: xA a :: st) (hp c b) o := by
  refine Rn.B he rfl (q := (nx, st, hp (xrow c a2 (xcp (c a) (c a2) p q m)) b)) ?_ kk
  simp only [xstB, hs.2, hs2.2, h1, h2, h3]
  rw [if_pos ⟨⟨hd, Nat.le_of_ble_eq_true h8⟩, ⟨hs.1, trivial, trivial⟩, ⟨hs2.1, trivial, trivial⟩, ⟨by omega, by omega, by omega⟩, by omega, by omega⟩]
  simp
def sm (f : Nat → Int) : Nat → Int
  | 0 => 0
  | n + 1 => sm f n + f n
theorem sm_congr {f g : Nat → Int} : ∀ {n : Nat}, (∀ j, j < n → f j = g j) → sm f n = sm g n
  | 0, _ => rfl
  | n + 1, h => by
    simp only [sm]
    rw [sm_congr (fun j hj => h j (by omega)), h n (by omega)]
theorem l62 {ex : xO} {d : Nat} {c : Nat → Nat → Int} {b : Bool} {k n : Nat} {r2 : Int} (hk : k < 6) (hn : 0 < n ∧ n ≤ 40) (hs : c (22 + 2 * k) 0 = n) : ∀ (m i : Nat) (s : Int), i + m = n → s = sm (fun j => w32 (c (23 + 2 * k) j)) i → Rn ex xt62 (d + 2) 38 [xA 0, xI (k : Int), xI r2, xA (22 + 2 * k), xL s, xU, xI (i : Int)] [] (hp c b) (xI 1, hp (xup c 0 10 (Int.tdiv (w64 (sm (fun j => w32 (c (23 + 2 * k) j)) n)) (w64 (w32 n)))) b) := by
  have hsr := xS_row hk
  have hw : w32 (n : Int) = n := by simp only [w32]; omega
  intro m
  induction m with
  | zero =>
    intro i s h e
    obtain rfl : i = n := by omega
    subst e
    refine Rn.run 2 rfl ?_
    refine Rn.getI rfl (xS_row hk) ?_
    refine Rn.ge2 rfl (fun e44 => ?_) (fun e44 => absurd e44 (by rw [hs]; omega))
    refine Rn.run 3 rfl ?_
    refine Rn.getI rfl (xS_row hk) ?_
    rw [hs]
    refine Rn.run 1 rfl ?_
    refine Rn.ldiv rfl (by rw [hw]; simp only [w64]; omega) ?_
    refine Rn.run 1 rfl ?_
    refine Rn.call rfl rfl rfl rfl rfl (c102) ?_
    exact Rn.ret rfl rfl rfl rfl (rfl) (rfl)
  | succ m ih =>
    intro i s h e
    refine Rn.run 2 rfl ?_
    refine Rn.getI rfl (xS_row hk) ?_
    refine Rn.ge2 rfl (fun e44 => absurd e44 (by rw [hs]; simp only [w32] at *; omega)) (fun e44 => ?_)
    refine Rn.run 2 rfl ?_
    refine Rn.getR rfl (xS_row hk) (xR_row hk).2 ?_
    refine Rn.run 1 rfl ?_
    refine Rn.ald rfl (xS_pl hk) i (by simp only [w32]; omega) (by omega) ?_
    refine Rn.run 5 rfl ?_
    exact ih (i + 1) _ (by omega) (by rw [e]; rfl)
theorem l147 {ex : xO} {d : Nat} {c : Nat → Nat → Int} {b : Bool} {k n : Nat} (hk : k < 6) (hn : 0 < n ∧ n ≤ 40) (hs : c 56 k = n) : ∀ (m i : Nat) (s : Int), i + m = n → s = sm (fun j => w32 (c 57 (40 * k + j))) i → Rn ex xt147 (d + 2) 44 [xA 54, xI (k : Int), xL s, xU, xI (i : Int)] [] (hp c b) (xI 1, hp (xup c 54 7 (Int.tdiv (w64 (sm (fun j => w32 (c 57 (40 * k + j))) n)) (w64 (w32 n)))) b) := by
  have hw : w32 (n : Int) = n := by simp only [w32]; omega
  have h1 : w32 (k : Int) = k := by simp only [w32]; omega
  intro m
  induction m with
  | zero =>
    intro i s h e
    obtain rfl : i = n := by omega
    subst e
    refine Rn.run 4 rfl ?_
    refine Rn.ald rfl ⟨by decide, rfl⟩ (k) h1 (by omega) ?_
    refine Rn.ge2 rfl (fun e52 => ?_) (fun e52 => absurd e52 (by rw [hs]; omega))
    refine Rn.run 5 rfl ?_
    refine Rn.ald rfl ⟨by decide, rfl⟩ (k) h1 (by omega) ?_
    rw [hs]
    refine Rn.run 1 rfl ?_
    refine Rn.ldiv rfl (by rw [hw]; simp only [w64]; omega) ?_
    refine Rn.run 1 rfl ?_
    refine Rn.call rfl rfl rfl rfl rfl (c135) ?_
    exact Rn.ret rfl rfl rfl rfl (rfl) (rfl)
  | succ m ih =>
    intro i s h e
    refine Rn.run 4 rfl ?_
    refine Rn.ald rfl ⟨by decide, rfl⟩ (k) h1 (by omega) ?_
    refine Rn.ge2 rfl (fun e52 => absurd e52 (by rw [hs]; simp only [w32] at *; omega)) (fun e52 => ?_)
    refine Rn.run 8 rfl ?_
    refine Rn.ald rfl ⟨by decide, rfl⟩ (40 * k + i) (by simp only [w32]; omega) (by omega) ?_
    refine Rn.run 5 rfl ?_
    exact ih (i + 1) _ (by omega) (by rw [e]; rfl)
theorem l147e {ex : xO} {d : Nat} {c : Nat → Nat → Int} {b : Bool} {k n : Nat} (hk : k < 6) (hn : 0 < n ∧ n ≤ 40) (hs : c 56 k = n) : An ex (d + 20) 147 5 [xA 54, xI (k : Int)] (hp c b) (xI 1, hp (xup c 54 7 (Int.tdiv (w64 (sm (fun j => w32 (c 57 (40 * k + j))) n)) (w64 (w32 n)))) b) := by
  have hw : w32 (n : Int) = n := by simp only [w32]; omega
  have h1 : w32 (k : Int) = k := by simp only [w32]; omega
  show Rn ex xt147 (d + 20) 0 [xA 54, xI (k : Int), xU, xU, xU] [] (hp c b) _
  refine Rn.run 1 rfl ?_
  refine Rn.call rfl rfl rfl rfl rfl (c138) ?_
  refine Rn.neB rfl (fun e4 => ?_) (fun e4 => absurd e4 (by exact fun h => h (by omega)))
  refine Rn.run 3 rfl ?_
  refine Rn.ald rfl ⟨by decide, rfl⟩ (k) h1 (by omega) ?_
  refine Rn.ge0 rfl (fun e15 => ?_) (fun e15 => absurd e15 (by rw [hs, hw]; omega))
  refine Rn.run 3 rfl ?_
  refine Rn.ald rfl ⟨by decide, rfl⟩ (k) h1 (by omega) ?_
  refine Rn.ne0 rfl (fun e30 => ?_) (fun e30 => absurd e30 (by rw [hs, hw]; omega))
  refine Rn.run 4 rfl ?_
  exact l147 hk hn hs n 0 0 (by omega) rfl
theorem g_mean {ex : xO} (a1 : Int) (h1 : w32 a1 = a1) : AgI ex 62 7 147 5 [xI a1] := by
  intro d c b hI
  by_cases hr : 0 ≤ a1 ∧ a1 < 6
  · obtain ⟨k, hk, rfl⟩ : ∃ k : Nat, k < 6 ∧ a1 = (k : Int) := ⟨a1.toNat, by omega, by omega⟩
    obtain ⟨s1, s2, s3, s4⟩ := hI.1 k hk
    have hw : w32 (c 56 k) = c 56 k := by simp only [w32]; omega
    by_cases hm : c 56 k < 0
    · refine Ag_find hI 1 (by decide) ?_ ?_
      · show Rn ex xt62 (d + 20) 0 [xA 0, xI (k : Int), xU, xU, xU, xU, xU] [] (hp c b) _
        refine Rn.run 2 rfl ?_
        refine Rn.call rfl rfl rfl rfl rfl (c106_no k hk h1 (by rw [s1, hw]; exact hm)) ?_
        refine Rn.run 2 rfl ?_
        refine Rn.eq0 rfl (fun e7 => absurd e7 (by decide)) (fun e7 => ?_)
        refine Rn.run 1 rfl ?_
        exact Rn.ret rfl rfl rfl rfl (rfl) (rfl)
      · show Rn ex xt147 (d + 20) 0 [xA 54, xI (k : Int), xU, xU, xU] [] (hp (xup (xup c 0 13 1) 13 1 (c 13 1 + 1)) b) _
        refine Rn.run 1 rfl ?_
        refine Rn.call rfl rfl rfl rfl rfl (c138) ?_
        refine Rn.neB rfl (fun e4 => ?_) (fun e4 => absurd e4 (by exact fun h => h (by simp only [w32] at *; omega)))
        refine Rn.run 3 rfl ?_
        refine Rn.ald rfl ⟨by decide, rfl⟩ (k) h1 (by omega) ?_
        refine Rn.ge0 rfl (fun e15 => absurd e15 (by show ¬ 0 ≤ w32 (c 56 k); omega)) (fun e15 => ?_)
        refine Rn.run 2 rfl ?_
        refine Rn.call rfl rfl rfl rfl rfl (c134 1 rfl (by decide)) ?_
        exact Rn.ret rfl rfl rfl rfl (rfl) (rfl)
    · by_cases h0 : c 56 k = 0
      · refine Ag_find hI 4 (by decide) ?_ ?_
        · show Rn ex xt62 (d + 20) 0 [xA 0, xI (k : Int), xU, xU, xU, xU, xU] [] (hp c b) _
          refine Rn.run 2 rfl ?_
          refine Rn.call rfl rfl rfl rfl rfl (c106_ok k hk h1 (by rw [s1, hw]; omega)) ?_
          refine Rn.run 2 rfl ?_
          refine Rn.eq0 rfl (fun e7 => ?_) (fun e7 => absurd e7 (by decide))
          refine Rn.run 3 rfl ?_
          refine Rn.aald rfl ⟨by decide, rfl, by decide, by decide⟩ k h1 (by omega) (xR_row hk).1 ?_
          refine Rn.run 2 rfl ?_
          refine Rn.getI rfl (xS_row hk) ?_
          refine Rn.ne0 rfl (fun e23 => absurd e23 (by rw [s1, hw]; omega)) (fun e23 => ?_)
          refine Rn.run 2 rfl ?_
          refine Rn.call rfl rfl rfl rfl rfl (c101 4 rfl (by decide)) ?_
          exact Rn.ret rfl rfl rfl rfl (rfl) (rfl)
        · show Rn ex xt147 (d + 20) 0 [xA 54, xI (k : Int), xU, xU, xU] [] (hp (xup (xup c 0 13 4) 13 4 (c 13 4 + 1)) b) _
          refine Rn.run 1 rfl ?_
          refine Rn.call rfl rfl rfl rfl rfl (c138) ?_
          refine Rn.neB rfl (fun e4 => ?_) (fun e4 => absurd e4 (by exact fun h => h (by simp only [w32] at *; omega)))
          refine Rn.run 3 rfl ?_
          refine Rn.ald rfl ⟨by decide, rfl⟩ (k) h1 (by omega) ?_
          refine Rn.ge0 rfl (fun e15 => ?_) (fun e15 => absurd e15 (by show ¬ ¬ 0 ≤ w32 (c 56 k); omega))
          refine Rn.run 3 rfl ?_
          refine Rn.ald rfl ⟨by decide, rfl⟩ (k) h1 (by omega) ?_
          refine Rn.ne0 rfl (fun e30 => absurd e30 (by show ¬ w32 (c 56 k) ≠ 0; omega)) (fun e30 => ?_)
          refine Rn.run 2 rfl ?_
          refine Rn.call rfl rfl rfl rfl rfl (c134 4 rfl (by decide)) ?_
          exact Rn.ret rfl rfl rfl rfl (rfl) (rfl)
      · obtain ⟨n, hn⟩ : ∃ n : Nat, c 56 k = (n : Int) := ⟨(c 56 k).toNat, by omega⟩
        rw [hn] at s1
        have e1 : sm (fun j => w32 (xup c 0 10 (Int.tdiv (w64 (sm (fun j => w32 (c (23 + 2 * k) j)) n)) (w64 (w32 n))) 57 (40 * k + j))) n = sm (fun j => w32 (c (23 + 2 * k) j)) n := sm_congr (fun j hj => by rw [xup_n _ _ (by omega), s4 j (by omega)])
        refine ⟨1, 1, _, b, _, b, ?_, l147e hk ⟨by omega, by omega⟩ (c := xup c 0 10 (Int.tdiv (w64 (sm (fun j => w32 (c (23 + 2 * k) j)) n)) (w64 (w32 n)))) hn, rfl, ?_⟩
        · show Rn ex xt62 (d + 20) 0 [xA 0, xI (k : Int), xU, xU, xU, xU, xU] [] (hp c b) _
          refine Rn.run 2 rfl ?_
          refine Rn.call rfl rfl rfl rfl rfl (c106_ok k hk h1 (by rw [s1]; simp only [w32]; omega)) ?_
          refine Rn.run 2 rfl ?_
          refine Rn.eq0 rfl (fun e7 => ?_) (fun e7 => absurd e7 (by decide))
          refine Rn.run 3 rfl ?_
          refine Rn.aald rfl ⟨by decide, rfl, by decide, by decide⟩ k h1 (by omega) (xR_row hk).1 ?_
          refine Rn.run 2 rfl ?_
          refine Rn.getI rfl (xS_row hk) ?_
          refine Rn.ne0 rfl (fun e23 => ?_) (fun e23 => absurd e23 (by rw [s1]; simp only [w32]; omega))
          refine Rn.run 4 rfl ?_
          exact l62 hk ⟨by omega, by omega⟩ s1 n 0 0 (by omega) rfl
        · rw [e1]
          exact Inv_ask hI _
  · refine Ag_same hI (-1) ?_ ?_
    · show Rn ex xt62 (d + 20) 0 [xA 0, xI a1, xU, xU, xU, xU, xU] [] (hp c b) _
      refine Rn.run 2 rfl ?_
      refine Rn.call rfl rfl rfl rfl rfl (c106_bad (by rw [h1]; exact hr)) ?_
      refine Rn.run 2 rfl ?_
      refine Rn.eq0 rfl (fun e7 => absurd e7 (by decide)) (fun e7 => ?_)
      refine Rn.run 1 rfl ?_
      exact Rn.ret rfl rfl rfl rfl (rfl) (rfl)
    · show Rn ex xt147 (d + 20) 0 [xA 54, xI a1, xU, xU, xU] [] (hp c b) _
      refine Rn.run 1 rfl ?_
      refine Rn.call rfl rfl rfl rfl rfl (c138) ?_
      refine Rn.neB rfl (fun e4 => absurd e4 (by exact fun h => hr (by simp only [w32] at *; omega))) (fun e4 => ?_)
      refine Rn.run 1 rfl ?_
      exact Rn.ret rfl rfl rfl rfl (rfl) (rfl)
