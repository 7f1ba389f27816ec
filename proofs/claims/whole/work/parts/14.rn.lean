-- RUNS OF THE SMALL MACHINE
abbrev Rn (ex : xO) (t : xT) (d pc : Nat) (ls st : List xV) (h : xH) (o : xV × xH) : Prop := ∃ n, xexec ex n d t pc ls st h = some o
abbrev An (ex : xO) (d mi mL : Nat) (as : List xV) (h : xH) (o : xV × xH) : Prop := Rn ex (xtb mi) d 0 (xpad mL (xent as)) [] h o
theorem x_fuel (ex : xO) : ∀ (n d : Nat) (t : xT) (pc : Nat) (ls st : List xV) (h : xH) (o : xV × xH), xexec ex n d t pc ls st h = some o → ∀ k, xexec ex (n + k) d t pc ls st h = some o := by
  intro n
  induction n with
  | zero => intro d t pc ls st h o hx; cases hx
  | succ n ih =>
    intro d t pc ls st h o hx k
    rw [Nat.succ_add]
    unfold xexec at hx ⊢
    cases he : xfind t pc with
    | none => rw [he] at hx; cases hx
    | some e =>
      rw [he] at hx
      dsimp only at hx ⊢
      cases hA : xstA ex e d ls st h with
      | some q => rw [hA] at hx; exact ih _ _ _ _ _ _ _ hx k
      | none =>
        rw [hA] at hx
        dsimp only at hx ⊢
        cases hB : xstB e d st h with
        | some q => rw [hB] at hx; exact ih _ _ _ _ _ _ _ hx k
        | none =>
          rw [hB] at hx
          dsimp only at hx ⊢
          cases hR : xret e st with
          | some v => rw [hR] at hx; exact hx
          | none =>
            rw [hR] at hx
            dsimp only at hx ⊢
            cases hC : xcal e st h with
            | none => rw [hC] at hx; cases hx
            | some q =>
              rw [hC] at hx
              cases d with
              | zero => cases hx
              | succ d =>
                dsimp only at hx ⊢
                cases hX : xexec ex n d (xtb q.1) 0 (xpad e.2.2.2.2.2.2.1 (xent q.2.1)) [] h with
                | none => rw [hX] at hx; cases hx
                | some o1 =>
                  rw [hX] at hx
                  rw [ih _ _ _ _ _ _ _ hX k]
                  exact ih _ _ _ _ _ _ _ hx k
def xrun (ex : xO) (t : xT) (d : Nat) : Nat → Nat → List xV → List xV → xH → Option (Nat × List xV × List xV × xH)
  | 0, pc, ls, st, h => some (pc, ls, st, h)
  | k + 1, pc, ls, st, h => match xfind t pc with
    | none => none
    | some e => match xstA ex e d ls st h with
      | some q => xrun ex t d k q.1 q.2.1 q.2.2 h
      | none => match xstB e d st h with
        | some q => xrun ex t d k q.1 ls q.2.1 q.2.2
        | none => none
section RN
variable {ex : xO} {t : xT} {d pc : Nat} {ls st : List xV} {h : xH} {o : xV × xH}
theorem Rn.A {e : xE} {q : xS3} (he : xfind t pc = some e) (hs : xstA ex e d ls st h = some q) (k : Rn ex t d q.1 q.2.1 q.2.2 h o) : Rn ex t d pc ls st h o := by
  obtain ⟨n, hn⟩ := k
  refine ⟨n + 1, ?_⟩
  unfold xexec
  rw [he]
  dsimp only
  rw [hs]
  exact hn
theorem Rn.B {e : xE} {q : Nat × List xV × xH} (he : xfind t pc = some e) (hA : xstA ex e d ls st h = none) (hs : xstB e d st h = some q) (k : Rn ex t d q.1 ls q.2.1 q.2.2 o) : Rn ex t d pc ls st h o := by
  obtain ⟨n, hn⟩ := k
  refine ⟨n + 1, ?_⟩
  unfold xexec
  rw [he]
  dsimp only
  rw [hA]
  dsimp only
  rw [hs]
  exact hn
theorem Rn.run (k : Nat) {pc' : Nat} {ls' st' : List xV} {h' : xH} (hs : xrun ex t d k pc ls st h = some (pc', ls', st', h')) (kk : Rn ex t d pc' ls' st' h' o) : Rn ex t d pc ls st h o := by
  induction k generalizing pc ls st h with
  | zero => cases hs; exact kk
  | succ k ih =>
    unfold xrun at hs
    cases he : xfind t pc with
    | none => rw [he] at hs; cases hs
    | some e =>
      rw [he] at hs
      dsimp only at hs
      cases hA : xstA ex e d ls st h with
      | some q => rw [hA] at hs; exact Rn.A he hA (ih hs)
      | none =>
        rw [hA] at hs
        dsimp only at hs
        cases hB : xstB e d st h with
        | some q => rw [hB] at hs; exact Rn.B he hA hB (ih hs)
        | none => rw [hB] at hs; cases hs
theorem Rn.ret {e : xE} {v v' : xV} {h' : xH} (he : xfind t pc = some e) (hA : xstA ex e d ls st h = none) (hB : xstB e d st h = none) (hr : xret e st = some v) (hv : v = v') (hh : h = h') : Rn ex t d pc ls st h (v', h') := by
  subst hv
  subst hh
  refine ⟨1, ?_⟩
  unfold xexec
  rw [he]
  dsimp only
  rw [hA]
  dsimp only
  rw [hB]
  dsimp only
  rw [hr]
theorem Rn.call {e : xE} {q : Nat × List xV × List xV} {v : xV} {h' : xH} (he : xfind t pc = some e) (hA : xstA ex e (d + 1) ls st h = none) (hB : xstB e (d + 1) st h = none) (hr : xret e st = none) (hc : xcal e st h = some q) (ha : Rn ex (xtb q.1) d 0 (xpad e.2.2.2.2.2.2.1 (xent q.2.1)) [] h (v, h')) (k : Rn ex t (d + 1) e.2.1 ls (xpush v q.2.2) h' o) : Rn ex t (d + 1) pc ls st h o := by
  obtain ⟨n1, h1⟩ := ha
  obtain ⟨n2, h2⟩ := k
  refine ⟨n1 + n2 + 1, ?_⟩
  unfold xexec
  rw [he]
  dsimp only
  rw [hA]
  dsimp only
  rw [hB]
  dsimp only
  rw [hr]
  dsimp only
  rw [hc]
  dsimp only
  rw [x_fuel ex n1 _ _ _ _ _ _ _ h1 n2]
  dsimp only
  rw [Nat.add_comm n1 n2]
  exact x_fuel ex n2 _ _ _ _ _ _ _ h2 n1
theorem Rn.eq2 {o0 : Int} {nx P X : Nat} {r : Nat × Nat × Nat × Int} {a b : Int} (he : xfind t pc = some (.if_icmp .eq o0, nx, P, X, r)) (kt : w32 a = w32 b → Rn ex t d X ls st h o) (kf : ¬ (w32 a = w32 b) → Rn ex t d nx ls st h o) : Rn ex t d pc ls (xI b :: xI a :: st) h o := by
  by_cases hc : w32 a = w32 b
  · exact Rn.A he (q := (X, ls, st)) (by simp [xstA, xcnd, hc]) (kt hc)
  · exact Rn.A he (q := (nx, ls, st)) (by simp only [xstA, xcnd]; simp [hc]) (kf hc)
theorem Rn.eq0 {o0 : Int} {nx P X : Nat} {r : Nat × Nat × Nat × Int} {a : Int} (he : xfind t pc = some (.ifCond .eq o0, nx, P, X, r)) (kt : w32 a = 0 → Rn ex t d X ls st h o) (kf : ¬ (w32 a = 0) → Rn ex t d nx ls st h o) : Rn ex t d pc ls (xI a :: st) h o := by
  by_cases hc : w32 a = 0
  · exact Rn.A he (q := (X, ls, st)) (by simp [xstA, xcnd, hc]) (kt hc)
  · exact Rn.A he (q := (nx, ls, st)) (by simp only [xstA, xcnd]; simp [hc]) (kf hc)
theorem Rn.ne2 {o0 : Int} {nx P X : Nat} {r : Nat × Nat × Nat × Int} {a b : Int} (he : xfind t pc = some (.if_icmp .ne o0, nx, P, X, r)) (kt : w32 a ≠ w32 b → Rn ex t d X ls st h o) (kf : ¬ (w32 a ≠ w32 b) → Rn ex t d nx ls st h o) : Rn ex t d pc ls (xI b :: xI a :: st) h o := by
  by_cases hc : w32 a ≠ w32 b
  · exact Rn.A he (q := (X, ls, st)) (by simp [xstA, xcnd, hc]) (kt hc)
  · exact Rn.A he (q := (nx, ls, st)) (by simp only [xstA, xcnd]; simp [hc]) (kf hc)
theorem Rn.ne0 {o0 : Int} {nx P X : Nat} {r : Nat × Nat × Nat × Int} {a : Int} (he : xfind t pc = some (.ifCond .ne o0, nx, P, X, r)) (kt : w32 a ≠ 0 → Rn ex t d X ls st h o) (kf : ¬ (w32 a ≠ 0) → Rn ex t d nx ls st h o) : Rn ex t d pc ls (xI a :: st) h o := by
  by_cases hc : w32 a ≠ 0
  · exact Rn.A he (q := (X, ls, st)) (by simp [xstA, xcnd, hc]) (kt hc)
  · exact Rn.A he (q := (nx, ls, st)) (by simp only [xstA, xcnd]; simp [hc]) (kf hc)
theorem Rn.lt2 {o0 : Int} {nx P X : Nat} {r : Nat × Nat × Nat × Int} {a b : Int} (he : xfind t pc = some (.if_icmp .lt o0, nx, P, X, r)) (kt : w32 a < w32 b → Rn ex t d X ls st h o) (kf : ¬ (w32 a < w32 b) → Rn ex t d nx ls st h o) : Rn ex t d pc ls (xI b :: xI a :: st) h o := by
  by_cases hc : w32 a < w32 b
  · exact Rn.A he (q := (X, ls, st)) (by simp [xstA, xcnd, hc]) (kt hc)
  · exact Rn.A he (q := (nx, ls, st)) (by simp only [xstA, xcnd]; simp [hc]) (kf hc)
theorem Rn.lt0 {o0 : Int} {nx P X : Nat} {r : Nat × Nat × Nat × Int} {a : Int} (he : xfind t pc = some (.ifCond .lt o0, nx, P, X, r)) (kt : w32 a < 0 → Rn ex t d X ls st h o) (kf : ¬ (w32 a < 0) → Rn ex t d nx ls st h o) : Rn ex t d pc ls (xI a :: st) h o := by
  by_cases hc : w32 a < 0
  · exact Rn.A he (q := (X, ls, st)) (by simp [xstA, xcnd, hc]) (kt hc)
  · exact Rn.A he (q := (nx, ls, st)) (by simp only [xstA, xcnd]; simp [hc]) (kf hc)
theorem Rn.ge2 {o0 : Int} {nx P X : Nat} {r : Nat × Nat × Nat × Int} {a b : Int} (he : xfind t pc = some (.if_icmp .ge o0, nx, P, X, r)) (kt : w32 b ≤ w32 a → Rn ex t d X ls st h o) (kf : ¬ (w32 b ≤ w32 a) → Rn ex t d nx ls st h o) : Rn ex t d pc ls (xI b :: xI a :: st) h o := by
  by_cases hc : w32 b ≤ w32 a
  · exact Rn.A he (q := (X, ls, st)) (by simp [xstA, xcnd, hc]) (kt hc)
  · exact Rn.A he (q := (nx, ls, st)) (by simp only [xstA, xcnd]; simp [hc]) (kf hc)
theorem Rn.ge0 {o0 : Int} {nx P X : Nat} {r : Nat × Nat × Nat × Int} {a : Int} (he : xfind t pc = some (.ifCond .ge o0, nx, P, X, r)) (kt : 0 ≤ w32 a → Rn ex t d X ls st h o) (kf : ¬ (0 ≤ w32 a) → Rn ex t d nx ls st h o) : Rn ex t d pc ls (xI a :: st) h o := by
  by_cases hc : 0 ≤ w32 a
  · exact Rn.A he (q := (X, ls, st)) (by simp [xstA, xcnd, hc]) (kt hc)
  · exact Rn.A he (q := (nx, ls, st)) (by simp only [xstA, xcnd]; simp [hc]) (kf hc)
theorem Rn.gt2 {o0 : Int} {nx P X : Nat} {r : Nat × Nat × Nat × Int} {a b : Int} (he : xfind t pc = some (.if_icmp .gt o0, nx, P, X, r)) (kt : w32 b < w32 a → Rn ex t d X ls st h o) (kf : ¬ (w32 b < w32 a) → Rn ex t d nx ls st h o) : Rn ex t d pc ls (xI b :: xI a :: st) h o := by
  by_cases hc : w32 b < w32 a
  · exact Rn.A he (q := (X, ls, st)) (by simp [xstA, xcnd, hc]) (kt hc)
  · exact Rn.A he (q := (nx, ls, st)) (by simp only [xstA, xcnd]; simp [hc]) (kf hc)
theorem Rn.gt0 {o0 : Int} {nx P X : Nat} {r : Nat × Nat × Nat × Int} {a : Int} (he : xfind t pc = some (.ifCond .gt o0, nx, P, X, r)) (kt : 0 < w32 a → Rn ex t d X ls st h o) (kf : ¬ (0 < w32 a) → Rn ex t d nx ls st h o) : Rn ex t d pc ls (xI a :: st) h o := by
  by_cases hc : 0 < w32 a
  · exact Rn.A he (q := (X, ls, st)) (by simp [xstA, xcnd, hc]) (kt hc)
  · exact Rn.A he (q := (nx, ls, st)) (by simp only [xstA, xcnd]; simp [hc]) (kf hc)
theorem Rn.le2 {o0 : Int} {nx P X : Nat} {r : Nat × Nat × Nat × Int} {a b : Int} (he : xfind t pc = some (.if_icmp .le o0, nx, P, X, r)) (kt : w32 a ≤ w32 b → Rn ex t d X ls st h o) (kf : ¬ (w32 a ≤ w32 b) → Rn ex t d nx ls st h o) : Rn ex t d pc ls (xI b :: xI a :: st) h o := by
  by_cases hc : w32 a ≤ w32 b
  · exact Rn.A he (q := (X, ls, st)) (by simp [xstA, xcnd, hc]) (kt hc)
  · exact Rn.A he (q := (nx, ls, st)) (by simp only [xstA, xcnd]; simp [hc]) (kf hc)
theorem Rn.le0 {o0 : Int} {nx P X : Nat} {r : Nat × Nat × Nat × Int} {a : Int} (he : xfind t pc = some (.ifCond .le o0, nx, P, X, r)) (kt : w32 a ≤ 0 → Rn ex t d X ls st h o) (kf : ¬ (w32 a ≤ 0) → Rn ex t d nx ls st h o) : Rn ex t d pc ls (xI a :: st) h o := by
  by_cases hc : w32 a ≤ 0
  · exact Rn.A he (q := (X, ls, st)) (by simp [xstA, xcnd, hc]) (kt hc)
  · exact Rn.A he (q := (nx, ls, st)) (by simp only [xstA, xcnd]; simp [hc]) (kf hc)
end RN
-- the heap behind the constructors
def xS (a : Nat) : Nat × Nat × Nat := match a with
  | 0 => (0, 8, 0)
  | 1 => (1, 3, 6)
  | 2 => (1, 4, 4)
  | 3 => (0, 5, 0)
  | 4 => (0, 4, 0)
  | 5 => (1, 0, 6)
  | 6 => (1, 0, 6)
  | 7 => (0, 1, 0)
  | 8 => (1, 0, 41)
  | 9 => (1, 0, 41)
  | 10 => (1, 0, 41)
  | 11 => (1, 5, 3)
  | 12 => (1, 0, 10)
  | 13 => (1, 0, 6)
  | 14 => (0, 2, 0)
  | 15 => (1, 0, 6)
  | 16 => (1, 0, 6)
  | 17 => (1, 0, 6)
  | 18 => (0, 2, 0)
  | 19 => (1, 0, 6)
  | 20 => (1, 0, 6)
  | 21 => (1, 0, 6)
  | 22 => (0, 6, 0)
  | 23 => (1, 0, 40)
  | 24 => (0, 6, 0)
  | 25 => (1, 0, 40)
  | 26 => (0, 6, 0)
  | 27 => (1, 0, 40)
  | 28 => (0, 6, 0)
  | 29 => (1, 0, 40)
  | 30 => (0, 6, 0)
  | 31 => (1, 0, 40)
  | 32 => (0, 6, 0)
  | 33 => (1, 0, 40)
  | 34 => (0, 7, 0)
  | 35 => (1, 1, 60)
  | 36 => (0, 7, 0)
  | 37 => (1, 1, 60)
  | 38 => (0, 7, 0)
  | 39 => (1, 1, 60)
  | 40 => (0, 7, 0)
  | 41 => (1, 1, 60)
  | 42 => (0, 1, 0)
  | 43 => (1, 0, 41)
  | 44 => (1, 0, 41)
  | 45 => (1, 0, 41)
  | 46 => (0, 1, 0)
  | 47 => (1, 0, 41)
  | 48 => (1, 0, 41)
  | 49 => (1, 0, 41)
  | 50 => (0, 1, 0)
  | 51 => (1, 0, 41)
  | 52 => (1, 0, 41)
  | 53 => (1, 0, 41)
  | 54 => (0, 9, 0)
  | 55 => (1, 0, 1720)
  | 56 => (1, 0, 6)
  | 57 => (1, 0, 240)
  | 58 => (1, 0, 4)
  | 59 => (1, 0, 240)
  | 60 => (1, 0, 6)
  | 61 => (1, 0, 40)
  | 62 => (1, 0, 26)
  | 63 => (1, 0, 8)
  | 64 => (1, 0, 7)
  | 65 => (1, 0, 6)
  | 66 => (1, 2, 64)
  | 67 => (1, 0, 64)
  | 68 => (1, 0, 5)
  | 69 => (1, 0, 5)
  | 70 => (1, 0, 5)
  | _ => (2, 0, 0)
def xR (b : Bool) (a k : Nat) : Option Nat := match a with
  | 0 => (match k with
    | 0 => some 1
    | 1 => some 2
    | 2 => some 3
    | 3 => some 4
    | 4 => some 7
    | 5 => some 11
    | 6 => some 12
    | 7 => some 13
    | 8 => some (bif b then 18 else 14)
    | 9 => some (bif b then 14 else 18)
    | _ => none)
  | 1 => (match k with
    | 0 => some 22
    | 1 => some 24
    | 2 => some 26
    | 3 => some 28
    | 4 => some 30
    | 5 => some 32
    | _ => none)
  | 2 => (match k with
    | 0 => some 34
    | 1 => some 36
    | 2 => some 38
    | 3 => some 40
    | _ => none)
  | 4 => (match k with
    | 0 => some 5
    | 1 => some 6
    | _ => none)
  | 7 => (match k with
    | 1 => some 8
    | 2 => some 9
    | 3 => some 10
    | _ => none)
  | 11 => (match k with
    | 0 => some 42
    | 1 => some 46
    | 2 => some 50
    | _ => none)
  | 14 => (match k with
    | 3 => some 15
    | 4 => some 16
    | 5 => some 17
    | _ => none)
  | 18 => (match k with
    | 3 => some 19
    | 4 => some 20
    | 5 => some 21
    | _ => none)
  | 22 => (match k with
    | 1 => some 23
    | _ => none)
  | 24 => (match k with
    | 1 => some 25
    | _ => none)
  | 26 => (match k with
    | 1 => some 27
    | _ => none)
  | 28 => (match k with
    | 1 => some 29
    | _ => none)
  | 30 => (match k with
    | 1 => some 31
    | _ => none)
  | 32 => (match k with
    | 1 => some 33
    | _ => none)
  | 34 => (match k with
    | 1 => some 35
    | _ => none)
  | 36 => (match k with
    | 1 => some 37
    | _ => none)
  | 38 => (match k with
    | 1 => some 39
    | _ => none)
  | 40 => (match k with
    | 1 => some 41
    | _ => none)
  | 42 => (match k with
    | 1 => some 43
    | 2 => some 44
    | 3 => some 45
    | _ => none)
  | 46 => (match k with
    | 1 => some 47
    | 2 => some 48
    | 3 => some 49
    | _ => none)
  | 50 => (match k with
    | 1 => some 51
    | 2 => some 52
    | 3 => some 53
    | _ => none)
  | 54 => (match k with
    | 0 => some 55
    | 1 => some 56
    | 2 => some 57
    | 3 => some 58
    | 4 => some 59
    | 6 => some 60
    | 10 => some 61
    | 15 => some 62
    | 16 => some 63
    | 17 => some 64
    | 18 => some 65
    | 19 => some 66
    | 20 => some 67
    | 21 => some 68
    | 22 => some 69
    | 23 => some 70
    | _ => none)
  | _ => none
def x_h0 : xH := (0, 0, 0, xS, (fun _ _ => 0), (fun _ _ => none))
abbrev hp (c : Nat → Nat → Int) (b : Bool) : xH := (71, 3590, 0, xS, c, xR b)
section RH
variable {ex : xO} {t : xT} {d pc : Nat} {ls st : List xV} {o : xV × xH} {c : Nat → Nat → Int} {b : Bool}
theorem x_ix {i : Int} {k n : Nat} (hi : w32 i = (k : Int)) (hk : k < n) : xin i n = true ∧ (w32 i).toNat = k := by
  rw [xin, hi]
  simp [hk]
theorem Rn.ald {nx : Nat} {r : Nat × Nat × Nat × Nat × Nat × Int} {i : Int} {a n : Nat} (he : xfind t pc = some (.iaload, nx, r)) (hs : a < 71 ∧ xS a = (1, 0, n)) (k : Nat) (hi : w32 i = (k : Int)) (hk : k < n) (kk : Rn ex t d nx ls (xI (c a k) :: st) (hp c b) o) : Rn ex t d pc ls (xI i :: xA a :: st) (hp c b) o := by
  obtain ⟨r1, r2, r3, r4, r5, r6⟩ := r
  obtain ⟨h1, h2⟩ := x_ix hi hk
  refine Rn.A he (q := (nx, ls, xI (c a k) :: st)) ?_ kk
  simp only [xstA, hs.2]
  simp [hs.1, h1, h2]
theorem Rn.bald {nx : Nat} {r : Nat × Nat × Nat × Nat × Nat × Int} {i : Int} {a n kd : Nat} (he : xfind t pc = some (.baload, nx, r)) (hs : a < 71 ∧ xS a = (1, kd, n) ∧ (kd = 1 ∨ kd = 2)) (k : Nat) (hi : w32 i = (k : Int)) (hk : k < n) (kk : Rn ex t d nx ls (xI (c a k) :: st) (hp c b) o) : Rn ex t d pc ls (xI i :: xA a :: st) (hp c b) o := by
  obtain ⟨r1, r2, r3, r4, r5, r6⟩ := r
  obtain ⟨h1, h2⟩ := x_ix hi hk
  refine Rn.A he (q := (nx, ls, xI (c a k) :: st)) ?_ kk
  simp only [xstA, hs.2.1]
  simp [hs.1, hs.2.2, h1, h2]
theorem Rn.aald {nx : Nat} {r : Nat × Nat × Nat × Nat × Nat × Int} {i : Int} {a n kd j : Nat} (he : xfind t pc = some (.aaload, nx, r)) (hs : a < 71 ∧ xS a = (1, kd, n) ∧ 3 ≤ kd ∧ kd ≤ 5) (k : Nat) (hi : w32 i = (k : Int)) (hk : k < n) (hj : xR b a k = some j) (kk : Rn ex t d nx ls (xA j :: st) (hp c b) o) : Rn ex t d pc ls (xI i :: xA a :: st) (hp c b) o := by
  obtain ⟨r1, r2, r3, r4, r5, r6⟩ := r
  obtain ⟨h1, h2⟩ := x_ix hi hk
  refine Rn.A he (q := (nx, ls, xA j :: st)) ?_ kk
  simp only [xstA, hs.2.1]
  simp [hs.1, hs.2.2.1, hs.2.2.2, h1, h2, hj]
theorem Rn.ast {nx : Nat} {r : Nat × Nat × Nat × Nat × Nat × Int} {i v : Int} {a n : Nat} (he : xfind t pc = some (.iastore, nx, r)) (hs : a < 71 ∧ xS a = (1, 0, n)) (k : Nat) (hi : w32 i = (k : Int)) (hk : k < n) (kk : Rn ex t d nx ls st (hp (xup c a k v) b) o) : Rn ex t d pc ls (xI v :: xI i :: xA a :: st) (hp c b) o := by
  obtain ⟨r1, r2, r3, r4, r5, r6⟩ := r
  obtain ⟨h1, h2⟩ := x_ix hi hk
  refine Rn.B he rfl (q := (nx, st, hp (xup c a k v) b)) ?_ kk
  simp only [xstB, hs.2]
  simp [hs.1, h1, h2]
theorem Rn.bast {nx : Nat} {r : Nat × Nat × Nat × Nat × Nat × Int} {i v : Int} {a n : Nat} (he : xfind t pc = some (.bastore, nx, r)) (hs : a < 71 ∧ xS a = (1, 1, n)) (k : Nat) (hi : w32 i = (k : Int)) (hk : k < n) (kk : Rn ex t d nx ls st (hp (xup c a k (w8 v)) b) o) : Rn ex t d pc ls (xI v :: xI i :: xA a :: st) (hp c b) o := by
  obtain ⟨r1, r2, r3, r4, r5, r6⟩ := r
  obtain ⟨h1, h2⟩ := x_ix hi hk
  refine Rn.B he rfl (q := (nx, st, hp (xup c a k (w8 v)) b)) ?_ kk
  simp only [xstB, hs.2]
  simp [hs.1, h1, h2]
theorem Rn.zast {nx : Nat} {r : Nat × Nat × Nat × Nat × Nat × Int} {i v : Int} {a n : Nat} (he : xfind t pc = some (.bastore, nx, r)) (hs : a < 71 ∧ xS a = (1, 2, n)) (hv : v = 0 ∨ v = 1) (k : Nat) (hi : w32 i = (k : Int)) (hk : k < n) (kk : Rn ex t d nx ls st (hp (xup c a k v) b) o) : Rn ex t d pc ls (xI v :: xI i :: xA a :: st) (hp c b) o := by
  obtain ⟨r1, r2, r3, r4, r5, r6⟩ := r
  obtain ⟨h1, h2⟩ := x_ix hi hk
  refine Rn.B he rfl (q := (nx, st, hp (xup c a k v) b)) ?_ kk
  simp only [xstB, hs.2]
  simp [hs.1, h1, h2, hv]
end RH
