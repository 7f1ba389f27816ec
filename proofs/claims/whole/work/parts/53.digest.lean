-- digest
def dg1 (n : Nat) (kd : Nat → Nat) (D T Mo : Nat) (L : Nat → Nat) (rr tt kk : Nat) (w : Nat) (h : Int) : Int := 31 * h + w32 (cvl n kd D T Mo L rr tt kk w : Nat)
def dg2 (L : Nat → Nat) (j : Nat) (h : Int) : Int := 31 * h + w32 (L j : Nat)
def dg3 (kd bo wo : Nat → Nat) (n T : Nat) (L : Nat → Nat) (i w : Nat) (h : Int) : Int := 31 * h + w32 (fct kd bo wo n T L i w : Nat)
def dg4 (c : Nat → Nat → Int) (k : Nat) (h : Int) : Int := 31 * h + w32 (c (42 + 4 * k) 0)
def dg5 (c : Nat → Nat → Int) (r k : Nat) (h : Int) : Int := 31 * h + w32 (c 57 (40 * r + k))
def dr5 (c : Nat → Nat → Int) (r : Nat) (h : Int) : Int := xit (dg5 c r) (c 56 r).toNat 0 (31 * h + w32 (c 56 r))
def dg6 (c : Nat → Nat → Int) (r k : Nat) (h : Int) : Int := 31 * h + w32 (c 59 (60 * r + k))
def dr6 (c : Nat → Nat → Int) (r : Nat) (h : Int) : Int := xit (dg6 c r) (c 58 r).toNat 0 (31 * h + w32 (c 58 r))
def dgs (c : Nat → Nat → Int) (n : Nat) (kd bo wo : Nat → Nat) (D T Mo : Nat) (L : Nat → Nat) : Int :=
  xit (dr6 c) 4 0 (xit (dr5 c) 6 0 (xit (dg4 c) 3 0 (xit (fun i h => xit (dg3 kd bo wo n T L i) 6 0 h) n 0 (xit (dg2 L) 8 0 (xit (dg1 n kd D T Mo L (rws c) (txs c) (kps c)) 12 0 17)))))
theorem z_sz {z : Int} {i : Nat} (h1 : -1 ≤ z) (h2 : z ≤ 60) (hi : i ≤ 100) : (w32 z ≤ w32 (i : Int)) ↔ z.toNat ≤ i := by
  rw [x_w z (by omega) (by omega), x_wn (by omega)]
  omega
theorem l51 {ex : xO} {d : Nat} {c : Nat → Nat → Int} {b : Bool} {r : Nat} (hr : r < 6) (i1 : iRow c) : ∀ (m i : Nat) (s : Int), i + m = (c 56 r).toNat → Rn ex xt51 d 14 [xA (22 + 2 * r), xL s, xU, xI (i : Int)] [] (hp c b) (xL (xit (dg5 c r) m i s), hp c b) := by
  obtain ⟨h1, h2, h3, h4⟩ := i1 r hr
  intro m
  induction m with
  | zero =>
    intro i s hm
    refine Rn.run 2 (ls' := [_, _, _, _]) (st' := [_, _]) rfl ?_
    refine Rn.getI rfl (xS_row hr) ?_
    rw [h1]
    refine Rn.ge2 rfl (fun e19 => ?_) (fun e19 => absurd e19 (by exact fun h => h ((z_sz (by omega) (by omega) (by omega)).mpr (by omega))))
    refine Rn.run 1 (ls' := [_, _, _, _]) (st' := [_]) rfl ?_
    exact Rn.ret rfl rfl rfl rfl rfl rfl
  | succ m ih =>
    intro i s hm
    refine Rn.run 2 (ls' := [_, _, _, _]) (st' := [_, _]) rfl ?_
    refine Rn.getI rfl (xS_row hr) ?_
    rw [h1]
    refine Rn.ge2 rfl (fun e19 => absurd e19 (by exact fun h => absurd ((z_sz (by omega) (by omega) (by omega)).mp h) (by omega))) (fun e19 => ?_)
    refine Rn.run 4 (ls' := [_, _, _, _]) (st' := [_, _]) rfl ?_
    refine Rn.getR rfl (xS_row hr) (xR_row hr).2 ?_
    refine Rn.run 1 (ls' := [_, _, _, _]) (st' := [_, _, _]) rfl ?_
    refine Rn.ald rfl (xS_pl hr) (i) (x_wn (n := i) (by omega)) (by omega) ?_
    rw [h4 i (by omega)]
    refine Rn.run 5 (ls' := [_, _, _, _]) (st' := []) rfl ?_
    exact ih (i + 1) (dg5 c r i s) (by omega)
theorem c51 {ex : xO} {d : Nat} {c : Nat → Nat → Int} {b : Bool} {r : Nat} (hr : r < 6) (i1 : iRow c) {h : Int} : An ex d 51 4 [xA (22 + 2 * r), xL h] (hp c b) (xL (dr5 c r h), hp c b) := by
  have h1 := (i1 r hr).1
  refine Rn.run 4 (ls' := [_, _, _, _]) (st' := [_, _]) rfl ?_
  refine Rn.getI rfl (xS_row hr) ?_
  rw [h1]
  refine Rn.run 5 (ls' := [_, _, _, _]) (st' := []) rfl ?_
  exact l51 hr i1 _ 0 _ (Nat.zero_add _)
theorem l55 {ex : xO} {d : Nat} {c : Nat → Nat → Int} {b : Bool} {r : Nat} (hr : r < 4) (i1 : iTxt c) : ∀ (m i : Nat) (s : Int), i + m = (c 58 r).toNat → Rn ex xt55 d 14 [xA (34 + 2 * r), xL s, xU, xI (i : Int)] [] (hp c b) (xL (xit (dg6 c r) m i s), hp c b) := by
  obtain ⟨h1, h2, h3, h4⟩ := i1 r hr
  intro m
  induction m with
  | zero =>
    intro i s hm
    refine Rn.run 2 (ls' := [_, _, _, _]) (st' := [_, _]) rfl ?_
    refine Rn.getI rfl (xS_txt hr) ?_
    rw [h1]
    refine Rn.ge2 rfl (fun e19 => ?_) (fun e19 => absurd e19 (by exact fun h => h ((z_sz (by omega) (by omega) (by omega)).mpr (by omega))))
    refine Rn.run 1 (ls' := [_, _, _, _]) (st' := [_]) rfl ?_
    exact Rn.ret rfl rfl rfl rfl rfl rfl
  | succ m ih =>
    intro i s hm
    refine Rn.run 2 (ls' := [_, _, _, _]) (st' := [_, _]) rfl ?_
    refine Rn.getI rfl (xS_txt hr) ?_
    rw [h1]
    refine Rn.ge2 rfl (fun e19 => absurd e19 (by exact fun h => absurd ((z_sz (by omega) (by omega) (by omega)).mp h) (by omega))) (fun e19 => ?_)
    refine Rn.run 4 (ls' := [_, _, _, _]) (st' := [_, _]) rfl ?_
    refine Rn.getR rfl (xS_txt hr) (xR_txt hr).2 ?_
    refine Rn.run 1 (ls' := [_, _, _, _]) (st' := [_, _, _]) rfl ?_
    refine Rn.bald rfl ⟨(xS_by hr).1, (xS_by hr).2, by decide⟩ (i) (x_wn (n := i) (by omega)) (by omega) ?_
    rw [(h4 i (by omega)).1]
    refine Rn.run 5 (ls' := [_, _, _, _]) (st' := []) rfl ?_
    exact ih (i + 1) (dg6 c r i s) (by omega)
theorem c55 {ex : xO} {d : Nat} {c : Nat → Nat → Int} {b : Bool} {r : Nat} (hr : r < 4) (i1 : iTxt c) {h : Int} : An ex d 55 4 [xA (34 + 2 * r), xL h] (hp c b) (xL (dr6 c r h), hp c b) := by
  have h1 := (i1 r hr).1
  refine Rn.run 4 (ls' := [_, _, _, _]) (st' := [_, _]) rfl ?_
  refine Rn.getI rfl (xS_txt hr) ?_
  rw [h1]
  refine Rn.run 5 (ls' := [_, _, _, _]) (st' := []) rfl ?_
  exact l55 hr i1 _ 0 _ (Nat.zero_add _)
theorem l99a {ex : xO} {d : Nat} {c : Nat → Nat → Int} {b : Bool} {n D T Mo : Nat} {kd bo wo L : Nat → Nat} (hP : pS n kd bo wo D T Mo L) (hc : cS c b n kd bo wo D T Mo L) (i1 : iRow c) (i2 : iTxt c) (hK : ∀ k, k < 3 → iKpt c n k) {o : xV × xH} : ∀ (m i : Nat) (s : Int), i + m = 12 → Rn ex xt99 (d + 6) 6 [xA 0, xL (xit (dg1 n kd D T Mo L (rws c) (txs c) (kps c)) m i s), xU, xI ((12 : Nat) : Int), xU] [] (hp c b) o → Rn ex xt99 (d + 6) 6 [xA 0, xL s, xU, xI ((i : Nat) : Int), xU] [] (hp c b) o := by
  intro m
  induction m with
  | zero =>
    intro i s hm kk
    obtain rfl : i = 12 := by omega
    exact kk
  | succ m ih =>
    intro i s hm kk
    refine Rn.run 2 (ls' := [_, _, _, _, _]) (st' := [_, _]) rfl ?_
    refine Rn.ge2 rfl (fun e9 => absurd e9 (by exact fun h => absurd ((y_ge (n := 12) (by omega) (by omega)).mp h) (by omega))) (fun e9 => ?_)
    refine Rn.run 5 (ls' := [_, _, _, _, _]) (st' := [_, _, _]) rfl ?_
    refine Rn.call rfl rfl rfl rfl rfl (c96 hP hc i1 i2 hK (by omega)) ?_
    refine Rn.run 5 (ls' := [_, _, _, _, _]) (st' := []) rfl ?_
    exact ih (i + 1) (dg1 n kd D T Mo L (rws c) (txs c) (kps c) i s) (by omega) kk
theorem l99b {ex : xO} {d : Nat} {c : Nat → Nat → Int} {b : Bool} {D : Nat} {L : Nat → Nat} (d7 : c 7 0 = (D : Nat)) (h40 : D ≤ 40) (hL : pk (c 8 D) L) {o : xV × xH} : ∀ (m i : Nat) (s : Int), i + m = 8 → Rn ex xt99 (d + 6) 33 [xA 0, xL (xit (dg2 L) m i s), xU, xI ((8 : Nat) : Int), xU] [] (hp c b) o → Rn ex xt99 (d + 6) 33 [xA 0, xL s, xU, xI ((i : Nat) : Int), xU] [] (hp c b) o := by
  intro m
  induction m with
  | zero =>
    intro i s hm kk
    obtain rfl : i = 8 := by omega
    exact kk
  | succ m ih =>
    intro i s hm kk
    refine Rn.run 2 (ls' := [_, _, _, _, _]) (st' := [_, _]) rfl ?_
    refine Rn.ge2 rfl (fun e36 => absurd e36 (by exact fun h => absurd ((y_ge (n := 8) (by omega) (by omega)).mp h) (by omega))) (fun e36 => ?_)
    refine Rn.run 5 (ls' := [_, _, _, _, _]) (st' := [_, _]) rfl ?_
    refine Rn.call rfl rfl rfl rfl rfl (c10 d7 h40) ?_
    refine Rn.run 1 (ls' := [_, _, _, _, _]) (st' := [_, _, _]) rfl ?_
    refine Rn.call rfl rfl rfl rfl rfl (c0 (by omega)) ?_
    rw [hL i (by omega)]
    refine Rn.run 5 (ls' := [_, _, _, _, _]) (st' := []) rfl ?_
    exact ih (i + 1) (dg2 L i s) (by omega) kk
theorem l99c {ex : xO} {d : Nat} {c : Nat → Nat → Int} {b : Bool} {n D T Mo : Nat} {kd bo wo L : Nat → Nat} (hP : pS n kd bo wo D T Mo L) (hc : cS c b n kd bo wo D T Mo L) {i : Nat} (hi : i < n) {o : xV × xH} : ∀ (m w : Nat) (s : Int), w + m = 6 → Rn ex xt99 (d + 6) 80 [xA 0, xL (xit (dg3 kd bo wo n T L i) m w s), xU, xI (i : Int), xI ((6 : Nat) : Int)] [] (hp c b) o → Rn ex xt99 (d + 6) 80 [xA 0, xL s, xU, xI (i : Int), xI (w : Int)] [] (hp c b) o := by
  intro m
  induction m with
  | zero =>
    intro w s hm kk
    obtain rfl : w = 6 := by omega
    exact kk
  | succ m ih =>
    intro w s hm kk
    refine Rn.run 2 (ls' := [_, _, _, _, _]) (st' := [_, _]) rfl ?_
    refine Rn.ge2 rfl (fun e84 => absurd e84 (by exact fun h => absurd ((y_ge (n := 6) (by omega) (by omega)).mp h) (by omega))) (fun e84 => ?_)
    refine Rn.run 6 (ls' := [_, _, _, _, _]) (st' := [_, _, _, _]) rfl ?_
    refine Rn.call rfl rfl rfl rfl rfl (c113 hP hc hi (by omega)) ?_
    refine Rn.run 5 (ls' := [_, _, _, _, _]) (st' := []) rfl ?_
    exact ih (w + 1) (dg3 kd bo wo n T L i w s) (by omega) kk
theorem l99d {ex : xO} {d : Nat} {c : Nat → Nat → Int} {b : Bool} {n D T Mo : Nat} {kd bo wo L : Nat → Nat} (hP : pS n kd bo wo D T Mo L) (hc : cS c b n kd bo wo D T Mo L) {o : xV × xH} : ∀ (m i : Nat) (s : Int) (u : xV), i + m = n → (∀ u, Rn ex xt99 (d + 6) 66 [xA 0, xL (xit (fun i h => xit (dg3 kd bo wo n T L i) 6 0 h) m i s), xU, xI (n : Int), u] [] (hp c b) o) → Rn ex xt99 (d + 6) 66 [xA 0, xL s, xU, xI (i : Int), u] [] (hp c b) o := by
  have hn := hP.1.1
  have hC := hc.1
  intro m
  induction m with
  | zero =>
    intro i s u hm kk
    obtain rfl : i = n := by omega
    exact kk u
  | succ m ih =>
    intro i s u hm kk
    refine Rn.run 2 (ls' := [_, _, _, _, _]) (st' := [_, _]) rfl ?_
    refine Rn.getR rfl ⟨by decide, rfl, rfl⟩ (j := gid b) (rfl) ?_
    refine Rn.getI rfl (xS_g b) ?_
    rw [hC.1]
    refine Rn.ge2 rfl (fun e74 => absurd e74 (by exact fun h => absurd ((y_ge (by omega) (by omega)).mp h) (by omega))) (fun e74 => ?_)
    refine Rn.run 2 (ls' := [_, _, _, _, _]) (st' := []) rfl ?_
    refine l99c hP hc (by omega) 6 0 s rfl ?_
    refine Rn.run 2 (ls' := [_, _, _, _, _]) (st' := [_, _]) rfl ?_
    refine Rn.ge2 rfl (fun e84 => ?_) (fun e84 => absurd e84 (by decide))
    refine Rn.run 2 (ls' := [_, _, _, _, _]) (st' := []) rfl ?_
    exact ih (i + 1) _ _ (by omega) kk
theorem l99e {ex : xO} {d : Nat} {c : Nat → Nat → Int} {b : Bool}  {u : xV} {o : xV × xH} : ∀ (m i : Nat) (s : Int), i + m = 3 → Rn ex xt99 (d + 6) 116 [xA 0, xL (xit (dg4 c) m i s), xU, xI ((3 : Nat) : Int), u] [] (hp c b) o → Rn ex xt99 (d + 6) 116 [xA 0, xL s, xU, xI ((i : Nat) : Int), u] [] (hp c b) o := by
  intro m
  induction m with
  | zero =>
    intro i s hm kk
    obtain rfl : i = 3 := by omega
    exact kk
  | succ m ih =>
    intro i s hm kk
    have hi : i < 3 := by omega
    refine Rn.run 2 (ls' := [_, _, _, _, _]) (st' := [_, _]) rfl ?_
    refine Rn.ge2 rfl (fun e118 => absurd e118 (by exact fun h => absurd ((y_ge (n := 3) (by omega) (by omega)).mp h) (by omega))) (fun e118 => ?_)
    refine Rn.run 6 (ls' := [_, _, _, _, _]) (st' := [_, _, _]) rfl ?_
    refine Rn.aald rfl ⟨by decide, rfl, by decide, by decide⟩ (i) (x_wn (n := i) (by omega)) (by omega) (xR_kpt hi).1 ?_
    refine Rn.getI rfl (xS_kpt hi) ?_
    refine Rn.run 5 (ls' := [_, _, _, _, _]) (st' := []) rfl ?_
    exact ih (i + 1) (dg4 c i s) (by omega) kk
theorem l99f {ex : xO} {d : Nat} {c : Nat → Nat → Int} {b : Bool} (i1 : iRow c) {u : xV} {o : xV × xH} : ∀ (m i : Nat) (s : Int), i + m = 6 → Rn ex xt99 (d + 6) 146 [xA 0, xL (xit (dr5 c) m i s), xU, xI ((6 : Nat) : Int), u] [] (hp c b) o → Rn ex xt99 (d + 6) 146 [xA 0, xL s, xU, xI ((i : Nat) : Int), u] [] (hp c b) o := by
  intro m
  induction m with
  | zero =>
    intro i s hm kk
    obtain rfl : i = 6 := by omega
    exact kk
  | succ m ih =>
    intro i s hm kk
    have hi : i < 6 := by omega
    refine Rn.run 2 (ls' := [_, _, _, _, _]) (st' := [_, _]) rfl ?_
    refine Rn.ge2 rfl (fun e149 => absurd e149 (by exact fun h => absurd ((y_ge (n := 6) (by omega) (by omega)).mp h) (by omega))) (fun e149 => ?_)
    refine Rn.run 3 (ls' := [_, _, _, _, _]) (st' := [_, _]) rfl ?_
    refine Rn.aald rfl ⟨by decide, rfl, by decide, by decide⟩ (i) (x_wn (n := i) (by omega)) (by omega) (xR_row hi).1 ?_
    refine Rn.run 1 (ls' := [_, _, _, _, _]) (st' := [_, _]) rfl ?_
    refine Rn.callV rfl (x_sv (xS_row hi)) rfl rfl rfl (c51 hi i1) ?_
    refine Rn.run 3 (ls' := [_, _, _, _, _]) (st' := []) rfl ?_
    exact ih (i + 1) (dr5 c i s) (by omega) kk
theorem l99g {ex : xO} {d : Nat} {c : Nat → Nat → Int} {b : Bool} (i2 : iTxt c) {u : xV} {o : xV × xH} : ∀ (m i : Nat) (s : Int), i + m = 4 → Rn ex xt99 (d + 6) 171 [xA 0, xL (xit (dr6 c) m i s), xU, xI ((4 : Nat) : Int), u] [] (hp c b) o → Rn ex xt99 (d + 6) 171 [xA 0, xL s, xU, xI ((i : Nat) : Int), u] [] (hp c b) o := by
  intro m
  induction m with
  | zero =>
    intro i s hm kk
    obtain rfl : i = 4 := by omega
    exact kk
  | succ m ih =>
    intro i s hm kk
    have hi : i < 4 := by omega
    refine Rn.run 2 (ls' := [_, _, _, _, _]) (st' := [_, _]) rfl ?_
    refine Rn.ge2 rfl (fun e173 => absurd e173 (by exact fun h => absurd ((y_ge (n := 4) (by omega) (by omega)).mp h) (by omega))) (fun e173 => ?_)
    refine Rn.run 3 (ls' := [_, _, _, _, _]) (st' := [_, _]) rfl ?_
    refine Rn.aald rfl ⟨by decide, rfl, by decide, by decide⟩ (i) (x_wn (n := i) (by omega)) (by omega) (xR_txt hi).1 ?_
    refine Rn.run 1 (ls' := [_, _, _, _, _]) (st' := [_, _]) rfl ?_
    refine Rn.callV rfl (x_sv (xS_txt hi)) rfl rfl rfl (c55 hi i2) ?_
    refine Rn.run 3 (ls' := [_, _, _, _, _]) (st' := []) rfl ?_
    exact ih (i + 1) (dr6 c i s) (by omega) kk
theorem c99 {ex : xO} {d : Nat} {c : Nat → Nat → Int} {b : Bool} {n D T Mo : Nat} {kd bo wo L : Nat → Nat} (hP : pS n kd bo wo D T Mo L) (hc : cS c b n kd bo wo D T Mo L) (i1 : iRow c) (i2 : iTxt c) (hK : ∀ k, k < 3 → iKpt c n k) : An ex (d + 20) 99 5 [xA 0] (hp c b) (xL (dgs c n kd bo wo D T Mo L), hp c b) := by
  have hn := hP.1.1
  have hC := hc.1
  refine Rn.run 4 (ls' := [_, _, _, _, _]) (st' := []) rfl ?_
  refine l99a (d := d + 14) hP hc i1 i2 hK 12 0 17 rfl ?_
  refine Rn.run 2 (ls' := [_, _, _, _, _]) (st' := [_, _]) rfl ?_
  refine Rn.ge2 rfl (fun e9 => ?_) (fun e9 => absurd e9 (by decide))
  refine Rn.run 2 (ls' := [_, _, _, _, _]) (st' := []) rfl ?_
  refine l99b (d := d + 14) hc.2.1 hP.2.1 hc.2.2.2.1 8 0 _ rfl ?_
  refine Rn.run 2 (ls' := [_, _, _, _, _]) (st' := [_, _]) rfl ?_
  refine Rn.ge2 rfl (fun e36 => ?_) (fun e36 => absurd e36 (by decide))
  refine Rn.run 2 (ls' := [_, _, _, _, _]) (st' := []) rfl ?_
  refine l99d (d := d + 14) hP hc n 0 _ _ (Nat.zero_add n) (fun u => ?_)
  refine Rn.run 2 (ls' := [_, _, _, _, _]) (st' := [_, _]) rfl ?_
  refine Rn.getR rfl ⟨by decide, rfl, rfl⟩ (j := gid b) (rfl) ?_
  refine Rn.getI rfl (xS_g b) ?_
  rw [hC.1]
  refine Rn.ge2 rfl (fun e74 => ?_) (fun e74 => absurd e74 (by exact fun h => h ((y_ge (by omega) (by omega)).mpr (Nat.le_refl _))))
  refine Rn.run 2 (ls' := [_, _, _, _, _]) (st' := []) rfl ?_
  refine l99e (d := d + 14) 3 0 _ rfl ?_
  refine Rn.run 2 (ls' := [_, _, _, _, _]) (st' := [_, _]) rfl ?_
  refine Rn.ge2 rfl (fun e118 => ?_) (fun e118 => absurd e118 (by decide))
  refine Rn.run 2 (ls' := [_, _, _, _, _]) (st' := []) rfl ?_
  refine l99f (d := d + 14) i1 6 0 _ rfl ?_
  refine Rn.run 2 (ls' := [_, _, _, _, _]) (st' := [_, _]) rfl ?_
  refine Rn.ge2 rfl (fun e149 => ?_) (fun e149 => absurd e149 (by decide))
  refine Rn.run 2 (ls' := [_, _, _, _, _]) (st' := []) rfl ?_
  refine l99g (d := d + 14) i2 4 0 _ rfl ?_
  refine Rn.run 2 (ls' := [_, _, _, _, _]) (st' := [_, _]) rfl ?_
  refine Rn.ge2 rfl (fun e173 => ?_) (fun e173 => absurd e173 (by decide))
  refine Rn.run 1 (ls' := [_, _, _, _, _]) (st' := [_]) rfl ?_
  exact Rn.ret rfl rfl rfl rfl rfl rfl
