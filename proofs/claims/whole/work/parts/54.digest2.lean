-- digest: the model
def mI (c c' : Nat → Nat → Int) (s : Int) : Prop := c' 54 24 = s ∧ ∀ a k, a ≠ 63 → ¬ (a = 54 ∧ k = 24) → c' a k = c a k
theorem mI_mix {c c' : Nat → Nat → Int} {s v : Int} (h : mI c c' s) : mI c (xup c' 54 24 (31 * c' 54 24 + v)) (31 * s + v) := by
  obtain ⟨h1, h2⟩ := h
  exact ⟨by rw [xup_s, h1], fun a k h3 h4 => by rw [xup_n _ _ (by omega)]; exact h2 a k h3 h4⟩
theorem mI_lf {c c' : Nat → Nat → Int} {s : Int} {L : Nat → Nat} {w : Nat} (h : mI c c' s) : mI c (if w = 1 then lf c' L else c') s := by
  split
  · exact ⟨by rw [lf_out _ _ (by decide)]; exact h.1, fun a k h3 h4 => by rw [lf_out _ _ h3]; exact h.2 a k h3 h4⟩
  · exact h
theorem c233 {ex : xO} {d : Nat} {c : Nat → Nat → Int} {b : Bool} {v : Int} : An ex d 233 3 [xA 54, xL v] (hp c b) (xU, hp (xup c 54 24 (31 * c 54 24 + v)) b) := by
  refine Rn.run 8 (ls' := [_, _, _]) (st' := []) rfl ?_
  exact Rn.ret rfl rfl rfl rfl rfl rfl
theorem rws_fr {c c' : Nat → Nat → Int} (h : ∀ r, c' 56 r = c 56 r) : rws c' = rws c := cnt_congr (fun i _ => by rw [h])
theorem txs_fr {c c' : Nat → Nat → Int} (h : ∀ r, c' 58 r = c 58 r) : txs c' = txs c := cnt_congr (fun i _ => by rw [h])
theorem kps_fr {c c' : Nat → Nat → Int} (h : ∀ r, c' 55 r = c 55 r) : kps c' = kps c := cnt_congr (fun i _ => by rw [h])
theorem l234a {ex : xO} {d : Nat} {c : Nat → Nat → Int} {b : Bool} {n D T Mo : Nat} {kd bo wo L : Nat → Nat} (hP : pS n kd bo wo D T Mo L) (hm0 : mS c n kd bo wo D T Mo L) (i1 : iRow c) (i2 : iTxt c) (hK : ∀ k, k < 3 → iKpt c n k) {W : Int} {u : xV} : ∀ (m i : Nat) (c' : Nat → Nat → Int) (s : Int), i + m = 12 → mI c c' s → (∀ c2, mI c c2 (xit (dg1 n kd D T Mo L (rws c) (txs c) (kps c)) m i s) → ∃ e, Rn ex xt234 (d + 6) 9 [xA 54, xI ((12 : Nat) : Int), u] [] (hp c2 b) (xL W, hp e b) ∧ mI c e W) → ∃ e, Rn ex xt234 (d + 6) 9 [xA 54, xI (i : Int), u] [] (hp c' b) (xL W, hp e b) ∧ mI c e W := by
  intro m
  induction m with
  | zero =>
    intro i c' s hm hI kk
    obtain rfl : i = 12 := by omega
    exact kk c' hI
  | succ m ih =>
    intro i c' s hm hI kk
    have f55 : ∀ k, c' 55 k = c 55 k := fun k => hI.2 55 k (by decide) (by omega)
    have f56 : ∀ k, c' 56 k = c 56 k := fun k => hI.2 56 k (by decide) (by omega)
    have f58 : ∀ k, c' 58 k = c 58 k := fun k => hI.2 58 k (by decide) (by omega)
    have hm2 := mS_fr f55 hm0
    have j1 := iRow_fr (c' := c') (fun a k ha => hI.2 a k (by omega) (by omega)) i1
    have j2 := iTxt_fr (c' := c') (fun a k ha => hI.2 a k (by omega) (by omega)) i2
    have jK : ∀ k, k < 3 → iKpt c' n k := fun k hk => iKpt_fr hk (fun a k ha => hI.2 a k (by omega) (by omega)) (hK k hk)
    obtain ⟨e, r, q⟩ := ih (i + 1) (xup (if i = 1 then lf c' L else c') 54 24 (31 * (if i = 1 then lf c' L else c') 54 24 + w32 (cvl n kd D T Mo L (rws c) (txs c) (kps c) i : Nat))) _ (by omega) (mI_mix (mI_lf hI)) kk
    refine ⟨e, ?_, q⟩
    refine Rn.run 2 (ls' := [_, _, _]) (st' := [_, _]) rfl ?_
    refine Rn.ge2 rfl (fun e12 => absurd e12 (by exact fun h => absurd ((y_ge (n := 12) (by omega) (by omega)).mp h) (by omega))) (fun e12 => ?_)
    refine Rn.run 3 (ls' := [_, _, _]) (st' := [_, _, _]) rfl ?_
    refine Rn.call rfl rfl rfl rfl rfl (c230 hP hm2 j1 j2 jK (by omega)) ?_
    rw [rws_fr f56, txs_fr f58, kps_fr f55]
    refine Rn.run 1 (ls' := [_, _, _]) (st' := [_, _]) rfl ?_
    refine Rn.call rfl rfl rfl rfl rfl (c233) ?_
    refine Rn.run 2 (ls' := [_, _, _]) (st' := []) rfl ?_
    exact r
theorem l234b {ex : xO} {d : Nat} {c : Nat → Nat → Int} {b : Bool} {L : Nat → Nat} (l55 : ∀ j, j < 8 → c 55 (3 + j) = (L j : Nat)) {W : Int} {u : xV} : ∀ (m i : Nat) (c' : Nat → Nat → Int) (s : Int), i + m = 8 → mI c c' s → (∀ c2, mI c c2 (xit (dg2 L) m i s) → ∃ e, Rn ex xt234 (d + 6) 33 [xA 54, xI ((8 : Nat) : Int), u] [] (hp c2 b) (xL W, hp e b) ∧ mI c e W) → ∃ e, Rn ex xt234 (d + 6) 33 [xA 54, xI (i : Int), u] [] (hp c' b) (xL W, hp e b) ∧ mI c e W := by
  intro m
  induction m with
  | zero =>
    intro i c' s hm hI kk
    obtain rfl : i = 8 := by omega
    exact kk c' hI
  | succ m ih =>
    intro i c' s hm hI kk
    obtain ⟨e, r, q⟩ := ih (i + 1) (xup c' 54 24 (31 * c' 54 24 + w32 (L i : Nat))) _ (by omega) (mI_mix hI) kk
    refine ⟨e, ?_, q⟩
    refine Rn.run 2 (ls' := [_, _, _]) (st' := [_, _]) rfl ?_
    refine Rn.ge2 rfl (fun e36 => absurd e36 (by exact fun h => absurd ((y_ge (n := 8) (by omega) (by omega)).mp h) (by omega))) (fun e36 => ?_)
    refine Rn.run 6 (ls' := [_, _, _]) (st' := [_, _, _]) rfl ?_
    refine Rn.ald rfl ⟨by decide, rfl⟩ (3 + i) (x_wn (n := 3 + i) (by omega)) (by omega) ?_
    rw [hI.2 55 _ (by decide) (by omega), l55 i (by omega)]
    refine Rn.run 1 (ls' := [_, _, _]) (st' := [_, _]) rfl ?_
    refine Rn.call rfl rfl rfl rfl rfl (c233) ?_
    refine Rn.run 2 (ls' := [_, _, _]) (st' := []) rfl ?_
    exact r
theorem l234c {ex : xO} {d : Nat} {c : Nat → Nat → Int} {b : Bool} {n D T Mo : Nat} {kd bo wo L : Nat → Nat} (hP : pS n kd bo wo D T Mo L) (hm : mS c n kd bo wo D T Mo L) {i : Nat} (hi : i < n) {W : Int} : ∀ (m w : Nat) (c' : Nat → Nat → Int) (s : Int), w + m = 6 → mI c c' s → (∀ c2, mI c c2 (xit (dg3 kd bo wo n T L i) m w s) → ∃ e, Rn ex xt234 (d + 6) 72 [xA 54, xI (i : Int), xI ((6 : Nat) : Int)] [] (hp c2 b) (xL W, hp e b) ∧ mI c e W) → ∃ e, Rn ex xt234 (d + 6) 72 [xA 54, xI (i : Int), xI (w : Int)] [] (hp c' b) (xL W, hp e b) ∧ mI c e W := by
  intro m
  induction m with
  | zero =>
    intro w c' s hm2 hI kk
    obtain rfl : w = 6 := by omega
    exact kk c' hI
  | succ m ih =>
    intro w c' s hm2 hI kk
    have hm3 := mS_fr (c' := c') (fun k => hI.2 55 k (by decide) (by omega)) hm
    obtain ⟨e, r, q⟩ := ih (w + 1) (xup c' 54 24 (31 * c' 54 24 + w32 (fct kd bo wo n T L i w : Nat))) _ (by omega) (mI_mix hI) kk
    refine ⟨e, ?_, q⟩
    refine Rn.run 2 (ls' := [_, _, _]) (st' := [_, _]) rfl ?_
    refine Rn.ge2 rfl (fun e75 => absurd e75 (by exact fun h => absurd ((y_ge (n := 6) (by omega) (by omega)).mp h) (by omega))) (fun e75 => ?_)
    refine Rn.run 4 (ls' := [_, _, _]) (st' := [_, _, _, _]) rfl ?_
    refine Rn.call rfl rfl rfl rfl rfl (c174 hP hm3 hi (by omega)) ?_
    refine Rn.run 1 (ls' := [_, _, _]) (st' := [_, _]) rfl ?_
    refine Rn.call rfl rfl rfl rfl rfl (c233) ?_
    refine Rn.run 2 (ls' := [_, _, _]) (st' := []) rfl ?_
    exact r
theorem l234d {ex : xO} {d : Nat} {c : Nat → Nat → Int} {b : Bool} {n D T Mo : Nat} {kd bo wo L : Nat → Nat} (hP : pS n kd bo wo D T Mo L) (hm : mS c n kd bo wo D T Mo L) {W : Int} : ∀ (m i : Nat) (c' : Nat → Nat → Int) (s : Int) (u : xV), i + m = n → mI c c' s → (∀ c2 u, mI c c2 (xit (fun i h => xit (dg3 kd bo wo n T L i) 6 0 h) m i s) → ∃ e, Rn ex xt234 (d + 6) 60 [xA 54, xI (n : Int), u] [] (hp c2 b) (xL W, hp e b) ∧ mI c e W) → ∃ e, Rn ex xt234 (d + 6) 60 [xA 54, xI (i : Int), u] [] (hp c' b) (xL W, hp e b) ∧ mI c e W := by
  have hn := hP.1.1
  have hM := hm.1
  intro m
  induction m with
  | zero =>
    intro i c' s u hm2 hI kk
    obtain rfl : i = n := by omega
    exact kk c' u hI
  | succ m ih =>
    intro i c' s u hm2 hI kk
    have h1 := l234c (ex := ex) (d := d) (b := b) (W := W) hP hm (i := i) (by omega) 6 0 c' s rfl hI (fun c2 h2 => by
      obtain ⟨e, r, q⟩ := ih (i + 1) c2 _ (xI ((6 : Nat) : Int)) (by omega) h2 kk
      refine ⟨e, ?_, q⟩
      refine Rn.run 2 (ls' := [_, _, _]) (st' := [_, _]) rfl ?_
      refine Rn.ge2 rfl (fun e75 => ?_) (fun e75 => absurd e75 (by decide))
      refine Rn.run 2 (ls' := [_, _, _]) (st' := []) rfl ?_
      exact r)
    obtain ⟨e, r, q⟩ := h1
    refine ⟨e, ?_, q⟩
    refine Rn.run 4 (ls' := [_, _, _]) (st' := [_, _, _]) rfl ?_
    refine Rn.ald rfl ⟨by decide, rfl⟩ (0) rfl (by decide) ?_
    rw [hI.2 55 _ (by decide) (by omega), hM.1]
    refine Rn.ge2 rfl (fun e67 => absurd e67 (by exact fun h => absurd ((y_ge (by omega) (by omega)).mp h) (by omega))) (fun e67 => ?_)
    refine Rn.run 2 (ls' := [_, _, _]) (st' := []) rfl ?_
    exact r
theorem l234e {ex : xO} {d : Nat} {c : Nat → Nat → Int} {b : Bool} {n : Nat} (hn : n ≤ 6) (hK : ∀ k, k < 3 → iKpt c n k) {W : Int} {u : xV} : ∀ (m i : Nat) (c' : Nat → Nat → Int) (s : Int), i + m = 3 → mI c c' s → (∀ c2, mI c c2 (xit (dg4 c) m i s) → ∃ e, Rn ex xt234 (d + 6) 103 [xA 54, xI ((3 : Nat) : Int), u] [] (hp c2 b) (xL W, hp e b) ∧ mI c e W) → ∃ e, Rn ex xt234 (d + 6) 103 [xA 54, xI (i : Int), u] [] (hp c' b) (xL W, hp e b) ∧ mI c e W := by
  intro m
  induction m with
  | zero =>
    intro i c' s hm hI kk
    obtain rfl : i = 3 := by omega
    exact kk c' hI
  | succ m ih =>
    intro i c' s hm hI kk
    have f55 : ∀ k, c' 55 k = c 55 k := fun k => hI.2 55 k (by decide) (by omega)
    obtain ⟨e, r, q⟩ := ih (i + 1) (xup c' 54 24 (31 * c' 54 24 + w32 (c (42 + 4 * i) 0))) _ (by omega) (mI_mix hI) kk
    refine ⟨e, ?_, q⟩
    rcases hK i (by omega) with ⟨a1, a2⟩ | ⟨a1, a2, a3, ⟨E, b1, b2, b3, -⟩⟩
    · rw [a1] at r
      refine Rn.run 2 (ls' := [_, _, _]) (st' := [_, _]) rfl ?_
      refine Rn.ge2 rfl (fun e105 => absurd e105 (by exact fun h => absurd ((y_ge (n := 3) (by omega) (by omega)).mp h) (by omega))) (fun e105 => ?_)
      refine Rn.run 10 (ls' := [_, _, _]) (st' := [_, _, _]) rfl ?_
      refine Rn.ald rfl ⟨by decide, rfl⟩ (430 * (i + 1)) (by unfold w32; omega) (by omega) ?_
      rw [f55]
      refine Rn.ne0 rfl (fun e125 => absurd e125 (by rw [a2]; decide)) (fun e125 => ?_)
      refine Rn.run 2 (ls' := [_, _, _]) (st' := [_, _]) rfl ?_
      refine Rn.call rfl rfl rfl rfl rfl (c233) ?_
      refine Rn.run 2 (ls' := [_, _, _]) (st' := []) rfl ?_
      exact r
    · rw [b2, ← b3] at r
      have n0 : n ≠ 0 := by omega
      refine Rn.run 2 (ls' := [_, _, _]) (st' := [_, _]) rfl ?_
      refine Rn.ge2 rfl (fun e105 => absurd e105 (by exact fun h => absurd ((y_ge (n := 3) (by omega) (by omega)).mp h) (by omega))) (fun e105 => ?_)
      refine Rn.run 10 (ls' := [_, _, _]) (st' := [_, _, _]) rfl ?_
      refine Rn.ald rfl ⟨by decide, rfl⟩ (430 * (i + 1)) (by unfold w32; omega) (by omega) ?_
      rw [f55]
      refine Rn.ne0 rfl (fun e125 => ?_) (fun e125 => absurd e125 (by rw [a2]; exact fun h => h (z_ne0 n0 hn)))
      refine Rn.run 9 (ls' := [_, _, _]) (st' := [_, _, _]) rfl ?_
      refine Rn.ald rfl ⟨by decide, rfl⟩ (430 * (i + 1) + 29) (by unfold w32; omega) (by omega) ?_
      rw [f55]
      refine Rn.run 1 (ls' := [_, _, _]) (st' := [_, _]) rfl ?_
      refine Rn.call rfl rfl rfl rfl rfl (c233) ?_
      refine Rn.run 2 (ls' := [_, _, _]) (st' := []) rfl ?_
      exact r
theorem l234f2 {ex : xO} {d : Nat} {c : Nat → Nat → Int} {b : Bool} {r : Nat} (hr : r < 6) (i1 : iRow c) {W : Int} : ∀ (m k : Nat) (c' : Nat → Nat → Int) (s : Int), k + m = (c 56 r).toNat → mI c c' s → (∀ c2, mI c c2 (xit (dg5 c r) m k s) → ∃ e, Rn ex xt234 (d + 6) 182 [xA 54, xI (r : Int), xI (((c 56 r).toNat : Nat) : Int)] [] (hp c2 b) (xL W, hp e b) ∧ mI c e W) → ∃ e, Rn ex xt234 (d + 6) 182 [xA 54, xI (r : Int), xI (k : Int)] [] (hp c' b) (xL W, hp e b) ∧ mI c e W := by
  obtain ⟨-, h2, h3, -⟩ := i1 r hr
  intro m
  induction m with
  | zero =>
    intro k c' s hm hI kk
    obtain rfl : k = (c 56 r).toNat := by omega
    exact kk c' hI
  | succ m ih =>
    intro k c' s hm hI kk
    obtain ⟨e, rr, q⟩ := ih (k + 1) (xup c' 54 24 (31 * c' 54 24 + w32 (c 57 (40 * r + k)))) _ (by omega) (mI_mix hI) kk
    refine ⟨e, ?_, q⟩
    refine Rn.run 4 (ls' := [_, _, _]) (st' := [_, _, _]) rfl ?_
    refine Rn.ald rfl ⟨by decide, rfl⟩ (r) (x_wn (n := r) (by omega)) (by omega) ?_
    rw [hI.2 56 _ (by decide) (by omega)]
    refine Rn.ge2 rfl (fun e189 => absurd e189 (by exact fun h => absurd ((z_sz (by omega) (by omega) (by omega)).mp h) (by omega))) (fun e189 => ?_)
    refine Rn.run 8 (ls' := [_, _, _]) (st' := [_, _, _]) rfl ?_
    refine Rn.ald rfl ⟨by decide, rfl⟩ (40 * r + k) (x_wn (n := 40 * r + k) (by omega)) (by omega) ?_
    rw [hI.2 57 _ (by decide) (by omega)]
    refine Rn.run 1 (ls' := [_, _, _]) (st' := [_, _]) rfl ?_
    refine Rn.call rfl rfl rfl rfl rfl (c233) ?_
    refine Rn.run 2 (ls' := [_, _, _]) (st' := []) rfl ?_
    exact rr
theorem l234f {ex : xO} {d : Nat} {c : Nat → Nat → Int} {b : Bool} (i1 : iRow c) {W : Int} : ∀ (m i : Nat) (c' : Nat → Nat → Int) (s : Int) (u : xV), i + m = 6 → mI c c' s → (∀ c2 u, mI c c2 (xit (dr5 c) m i s) → ∃ e, Rn ex xt234 (d + 6) 163 [xA 54, xI ((6 : Nat) : Int), u] [] (hp c2 b) (xL W, hp e b) ∧ mI c e W) → ∃ e, Rn ex xt234 (d + 6) 163 [xA 54, xI (i : Int), u] [] (hp c' b) (xL W, hp e b) ∧ mI c e W := by
  intro m
  induction m with
  | zero =>
    intro i c' s u hm2 hI kk
    obtain rfl : i = 6 := by omega
    exact kk c' u hI
  | succ m ih =>
    intro i c' s u hm2 hI kk
    have hr : i < 6 := by omega
    obtain ⟨-, h2, h3, -⟩ := i1 i hr
    have h1 := l234f2 (ex := ex) (d := d) (b := b) (W := W) hr i1 (c 56 i).toNat 0 (xup c' 54 24 (31 * c' 54 24 + w32 (c 56 i))) _ (Nat.zero_add _) (mI_mix hI) (fun c2 h2 => by
      obtain ⟨e, r, q⟩ := ih (i + 1) c2 _ (xI (((c 56 i).toNat : Nat) : Int)) (by omega) h2 kk
      refine ⟨e, ?_, q⟩
      refine Rn.run 4 (ls' := [_, _, _]) (st' := [_, _, _]) rfl ?_
      refine Rn.ald rfl ⟨by decide, rfl⟩ (i) (x_wn (n := i) (by omega)) (by omega) ?_
      rw [h2.2 56 _ (by decide) (by omega)]
      refine Rn.ge2 rfl (fun e189 => ?_) (fun e189 => absurd e189 (by exact fun h => h ((z_sz (by omega) (by omega) (by omega)).mpr (Nat.le_refl _))))
      refine Rn.run 2 (ls' := [_, _, _]) (st' := []) rfl ?_
      exact r)
    obtain ⟨e, r, q⟩ := h1
    refine ⟨e, ?_, q⟩
    refine Rn.run 2 (ls' := [_, _, _]) (st' := [_, _]) rfl ?_
    refine Rn.ge2 rfl (fun e166 => absurd e166 (by exact fun h => absurd ((y_ge (n := 6) (by omega) (by omega)).mp h) (by omega))) (fun e166 => ?_)
    refine Rn.run 4 (ls' := [_, _, _]) (st' := [_, _, _]) rfl ?_
    refine Rn.ald rfl ⟨by decide, rfl⟩ (i) (x_wn (n := i) (by omega)) (by omega) ?_
    rw [hI.2 56 _ (by decide) (by omega)]
    refine Rn.run 1 (ls' := [_, _, _]) (st' := [_, _]) rfl ?_
    refine Rn.call rfl rfl rfl rfl rfl (c233) ?_
    refine Rn.run 2 (ls' := [_, _, _]) (st' := []) rfl ?_
    exact r
theorem l234h2 {ex : xO} {d : Nat} {c : Nat → Nat → Int} {b : Bool} {r : Nat} (hr : r < 4) (i1 : iTxt c) {W : Int} : ∀ (m k : Nat) (c' : Nat → Nat → Int) (s : Int), k + m = (c 58 r).toNat → mI c c' s → (∀ c2, mI c c2 (xit (dg6 c r) m k s) → ∃ e, Rn ex xt234 (d + 6) 240 [xA 54, xI (r : Int), xI (((c 58 r).toNat : Nat) : Int)] [] (hp c2 b) (xL W, hp e b) ∧ mI c e W) → ∃ e, Rn ex xt234 (d + 6) 240 [xA 54, xI (r : Int), xI (k : Int)] [] (hp c' b) (xL W, hp e b) ∧ mI c e W := by
  obtain ⟨-, h2, h3, -⟩ := i1 r hr
  intro m
  induction m with
  | zero =>
    intro k c' s hm hI kk
    obtain rfl : k = (c 58 r).toNat := by omega
    exact kk c' hI
  | succ m ih =>
    intro k c' s hm hI kk
    obtain ⟨e, rr, q⟩ := ih (k + 1) (xup c' 54 24 (31 * c' 54 24 + w32 (c 59 (60 * r + k)))) _ (by omega) (mI_mix hI) kk
    refine ⟨e, ?_, q⟩
    refine Rn.run 4 (ls' := [_, _, _]) (st' := [_, _, _]) rfl ?_
    refine Rn.ald rfl ⟨by decide, rfl⟩ (r) (x_wn (n := r) (by omega)) (by omega) ?_
    rw [hI.2 58 _ (by decide) (by omega)]
    refine Rn.ge2 rfl (fun e247 => absurd e247 (by exact fun h => absurd ((z_sz (by omega) (by omega) (by omega)).mp h) (by omega))) (fun e247 => ?_)
    refine Rn.run 8 (ls' := [_, _, _]) (st' := [_, _, _]) rfl ?_
    refine Rn.ald rfl ⟨by decide, rfl⟩ (60 * r + k) (x_wn (n := 60 * r + k) (by omega)) (by omega) ?_
    rw [hI.2 59 _ (by decide) (by omega)]
    refine Rn.run 1 (ls' := [_, _, _]) (st' := [_, _]) rfl ?_
    refine Rn.call rfl rfl rfl rfl rfl (c233) ?_
    refine Rn.run 2 (ls' := [_, _, _]) (st' := []) rfl ?_
    exact rr
theorem l234h {ex : xO} {d : Nat} {c : Nat → Nat → Int} {b : Bool} (i1 : iTxt c) {W : Int} : ∀ (m i : Nat) (c' : Nat → Nat → Int) (s : Int) (u : xV), i + m = 4 → mI c c' s → (∀ c2 u, mI c c2 (xit (dr6 c) m i s) → ∃ e, Rn ex xt234 (d + 6) 222 [xA 54, xI ((4 : Nat) : Int), u] [] (hp c2 b) (xL W, hp e b) ∧ mI c e W) → ∃ e, Rn ex xt234 (d + 6) 222 [xA 54, xI (i : Int), u] [] (hp c' b) (xL W, hp e b) ∧ mI c e W := by
  intro m
  induction m with
  | zero =>
    intro i c' s u hm2 hI kk
    obtain rfl : i = 4 := by omega
    exact kk c' u hI
  | succ m ih =>
    intro i c' s u hm2 hI kk
    have hr : i < 4 := by omega
    obtain ⟨-, h2, h3, -⟩ := i1 i hr
    have h1 := l234h2 (ex := ex) (d := d) (b := b) (W := W) hr i1 (c 58 i).toNat 0 (xup c' 54 24 (31 * c' 54 24 + w32 (c 58 i))) _ (Nat.zero_add _) (mI_mix hI) (fun c2 h2 => by
      obtain ⟨e, r, q⟩ := ih (i + 1) c2 _ (xI (((c 58 i).toNat : Nat) : Int)) (by omega) h2 kk
      refine ⟨e, ?_, q⟩
      refine Rn.run 4 (ls' := [_, _, _]) (st' := [_, _, _]) rfl ?_
      refine Rn.ald rfl ⟨by decide, rfl⟩ (i) (x_wn (n := i) (by omega)) (by omega) ?_
      rw [h2.2 58 _ (by decide) (by omega)]
      refine Rn.ge2 rfl (fun e247 => ?_) (fun e247 => absurd e247 (by exact fun h => h ((z_sz (by omega) (by omega) (by omega)).mpr (Nat.le_refl _))))
      refine Rn.run 2 (ls' := [_, _, _]) (st' := []) rfl ?_
      exact r)
    obtain ⟨e, r, q⟩ := h1
    refine ⟨e, ?_, q⟩
    refine Rn.run 2 (ls' := [_, _, _]) (st' := [_, _]) rfl ?_
    refine Rn.ge2 rfl (fun e224 => absurd e224 (by exact fun h => absurd ((y_ge (n := 4) (by omega) (by omega)).mp h) (by omega))) (fun e224 => ?_)
    refine Rn.run 4 (ls' := [_, _, _]) (st' := [_, _, _]) rfl ?_
    refine Rn.ald rfl ⟨by decide, rfl⟩ (i) (x_wn (n := i) (by omega)) (by omega) ?_
    rw [hI.2 58 _ (by decide) (by omega)]
    refine Rn.run 1 (ls' := [_, _, _]) (st' := [_, _]) rfl ?_
    refine Rn.call rfl rfl rfl rfl rfl (c233) ?_
    refine Rn.run 2 (ls' := [_, _, _]) (st' := []) rfl ?_
    exact r
theorem c234 {ex : xO} {d : Nat} {c : Nat → Nat → Int} {b : Bool} {n D T Mo : Nat} {kd bo wo L : Nat → Nat} (hP : pS n kd bo wo D T Mo L) (hm : mS c n kd bo wo D T Mo L) (i1 : iRow c) (i2 : iTxt c) (hK : ∀ k, k < 3 → iKpt c n k) : ∃ e, An ex (d + 20) 234 3 [xA 54] (hp c b) (xL (dgs c n kd bo wo D T Mo L), hp e b) ∧ mI c e (dgs c n kd bo wo D T Mo L) := by
  have hn := hP.1.1
  have hM := hm.1
  have s0 : mI c (xup c 54 24 17) 17 := ⟨xup_s _ _ _ _, fun a k h1 h2 => xup_n _ _ (by omega)⟩
  have main : ∃ e, Rn ex xt234 (d + 20) 9 [xA 54, xI ((0 : Nat) : Int), xU] [] (hp (xup c 54 24 17) b) (xL (dgs c n kd bo wo D T Mo L), hp e b) ∧ mI c e (dgs c n kd bo wo D T Mo L) := by
    refine l234a (d := d + 14) hP hm i1 i2 hK 12 0 _ _ rfl s0 (fun c1 q1 => ?_)
    have g1 := l234b (ex := ex) (d := d + 14) (b := b) (c := c) (W := dgs c n kd bo wo D T Mo L) (u := xU) hm.2.2.2.1 8 0 c1 _ rfl q1 (fun c2 q2 => ?_)
    · obtain ⟨e, r, q⟩ := g1
      refine ⟨e, ?_, q⟩
      refine Rn.run 2 (ls' := [_, _, _]) (st' := [_, _]) rfl ?_
      refine Rn.ge2 rfl (fun e12 => ?_) (fun e12 => absurd e12 (by decide))
      refine Rn.run 2 (ls' := [_, _, _]) (st' := []) rfl ?_
      exact r
    have g2 := l234d (ex := ex) (d := d + 14) (b := b) (c := c) (W := dgs c n kd bo wo D T Mo L) hP hm n 0 c2 _ xU (Nat.zero_add n) q2 (fun c3 u3 q3 => ?_)
    · obtain ⟨e, r, q⟩ := g2
      refine ⟨e, ?_, q⟩
      refine Rn.run 2 (ls' := [_, _, _]) (st' := [_, _]) rfl ?_
      refine Rn.ge2 rfl (fun e36 => ?_) (fun e36 => absurd e36 (by decide))
      refine Rn.run 2 (ls' := [_, _, _]) (st' := []) rfl ?_
      exact r
    have g3 := l234e (ex := ex) (d := d + 14) (b := b) (c := c) (W := dgs c n kd bo wo D T Mo L) (u := u3) hn hK 3 0 c3 _ rfl q3 (fun c4 q4 => ?_)
    · obtain ⟨e, r, q⟩ := g3
      refine ⟨e, ?_, q⟩
      refine Rn.run 4 (ls' := [_, _, _]) (st' := [_, _, _]) rfl ?_
      refine Rn.ald rfl ⟨by decide, rfl⟩ (0) rfl (by decide) ?_
      rw [q3.2 55 _ (by decide) (by omega), hM.1]
      refine Rn.ge2 rfl (fun e67 => ?_) (fun e67 => absurd e67 (by exact fun h => h ((y_ge (by omega) (by omega)).mpr (Nat.le_refl _))))
      refine Rn.run 2 (ls' := [_, _, _]) (st' := []) rfl ?_
      exact r
    have g4 := l234f (ex := ex) (d := d + 14) (b := b) (c := c) (W := dgs c n kd bo wo D T Mo L) i1 6 0 c4 _ u3 rfl q4 (fun c5 u5 q5 => ?_)
    · obtain ⟨e, r, q⟩ := g4
      refine ⟨e, ?_, q⟩
      refine Rn.run 2 (ls' := [_, _, _]) (st' := [_, _]) rfl ?_
      refine Rn.ge2 rfl (fun e105 => ?_) (fun e105 => absurd e105 (by decide))
      refine Rn.run 2 (ls' := [_, _, _]) (st' := []) rfl ?_
      exact r
    have g5 := l234h (ex := ex) (d := d + 14) (b := b) (c := c) (W := dgs c n kd bo wo D T Mo L) i2 4 0 c5 _ u5 rfl q5 (fun c6 u6 q6 => ?_)
    · obtain ⟨e, r, q⟩ := g5
      refine ⟨e, ?_, q⟩
      refine Rn.run 2 (ls' := [_, _, _]) (st' := [_, _]) rfl ?_
      refine Rn.ge2 rfl (fun e166 => ?_) (fun e166 => absurd e166 (by decide))
      refine Rn.run 2 (ls' := [_, _, _]) (st' := []) rfl ?_
      exact r
    refine ⟨c6, ?_, q6⟩
    refine Rn.run 2 (ls' := [_, _, _]) (st' := [_, _]) rfl ?_
    refine Rn.ge2 rfl (fun e224 => ?_) (fun e224 => absurd e224 (by decide))
    refine Rn.run 2 (ls' := [_, _, _]) (st' := [_]) rfl ?_
    rw [q6.1]
    exact Rn.ret rfl rfl rfl rfl rfl rfl
  obtain ⟨e, r, q⟩ := main
  refine ⟨e, ?_, q⟩
  refine Rn.run 5 (ls' := [_, _, _]) (st' := []) rfl ?_
  exact r
theorem g_digest {ex : xO} : AgL ex 99 5 234 3 [] := by
  intro d c b hI
  obtain ⟨n, kd, bo, wo, D, T, Mo, L, hP, hc, hm⟩ := Inv_St hI
  have hK : ∀ k, k < 3 → iKpt c n k := by
    obtain ⟨n', hG, -, hK⟩ := hI.2.2.2.2
    obtain rfl : n' = n := by have h1 := hG.2.2.1; have h2 := hc.1.1; omega
    exact hK
  obtain ⟨e, r, q⟩ := c234 (ex := ex) (d := d) (b := b) hP hm hI.1 hI.2.1 hK
  have hg := gid_in b
  exact ⟨_, _, c, b, e, b, c99 hP hc hI.1 hI.2.1 hK, r, rfl, Inv_fr (fun a k ha => q.2 a k (by omega) (by omega)) hI⟩
