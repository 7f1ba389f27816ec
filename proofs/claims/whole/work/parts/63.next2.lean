-- next: the model
theorem l204a {ex : xO} {d : Nat} {c : Nat → Nat → Int} {b : Bool} {j r o ls many most : Nat} {bb : Int} {n : Nat} {p : Nat → Bool} {lo : Nat → Nat} (hn : n ≤ 6) (h0 : c 55 0 = (n : Nat)) (w1 : ∀ s, s < 2 ^ n → c 66 s = (if p s = true then 1 else 0)) (w2 : ∀ s, s < 2 ^ n → c 67 s = (lo s : Nat)) (l9 : ∀ s, s < 2 ^ n → lo s ≤ 9) {v : Nat} (hv : v < 10) {O : xV × xH} : ∀ (m s a : Nat), s + m = 2 ^ n → Rn ex xt204 (d + 1) 60 [xA 54, xI (j : Int), xI (r : Int), xI 0, xI bb, xI (ls : Int), xI (o : Int), xI (many : Int), xI (most : Nat), xI (v : Nat), xI ((xit (fc (fun s => p s && decide (lo s = v))) m s a) : Nat), xI ((2 ^ n) : Nat)] [] (hp c b) O → Rn ex xt204 (d + 1) 60 [xA 54, xI (j : Int), xI (r : Int), xI 0, xI bb, xI (ls : Int), xI (o : Int), xI (many : Int), xI (most : Nat), xI (v : Nat), xI (a : Nat), xI (s : Nat)] [] (hp c b) O := by
  have hp2 := pp64 hn
  intro m
  induction m with
  | zero =>
    intro s a hm kk
    obtain rfl : s = 2 ^ n := by omega
    exact kk
  | succ m ih =>
    intro s a hm kk
    have s64 : s < 64 := by omega
    have s31 : s < 2147483648 := by omega
    have in1 : ¬ w32 (((2 ^ n : Nat) : Int) - 1) < w32 (s : Int) := fun h => absurd ((z_all hn (by omega)).mp h) (by omega)
    have v1 := w1 s (by omega)
    have v2 := w2 s (by omega)
    have l9s := l9 s (by omega)
    have ev : (w32 ((lo s : Nat) : Int) = w32 (v : Int)) ↔ lo s = v := y_eq (by omega) (by omega)
    have q := ih (s + 1) (fc (fun s => p s && decide (lo s = v)) s a) (by omega) kk
    by_cases hx : p s = true
    · rw [if_pos hx] at v1
      by_cases hl : lo s = v
      · rw [show fc (fun s => p s && decide (lo s = v)) s a = a + 1 from congrArg (fun z => a + z) (if_pos (by simp [hx, hl]))] at q
        refine Rn.run 2 (ls' := [_, _, _, _, _, _, _, _, _, _, _, _]) (st' := [_, _]) rfl ?_
        refine Rn.call rfl rfl rfl rfl rfl (c163 hn h0) ?_
        refine Rn.gt2 rfl (fun e66 => absurd e66 (by exact in1)) (fun e66 => ?_)
        refine Rn.run 4 (ls' := [_, _, _, _, _, _, _, _, _, _, _, _]) (st' := [_, _, _]) rfl ?_
        refine Rn.bald rfl ⟨by decide, rfl, by decide⟩ (s) (x_wn s31) s64 ?_
        rw [v1]
        refine Rn.eq0 rfl (fun e78 => absurd e78 (by decide)) (fun e78 => ?_)
        refine Rn.run 3 (ls' := [_, _, _, _, _, _, _, _, _, _, _, _]) (st' := [_, _, _]) rfl ?_
        refine Rn.ald rfl ⟨by decide, rfl⟩ (s) (x_wn s31) s64 ?_
        rw [v2]
        refine Rn.run 1 (ls' := [_, _, _, _, _, _, _, _, _, _, _, _]) (st' := [_, _, _]) rfl ?_
        refine Rn.ne2 rfl (fun e90 => absurd e90 (by exact fun h => h (ev.mpr hl))) (fun e90 => ?_)
        refine Rn.run 6 (ls' := [_, _, _, _, _, _, _, _, _, _, _, _]) (st' := []) rfl ?_
        exact q
      · rw [show fc (fun s => p s && decide (lo s = v)) s a = a from congrArg (fun z => a + z) (if_neg (by simp [hl]))] at q
        refine Rn.run 2 (ls' := [_, _, _, _, _, _, _, _, _, _, _, _]) (st' := [_, _]) rfl ?_
        refine Rn.call rfl rfl rfl rfl rfl (c163 hn h0) ?_
        refine Rn.gt2 rfl (fun e66 => absurd e66 (by exact in1)) (fun e66 => ?_)
        refine Rn.run 4 (ls' := [_, _, _, _, _, _, _, _, _, _, _, _]) (st' := [_, _, _]) rfl ?_
        refine Rn.bald rfl ⟨by decide, rfl, by decide⟩ (s) (x_wn s31) s64 ?_
        rw [v1]
        refine Rn.eq0 rfl (fun e78 => absurd e78 (by decide)) (fun e78 => ?_)
        refine Rn.run 3 (ls' := [_, _, _, _, _, _, _, _, _, _, _, _]) (st' := [_, _, _]) rfl ?_
        refine Rn.ald rfl ⟨by decide, rfl⟩ (s) (x_wn s31) s64 ?_
        rw [v2]
        refine Rn.run 1 (ls' := [_, _, _, _, _, _, _, _, _, _, _, _]) (st' := [_, _, _]) rfl ?_
        refine Rn.ne2 rfl (fun e90 => ?_) (fun e90 => absurd e90 (by exact fun h => h (fun z => hl (ev.mp z))))
        refine Rn.run 5 (ls' := [_, _, _, _, _, _, _, _, _, _, _, _]) (st' := []) rfl ?_
        exact q
    · rw [if_neg hx] at v1
      rw [show fc (fun s => p s && decide (lo s = v)) s a = a from congrArg (fun z => a + z) (if_neg (by simp [hx]))] at q
      refine Rn.run 2 (ls' := [_, _, _, _, _, _, _, _, _, _, _, _]) (st' := [_, _]) rfl ?_
      refine Rn.call rfl rfl rfl rfl rfl (c163 hn h0) ?_
      refine Rn.gt2 rfl (fun e66 => absurd e66 (by exact in1)) (fun e66 => ?_)
      refine Rn.run 4 (ls' := [_, _, _, _, _, _, _, _, _, _, _, _]) (st' := [_, _, _]) rfl ?_
      refine Rn.bald rfl ⟨by decide, rfl, by decide⟩ (s) (x_wn s31) s64 ?_
      rw [v1]
      refine Rn.eq0 rfl (fun e78 => ?_) (fun e78 => absurd e78 (by decide))
      refine Rn.run 5 (ls' := [_, _, _, _, _, _, _, _, _, _, _, _]) (st' := []) rfl ?_
      exact q
theorem l204b {ex : xO} {d : Nat} {c : Nat → Nat → Int} {b : Bool} {j r o ls many : Nat} {bb : Int} {n : Nat} {p : Nat → Bool} {lo : Nat → Nat} (hn : n ≤ 6) (h0 : c 55 0 = (n : Nat)) (w1 : ∀ s, s < 2 ^ n → c 66 s = (if p s = true then 1 else 0)) (w2 : ∀ s, s < 2 ^ n → c 67 s = (lo s : Nat)) (l9 : ∀ s, s < 2 ^ n → lo s ≤ 9) {O : xV × xH} : ∀ (m v a : Nat) (u1 u2 : xV), v + m = 10 → a ≤ 64 → (v = 10 → Rn ex xt204 (d + 1) 47 [xA 54, xI (j : Int), xI (r : Int), xI 0, xI bb, xI (ls : Int), xI (o : Int), xI (many : Int), xI ((xit (fun v a => max a (pcn p lo (2 ^ n) v)) m v a) : Nat), xI (10 : Nat), u1, u2] [] (hp c b) O) → Rn ex xt204 (d + 1) 47 [xA 54, xI (j : Int), xI (r : Int), xI 0, xI bb, xI (ls : Int), xI (o : Int), xI (many : Int), xI ((xit (fun v a => max a (pcn p lo (2 ^ n) v)) m v a) : Nat), xI (10 : Nat), xI ((pcn p lo (2 ^ n) 9 : Nat) : Int), xI ((2 ^ n : Nat) : Int)] [] (hp c b) O → Rn ex xt204 (d + 1) 47 [xA 54, xI (j : Int), xI (r : Int), xI 0, xI bb, xI (ls : Int), xI (o : Int), xI (many : Int), xI (a : Nat), xI (v : Nat), u1, u2] [] (hp c b) O := by
  have hp2 := pp64 hn
  have hall := (z_all hn hp2).mpr (Nat.le_refl (2 ^ n))
  intro m
  induction m with
  | zero =>
    intro v a u1 u2 hm ha k0 kk
    obtain rfl : v = 10 := by omega
    exact k0 rfl
  | succ m ih =>
    intro v a u1 u2 hm ha k0 kk
    have vlt : v < 10 := by omega
    have v10 : ¬ w32 10 ≤ w32 (v : Int) := fun h => absurd ((y_ge (n := 10) (by omega) (by omega)).mp h) (by omega)
    have pl := pcn_le p lo (2 ^ n) v
    have e1 : (w32 ((pcn p lo (2 ^ n) v : Nat) : Int) ≤ w32 (a : Int)) ↔ pcn p lo (2 ^ n) v ≤ a := y_ge (by omega) (by omega)
    have q := ih (v + 1) (max a (pcn p lo (2 ^ n) v)) (xI ((pcn p lo (2 ^ n) v : Nat) : Int)) (xI ((2 ^ n : Nat) : Int)) (by omega) (by omega) (fun e => by have e9 : v = 9 := (by omega); subst e9; exact kk) kk
    by_cases hle : pcn p lo (2 ^ n) v ≤ a
    · rw [Nat.max_eq_left hle] at q
      refine Rn.run 2 (ls' := [_, _, _, _, _, _, _, _, _, _, _, _]) (st' := [_, _]) rfl ?_
      refine Rn.ge2 rfl (fun e51 => absurd e51 (by exact v10)) (fun e51 => ?_)
      refine Rn.run 4 (ls' := [_, _, _, _, _, _, _, _, _, _, _, _]) (st' := []) rfl ?_
      refine l204a hn h0 w1 w2 l9 vlt (2 ^ n) 0 0 (Nat.zero_add _) ?_
      rw [show xit (fc (fun s => p s && decide (lo s = v))) (2 ^ n) 0 0 = pcn p lo (2 ^ n) v from rfl]
      refine Rn.run 2 (ls' := [_, _, _, _, _, _, _, _, _, _, _, _]) (st' := [_, _]) rfl ?_
      refine Rn.call rfl rfl rfl rfl rfl (c163 hn h0) ?_
      refine Rn.gt2 rfl (fun e66 => ?_) (fun e66 => absurd e66 (by exact fun h => h hall))
      refine Rn.run 2 (ls' := [_, _, _, _, _, _, _, _, _, _, _, _]) (st' := [_, _]) rfl ?_
      refine Rn.le2 rfl (fun e111 => ?_) (fun e111 => absurd e111 (by exact fun h => h (e1.mpr hle)))
      refine Rn.run 4 (ls' := [_, _, _, _, _, _, _, _, _, _, _, _]) (st' := []) rfl ?_
      exact q
    · rw [Nat.max_eq_right (by omega)] at q
      refine Rn.run 2 (ls' := [_, _, _, _, _, _, _, _, _, _, _, _]) (st' := [_, _]) rfl ?_
      refine Rn.ge2 rfl (fun e51 => absurd e51 (by exact v10)) (fun e51 => ?_)
      refine Rn.run 4 (ls' := [_, _, _, _, _, _, _, _, _, _, _, _]) (st' := []) rfl ?_
      refine l204a hn h0 w1 w2 l9 vlt (2 ^ n) 0 0 (Nat.zero_add _) ?_
      rw [show xit (fc (fun s => p s && decide (lo s = v))) (2 ^ n) 0 0 = pcn p lo (2 ^ n) v from rfl]
      refine Rn.run 2 (ls' := [_, _, _, _, _, _, _, _, _, _, _, _]) (st' := [_, _]) rfl ?_
      refine Rn.call rfl rfl rfl rfl rfl (c163 hn h0) ?_
      refine Rn.gt2 rfl (fun e66 => ?_) (fun e66 => absurd e66 (by exact fun h => h hall))
      refine Rn.run 2 (ls' := [_, _, _, _, _, _, _, _, _, _, _, _]) (st' := [_, _]) rfl ?_
      refine Rn.le2 rfl (fun e111 => absurd e111 (by exact fun h => hle (e1.mp h))) (fun e111 => ?_)
      refine Rn.run 5 (ls' := [_, _, _, _, _, _, _, _, _, _, _, _]) (st' := []) rfl ?_
      exact q
theorem l204 {ex : xO} {d : Nat} {c : Nat → Nat → Int} {b : Bool} {n D T Mo : Nat} {kd bo wo L : Nat → Nat} (hP : pS n kd bo wo D T Mo L) (hm : mS c n kd bo wo D T Mo L) {r S : Nat} (hr : r < 6) (i1 : iRow c) (hS : c 56 r = (S : Nat)) {j : Nat} (hj : j < 8) : ∀ (m o : Nat) (c' : Nat → Nat → Int) (bb : Int) (ls : Nat) (u7 u8 u9 u10 u11 : xV), o + m = 8 → (-9 ≤ bb ∧ bb ≤ 7) → ls ≤ 1000000 → (∀ a k, a ≠ 63 → a ≠ 66 → a ≠ 67 → c' a k = c a k) → ∃ e, Rn ex xt204 (d + 8) 24 [xA 54, xI (j : Int), xI (r : Int), xI 0, xI bb, xI (ls : Int), xI (o : Int), u7, u8, u9, u10, u11] [] (hp c' b) (xI (xit (nms (fun o => mx10 (pcn (wfit c r S kd bo n L j) (fun s => mo kd bo n s S L o) (2 ^ n))) (cnt (wfit c r S kd bo n L j) (2 ^ n))) m o (bb, ls)).1, hp e b) ∧ ∀ a k, a ≠ 63 → a ≠ 66 → a ≠ 67 → e a k = (if (xit (nms (fun o => mx10 (pcn (wfit c r S kd bo n L j) (fun s => mo kd bo n s S L o) (2 ^ n))) (cnt (wfit c r S kd bo n L j) (2 ^ n))) m o (bb, ls)).1 = -9 then c a k else xup c 54 7 ((xit (nms (fun o => mx10 (pcn (wfit c r S kd bo n L j) (fun s => mo kd bo n s S L o) (2 ^ n))) (cnt (wfit c r S kd bo n L j) (2 ^ n))) m o (bb, ls)).2 : Nat) a k) := by
  obtain ⟨ho, h40, hT, h9, hMo⟩ := hP
  obtain ⟨hM, d29, t2, l55, m1⟩ := hm
  have hn := ho.1
  have hT6 := p64 hn hT
  have hp2 := pp64 hn
  intro m
  induction m with
  | zero =>
    intro o c' bb ls u7 u8 u9 u10 u11 hmo hb hl fr
    obtain rfl : o = 8 := by omega
    have wb : w32 bb = bb := x_w _ (by omega) (by omega)
    show ∃ e, Rn ex xt204 (d + 8) 24 [xA 54, xI (j : Int), xI (r : Int), xI 0, xI bb, xI (ls : Int), xI ((8 : Nat) : Int), u7, u8, u9, u10, u11] [] (hp c' b) (xI bb, hp e b) ∧ ∀ a k, a ≠ 63 → a ≠ 66 → a ≠ 67 → e a k = (if bb = -9 then c a k else xup c 54 7 (ls : Nat) a k)
    by_cases h9 : bb = -9
    · refine ⟨c', ?_, fun a k h1 h2 h3 => by rw [if_pos h9]; exact fr a k h1 h2 h3⟩
      refine Rn.run 2 (ls' := [_, _, _, _, _, _, _, _, _, _, _, _]) (st' := [_, _]) rfl ?_
      refine Rn.ge2 rfl (fun e28 => ?_) (fun e28 => absurd e28 (by decide))
      refine Rn.run 2 (ls' := [_, _, _, _, _, _, _, _, _, _, _, _]) (st' := [_, _]) rfl ?_
      refine Rn.ne2 rfl (fun e186 => absurd e186 (by rw [wb, h9]; decide)) (fun e186 => ?_)
      refine Rn.run 1 (ls' := [_, _, _, _, _, _, _, _, _, _, _, _]) (st' := [_]) rfl ?_
      exact Rn.ret rfl rfl rfl rfl (by rw [h9]) rfl
    · refine ⟨xup c' 54 7 (ls : Nat), ?_, fun a k h1 h2 h3 => ?_⟩
      · refine Rn.run 2 (ls' := [_, _, _, _, _, _, _, _, _, _, _, _]) (st' := [_, _]) rfl ?_
        refine Rn.ge2 rfl (fun e28 => ?_) (fun e28 => absurd e28 (by decide))
        refine Rn.run 2 (ls' := [_, _, _, _, _, _, _, _, _, _, _, _]) (st' := [_, _]) rfl ?_
        refine Rn.ne2 rfl (fun e186 => ?_) (fun e186 => absurd e186 (by rw [wb]; exact fun h => h h9))
        refine Rn.run 4 (ls' := [_, _, _, _, _, _, _, _, _, _, _, _]) (st' := [_]) rfl ?_
        exact Rn.ret rfl rfl rfl rfl rfl rfl
      · rw [if_neg h9]
        unfold xup
        rw [fr a k h1 h2 h3]
  | succ m ih =>
    intro o c' bb ls u7 u8 u9 u10 u11 hmo hb hl fr
    have hM' : mG c' n kd bo wo := mG_fr hn (fun k _ => fr 55 k (by decide) (by decide) (by decide)) hM
    have i1' : iRow c' := iRow_fr (fun a k ha => fr a k (by omega) (by omega) (by omega)) i1
    have hS' : c' 56 r = (S : Nat) := by rw [fr 56 r (by decide) (by decide) (by decide)]; exact hS
    have ew : wfit c' r S kd bo n L j = wfit c r S kd bo n L j := wfit_fr (fun k => fr 57 k (by decide) (by decide) (by decide))
    have l55' : ∀ j, j < 8 → c' 55 (3 + j) = (L j : Nat) := fun j hj => by rw [fr 55 _ (by decide) (by decide) (by decide)]; exact l55 j hj
    have o8 : o < 8 := by omega
    have o31 : ¬ w32 8 ≤ w32 (o : Int) := fun h => absurd ((y_ge (n := 8) (by omega) (by omega)).mp h) (by omega)
    obtain ⟨e1, q1, w1, w2, w3⟩ := c201 (ex := ex) (d := d + 1) (b := b) (o := o) ho hM' hr i1' hS' h9 hj o8 l55'
    rw [ew] at q1 w1
    have hM1 : mG e1 n kd bo wo := mG_fr hn (fun k _ => w3 55 k (by decide) (by decide) (by decide)) hM'
    have fr1 : ∀ a k, a ≠ 63 → a ≠ 66 → a ≠ 67 → e1 a k = c a k := fun a k h1 h2 h3 => by rw [w3 a k h1 h2 h3]; exact fr a k h1 h2 h3
    have lo9 : ∀ s, s < 2 ^ n → mo kd bo n s S L o ≤ 9 := fun s _ => ltr_9 (h9 o o8)
    have p64 := mx10_64 (wfit c r S kd bo n L j) (fun s => mo kd bo n s S L o) (i := 2 ^ n) hp2
    have ml := cnt_le (wfit c r S kd bo n L j) (2 ^ n)
    have m64x : cnt (wfit c r S kd bo n L j) (2 ^ n) ≤ 64 := Nat.le_trans ml hp2
    have hst : nms (fun o => mx10 (pcn (wfit c r S kd bo n L j) (fun s => mo kd bo n s S L o) (2 ^ n))) (cnt (wfit c r S kd bo n L j) (2 ^ n)) o (bb, ls) = if 0 < cnt (wfit c r S kd bo n L j) (2 ^ n) ∧ mx10 (pcn (wfit c r S kd bo n L j) (fun s => mo kd bo n s S L o) (2 ^ n)) < ls then ((o : Int), mx10 (pcn (wfit c r S kd bo n L j) (fun s => mo kd bo n s S L o) (2 ^ n))) else (bb, ls) := rfl
    rw [show xit (nms (fun o => mx10 (pcn (wfit c r S kd bo n L j) (fun s => mo kd bo n s S L o) (2 ^ n))) (cnt (wfit c r S kd bo n L j) (2 ^ n))) (m + 1) o (bb, ls) = xit (nms (fun o => mx10 (pcn (wfit c r S kd bo n L j) (fun s => mo kd bo n s S L o) (2 ^ n))) (cnt (wfit c r S kd bo n L j) (2 ^ n))) m (o + 1) (nms (fun o => mx10 (pcn (wfit c r S kd bo n L j) (fun s => mo kd bo n s S L o) (2 ^ n))) (cnt (wfit c r S kd bo n L j) (2 ^ n)) o (bb, ls)) from rfl, hst]
    have p31 : mx10 (pcn (wfit c r S kd bo n L j) (fun s => mo kd bo n s S L o) (2 ^ n)) < 2147483648 := Nat.lt_of_le_of_lt p64 (by decide)
    have m31 : cnt (wfit c r S kd bo n L j) (2 ^ n) < 2147483648 := Nat.lt_of_le_of_lt m64x (by decide)
    have l31 : ls < 2147483648 := Nat.lt_of_le_of_lt hl (by decide)
    by_cases hp0 : 0 < cnt (wfit c r S kd bo n L j) (2 ^ n)
    · by_cases hlt : mx10 (pcn (wfit c r S kd bo n L j) (fun s => mo kd bo n s S L o) (2 ^ n)) < ls
      · rw [if_pos ⟨hp0, hlt⟩]
        obtain ⟨e, q, f⟩ := ih (o + 1) e1 (o : Int) (mx10 (pcn (wfit c r S kd bo n L j) (fun s => mo kd bo n s S L o) (2 ^ n))) (xI ((cnt (wfit c r S kd bo n L j) (2 ^ n) : Nat) : Int)) (xI ((mx10 (pcn (wfit c r S kd bo n L j) (fun s => mo kd bo n s S L o) (2 ^ n)) : Nat) : Int)) (xI 1) (xI ((pcn (wfit c r S kd bo n L j) (fun s => mo kd bo n s S L o) (2 ^ n) 9 : Nat) : Int)) (xI ((2 ^ n : Nat) : Int)) (by omega) (by omega) (by omega) fr1
        refine ⟨e, ?_, f⟩
        refine Rn.run 2 (ls' := [_, _, _, _, _, _, _, _, _, _, _, _]) (st' := [_, _]) rfl ?_
        refine Rn.ge2 rfl (fun e28 => absurd e28 (by exact o31)) (fun e28 => ?_)
        refine Rn.run 4 (ls' := [_, _, _, _, _, _, _, _, _, _, _, _]) (st' := [_, _, _, _]) rfl ?_
        refine Rn.call rfl rfl rfl rfl rfl (q1) ?_
        refine Rn.run 5 (ls' := [_, _, _, _, _, _, _, _, _, _, _, _]) (st' := []) rfl ?_
        refine l204b (d := d + 7) (p := wfit c r S kd bo n L j) (lo := (fun s => mo kd bo n s S L o)) hn hM1.1 w1 w2 lo9 10 0 0 _ _ rfl (by decide) (fun e => absurd e (by decide)) ?_
        rw [show xit (fun v a => max a (pcn (wfit c r S kd bo n L j) (fun s => mo kd bo n s S L o) (2 ^ n) v)) 10 0 0 = mx10 (pcn (wfit c r S kd bo n L j) (fun s => mo kd bo n s S L o) (2 ^ n)) from rfl]
        refine Rn.run 2 (ls' := [_, _, _, _, _, _, _, _, _, _, _, _]) (st' := [_, _]) rfl ?_
        refine Rn.ge2 rfl (fun e51 => ?_) (fun e51 => absurd e51 (by decide))
        refine Rn.run 1 (ls' := [_, _, _, _, _, _, _, _, _, _, _, _]) (st' := [_]) rfl ?_
        refine Rn.le0 rfl (fun e131 => absurd e131 (by exact fun h => absurd ((z_le0 m31).mp h) (Nat.pos_iff_ne_zero.mp hp0))) (fun e131 => ?_)
        refine Rn.run 2 (ls' := [_, _, _, _, _, _, _, _, _, _, _, _]) (st' := [_, _]) rfl ?_
        refine Rn.ge2 rfl (fun e138 => absurd e138 (by exact fun h => absurd ((y_ge p31 l31).mp h) (Nat.not_le.mpr hlt))) (fun e138 => ?_)
        refine Rn.run 4 (ls' := [_, _, _, _, _, _, _, _, _, _, _, _]) (st' := [_]) rfl ?_
        refine Rn.eq0 rfl (fun e150 => absurd e150 (by decide)) (fun e150 => ?_)
        refine Rn.run 4 (ls' := [_, _, _, _, _, _, _, _, _, _, _, _]) (st' := [_]) rfl ?_
        refine Rn.eq0 rfl (fun e164 => absurd e164 (by decide)) (fun e164 => ?_)
        refine Rn.run 5 (ls' := [_, _, _, _, _, _, _, _, _, _, _, _]) (st' := []) rfl ?_
        exact q
      · rw [if_neg (fun z => hlt z.2)]
        obtain ⟨e, q, f⟩ := ih (o + 1) e1 bb ls (xI ((cnt (wfit c r S kd bo n L j) (2 ^ n) : Nat) : Int)) (xI ((mx10 (pcn (wfit c r S kd bo n L j) (fun s => mo kd bo n s S L o) (2 ^ n)) : Nat) : Int)) (xI 0) (xI ((pcn (wfit c r S kd bo n L j) (fun s => mo kd bo n s S L o) (2 ^ n) 9 : Nat) : Int)) (xI ((2 ^ n : Nat) : Int)) (by omega) hb hl fr1
        refine ⟨e, ?_, f⟩
        refine Rn.run 2 (ls' := [_, _, _, _, _, _, _, _, _, _, _, _]) (st' := [_, _]) rfl ?_
        refine Rn.ge2 rfl (fun e28 => absurd e28 (by exact o31)) (fun e28 => ?_)
        refine Rn.run 4 (ls' := [_, _, _, _, _, _, _, _, _, _, _, _]) (st' := [_, _, _, _]) rfl ?_
        refine Rn.call rfl rfl rfl rfl rfl (q1) ?_
        refine Rn.run 5 (ls' := [_, _, _, _, _, _, _, _, _, _, _, _]) (st' := []) rfl ?_
        refine l204b (d := d + 7) (p := wfit c r S kd bo n L j) (lo := (fun s => mo kd bo n s S L o)) hn hM1.1 w1 w2 lo9 10 0 0 _ _ rfl (by decide) (fun e => absurd e (by decide)) ?_
        rw [show xit (fun v a => max a (pcn (wfit c r S kd bo n L j) (fun s => mo kd bo n s S L o) (2 ^ n) v)) 10 0 0 = mx10 (pcn (wfit c r S kd bo n L j) (fun s => mo kd bo n s S L o) (2 ^ n)) from rfl]
        refine Rn.run 2 (ls' := [_, _, _, _, _, _, _, _, _, _, _, _]) (st' := [_, _]) rfl ?_
        refine Rn.ge2 rfl (fun e51 => ?_) (fun e51 => absurd e51 (by decide))
        refine Rn.run 1 (ls' := [_, _, _, _, _, _, _, _, _, _, _, _]) (st' := [_]) rfl ?_
        refine Rn.le0 rfl (fun e131 => absurd e131 (by exact fun h => absurd ((z_le0 m31).mp h) (Nat.pos_iff_ne_zero.mp hp0))) (fun e131 => ?_)
        refine Rn.run 2 (ls' := [_, _, _, _, _, _, _, _, _, _, _, _]) (st' := [_, _]) rfl ?_
        refine Rn.ge2 rfl (fun e138 => ?_) (fun e138 => absurd e138 (by exact fun h => h ((y_ge p31 l31).mpr (Nat.not_lt.mp hlt))))
        refine Rn.run 3 (ls' := [_, _, _, _, _, _, _, _, _, _, _, _]) (st' := [_]) rfl ?_
        refine Rn.eq0 rfl (fun e150 => ?_) (fun e150 => absurd e150 (by decide))
        refine Rn.run 3 (ls' := [_, _, _, _, _, _, _, _, _, _, _, _]) (st' := [_]) rfl ?_
        refine Rn.eq0 rfl (fun e164 => ?_) (fun e164 => absurd e164 (by decide))
        refine Rn.run 4 (ls' := [_, _, _, _, _, _, _, _, _, _, _, _]) (st' := []) rfl ?_
        exact q
    · rw [if_neg (fun z => hp0 z.1)]
      obtain ⟨e, q, f⟩ := ih (o + 1) e1 bb ls (xI ((cnt (wfit c r S kd bo n L j) (2 ^ n) : Nat) : Int)) (xI ((mx10 (pcn (wfit c r S kd bo n L j) (fun s => mo kd bo n s S L o) (2 ^ n)) : Nat) : Int)) (xI 0) (xI ((pcn (wfit c r S kd bo n L j) (fun s => mo kd bo n s S L o) (2 ^ n) 9 : Nat) : Int)) (xI ((2 ^ n : Nat) : Int)) (by omega) hb hl fr1
      refine ⟨e, ?_, f⟩
      refine Rn.run 2 (ls' := [_, _, _, _, _, _, _, _, _, _, _, _]) (st' := [_, _]) rfl ?_
      refine Rn.ge2 rfl (fun e28 => absurd e28 (by exact o31)) (fun e28 => ?_)
      refine Rn.run 4 (ls' := [_, _, _, _, _, _, _, _, _, _, _, _]) (st' := [_, _, _, _]) rfl ?_
      refine Rn.call rfl rfl rfl rfl rfl (q1) ?_
      refine Rn.run 5 (ls' := [_, _, _, _, _, _, _, _, _, _, _, _]) (st' := []) rfl ?_
      refine l204b (d := d + 7) (p := wfit c r S kd bo n L j) (lo := (fun s => mo kd bo n s S L o)) hn hM1.1 w1 w2 lo9 10 0 0 _ _ rfl (by decide) (fun e => absurd e (by decide)) ?_
      rw [show xit (fun v a => max a (pcn (wfit c r S kd bo n L j) (fun s => mo kd bo n s S L o) (2 ^ n) v)) 10 0 0 = mx10 (pcn (wfit c r S kd bo n L j) (fun s => mo kd bo n s S L o) (2 ^ n)) from rfl]
      refine Rn.run 2 (ls' := [_, _, _, _, _, _, _, _, _, _, _, _]) (st' := [_, _]) rfl ?_
      refine Rn.ge2 rfl (fun e51 => ?_) (fun e51 => absurd e51 (by decide))
      refine Rn.run 1 (ls' := [_, _, _, _, _, _, _, _, _, _, _, _]) (st' := [_]) rfl ?_
      refine Rn.le0 rfl (fun e131 => ?_) (fun e131 => absurd e131 (by exact fun h => h ((z_le0 m31).mpr (Nat.eq_zero_of_not_pos hp0))))
      refine Rn.run 3 (ls' := [_, _, _, _, _, _, _, _, _, _, _, _]) (st' := [_]) rfl ?_
      refine Rn.eq0 rfl (fun e150 => ?_) (fun e150 => absurd e150 (by decide))
      refine Rn.run 3 (ls' := [_, _, _, _, _, _, _, _, _, _, _, _]) (st' := [_]) rfl ?_
      refine Rn.eq0 rfl (fun e164 => ?_) (fun e164 => absurd e164 (by decide))
      refine Rn.run 4 (ls' := [_, _, _, _, _, _, _, _, _, _, _, _]) (st' := []) rfl ?_
      exact q
theorem k84_ok {ex : xO} {d : Nat} {c : Nat → Nat → Int} {b : Bool} {n D T Mo : Nat} {kd bo wo L : Nat → Nat} (hP : pS n kd bo wo D T Mo L) (hc : cS c b n kd bo wo D T Mo L) {r S : Nat} (hr : r < 6) (i1 : iRow c) (hS : c 56 r = (S : Nat)) {j : Nat} (hj : j < 8) (h0 : n ≠ 0) (hz : 1 ≤ S) (hg : S ≤ 10) (hf : alls (fq c r) S 0 = true) : ∃ e, An ex (d + 20) 84 8 [xA 0, xI (j : Int), xI (r : Int)] (hp c b) (xI (xit (ncs (fun o => mx10 (pcn (wfit c r S kd bo n L j) (fun s => mo kd bo n s S L o) (2 ^ n)))) 8 0 (-9, 0)).1, hp e b) ∧ ∀ a k, a ≠ 12 → e a k = (if (xit (ncs (fun o => mx10 (pcn (wfit c r S kd bo n L j) (fun s => mo kd bo n s S L o) (2 ^ n)))) 8 0 (-9, 0)).1 = -9 then c a k else xup c 0 10 ((xit (ncs (fun o => mx10 (pcn (wfit c r S kd bo n L j) (fun s => mo kd bo n s S L o) (2 ^ n)))) 8 0 (-9, 0)).2 : Nat) a k) := by
  obtain ⟨ho, h40, hT, h9, hMo⟩ := hP
  obtain ⟨hC, d7, t9, hL, m10⟩ := hc
  have hn := ho.1
  have hT6 := p64 hn hT
  obtain ⟨e, q, f⟩ := l84 (ex := ex) (d := d + 12) (b := b) ⟨ho, h40, hT, h9, hMo⟩ ⟨hC, d7, t9, hL, m10⟩ hr i1 hS hj hg 8 0 c (-9) 0 xU rfl (by decide) (by decide) (fun _ _ _ => rfl)
  refine ⟨e, ?_, f⟩
  refine Rn.run 3 (ls' := [_, _, _, _, _, _, _, _]) (st' := [_, _, _]) rfl ?_
  refine Rn.call rfl rfl rfl rfl rfl (k109_ok ⟨ho, h40, hT, h9, hMo⟩ ⟨hC, d7, t9, hL, m10⟩ hj h0 hr i1 hS hz hg hf) ?_
  refine Rn.run 2 (ls' := [_, _, _, _, _, _, _, _]) (st' := [_]) rfl ?_
  refine Rn.eq0 rfl (fun e8 => ?_) (fun e8 => absurd e8 (by decide))
  refine Rn.run 6 (ls' := [_, _, _, _, _, _, _, _]) (st' := []) rfl ?_
  exact q
theorem k204_ok {ex : xO} {d : Nat} {c : Nat → Nat → Int} {b : Bool} {n D T Mo : Nat} {kd bo wo L : Nat → Nat} (hP : pS n kd bo wo D T Mo L) (hm : mS c n kd bo wo D T Mo L) {r S : Nat} (hr : r < 6) (i1 : iRow c) (hS : c 56 r = (S : Nat)) {j : Nat} (hj : j < 8) (h0 : n ≠ 0) (hz : 1 ≤ S) (hg : S ≤ 10) (hf : alls (fq c r) S 0 = true) : ∃ e, An ex (d + 20) 204 12 [xA 54, xI (j : Int), xI (r : Int)] (hp c b) (xI (xit (nms (fun o => mx10 (pcn (wfit c r S kd bo n L j) (fun s => mo kd bo n s S L o) (2 ^ n))) (cnt (wfit c r S kd bo n L j) (2 ^ n))) 8 0 (-9, 1000000)).1, hp e b) ∧ ∀ a k, a ≠ 63 → a ≠ 66 → a ≠ 67 → e a k = (if (xit (nms (fun o => mx10 (pcn (wfit c r S kd bo n L j) (fun s => mo kd bo n s S L o) (2 ^ n))) (cnt (wfit c r S kd bo n L j) (2 ^ n))) 8 0 (-9, 1000000)).1 = -9 then c a k else xup c 54 7 ((xit (nms (fun o => mx10 (pcn (wfit c r S kd bo n L j) (fun s => mo kd bo n s S L o) (2 ^ n))) (cnt (wfit c r S kd bo n L j) (2 ^ n))) 8 0 (-9, 1000000)).2 : Nat) a k) := by
  obtain ⟨ho, h40, hT, h9, hMo⟩ := hP
  obtain ⟨hM, d29, t2, l55, m1⟩ := hm
  have hn := ho.1
  have hT6 := p64 hn hT
  obtain ⟨e, q, f⟩ := l204 (ex := ex) (d := d + 12) (b := b) ⟨ho, h40, hT, h9, hMo⟩ ⟨hM, d29, t2, l55, m1⟩ hr i1 hS hj 8 0 c (-9) 1000000 xU xU xU xU xU rfl (by decide) (by decide) (fun _ _ _ _ _ => rfl)
  refine ⟨e, ?_, f⟩
  refine Rn.run 3 (ls' := [_, _, _, _, _, _, _, _, _, _, _, _]) (st' := [_, _, _]) rfl ?_
  refine Rn.call rfl rfl rfl rfl rfl (k199_ok ⟨ho, h40, hT, h9, hMo⟩ ⟨hM, d29, t2, l55, m1⟩ hj h0 hr i1 hS hz hg hf) ?_
  refine Rn.run 2 (ls' := [_, _, _, _, _, _, _, _, _, _, _, _]) (st' := [_]) rfl ?_
  refine Rn.eq0 rfl (fun e8 => ?_) (fun e8 => absurd e8 (by decide))
  refine Rn.run 6 (ls' := [_, _, _, _, _, _, _, _, _, _, _, _]) (st' := []) rfl ?_
  exact q
theorem g_next {ex : xO} (a1 a2 : Int) (h1 : w32 a1 = a1) (h2 : w32 a2 = a2) : AgI ex 84 8 204 12 [xI a1, xI a2] := by
  intro d c b hI
  obtain ⟨n, kd, bo, wo, D, T, Mo, L, hP, hc, hm⟩ := Inv_St hI
  rcases gr_next (ex := ex) a1 a2 h1 h2 (d := d) hI hP hc hm with h | ⟨h0, j, r, S, hj, hr, rfl, rfl, hS, hz, hg, hf⟩
  · exact h
  · obtain ⟨e1, q1, f1⟩ := k84_ok (ex := ex) (d := d) (b := b) hP hc hr hI.1 hS hj h0 hz hg hf
    have hp2 := pp64 hP.1.1
    have fr : ∀ a k, a ≠ 12 → a ≠ 0 → e1 a k = c a k := fun a k h1 h2 => by
      rw [f1 a k h1]
      split
      · rfl
      · exact xup_n _ _ (Or.inl h2)
    obtain ⟨e2, q2, f2⟩ := k204_ok (ex := ex) (d := d) (b := b) hP (mS_fr (fun k => fr 55 k (by decide) (by decide)) hm) hr (iRow_fr (fun a k ha => fr a k (by omega) (by omega)) hI.1) (by rw [fr 56 r (by decide) (by decide)]; exact hS) hj h0 hz hg (by rw [show fq e1 r = fq c r by funext k; unfold fq; rw [fr 57 _ (by decide) (by decide)]]; exact hf)
    rw [wfit_fr (c := c) (c' := e1) (fun k => fr 57 k (by decide) (by decide))] at q2
    rw [wfit_fr (c := c) (c' := e1) (fun k => fr 57 k (by decide) (by decide))] at f2
    obtain ⟨x1, x2⟩ := ncm (pt := (fun o => mx10 (pcn (wfit c r S kd bo n L j) (fun s => mo kd bo n s S L o) (2 ^ n)))) (many := cnt (wfit c r S kd bo n L j) (2 ^ n)) (fun o _ => mx10_64 _ _ hp2) (fun o ho => pcn_pos (fun s _ => ltr_9 (hP.2.2.2.1 o ho))) 8 0 (-9, 0) (-9, 1000000) rfl rfl (Or.inl ⟨rfl, rfl⟩)
    refine ⟨_, _, e1, b, e2, b, q1, q2, by rw [x1], ?_⟩
    by_cases h9 : (xit (ncs (fun o => mx10 (pcn (wfit c r S kd bo n L j) (fun s => mo kd bo n s S L o) (2 ^ n)))) 8 0 (-9, 0)).1 = -9
    · refine Inv_scr (fun a k h => ?_) hI
      rw [f2 a k (fun z => h (by unfold scr; omega)) (fun z => h (by unfold scr; omega)) (fun z => h (by unfold scr; omega)), if_pos (x1 ▸ h9), f1 a k (fun z => h (by unfold scr; omega)), if_pos h9]
    · have e5 := (x2.resolve_left (fun z => h9 z.1)).2
      refine Inv_scr (fun a k h => ?_) (Inv_ask hI ((xit (ncs (fun o => mx10 (pcn (wfit c r S kd bo n L j) (fun s => mo kd bo n s S L o) (2 ^ n)))) 8 0 (-9, 0)).2 : Nat))
      rw [f2 a k (fun z => h (by unfold scr; omega)) (fun z => h (by unfold scr; omega)) (fun z => h (by unfold scr; omega)), if_neg (x1 ▸ h9), ← e5]
      unfold xup
      rw [f1 a k (fun z => h (by unfold scr; omega)), if_neg h9]
      rfl
