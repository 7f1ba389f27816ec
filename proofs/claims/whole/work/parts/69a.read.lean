-- reading a text: what both sides read
def skp (bs : Nat → Int) : Nat → Nat → Nat
  | 0, q => q
  | m + 1, q => if bs q = 32 then skp bs m (q + 1) else q
def sk (S : Nat) (bs : Nat → Int) (q : Nat) : Nat := skp bs (S - q) q
theorem skp_in (bs : Nat → Int) : ∀ m q, q ≤ skp bs m q ∧ skp bs m q ≤ q + m := by
  intro m
  induction m with
  | zero => intro q; exact ⟨Nat.le_refl _, Nat.le_refl _⟩
  | succ m ih =>
    intro q
    have := ih (q + 1)
    unfold skp
    split <;> omega
theorem sk_le {S : Nat} (bs : Nat → Int) {q : Nat} (h : q ≤ S) : sk S bs q ≤ S := by
  have := skp_in bs (S - q) q
  unfold sk
  omega
def xlet (j : Nat) : Int := match j with
  | 0 => 100
  | 1 => 103
  | 2 => 102
  | 3 => 98
  | 4 => 115
  | _ => 107
def kk (z : Int) : Int := if z = 100 then 0 else if z = 103 then 1 else if z = 102 then 2 else if z = 98 then 3 else if z = 115 then 4 else if z = 107 then 5 else -1
theorem kk_in (z : Int) : kk z = -1 ∨ (0 ≤ kk z ∧ kk z ≤ 5) := by
  unfold kk
  repeat' split
  all_goals omega
/-- a figure up to hi stands at place q -/
def fgo (S : Nat) (bs : Nat → Int) (hi q : Nat) : Bool := decide (q < S ∧ 48 ≤ bs q ∧ bs q ≤ 48 + (hi : Int))
def fgv (bs : Nat → Int) (q : Nat) : Nat := (bs q - 48).toNat
theorem fg_in {S : Nat} {bs : Nat → Int} {hi q : Nat} (h : fgo S bs hi q = true) : q < S ∧ bs q - 48 = (fgv bs q : Nat) ∧ fgv bs q ≤ hi := by
  have h1 := of_decide_eq_true h
  unfold fgv
  omega
def prs (S : Nat) (bs : Nat → Int) : Nat → Nat → Nat → (Nat → Nat × Nat × Nat) → Int × Nat × (Nat → Nat × Nat × Nat)
  | 0, k, _, G => (-9, k, G)
  | m + 1, k, q, G => if q < S then (if k = 6 ∨ kk (bs q) = -1 then ((q : Int), k, G) else if ¬ fgo S bs 7 (q + 1) = true then (((q + 1 : Nat) : Int), k, G) else if ¬ fgo S bs 9 (q + 2) = true then (((q + 2 : Nat) : Int), k, G) else prs S bs m (k + 1) (sk S bs (q + 3)) (fun i => if i = k then ((kk (bs q)).toNat, fgv bs (q + 1), fgv bs (q + 2)) else G i)) else (if k = 0 then ((q : Int), k, G) else (-9, k, G))
def fbd (ok : Nat → Bool) : Nat → Nat → Nat
  | 0, i => i
  | m + 1, i => if ok i = true then fbd ok m (i + 1) else i
theorem fbd_in (ok : Nat → Bool) : ∀ m i, i ≤ fbd ok m i ∧ fbd ok m i ≤ i + m := by
  intro m
  induction m with
  | zero => intro i; exact ⟨Nat.le_refl _, Nat.le_refl _⟩
  | succ m ih =>
    intro i
    have := ih (i + 1)
    unfold fbd
    split <;> omega
theorem xup_up {α : Type} (f : Nat → Nat → α) (a j : Nat) (v w : α) : xup (xup f a j v) a j w = xup f a j w := by
  funext x y
  unfold xup
  by_cases h : x = a
  · simp only [h, if_true]
    by_cases h2 : y = j
    · simp [h2]
    · simp [h2]
  · simp [h]
def tx (c : Nat → Nat → Int) (t S : Nat) (bs : Nat → Int) : Prop := c (34 + 2 * t) 0 = (S : Nat) ∧ ∀ k, k < 60 → c (35 + 2 * t) k = bs k
theorem tx_fr {c c' : Nat → Nat → Int} {t S : Nat} {bs : Nat → Int} (ht : t < 4) (h : ∀ a k, 34 ≤ a ∧ a ≤ 41 → c' a k = c a k) (hx : tx c t S bs) : tx c' t S bs := ⟨by rw [h _ _ (by omega)]; exact hx.1, fun k hk => by rw [h _ _ (by omega)]; exact hx.2 k hk⟩
theorem tx_3 {c : Nat → Nat → Int} {t S : Nat} {bs : Nat → Int} {j : Nat} {v : Int} (ht : t < 4) (hx : tx c t S bs) : tx (xup c 3 j v) t S bs := tx_fr ht (fun a k ha => xup_n _ _ (by omega)) hx
theorem xR_d (b : Bool) : xR b (gid (!b)) 3 = some (gid (!b) + 1) ∧ xR b (gid (!b)) 4 = some (gid (!b) + 2) ∧ xR b (gid (!b)) 5 = some (gid (!b) + 3) := by cases b <;> exact ⟨rfl, rfl, rfl⟩
theorem Rn.xld {ex : xO} (hx : ex 1 = (6, xlet)) {t : xT} {d pc nx : Nat} {ls st : List xV} {h : xH} {o : xV × xH} {r : Nat × Nat × Nat × Nat × Nat × Int} {i : Int} (he : xfind t pc = some (.iaload, nx, r)) (k : Nat) (hi : w32 i = (k : Int)) (hk : k < 6) (kk : Rn ex t d nx ls (xI (xlet k) :: st) h o) : Rn ex t d pc ls (xI i :: xX 1 :: st) h o := by
  obtain ⟨r1, r2, r3, r4, r5, r6⟩ := r
  obtain ⟨K, S, F, sh, c, rf⟩ := h
  obtain ⟨h1, h2⟩ := x_ix hi hk
  refine Rn.A he (q := (nx, ls, xI (xlet k) :: st)) ?_ kk
  have h3 : xin i (ex 1).1 = true := by rw [hx]; exact h1
  simp only [xstA]
  rw [if_pos ⟨by decide, h3⟩, h2, hx]
def fk (z : Int) : Nat → Nat → Int
  | 0, _ => -9
  | m + 1, i => if xlet i = z then (i : Int) else fk z m (i + 1)
theorem fk_kk (z : Int) : fk z 6 0 = if kk z = -1 then -9 else kk z := by
  unfold kk
  simp only [fk, xlet]
  by_cases h0 : z = 100
  · subst h0; rfl
  · by_cases h1 : z = 103
    · subst h1; rfl
    · by_cases h2 : z = 102
      · subst h2; rfl
      · by_cases h3 : z = 98
        · subst h3; rfl
        · by_cases h4 : z = 115
          · subst h4; rfl
          · by_cases h5 : z = 107
            · subst h5; rfl
            · rw [if_neg (fun h => h0 h.symm), if_neg (fun h => h1 h.symm), if_neg (fun h => h2 h.symm), if_neg (fun h => h3 h.symm), if_neg (fun h => h4 h.symm), if_neg (fun h => h5 h.symm), if_neg h0, if_neg h1, if_neg h2, if_neg h3, if_neg h4, if_neg h5]
              rfl
theorem xlet_w : ∀ i, i < 6 → w32 (xlet i) = xlet i := by decide
theorem l27 {ex : xO} (hx : ex 1 = (6, xlet)) {d : Nat} {h : xH} {z : Int} (hz : w32 z = z) : ∀ (m i : Nat), i + m = 6 → Rn ex xt27 d 2 [xI z, xI (i : Int)] [] h (xI (fk z m i), h) := by
  intro m
  induction m with
  | zero =>
    intro i hm
    obtain rfl : i = 6 := by omega
    refine Rn.run 2 (ls' := [_, _]) (st' := [_, _]) rfl ?_
    refine Rn.ge2 rfl (fun e5 => ?_) (fun e5 => absurd e5 (by decide))
    refine Rn.run 1 (ls' := [_, _]) (st' := [_]) rfl ?_
    exact Rn.ret rfl rfl rfl rfl rfl rfl
  | succ m ih =>
    intro i hm
    have i6 : i < 6 := by omega
    have i31 : i < 2147483648 := by omega
    have li : ¬ w32 6 ≤ w32 (i : Int) := fun h => absurd ((y_ge (n := 6) (by omega) (by omega)).mp h) (by omega)
    have wl := xlet_w i i6
    by_cases hl : xlet i = z
    · rw [show fk z (m + 1) i = (i : Int) from if_pos hl]
      refine Rn.run 2 (ls' := [_, _]) (st' := [_, _]) rfl ?_
      refine Rn.ge2 rfl (fun e5 => absurd e5 (by exact li)) (fun e5 => ?_)
      refine Rn.run 2 (ls' := [_, _]) (st' := [_, _]) rfl ?_
      refine Rn.xld hx rfl i (x_wn i31) i6 ?_
      refine Rn.run 1 (ls' := [_, _]) (st' := [_, _]) rfl ?_
      refine Rn.ne2 rfl (fun e14 => absurd e14 (by rw [wl, hz]; exact fun h => h hl)) (fun e14 => ?_)
      refine Rn.run 1 (ls' := [_, _]) (st' := [_]) rfl ?_
      exact Rn.ret rfl rfl rfl rfl rfl rfl
    · rw [show fk z (m + 1) i = fk z m (i + 1) from if_neg hl]
      refine Rn.run 2 (ls' := [_, _]) (st' := [_, _]) rfl ?_
      refine Rn.ge2 rfl (fun e5 => absurd e5 (by exact li)) (fun e5 => ?_)
      refine Rn.run 2 (ls' := [_, _]) (st' := [_, _]) rfl ?_
      refine Rn.xld hx rfl i (x_wn i31) i6 ?_
      refine Rn.run 1 (ls' := [_, _]) (st' := [_, _]) rfl ?_
      refine Rn.ne2 rfl (fun e14 => ?_) (fun e14 => absurd e14 (by rw [wl, hz]; exact fun h => h hl))
      refine Rn.run 2 (ls' := [_, _]) (st' := []) rfl ?_
      exact ih (i + 1) (by omega)
theorem c27 {ex : xO} (hx : ex 1 = (6, xlet)) {d : Nat} {h : xH} {z : Int} (hz : w32 z = z) : An ex d 27 2 [xI z] h (xI (if kk z = -1 then -9 else kk z), h) := by
  rw [← fk_kk]
  refine Rn.run 2 (ls' := [_, _]) (st' := []) rfl ?_
  exact l27 hx hz 6 0 rfl
theorem l42 {ex : xO} {d : Nat} {b : Bool} {t S : Nat} (ht : t < 4) (S60 : S ≤ 60) {bs : Nat → Int} (hb : ∀ k, k < 60 → -128 ≤ bs k ∧ bs k < 128) : ∀ (m q : Nat) (c : Nat → Nat → Int), q + m = S → c 3 0 = (q : Nat) → tx c t S bs → Rn ex xt42 d 0 [xA 3, xA (34 + 2 * t)] [] (hp c b) (xU, hp (xup c 3 0 (skp bs m q : Nat)) b) := by
  intro m
  induction m with
  | zero =>
    intro q c hm h0 hx
    have q31 : q < 2147483648 := by omega
    have S31 : S < 2147483648 := by omega
    have sq : S ≤ q := by omega
    refine Rn.run 2 (ls' := [_, _]) (st' := [_]) rfl ?_
    rw [h0]
    refine Rn.run 1 (ls' := [_, _]) (st' := [_, _]) rfl ?_
    refine Rn.getI rfl (xS_txt ht) ?_
    rw [hx.1]
    refine Rn.ge2 rfl (fun e8 => ?_) (fun e8 => absurd e8 (by exact fun h => h ((y_ge q31 S31).mpr sq)))
    refine Rn.ret rfl rfl rfl rfl rfl ?_
    rw [show skp bs 0 q = q from rfl, ← h0, xup_id]
  | succ m ih =>
    intro q c hm h0 hx
    have q31 : q < 2147483648 := by omega
    have q60 : q < 60 := by omega
    have nq : ¬ w32 (S : Int) ≤ w32 (q : Int) := fun h => absurd ((y_ge (by omega) (by omega)).mp h) (by omega)
    have hbq := hb q q60
    have wb : w32 (bs q) = bs q := x_w _ (by omega) (by omega)
    by_cases h32 : bs q = 32
    · rw [show skp bs (m + 1) q = skp bs m (q + 1) from if_pos h32, ← xup_up c 3 0 ((q + 1 : Nat) : Int)]
      have r := ih (q + 1) (xup c 3 0 ((q + 1 : Nat) : Int)) (by omega) (xup_s _ _ _ _) (tx_3 ht hx)
      refine Rn.run 2 (ls' := [_, _]) (st' := [_]) rfl ?_
      rw [h0]
      refine Rn.run 1 (ls' := [_, _]) (st' := [_, _]) rfl ?_
      refine Rn.getI rfl (xS_txt ht) ?_
      rw [hx.1]
      refine Rn.ge2 rfl (fun e8 => absurd e8 (by exact nq)) (fun e8 => ?_)
      refine Rn.run 1 (ls' := [_, _]) (st' := [_]) rfl ?_
      refine Rn.getR rfl (xS_txt ht) (xR_txt ht).2 ?_
      refine Rn.run 2 (ls' := [_, _]) (st' := [_, _]) rfl ?_
      rw [h0]
      refine Rn.bald rfl ⟨(xS_by ht).1, (xS_by ht).2, by decide⟩ (q) (x_wn q31) q60 ?_
      rw [hx.2 q q60]
      refine Rn.run 1 (ls' := [_, _]) (st' := [_, _]) rfl ?_
      refine Rn.ne2 rfl (fun e22 => absurd e22 (by rw [wb]; exact fun h => h h32)) (fun e22 => ?_)
      refine Rn.run 3 (ls' := [_, _]) (st' := [_, _]) rfl ?_
      rw [h0]
      refine Rn.run 4 (ls' := [_, _]) (st' := []) rfl ?_
      exact r
    · rw [show skp bs (m + 1) q = q from if_neg h32]
      refine Rn.run 2 (ls' := [_, _]) (st' := [_]) rfl ?_
      rw [h0]
      refine Rn.run 1 (ls' := [_, _]) (st' := [_, _]) rfl ?_
      refine Rn.getI rfl (xS_txt ht) ?_
      rw [hx.1]
      refine Rn.ge2 rfl (fun e8 => absurd e8 (by exact nq)) (fun e8 => ?_)
      refine Rn.run 1 (ls' := [_, _]) (st' := [_]) rfl ?_
      refine Rn.getR rfl (xS_txt ht) (xR_txt ht).2 ?_
      refine Rn.run 2 (ls' := [_, _]) (st' := [_, _]) rfl ?_
      rw [h0]
      refine Rn.bald rfl ⟨(xS_by ht).1, (xS_by ht).2, by decide⟩ (q) (x_wn q31) q60 ?_
      rw [hx.2 q q60]
      refine Rn.run 1 (ls' := [_, _]) (st' := [_, _]) rfl ?_
      refine Rn.ne2 rfl (fun e22 => ?_) (fun e22 => absurd e22 (by rw [wb]; exact fun h => h h32))
      refine Rn.ret rfl rfl rfl rfl rfl ?_
      rw [← h0, xup_id]
theorem c42 {ex : xO} {d : Nat} {b : Bool} {c : Nat → Nat → Int} {t S : Nat} (ht : t < 4) (S60 : S ≤ 60) {bs : Nat → Int} (hb : ∀ k, k < 60 → -128 ≤ bs k ∧ bs k < 128) {q : Nat} (hq : q ≤ S) (h0 : c 3 0 = (q : Nat)) (hx : tx c t S bs) : An ex d 42 2 [xA 3, xA (34 + 2 * t)] (hp c b) (xU, hp (xup c 3 0 (sk S bs q : Nat)) b) := l42 ht S60 hb (S - q) q c (by omega) h0 hx
theorem c45_f {ex : xO} {d : Nat} {b : Bool} {c : Nat → Nat → Int} {t S : Nat} (ht : t < 4) (S60 : S ≤ 60) {bs : Nat → Int} (hb : ∀ k, k < 60 → -128 ≤ bs k ∧ bs k < 128) {hi f : Nat} (f31 : f < 2147483648) (h1 : c 3 1 = (f : Nat)) : An ex (d + 1) 45 4 [xA 3, xA (34 + 2 * t), xI (hi : Int)] (hp c b) (xI 0, hp c b) := by
  have e : ¬ w32 (f : Int) = w32 (-9) := by rw [x_wn f31, show w32 (-9) = -9 from rfl]; omega
  refine Rn.run 2 (ls' := [_, _, _, _]) (st' := [_]) rfl ?_
  rw [h1]
  refine Rn.run 1 (ls' := [_, _, _, _]) (st' := [_, _]) rfl ?_
  refine Rn.eq2 rfl (fun e6 => absurd e6 (by exact e)) (fun e6 => ?_)
  refine Rn.run 1 (ls' := [_, _, _, _]) (st' := [_]) rfl ?_
  exact Rn.ret rfl rfl rfl rfl rfl rfl
theorem c45_g {ex : xO} {d : Nat} {b : Bool} {c : Nat → Nat → Int} {t S : Nat} (ht : t < 4) (S60 : S ≤ 60) {bs : Nat → Int} (hb : ∀ k, k < 60 → -128 ≤ bs k ∧ bs k < 128) {hi q : Nat} (hi9 : hi ≤ 9) (hqS : q ≤ S) (h0 : c 3 0 = (q : Nat)) (h1 : c 3 1 = -9) (hx : tx c t S bs) (hg : fgo S bs hi q = true) : An ex (d + 1) 45 4 [xA 3, xA (34 + 2 * t), xI (hi : Int)] (hp c b) (xI ((fgv bs q : Nat) : Int), hp (xup c 3 0 ((q + 1 : Nat) : Int)) b) := by
  obtain ⟨qS, ev, le⟩ := fg_in hg
  have q31 : q < 2147483648 := by omega
  have q60 : q < 60 := by omega
  have nq : ¬ w32 (S : Int) ≤ w32 (q : Int) := fun h => absurd ((y_ge (by omega) (by omega)).mp h) (by omega)
  have vi : 0 ≤ w32 ((fgv bs q : Nat) : Int) ∧ w32 ((fgv bs q : Nat) : Int) < w32 ((hi + 1 : Nat) : Int) := z_in (by omega) (by omega)
  refine Rn.run 2 (ls' := [_, _, _, _]) (st' := [_]) rfl ?_
  rw [h1]
  refine Rn.run 1 (ls' := [_, _, _, _]) (st' := [_, _]) rfl ?_
  refine Rn.eq2 rfl (fun e6 => ?_) (fun e6 => absurd e6 (by exact fun h => h rfl))
  refine Rn.run 2 (ls' := [_, _, _, _]) (st' := [_]) rfl ?_
  rw [h0]
  refine Rn.run 1 (ls' := [_, _, _, _]) (st' := [_, _]) rfl ?_
  refine Rn.getI rfl (xS_txt ht) ?_
  rw [hx.1]
  refine Rn.ge2 rfl (fun e19 => absurd e19 (by exact nq)) (fun e19 => ?_)
  refine Rn.run 1 (ls' := [_, _, _, _]) (st' := [_]) rfl ?_
  refine Rn.getR rfl (xS_txt ht) (xR_txt ht).2 ?_
  refine Rn.run 2 (ls' := [_, _, _, _]) (st' := [_, _]) rfl ?_
  rw [h0]
  refine Rn.bald rfl ⟨(xS_by ht).1, (xS_by ht).2, by decide⟩ (q) (x_wn q31) q60 ?_
  rw [hx.2 q q60]
  refine Rn.run 2 (ls' := [_, _, _, _]) (st' := [_]) rfl ?_
  rw [ev]
  refine Rn.run 6 (ls' := [_, _, _, _]) (st' := [_, _]) rfl ?_
  refine Rn.call rfl rfl rfl rfl rfl (c100) ?_
  refine Rn.neB rfl (fun e47 => ?_) (fun e47 => absurd e47 (by exact fun h => h vi))
  refine Rn.run 3 (ls' := [_, _, _, _]) (st' := [_, _]) rfl ?_
  rw [h0]
  refine Rn.run 4 (ls' := [_, _, _, _]) (st' := [_]) rfl ?_
  exact Rn.ret rfl rfl rfl rfl rfl rfl
theorem c45_b {ex : xO} {d : Nat} {b : Bool} {c : Nat → Nat → Int} {t S : Nat} (ht : t < 4) (S60 : S ≤ 60) {bs : Nat → Int} (hb : ∀ k, k < 60 → -128 ≤ bs k ∧ bs k < 128) {hi q : Nat} (hi9 : hi ≤ 9) (hqS : q ≤ S) (h0 : c 3 0 = (q : Nat)) (h1 : c 3 1 = -9) (hx : tx c t S bs) (hg : ¬ fgo S bs hi q = true) : An ex (d + 1) 45 4 [xA 3, xA (34 + 2 * t), xI (hi : Int)] (hp c b) (xI 0, hp (xup c 3 1 (q : Nat)) b) := by
  have q31 : q < 2147483648 := by omega
  have S31 : S < 2147483648 := by omega
  have wh : w32 ((hi : Int) + 1) = (hi : Int) + 1 := x_w _ (by omega) (by omega)
  by_cases qS : q < S
  · have q60 : q < 60 := by omega
    have nq : ¬ w32 (S : Int) ≤ w32 (q : Int) := fun h => absurd ((y_ge (by omega) (by omega)).mp h) (by omega)
    have hbq := hb q q60
    have wv : w32 (bs q - 48) = bs q - 48 := x_w _ (by omega) (by omega)
    have vi : ¬ (0 ≤ w32 (bs q - 48) ∧ w32 (bs q - 48) < w32 ((hi : Int) + 1)) := by
      rw [wv, wh]
      exact fun z => hg (decide_eq_true ⟨qS, by omega, by omega⟩)
    refine Rn.run 2 (ls' := [_, _, _, _]) (st' := [_]) rfl ?_
    rw [h1]
    refine Rn.run 1 (ls' := [_, _, _, _]) (st' := [_, _]) rfl ?_
    refine Rn.eq2 rfl (fun e6 => ?_) (fun e6 => absurd e6 (by exact fun h => h rfl))
    refine Rn.run 2 (ls' := [_, _, _, _]) (st' := [_]) rfl ?_
    rw [h0]
    refine Rn.run 1 (ls' := [_, _, _, _]) (st' := [_, _]) rfl ?_
    refine Rn.getI rfl (xS_txt ht) ?_
    rw [hx.1]
    refine Rn.ge2 rfl (fun e19 => absurd e19 (by exact nq)) (fun e19 => ?_)
    refine Rn.run 1 (ls' := [_, _, _, _]) (st' := [_]) rfl ?_
    refine Rn.getR rfl (xS_txt ht) (xR_txt ht).2 ?_
    refine Rn.run 2 (ls' := [_, _, _, _]) (st' := [_, _]) rfl ?_
    rw [h0]
    refine Rn.bald rfl ⟨(xS_by ht).1, (xS_by ht).2, by decide⟩ (q) (x_wn q31) q60 ?_
    rw [hx.2 q q60]
    refine Rn.run 8 (ls' := [_, _, _, _]) (st' := [_, _]) rfl ?_
    refine Rn.call rfl rfl rfl rfl rfl (c100) ?_
    refine Rn.neB rfl (fun e47 => absurd e47 (by exact vi)) (fun e47 => ?_)
    refine Rn.run 3 (ls' := [_, _, _, _]) (st' := [_, _]) rfl ?_
    rw [h0]
    refine Rn.run 2 (ls' := [_, _, _, _]) (st' := [_]) rfl ?_
    exact Rn.ret rfl rfl rfl rfl rfl rfl
  · have vi : ¬ (0 ≤ w32 (-9) ∧ w32 (-9) < w32 ((hi : Int) + 1)) := fun z => absurd z.1 (by decide)
    refine Rn.run 2 (ls' := [_, _, _, _]) (st' := [_]) rfl ?_
    rw [h1]
    refine Rn.run 1 (ls' := [_, _, _, _]) (st' := [_, _]) rfl ?_
    refine Rn.eq2 rfl (fun e6 => ?_) (fun e6 => absurd e6 (by exact fun h => h rfl))
    refine Rn.run 2 (ls' := [_, _, _, _]) (st' := [_]) rfl ?_
    rw [h0]
    refine Rn.run 1 (ls' := [_, _, _, _]) (st' := [_, _]) rfl ?_
    refine Rn.getI rfl (xS_txt ht) ?_
    rw [hx.1]
    refine Rn.ge2 rfl (fun e19 => ?_) (fun e19 => absurd e19 (by exact fun h => h ((y_ge q31 S31).mpr (Nat.not_lt.mp qS))))
    refine Rn.run 6 (ls' := [_, _, _, _]) (st' := [_, _]) rfl ?_
    refine Rn.call rfl rfl rfl rfl rfl (c100) ?_
    refine Rn.neB rfl (fun e47 => absurd e47 (by exact vi)) (fun e47 => ?_)
    refine Rn.run 3 (ls' := [_, _, _, _]) (st' := [_, _]) rfl ?_
    rw [h0]
    refine Rn.run 2 (ls' := [_, _, _, _]) (st' := [_]) rfl ?_
    exact Rn.ret rfl rfl rfl rfl rfl rfl
