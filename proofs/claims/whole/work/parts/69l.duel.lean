-- duel: what it is, the class, the model's small methods
def bd (x : Int) : Prop := -1000000 ≤ x ∧ x ≤ 1000000
def mm (p : Bool) (a v : Int) : Int := if p = true then (if a < v then v else a) else (if v < a then v else a)
theorem bd_w {x : Int} (h : bd x) : w32 x = x := x_w x (by have := h.1; omega) (by have := h.2; omega)
theorem mm_t (a v : Int) : mm true a v = if a < v then v else a := rfl
theorem mm_f (a v : Int) : mm false a v = if v < a then v else a := rfl
theorem mm_bd {p : Bool} {a v : Int} (ha : bd a) (hv : bd v) : bd (mm p a v) := by
  cases p
  · rw [mm_f]; split
    · exact hv
    · exact ha
  · rw [mm_t]; split
    · exact hv
    · exact ha
theorem mm_c (p : Bool) (a x g : Int) : mm p (mm p a x) g = mm p (mm p a g) x := by
  cases p
  · simp only [mm_f]
    by_cases h1 : x < a <;> by_cases h2 : g < a <;> by_cases h3 : g < x <;> by_cases h4 : x < g <;> simp only [h1, h2, h3, h4, if_true, if_false, ite_true, ite_false] <;> omega
  · simp only [mm_t]
    by_cases h1 : a < x <;> by_cases h2 : a < g <;> by_cases h3 : g < x <;> by_cases h4 : x < g <;> simp only [h1, h2, h3, h4, if_true, if_false, ite_true, ite_false] <;> omega
def far (p : Bool) : Int := if p = true then -1000000 else 1000000
theorem far_bd (p : Bool) : bd (far p) := by cases p <;> (unfold far bd; decide)
theorem mm_far {p : Bool} {v : Int} (h : bd v) : mm p (far p) v = v := by
  have h1 := h.1
  have h2 := h.2
  cases p
  · rw [mm_f, show far false = 1000000 from rfl]
    by_cases q : v < 1000000
    · rw [if_pos q]
    · rw [if_neg q]; omega
  · rw [mm_t, show far true = -1000000 from rfl]
    by_cases q : -1000000 < v
    · rw [if_pos q]
    · rw [if_neg q]; omega
def ldf (p : Bool) (C : Nat → Bool) (g : Nat → Int) (i : Nat) (a : Int) : Int := if C i = true then mm p a (g i) else a
theorem ldf_c (p : Bool) (C : Nat → Bool) (g : Nat → Int) (x : Int) : ∀ w i a, xit (ldf p C g) w i (mm p a x) = mm p (xit (ldf p C g) w i a) x := by
  intro w
  induction w with
  | zero => intro i a; rfl
  | succ w ih =>
    intro i a
    have e : ldf p C g i (mm p a x) = mm p (ldf p C g i a) x := by
      unfold ldf
      by_cases h : C i = true
      · rw [if_pos h, if_pos h]; exact mm_c p a x (g i)
      · rw [if_neg h, if_neg h]
    rw [xit, xit, e]
    exact ih (i + 1) _
theorem ldf_bd {p : Bool} {C : Nat → Bool} {g : Nat → Int} {n : Nat} (hg : ∀ i, i < n → bd (g i)) : ∀ w i a, i + w = n → bd a → bd (xit (ldf p C g) w i a) := by
  intro w
  induction w with
  | zero => intro i a _ ha; exact ha
  | succ w ih =>
    intro i a hi ha
    refine ih (i + 1) _ (by omega) ?_
    unfold ldf
    by_cases h : C i = true
    · rw [if_pos h]; exact mm_bd ha (hg i (by omega))
    · rw [if_neg h]; exact ha
def ld (kd bo wo : Nat → Nat) (n : Nat) : Nat → Nat × (Nat → Nat) → Int
  | 0, t => ev8 (mo kd bo n t.1 1 t.2)
  | m + 1, t => xit (ldf (decide ((m + 1) % 2 = 0)) (can kd n t.1) (fun i => ld kd bo wo n m (t.1 ||| 2 ^ i, tl kd bo wo i t.2))) n 0 (ld kd bo wo n m t)
theorem fev_bd {L : Nat → Nat} (h : l9 L) : ∀ (m i : Nat) (a : Int), i + m ≤ 8 → a - 9 * (m : Int) ≤ xit (fev L) m i a ∧ xit (fev L) m i a ≤ a + 9 * (m : Int) := by
  intro m
  induction m with
  | zero => intro i a _; exact ⟨by show a - 9 * 0 ≤ a; omega, by show a ≤ a + 9 * 0; omega⟩
  | succ m ih =>
    intro i a hi
    have q := ih (i + 1) (fev L i a) (by omega)
    have l := h i (by omega)
    have f : a - 9 ≤ fev L i a ∧ fev L i a ≤ a + 9 := by
      unfold fev
      split <;> omega
    rw [xit]
    omega
theorem ev8_bd {L : Nat → Nat} (h : l9 L) : bd (ev8 L) := by
  have q := fev_bd h 8 0 0 (by omega)
  unfold ev8 bd
  omega
theorem ld_bd {n : Nat} {kd bo wo : Nat → Nat} (ho : gok n kd bo wo) : ∀ (m : Nat) (t : Nat × (Nat → Nat)), l9 t.2 → bd (ld kd bo wo n m t) := by
  intro m
  induction m with
  | zero => intro t h; exact ev8_bd (mo_9 h)
  | succ m ih =>
    intro t h
    exact ldf_bd (n := n) (fun i hi => ih _ (tl_9 (ho.2 i hi).2.2 (ho.2 i hi).2.1 h)) n 0 _ (Nat.zero_add n) (ih t h)
theorem ld_far {n : Nat} {kd bo wo : Nat → Nat} (ho : gok n kd bo wo) (m : Nat) (t : Nat × (Nat → Nat)) (h : l9 t.2) : mm (decide ((m + 1) % 2 = 0)) (xit (ldf (decide ((m + 1) % 2 = 0)) (can kd n t.1) (fun i => ld kd bo wo n m (t.1 ||| 2 ^ i, tl kd bo wo i t.2))) n 0 (far (decide ((m + 1) % 2 = 0)))) (ld kd bo wo n m t) = ld kd bo wo n (m + 1) t := by
  rw [← ldf_c, mm_far (ld_bd ho m t h)]
  rfl
theorem x_mx {a v : Int} (ha : bd a) (hv : bd v) : (if w32 a < w32 v then v else a) = mm true a v := by rw [bd_w ha, bd_w hv]; rfl
theorem x_mnn {a v : Int} (ha : bd a) (hv : bd v) : (if w32 v < w32 a then v else a) = mm false a v := by rw [bd_w ha, bd_w hv]; rfl
theorem l127 {ex : xO} {b : Bool} {c : Nat → Nat → Int} {n : Nat} {kd bo wo : Nat → Nat} (ho : gok n kd bo wo) (hC : cG c b n kd bo wo) {m d s : Nat} {X : Int} {L : Nat → Nat} {g : Nat → Int} (hs : s < 64) (hX : pk X L) (h9 : l9 L) (P : Bool) (ihc : ∀ i, i < n → An ex (d + m + 6) 127 8 [xA (gid b), xI (m : Int), xI (xwith X (bo i) (ans (kd i) (wo i) (L (bo i)))), xI ((s ||| 2 ^ i : Nat) : Int)] (hp c b) (xI (g i), hp c b)) (hg : ∀ i, i < n → bd (g i)) : ∀ (w i : Nat) (a : Int) (u : xV), i + w = n → bd a → Rn ex xt127 (d + m + 6 + 1) 42 [xA (gid b), xI ((m + 1 : Nat) : Int), xI X, xI (s : Int), xI (if P = true then 1 else 0), xI a, xI (i : Int), u] [] (hp c b) (xI (xit (ldf P (can kd n s) g) w i a), hp c b) := by
  have hn := ho.1
  have hg0 := gid_in b
  intro w
  induction w with
  | zero =>
    intro i a u hi ha
    obtain rfl : i = n := by omega
    have i31 : i < 2147483648 := by omega
    refine Rn.run 2 (ls' := [_, _, _, _, _, _, _, _]) (st' := [_, _]) rfl ?_
    refine Rn.getI rfl (xS_g b) ?_
    rw [hC.1]
    refine Rn.ge2 rfl (fun e48 => ?_) (fun e48 => absurd e48 (by exact fun h => h ((y_ge i31 i31).mpr (Nat.le_refl _))))
    refine Rn.run 1 (ls' := [_, _, _, _, _, _, _, _]) (st' := [_]) rfl ?_
    exact Rn.ret rfl rfl rfl rfl rfl rfl
  | succ w ihw =>
    intro i a u hi ha
    have iin : i < n := by omega
    have i6 : i < 6 := by omega
    have i31 : i < 2147483648 := by omega
    have n31 : n < 2147483648 := by omega
    have ni : ¬ w32 (n : Int) ≤ w32 (i : Int) := fun h => absurd ((y_ge i31 n31).mp h) (Nat.not_le.mpr iin)
    by_cases hk : can kd n s i = true
    · have q := ihw (i + 1) (mm P a (g i)) (xI (g i)) (by omega) (mm_bd ha (hg i iin))
      rw [xit, show ldf P (can kd n s) g i a = mm P a (g i) from if_pos hk]
      cases P with
      | true =>
        refine Rn.run 2 (ls' := [_, _, _, _, _, _, _, _]) (st' := [_, _]) rfl ?_
        refine Rn.getI rfl (xS_g b) ?_
        rw [hC.1]
        refine Rn.ge2 rfl (fun e48 => absurd e48 (by exact ni)) (fun e48 => ?_)
        refine Rn.run 3 (ls' := [_, _, _, _, _, _, _, _]) (st' := [_, _, _]) rfl ?_
        refine Rn.callV rfl (x_sv (xS_g b)) rfl rfl rfl (c21 ho hC iin hs) ?_
        refine Rn.eqB rfl (fun e58 => absurd e58 (by exact fun h => h hk)) (fun e58 => ?_)
        refine Rn.run 4 (ls' := [_, _, _, _, _, _, _, _]) (st' := [_, _]) rfl ?_
        rw [show ((m + 1 : Nat) : Int) - 1 = (m : Int) by omega]
        refine Rn.run 3 (ls' := [_, _, _, _, _, _, _, _]) (st' := [_, _, _, _, _]) rfl ?_
        refine Rn.callV rfl (x_sv (xS_g b)) rfl rfl rfl (c25 ho hC iin hX h9) ?_
        refine Rn.run 5 (ls' := [_, _, _, _, _, _, _, _]) (st' := [_, _, _, _]) rfl ?_
        rw [bt_add hs i6]
        refine Rn.call rfl rfl rfl rfl rfl (ihc i iin) ?_
        refine Rn.run 2 (ls' := [_, _, _, _, _, _, _, _]) (st' := [_]) rfl ?_
        refine Rn.eq0 rfl (fun e85 => absurd e85 (by decide)) (fun e85 => ?_)
        refine Rn.run 3 (ls' := [_, _, _, _, _, _, _, _]) (st' := [_]) rfl ?_
        rw [x_mx ha (hg i iin)]
        refine Rn.run 4 (ls' := [_, _, _, _, _, _, _, _]) (st' := []) rfl ?_
        exact q
      | false =>
        refine Rn.run 2 (ls' := [_, _, _, _, _, _, _, _]) (st' := [_, _]) rfl ?_
        refine Rn.getI rfl (xS_g b) ?_
        rw [hC.1]
        refine Rn.ge2 rfl (fun e48 => absurd e48 (by exact ni)) (fun e48 => ?_)
        refine Rn.run 3 (ls' := [_, _, _, _, _, _, _, _]) (st' := [_, _, _]) rfl ?_
        refine Rn.callV rfl (x_sv (xS_g b)) rfl rfl rfl (c21 ho hC iin hs) ?_
        refine Rn.eqB rfl (fun e58 => absurd e58 (by exact fun h => h hk)) (fun e58 => ?_)
        refine Rn.run 4 (ls' := [_, _, _, _, _, _, _, _]) (st' := [_, _]) rfl ?_
        rw [show ((m + 1 : Nat) : Int) - 1 = (m : Int) by omega]
        refine Rn.run 3 (ls' := [_, _, _, _, _, _, _, _]) (st' := [_, _, _, _, _]) rfl ?_
        refine Rn.callV rfl (x_sv (xS_g b)) rfl rfl rfl (c25 ho hC iin hX h9) ?_
        refine Rn.run 5 (ls' := [_, _, _, _, _, _, _, _]) (st' := [_, _, _, _]) rfl ?_
        rw [bt_add hs i6]
        refine Rn.call rfl rfl rfl rfl rfl (ihc i iin) ?_
        refine Rn.run 2 (ls' := [_, _, _, _, _, _, _, _]) (st' := [_]) rfl ?_
        refine Rn.eq0 rfl (fun e85 => ?_) (fun e85 => absurd e85 (by decide))
        refine Rn.run 3 (ls' := [_, _, _, _, _, _, _, _]) (st' := [_]) rfl ?_
        rw [x_mnn ha (hg i iin)]
        refine Rn.run 3 (ls' := [_, _, _, _, _, _, _, _]) (st' := []) rfl ?_
        exact q
    · have q := ihw (i + 1) a u (by omega) ha
      rw [xit, show ldf P (can kd n s) g i a = a from if_neg hk]
      refine Rn.run 2 (ls' := [_, _, _, _, _, _, _, _]) (st' := [_, _]) rfl ?_
      refine Rn.getI rfl (xS_g b) ?_
      rw [hC.1]
      refine Rn.ge2 rfl (fun e48 => absurd e48 (by exact ni)) (fun e48 => ?_)
      refine Rn.run 3 (ls' := [_, _, _, _, _, _, _, _]) (st' := [_, _, _]) rfl ?_
      refine Rn.callV rfl (x_sv (xS_g b)) rfl rfl rfl (c21 ho hC iin hs) ?_
      refine Rn.eqB rfl (fun e58 => ?_) (fun e58 => absurd e58 (by exact hk))
      refine Rn.run 2 (ls' := [_, _, _, _, _, _, _, _]) (st' := []) rfl ?_
      exact q
theorem c127 {ex : xO} {b : Bool} {c : Nat → Nat → Int} {n : Nat} {kd bo wo : Nat → Nat} (ho : gok n kd bo wo) (hC : cG c b n kd bo wo) : ∀ (m d s : Nat) (X : Int) (L : Nat → Nat), m ≤ 4 → s < 64 → pk X L → l9 L → An ex (d + m + 6) 127 8 [xA (gid b), xI (m : Int), xI X, xI (s : Int)] (hp c b) (xI (ld kd bo wo n m (s, L)), hp c b) := by
  have hg0 := gid_in b
  intro m
  induction m with
  | zero =>
    intro d s X L hm hs hX h9
    refine Rn.run 1 (ls' := [_, _, _, _, _, _, _, _]) (st' := [_]) rfl ?_
    refine Rn.gt0 rfl (fun e1 => absurd e1 (by decide)) (fun e1 => ?_)
    refine Rn.run 4 (ls' := [_, _, _, _, _, _, _, _]) (st' := [_, _, _, _]) rfl ?_
    refine Rn.callV rfl (x_sv (xS_g b)) rfl rfl rfl (c26 (k := 1) ho hC hs (by decide) hX h9) ?_
    refine Rn.call rfl rfl rfl rfl rfl (c3 (fbl_pk h9)) ?_
    exact Rn.ret rfl rfl rfl rfl rfl rfl
  | succ m ih =>
    intro d s X L hm hs hX h9
    have m131 : m + 1 < 2147483648 := by omega
    have m1k : m + 1 < 1000 := by omega
    have m0 : 0 < w32 ((m + 1 : Nat) : Int) := by rw [x_wn m131]; omega
    have q := l127 (ex := ex) ho hC (m := m) (d := d) (g := fun i => ld kd bo wo n m (s ||| 2 ^ i, tl kd bo wo i L)) hs hX h9 (decide ((m + 1) % 2 = 0)) (fun i hi => ih d (s ||| 2 ^ i) _ (tl kd bo wo i L) (by omega) (or64 hs (by have := ho.1; omega)) (pk_tl hX h9 (ho.2 i hi).2.2 (ho.2 i hi).2.1) (tl_9 (ho.2 i hi).2.2 (ho.2 i hi).2.1 h9)) (fun i hi => ld_bd ho m _ (tl_9 (ho.2 i hi).2.2 (ho.2 i hi).2.1 h9)) n 0 (ld kd bo wo n m (s, L)) xU (Nat.zero_add n) (ld_bd ho m _ h9)
    by_cases hp2 : (m + 1) % 2 = 0
    · rw [show (if decide ((m + 1) % 2 = 0) = true then (1 : Int) else 0) = 1 from if_pos (decide_eq_true hp2)] at q
      refine Rn.run 1 (ls' := [_, _, _, _, _, _, _, _]) (st' := [_]) rfl ?_
      refine Rn.gt0 rfl (fun e1 => ?_) (fun e1 => absurd e1 (by exact fun h => h m0))
      refine Rn.run 3 (ls' := [_, _, _, _, _, _, _, _]) (st' := [_]) rfl ?_
      refine Rn.ne0 rfl (fun e18 => absurd e18 (by exact fun h => h ((x_m2 m1k).mpr hp2))) (fun e18 => ?_)
      refine Rn.run 7 (ls' := [_, _, _, _, _, _, _, _]) (st' := [_, _]) rfl ?_
      rw [show ((m + 1 : Nat) : Int) - 1 = (m : Int) by omega]
      refine Rn.run 2 (ls' := [_, _, _, _, _, _, _, _]) (st' := [_, _, _, _]) rfl ?_
      refine Rn.call rfl rfl rfl rfl rfl (ih d s X L (by omega) hs hX h9) ?_
      refine Rn.run 3 (ls' := [_, _, _, _, _, _, _, _]) (st' := []) rfl ?_
      exact q
    · rw [show (if decide ((m + 1) % 2 = 0) = true then (1 : Int) else 0) = 0 from if_neg (by rw [decide_eq_true_iff]; exact hp2)] at q
      refine Rn.run 1 (ls' := [_, _, _, _, _, _, _, _]) (st' := [_]) rfl ?_
      refine Rn.gt0 rfl (fun e1 => ?_) (fun e1 => absurd e1 (by exact fun h => h m0))
      refine Rn.run 3 (ls' := [_, _, _, _, _, _, _, _]) (st' := [_]) rfl ?_
      refine Rn.ne0 rfl (fun e18 => ?_) (fun e18 => absurd e18 (by exact fun h => h (fun q => hp2 ((x_m2 m1k).mp q))))
      refine Rn.run 6 (ls' := [_, _, _, _, _, _, _, _]) (st' := [_, _]) rfl ?_
      rw [show ((m + 1 : Nat) : Int) - 1 = (m : Int) by omega]
      refine Rn.run 2 (ls' := [_, _, _, _, _, _, _, _]) (st' := [_, _, _, _]) rfl ?_
      refine Rn.call rfl rfl rfl rfl rfl (ih d s X L (by omega) hs hX h9) ?_
      refine Rn.run 3 (ls' := [_, _, _, _, _, _, _, _]) (st' := []) rfl ?_
      exact q
theorem l212 {ex : xO} {d : Nat} {b : Bool} {c : Nat → Nat → Int} {L : Nat → Nat} (hl : ∀ j, j < 8 → c 63 j = (L j : Nat)) : ∀ (m i : Nat) (a : Int), i + m = 8 → Rn ex xt212 d 4 [xA 54, xI a, xI (i : Int)] [] (hp c b) (xI (xit (fev L) m i a), hp c b) := by
  intro m
  induction m with
  | zero =>
    intro i a hm
    obtain rfl : i = 8 := by omega
    refine Rn.run 2 (ls' := [_, _, _]) (st' := [_, _]) rfl ?_
    refine Rn.ge2 rfl (fun e7 => ?_) (fun e7 => absurd e7 (by decide))
    refine Rn.run 1 (ls' := [_, _, _]) (st' := [_]) rfl ?_
    exact Rn.ret rfl rfl rfl rfl rfl rfl
  | succ m ih =>
    intro i a hm
    have i8 : i < 8 := by omega
    have i31 : i < 2147483648 := by omega
    have i1k : i < 1000 := by omega
    have n8 : ¬ w32 8 ≤ w32 (i : Int) := fun h => absurd ((y_ge (n := 8) i31 (by decide)).mp h) (Nat.not_le.mpr i8)
    refine Rn.run 2 (ls' := [_, _, _]) (st' := [_, _]) rfl ?_
    refine Rn.ge2 rfl (fun e7 => absurd e7 (by exact n8)) (fun e7 => ?_)
    refine Rn.run 4 (ls' := [_, _, _]) (st' := [_, _]) rfl ?_
    refine Rn.ne0 rfl (fun e14 => ?_) (fun e14 => ?_)
    · refine Rn.run 3 (ls' := [_, _, _]) (st' := [_, _, _]) rfl ?_
      refine Rn.ald rfl ⟨by decide, rfl⟩ (i) (x_wn i31) i8 ?_
      rw [hl i i8]
      refine Rn.run 5 (ls' := [_, _, _]) (st' := []) rfl ?_
      refine Rn.ls ?_ (ih (i + 1) (fev L i a) (by omega))
      first | (rw [show fev L i a = a + (L i : Int) from if_pos ((x_m2 i1k).mp (Classical.not_not.mp e14))]; rfl) | (rw [show fev L i a = a + -(L i : Int) from if_neg (fun q => e14 ((x_m2 i1k).mpr q))]; rfl)
    · refine Rn.run 3 (ls' := [_, _, _]) (st' := [_, _, _]) rfl ?_
      refine Rn.ald rfl ⟨by decide, rfl⟩ (i) (x_wn i31) i8 ?_
      rw [hl i i8]
      refine Rn.run 5 (ls' := [_, _, _]) (st' := []) rfl ?_
      refine Rn.ls ?_ (ih (i + 1) (fev L i a) (by omega))
      first | (rw [show fev L i a = a + (L i : Int) from if_pos ((x_m2 i1k).mp (Classical.not_not.mp e14))]; rfl) | (rw [show fev L i a = a + -(L i : Int) from if_neg (fun q => e14 ((x_m2 i1k).mpr q))]; rfl)
theorem c212 {ex : xO} {d : Nat} {b : Bool} {c : Nat → Nat → Int} {L : Nat → Nat} (hl : ∀ j, j < 8 → c 63 j = (L j : Nat)) : An ex d 212 3 [xA 54] (hp c b) (xI (ev8 L), hp c b) := by
  refine Rn.run 4 (ls' := [_, _, _]) (st' := []) rfl ?_
  exact l212 hl 8 0 0 rfl
def owf (kd bo wo : Nat → Nat) (n : Nat) (tr : Nat → Nat) (j : Nat) (t : Nat × (Nat → Nat)) : Nat × (Nat → Nat) := if tr j < n then osf kd bo wo tr j t else t
def osw (kd bo wo : Nat → Nat) (n T : Nat) (L tr : Nat → Nat) (k : Nat) : Nat × (Nat → Nat) := xit (owf kd bo wo n tr) k 0 (T, L)
theorem osw_s (kd bo wo : Nat → Nat) (n T : Nat) (L tr : Nat → Nat) (k i : Nat) : osw kd bo wo n T L (exn tr k i) (k + 1) = if i < n then ((osw kd bo wo n T L tr k).1 ||| 2 ^ i, tl kd bo wo i (osw kd bo wo n T L tr k).2) else osw kd bo wo n T L tr k := by
  have e : xit (owf kd bo wo n (exn tr k i)) k 0 (T, L) = xit (owf kd bo wo n tr) k 0 (T, L) := xit_congr k 0 _ (fun j t h1 h2 => by
    unfold owf osf exn
    rw [if_neg (show ¬ j = k by omega)])
  have ek : exn tr k i (0 + k) = i := if_pos (Nat.zero_add k)
  unfold osw
  rw [xit_l, e]
  unfold owf osf
  rw [ek]
theorem l213 {ex : xO} {d : Nat} {b : Bool} {c : Nat → Nat → Int} {n : Nat} {kd bo wo : Nat → Nat} (ho : gok n kd bo wo) (hM : mG c n kd bo wo) {k : Nat} {tr : Nat → Nat} (hk : k ≤ 4) (ht : ∀ j, j < k → c 70 j = (tr j : Nat) ∧ tr j ≤ n) : ∀ (m j s : Nat) (L : Nat → Nat) (u4 u5 : xV), j + m = k → s < 64 → l9 L → Rn ex xt213 (d + 3) 13 [xA 54, xI (k : Int), xI (s : Int), xI (j : Int), u4, u5] [] (hp (lf c L) b) (xI (((xit (owf kd bo wo n tr) m j (s, L)).1 : Nat) : Int), hp (lf c (xit (owf kd bo wo n tr) m j (s, L)).2) b) := by
  have hn := ho.1
  intro m
  induction m with
  | zero =>
    intro j s L u4 u5 hm hs h9
    have j31 : j < 2147483648 := by omega
    have k31 : k < 2147483648 := by omega
    refine Rn.run 2 (ls' := [_, _, _, _, _, _]) (st' := [_, _]) rfl ?_
    refine Rn.ge2 rfl (fun e15 => ?_) (fun e15 => absurd e15 (by exact fun h => h ((y_ge j31 k31).mpr (by omega))))
    refine Rn.run 1 (ls' := [_, _, _, _, _, _]) (st' := [_]) rfl ?_
    exact Rn.ret rfl rfl rfl rfl rfl rfl
  | succ m ih =>
    intro j s L u4 u5 hm hs h9
    obtain ⟨tj, tn0⟩ := ht j (by omega)
    have j31 : j < 2147483648 := by omega
    have k31 : k < 2147483648 := by omega
    have j5 : j < 5 := by omega
    have jk : j < k := by omega
    have n31 : n < 2147483648 := by omega
    have t31 : tr j < 2147483648 := by omega
    have nj : ¬ w32 (k : Int) ≤ w32 (j : Int) := fun h => absurd ((y_ge j31 k31).mp h) (Nat.not_le.mpr jk)
    by_cases tn : tr j < n
    · have t6 : tr j < 6 := by omega
      have h3 := ho.2 _ tn
      have b8 : bo (tr j) < 8 := by omega
      have b31 : bo (tr j) < 2147483648 := by omega
      have i31 : 17 + tr j < 2147483648 := by omega
      have i17 : 17 + tr j < 1720 := by omega
      have l9b := h9 _ b8
      have nt : ¬ w32 (n : Int) ≤ w32 (tr j : Int) := fun h => absurd ((y_ge t31 n31).mp h) (Nat.not_le.mpr tn)
      have q := ih (j + 1) (s ||| 2 ^ tr j) (tl kd bo wo (tr j) L) (xI ((tr j : Nat) : Int)) (xI ((bo (tr j) : Nat) : Int)) (by omega) (or64 hs t6) (tl_9 h3.2.2 h3.2.1 h9)
      rw [xit, show owf kd bo wo n tr j (s, L) = (s ||| 2 ^ tr j, tl kd bo wo (tr j) L) from if_pos tn]
      refine Rn.run 2 (ls' := [_, _, _, _, _, _]) (st' := [_, _]) rfl ?_
      refine Rn.ge2 rfl (fun e15 => absurd e15 (by exact nj)) (fun e15 => ?_)
      refine Rn.run 3 (ls' := [_, _, _, _, _, _]) (st' := [_, _]) rfl ?_
      refine Rn.ald rfl ⟨by decide, rfl⟩ (j) (x_wn j31) j5 ?_
      rw [lf_out _ _ (by decide), tj]
      refine Rn.run 5 (ls' := [_, _, _, _, _, _]) (st' := [_, _, _]) rfl ?_
      refine Rn.ald rfl ⟨by decide, rfl⟩ (0) rfl (by decide) ?_
      rw [lf_out _ _ (by decide), hM.1]
      refine Rn.ge2 rfl (fun e34 => absurd e34 (by exact nt)) (fun e34 => ?_)
      refine Rn.run 5 (ls' := [_, _, _, _, _, _]) (st' := [_, _]) rfl ?_
      refine Rn.ald rfl ⟨by decide, rfl⟩ (17 + tr j) (x_wn i31) i17 ?_
      rw [lf_out _ _ (by decide), (hM.2 _ tn).2.1]
      refine Rn.run 9 (ls' := [_, _, _, _, _, _]) (st' := [_, _, _, _, _, _]) rfl ?_
      refine Rn.ald rfl ⟨by decide, rfl⟩ (bo (tr j)) (x_wn b31) b8 ?_
      rw [lf_in _ _ b8]
      refine Rn.call rfl rfl rfl rfl rfl (c162 ho (mG_lf hM) tn l9b) ?_
      refine Rn.ast rfl ⟨by decide, rfl⟩ (bo (tr j)) (x_wn b31) b8 ?_
      rw [lf_up b8]
      refine Rn.run 5 (ls' := [_, _, _, _, _, _]) (st' := [_]) rfl ?_
      rw [bt_add hs t6]
      refine Rn.run 3 (ls' := [_, _, _, _, _, _]) (st' := []) rfl ?_
      exact q
    · have q := ih (j + 1) s L (xI ((tr j : Nat) : Int)) u5 (by omega) hs h9
      rw [xit, show owf kd bo wo n tr j (s, L) = (s, L) from if_neg tn]
      refine Rn.run 2 (ls' := [_, _, _, _, _, _]) (st' := [_, _]) rfl ?_
      refine Rn.ge2 rfl (fun e15 => absurd e15 (by exact nj)) (fun e15 => ?_)
      refine Rn.run 3 (ls' := [_, _, _, _, _, _]) (st' := [_, _]) rfl ?_
      refine Rn.ald rfl ⟨by decide, rfl⟩ (j) (x_wn j31) j5 ?_
      rw [lf_out _ _ (by decide), tj]
      refine Rn.run 5 (ls' := [_, _, _, _, _, _]) (st' := [_, _, _]) rfl ?_
      refine Rn.ald rfl ⟨by decide, rfl⟩ (0) rfl (by decide) ?_
      rw [lf_out _ _ (by decide), hM.1]
      refine Rn.ge2 rfl (fun e34 => ?_) (fun e34 => absurd e34 (by exact fun h => h ((y_ge t31 n31).mpr (Nat.not_lt.mp tn))))
      refine Rn.run 2 (ls' := [_, _, _, _, _, _]) (st' := []) rfl ?_
      exact q
theorem c213 {ex : xO} {d : Nat} {b : Bool} {c : Nat → Nat → Int} {n : Nat} {kd bo wo : Nat → Nat} (ho : gok n kd bo wo) (hM : mG c n kd bo wo) {T k : Nat} {L tr : Nat → Nat} (t2 : c 55 2 = (T : Nat)) (l55 : ∀ j, j < 8 → c 55 (3 + j) = (L j : Nat)) (hT : T < 64) (h9 : l9 L) (hk : k ≤ 4) (ht : ∀ j, j < k → c 70 j = (tr j : Nat) ∧ tr j ≤ n) : An ex (d + 3) 213 6 [xA 54, xI (k : Int)] (hp c b) (xI (((osw kd bo wo n T L tr k).1 : Nat) : Int), hp (lf c (osw kd bo wo n T L tr k).2) b) := by
  refine Rn.run 1 (ls' := [_, _, _, _, _, _]) (st' := [_]) rfl ?_
  refine Rn.call rfl rfl rfl rfl rfl (c168 l55) ?_
  refine Rn.run 3 (ls' := [_, _, _, _, _, _]) (st' := [_, _]) rfl ?_
  refine Rn.ald rfl ⟨by decide, rfl⟩ (2) rfl (by decide) ?_
  rw [lf_out _ _ (by decide), t2]
  refine Rn.run 3 (ls' := [_, _, _, _, _, _]) (st' := []) rfl ?_
  exact l213 ho hM hk ht k 0 T L _ _ (Nat.zero_add k) hT h9
