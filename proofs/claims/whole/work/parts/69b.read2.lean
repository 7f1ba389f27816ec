-- reading a text: the class
def ok9 (S : Nat) (bs : Nat → Int) (q j : Nat) : Bool := fgo S bs 9 (q + 1 + j)
def trr (S : Nat) (bs : Nat → Int) (q : Nat) : Int := if q < S ∧ bs q = 116 then (if fbd (ok9 S bs q) 8 0 = 8 then -9 else ((q + 1 + fbd (ok9 S bs q) 8 0 : Nat) : Int)) else (q : Int)
theorem gd_in (b : Bool) : gid (!b) = 14 ∨ gid (!b) = 18 := gid_in (!b)
theorem pk_cg {x : Int} {L L' : Nat → Nat} (h : pk x L) (e : ∀ j, j < 8 → L j = L' j) : pk x L' := fun j hj => by rw [← e j hj]; exact h j hj
def Lp (bs : Nat → Int) (q i : Nat) : Nat → Nat := fun j => if j < i then fgv bs (q + 1 + j) else 0
theorem l43b {ex : xO} {d : Nat} {b : Bool} {t S : Nat} (ht : t < 4) (S60 : S ≤ 60) {bs : Nat → Int} (hb : ∀ k, k < 60 → -128 ≤ bs k ∧ bs k < 128) {f : Nat} (f31 : f < 2147483648) : ∀ (m i : Nat) (c : Nat → Nat → Int), i + m = 8 → c 3 1 = (f : Nat) → ∃ e, Rn ex xt43 (d + 2) 46 [xA 3, xA (34 + 2 * t), xA (gid (!b)), xI (i : Int)] [] (hp c b) (xU, hp e b) ∧ ∀ a z, ¬ (a = gid (!b) ∧ z = 1) → e a z = c a z := by
  have hg := gd_in b
  intro m
  induction m with
  | zero =>
    intro i c hm h1
    obtain rfl : i = 8 := by omega
    refine ⟨c, ?_, fun _ _ _ => rfl⟩
    refine Rn.run 2 (ls' := [_, _, _, _]) (st' := [_, _]) rfl ?_
    refine Rn.ge2 rfl (fun e49 => ?_) (fun e49 => absurd e49 (by decide))
    exact Rn.ret rfl rfl rfl rfl rfl rfl
  | succ m ih =>
    intro i c hm h1
    have i8 : ¬ w32 8 ≤ w32 (i : Int) := fun h => absurd ((y_ge (n := 8) (by omega) (by omega)).mp h) (by omega)
    obtain ⟨e, r, fr⟩ := ih (i + 1) (xup c (gid (!b)) 1 (xwith (c (gid (!b)) 1) i 0)) (by omega) (by rw [xup_n _ _ (by omega)]; exact h1)
    refine ⟨e, ?_, fun a z h => by rw [fr a z h, xup_n _ _ (by omega)]⟩
    refine Rn.run 2 (ls' := [_, _, _, _]) (st' := [_, _]) rfl ?_
    refine Rn.ge2 rfl (fun e49 => absurd e49 (by exact i8)) (fun e49 => ?_)
    refine Rn.run 2 (ls' := [_, _, _, _]) (st' := [_, _]) rfl ?_
    refine Rn.getI rfl (xS_g (!b)) ?_
    refine Rn.run 4 (ls' := [_, _, _, _]) (st' := [_, _, _, _, _, _]) rfl ?_
    refine Rn.call rfl rfl rfl rfl rfl (c45_f (hi := 9) ht S60 hb f31 h1) ?_
    refine Rn.call rfl rfl rfl rfl rfl (c1) ?_
    refine Rn.putI rfl (xS_g (!b)) ?_
    refine Rn.run 2 (ls' := [_, _, _, _]) (st' := []) rfl ?_
    exact r
theorem l43 {ex : xO} {d : Nat} {b : Bool} {t S : Nat} (ht : t < 4) (S60 : S ≤ 60) {bs : Nat → Int} (hb : ∀ k, k < 60 → -128 ≤ bs k ∧ bs k < 128) {q : Nat} : ∀ (m i : Nat) (c : Nat → Nat → Int), i + m = 8 → q + 1 + i ≤ S → c 3 0 = (q + 1 + i : Nat) → c 3 1 = -9 → tx c t S bs → pk (c (gid (!b)) 1) (Lp bs q i) → ∃ e, Rn ex xt43 (d + 2) 46 [xA 3, xA (34 + 2 * t), xA (gid (!b)), xI (i : Int)] [] (hp c b) (xU, hp e b) ∧ (∀ a z, a ≠ 3 → ¬ (a = gid (!b) ∧ z = 1) → e a z = c a z) ∧ e 3 0 = ((q + 1 + fbd (ok9 S bs q) m i : Nat) : Int) ∧ q + 1 + fbd (ok9 S bs q) m i ≤ S ∧ (fbd (ok9 S bs q) m i = 8 → e 3 1 = -9 ∧ pk (e (gid (!b)) 1) (Lp bs q 8)) ∧ (fbd (ok9 S bs q) m i ≠ 8 → e 3 1 = ((q + 1 + fbd (ok9 S bs q) m i : Nat) : Int)) := by
  have hg := gd_in b
  intro m
  induction m with
  | zero =>
    intro i c hm hq h0 h1 hx hp
    obtain rfl : i = 8 := by omega
    refine ⟨c, ?_, fun _ _ _ _ => rfl, h0, hq, fun _ => ⟨h1, hp⟩, fun h => absurd rfl h⟩
    refine Rn.run 2 (ls' := [_, _, _, _]) (st' := [_, _]) rfl ?_
    refine Rn.ge2 rfl (fun e49 => ?_) (fun e49 => absurd e49 (by decide))
    exact Rn.ret rfl rfl rfl rfl rfl rfl
  | succ m ih =>
    intro i c hm hq h0 h1 hx hp
    have i8 : ¬ w32 8 ≤ w32 (i : Int) := fun h => absurd ((y_ge (n := 8) (by omega) (by omega)).mp h) (by omega)
    by_cases hok : ok9 S bs q i = true
    · obtain ⟨qS, ev, le⟩ := fg_in hok
      rw [show fbd (ok9 S bs q) (m + 1) i = fbd (ok9 S bs q) m (i + 1) from if_pos hok]
      obtain ⟨e, r, fr, e0, eS, e1, e2⟩ := ih (i + 1) (xup (xup c 3 0 ((q + 1 + i + 1 : Nat) : Int)) (gid (!b)) 1 (xwith (c (gid (!b)) 1) i (fgv bs (q + 1 + i) : Nat))) (by omega) (by omega) (by rw [xup_n _ _ (by omega), xup_s]; rfl) (by rw [xup_n _ _ (by omega), xup_n _ _ (by omega)]; exact h1) (tx_fr ht (fun a k ha => by rw [xup_n _ _ (by omega), xup_n _ _ (by omega)]) hx) (by
        rw [xup_s]
        refine pk_cg (pk_with hp (by omega) le) (fun j hj => ?_)
        unfold Lp
        by_cases ej : j = i
        · rw [if_pos ej, if_pos (by omega), ej]
        · rw [if_neg ej]
          by_cases el : j < i
          · rw [if_pos el, if_pos (by omega)]
          · rw [if_neg el, if_neg (by omega)])
      refine ⟨e, ?_, fun a z h1 h2 => by rw [fr a z h1 h2, xup_n _ _ (by omega), xup_n _ _ (by omega)], e0, eS, e1, e2⟩
      refine Rn.run 2 (ls' := [_, _, _, _]) (st' := [_, _]) rfl ?_
      refine Rn.ge2 rfl (fun e49 => absurd e49 (by exact i8)) (fun e49 => ?_)
      refine Rn.run 2 (ls' := [_, _, _, _]) (st' := [_, _]) rfl ?_
      refine Rn.getI rfl (xS_g (!b)) ?_
      refine Rn.run 4 (ls' := [_, _, _, _]) (st' := [_, _, _, _, _, _]) rfl ?_
      refine Rn.call rfl rfl rfl rfl rfl (c45_g (hi := 9) (q := q + 1 + i) ht S60 hb (by decide) hq h0 h1 hx hok) ?_
      refine Rn.call rfl rfl rfl rfl rfl (c1) ?_
      refine Rn.putI rfl (xS_g (!b)) ?_
      refine Rn.run 2 (ls' := [_, _, _, _]) (st' := []) rfl ?_
      exact r
    · rw [show fbd (ok9 S bs q) (m + 1) i = i from if_neg hok]
      obtain ⟨e, r, fr⟩ := l43b (ex := ex) (d := d) (b := b) ht S60 hb (f := q + 1 + i) (by omega) m (i + 1) (xup (xup c 3 1 ((q + 1 + i : Nat) : Int)) (gid (!b)) 1 (xwith (c (gid (!b)) 1) i 0)) (by omega) (by rw [xup_n _ _ (by omega), xup_s])
      refine ⟨e, ?_, fun a z h1 h2 => by rw [fr a z h2, xup_n _ _ (by omega), xup_n _ _ (by omega)], by rw [fr 3 0 (by omega), xup_n _ _ (by omega), xup_n _ _ (by omega)]; exact h0, hq, fun h => by omega, fun _ => by rw [fr 3 1 (by omega), xup_n _ _ (by omega), xup_s]⟩
      refine Rn.run 2 (ls' := [_, _, _, _]) (st' := [_, _]) rfl ?_
      refine Rn.ge2 rfl (fun e49 => absurd e49 (by exact i8)) (fun e49 => ?_)
      refine Rn.run 2 (ls' := [_, _, _, _]) (st' := [_, _]) rfl ?_
      refine Rn.getI rfl (xS_g (!b)) ?_
      refine Rn.run 4 (ls' := [_, _, _, _]) (st' := [_, _, _, _, _, _]) rfl ?_
      refine Rn.call rfl rfl rfl rfl rfl (c45_b (hi := 9) (q := q + 1 + i) ht S60 hb (by decide) hq h0 h1 hx hok) ?_
      refine Rn.call rfl rfl rfl rfl rfl (c1) ?_
      refine Rn.putI rfl (xS_g (!b)) ?_
      refine Rn.run 2 (ls' := [_, _, _, _]) (st' := []) rfl ?_
      exact r
theorem c43 {ex : xO} {d : Nat} {b : Bool} {c : Nat → Nat → Int} {t S : Nat} (ht : t < 4) (S60 : S ≤ 60) {bs : Nat → Int} (hb : ∀ k, k < 60 → -128 ≤ bs k ∧ bs k < 128) {q : Nat} (hq : q ≤ S) (h0 : c 3 0 = (q : Nat)) (h1 : c 3 1 = -9) (hx : tx c t S bs) (hz : c (gid (!b)) 1 = 0) : ∃ e, An ex (d + 2) 43 4 [xA 3, xA (34 + 2 * t), xA (gid (!b))] (hp c b) (xU, hp e b) ∧ (∀ a z, a ≠ 3 → ¬ (a = gid (!b) ∧ z = 1) → e a z = c a z) ∧ e 3 1 = trr S bs q ∧ (∃ q2 : Nat, q2 ≤ S ∧ e 3 0 = (q2 : Nat)) ∧ (trr S bs q = -9 → e 3 0 = (q + 9 : Nat) ∧ q + 9 ≤ S ∧ pk (e (gid (!b)) 1) (fun j => fgv bs (q + 1 + j))) := by
  have hg := gd_in b
  have q31 : q < 2147483648 := by omega
  have S31 : S < 2147483648 := by omega
  by_cases hS : q < S
  · have q60 : q < 60 := by omega
    have hbq := hb q q60
    have wb : w32 (bs q) = bs q := x_w _ (by omega) (by omega)
    have nq : ¬ w32 (S : Int) ≤ w32 (q : Int) := fun h => absurd ((y_ge (by omega) (by omega)).mp h) (by omega)
    by_cases h116 : bs q = 116
    · obtain ⟨e, r, fr, e0, eS, e1, e2⟩ := l43 (ex := ex) (d := d) (b := b) ht S60 hb (q := q) 8 0 (xup c 3 0 ((q + 1 : Nat) : Int)) rfl (by omega) (xup_s _ _ _ _) (by rw [xup_n _ _ (by omega)]; exact h1) (tx_3 ht hx) (by rw [xup_n _ _ (by omega), hz]; exact fun j hj => lv_0 j hj)
      have et : trr S bs q = if fbd (ok9 S bs q) 8 0 = 8 then -9 else ((q + 1 + fbd (ok9 S bs q) 8 0 : Nat) : Int) := if_pos ⟨hS, h116⟩
      refine ⟨e, ?_, fun a z h1 h2 => by rw [fr a z h1 h2, xup_n _ _ (by omega)], ?_, ⟨_, eS, e0⟩, fun ht9 => ?_⟩
      · refine Rn.run 2 (ls' := [_, _, _, _]) (st' := [_]) rfl ?_
        rw [h0]
        refine Rn.run 1 (ls' := [_, _, _, _]) (st' := [_, _]) rfl ?_
        refine Rn.getI rfl (xS_txt ht) ?_
        rw [hx.1]
        refine Rn.ge2 rfl (fun e8 => absurd e8 (by exact nq)) (fun e8 => ?_)
        refine Rn.run 1 (ls' := [_, _, _, _]) (st' := [_]) rfl ?_
        refine Rn.getR rfl (xS_txt ht) (xR_txt ht).2 ?_
        refine Rn.run 2 (ls' := [_, _, _, _]) (st' := [_, _]) rfl ?_
        rw [h0]
        refine Rn.bald rfl ⟨(xS_by ht).1, (xS_by ht).2, by decide⟩ (q) (x_wn q31) q60 ?_
        rw [hx.2 q q60]
        refine Rn.run 1 (ls' := [_, _, _, _]) (st' := [_, _]) rfl ?_
        refine Rn.eq2 rfl (fun e22 => ?_) (fun e22 => absurd e22 (by rw [wb]; exact fun h => h h116))
        refine Rn.run 3 (ls' := [_, _, _, _]) (st' := [_, _]) rfl ?_
        rw [h0]
        refine Rn.run 5 (ls' := [_, _, _, _]) (st' := []) rfl ?_
        exact r
      · rw [et]
        by_cases h8 : fbd (ok9 S bs q) 8 0 = 8
        · rw [if_pos h8]; exact (e1 h8).1
        · rw [if_neg h8]; exact e2 h8
      · rw [et] at ht9
        by_cases h8 : fbd (ok9 S bs q) 8 0 = 8
        · rw [h8] at e0 eS
          exact ⟨e0, eS, pk_cg (e1 h8).2 (fun j hj => by unfold Lp; rw [if_pos hj])⟩
        · rw [if_neg h8] at ht9
          omega
    · have et : trr S bs q = (q : Int) := if_neg (fun z => h116 z.2)
      refine ⟨xup c 3 1 (q : Nat), ?_, fun a z h1 h2 => by rw [xup_n _ _ (by omega)], by rw [et, xup_s], ⟨q, hq, by rw [xup_n _ _ (by omega)]; exact h0⟩, fun z => by rw [et] at z; omega⟩
      refine Rn.run 2 (ls' := [_, _, _, _]) (st' := [_]) rfl ?_
      rw [h0]
      refine Rn.run 1 (ls' := [_, _, _, _]) (st' := [_, _]) rfl ?_
      refine Rn.getI rfl (xS_txt ht) ?_
      rw [hx.1]
      refine Rn.ge2 rfl (fun e8 => absurd e8 (by exact nq)) (fun e8 => ?_)
      refine Rn.run 1 (ls' := [_, _, _, _]) (st' := [_]) rfl ?_
      refine Rn.getR rfl (xS_txt ht) (xR_txt ht).2 ?_
      refine Rn.run 2 (ls' := [_, _, _, _]) (st' := [_, _]) rfl ?_
      rw [h0]
      refine Rn.bald rfl ⟨(xS_by ht).1, (xS_by ht).2, by decide⟩ (q) (x_wn q31) q60 ?_
      rw [hx.2 q q60]
      refine Rn.run 1 (ls' := [_, _, _, _]) (st' := [_, _]) rfl ?_
      refine Rn.eq2 rfl (fun e22 => absurd e22 (by rw [wb]; exact h116)) (fun e22 => ?_)
      refine Rn.run 3 (ls' := [_, _, _, _]) (st' := [_, _]) rfl ?_
      rw [h0]
      refine Rn.run 1 (ls' := [_, _, _, _]) (st' := []) rfl ?_
      exact Rn.ret rfl rfl rfl rfl rfl rfl
  · have et : trr S bs q = (q : Int) := if_neg (fun z => hS z.1)
    refine ⟨xup c 3 1 (q : Nat), ?_, fun a z h1 h2 => by rw [xup_n _ _ (by omega)], by rw [et, xup_s], ⟨q, hq, by rw [xup_n _ _ (by omega)]; exact h0⟩, fun z => by rw [et] at z; omega⟩
    refine Rn.run 2 (ls' := [_, _, _, _]) (st' := [_]) rfl ?_
    rw [h0]
    refine Rn.run 1 (ls' := [_, _, _, _]) (st' := [_, _]) rfl ?_
    refine Rn.getI rfl (xS_txt ht) ?_
    rw [hx.1]
    refine Rn.ge2 rfl (fun e8 => ?_) (fun e8 => absurd e8 (by exact fun h => h ((y_ge q31 S31).mpr (Nat.not_lt.mp hS))))
    refine Rn.run 3 (ls' := [_, _, _, _]) (st' := [_, _]) rfl ?_
    rw [h0]
    refine Rn.run 1 (ls' := [_, _, _, _]) (st' := []) rfl ?_
    exact Rn.ret rfl rfl rfl rfl rfl rfl
def DG (c : Nat → Nat → Int) (g k : Nat) (G : Nat → Nat × Nat × Nat) : Prop := c g 0 = (k : Nat) ∧ c g 2 = ((bset (fun i => (G i).1 != 5) k : Nat) : Int) ∧ ∀ i, i < k → (c (g + 1) i = ((G i).1 : Nat) ∧ c (g + 2) i = ((G i).2.1 : Nat) ∧ c (g + 3) i = ((G i).2.2 : Nat)) ∧ (G i).1 ≤ 5 ∧ (G i).2.1 ≤ 7 ∧ (G i).2.2 ≤ 9
def ext (G : Nat → Nat × Nat × Nat) (k : Nat) (v : Nat × Nat × Nat) : Nat → Nat × Nat × Nat := fun i => if i = k then v else G i
theorem DG_s {c e : Nat → Nat → Int} {g k : Nat} {G : Nat → Nat × Nat × Nat} {v : Nat × Nat × Nat} (h : DG c g k G) (hv : v.1 ≤ 5 ∧ v.2.1 ≤ 7 ∧ v.2.2 ≤ 9) (e0 : e g 0 = (k + 1 : Nat)) (e2 : e g 2 = (if v.1 = 5 then c g 2 else ((bset (fun i => (G i).1 != 5) k ||| 2 ^ k : Nat) : Int))) (a1 : e (g + 1) k = (v.1 : Nat)) (a2 : e (g + 2) k = (v.2.1 : Nat)) (a3 : e (g + 3) k = (v.2.2 : Nat)) (fr : ∀ a z, g + 1 ≤ a ∧ a ≤ g + 3 → z ≠ k → e a z = c a z) : DG e g (k + 1) (ext G k v) := by
  obtain ⟨h0, h2, h3⟩ := h
  have eb : bset (fun i => (ext G k v i).1 != 5) k = bset (fun i => (G i).1 != 5) k := bset_congr (fun i hi => by show ((if i = k then v else G i).1 != 5) = _; rw [if_neg (by omega)])
  refine ⟨e0, ?_, fun i hi => ?_⟩
  · rw [e2, bset_s, eb]
    show (if v.1 = 5 then c g 2 else _) = (((if ((if k = k then v else G k).1 != 5) = true then bset (fun i => (G i).1 != 5) k ||| 2 ^ k else bset (fun i => (G i).1 != 5) k) : Nat) : Int)
    rw [if_pos (rfl : k = k)]
    by_cases h5 : v.1 = 5
    · rw [if_pos h5, if_neg (by simp [h5])]; exact h2
    · rw [if_neg h5, if_pos (by simp [h5])]
  · by_cases ei : i = k
    · rw [ei, show ext G k v k = v from if_pos rfl]
      exact ⟨⟨a1, a2, a3⟩, hv⟩
    · rw [show ext G k v i = G i from if_neg ei, fr _ _ (by omega) ei, fr _ _ (by omega) ei, fr _ _ (by omega) ei]
      exact h3 i (by omega)
theorem c16 {ex : xO} {d : Nat} {b : Bool} {c : Nat → Nat → Int} {k v1 v2 v3 : Nat} {G : Nat → Nat × Nat × Nat} (hk : k < 6) (hD : DG c (gid (!b)) k G) (hv : v1 ≤ 5 ∧ v2 ≤ 7 ∧ v3 ≤ 9) : ∃ e, An ex d 16 4 [xA (gid (!b)), xI (v1 : Int), xI (v2 : Int), xI (v3 : Int)] (hp c b) (xU, hp e b) ∧ DG e (gid (!b)) (k + 1) (ext G k (v1, v2, v3)) ∧ e (gid (!b)) 1 = c (gid (!b)) 1 ∧ ∀ a z, ¬ (gid (!b) ≤ a ∧ a ≤ gid (!b) + 3) → e a z = c a z := by
  have hg := gd_in b
  have h0 := hD.1
  have k31 : k < 2147483648 := by omega
  have b64 := bset_64 (fun i => (G i).1 != 5) (n := k) (by omega)
  have k5 : (w32 (v1 : Int) = w32 5) ↔ v1 = 5 := y_eq (i := 5) (by omega) (by omega)
  by_cases h5 : v1 = 5
  · refine ⟨xup (xup (xup (xup c (gid (!b) + 1) k (v1 : Nat)) (gid (!b) + 2) k (v2 : Nat)) (gid (!b) + 3) k (v3 : Nat)) (gid (!b)) 0 (k + 1 : Nat), ?_, DG_s hD hv ?_ ?_ ?_ ?_ ?_ (fun a z h1 h2 => ?_), ?_, fun a z h => ?_⟩
    · refine Rn.run 1 (ls' := [_, _, _, _]) (st' := [_]) rfl ?_
      refine Rn.getI rfl (xS_g (!b)) ?_
      rw [h0]
      refine Rn.run 1 (ls' := [_, _, _, _]) (st' := [_, _]) rfl ?_
      refine Rn.lt2 rfl (fun e6 => ?_) (fun e6 => absurd e6 (by exact fun h => h ((y_lt (n := k) (i := 6) (by decide) k31).mpr hk)))
      refine Rn.run 1 (ls' := [_, _, _, _]) (st' := [_]) rfl ?_
      refine Rn.getR rfl (xS_g (!b)) (xR_d b).1 ?_
      refine Rn.run 1 (ls' := [_, _, _, _]) (st' := [_, _]) rfl ?_
      refine Rn.getI rfl (xS_g (!b)) ?_
      rw [h0]
      refine Rn.run 1 (ls' := [_, _, _, _]) (st' := [_, _, _]) rfl ?_
      refine Rn.ast rfl (xS_g1 (!b)) (k) (x_wn k31) hk ?_
      refine Rn.run 1 (ls' := [_, _, _, _]) (st' := [_]) rfl ?_
      refine Rn.getR rfl (xS_g (!b)) (xR_d b).2.1 ?_
      refine Rn.run 1 (ls' := [_, _, _, _]) (st' := [_, _]) rfl ?_
      refine Rn.getI rfl (xS_g (!b)) ?_
      rw [xup_n _ _ (by omega), h0]
      refine Rn.run 1 (ls' := [_, _, _, _]) (st' := [_, _, _]) rfl ?_
      refine Rn.ast rfl (xS_g2 (!b)) (k) (x_wn k31) hk ?_
      refine Rn.run 1 (ls' := [_, _, _, _]) (st' := [_]) rfl ?_
      refine Rn.getR rfl (xS_g (!b)) (xR_d b).2.2 ?_
      refine Rn.run 1 (ls' := [_, _, _, _]) (st' := [_, _]) rfl ?_
      refine Rn.getI rfl (xS_g (!b)) ?_
      rw [xup_n _ _ (by omega), xup_n _ _ (by omega), h0]
      refine Rn.run 1 (ls' := [_, _, _, _]) (st' := [_, _, _]) rfl ?_
      refine Rn.ast rfl (xS_g3 (!b)) (k) (x_wn k31) hk ?_
      refine Rn.run 2 (ls' := [_, _, _, _]) (st' := [_, _]) rfl ?_
      refine Rn.eq2 rfl (fun e42 => ?_) (fun e42 => absurd e42 (by exact fun h => h (k5.mpr h5)))
      refine Rn.run 2 (ls' := [_, _, _, _]) (st' := [_, _]) rfl ?_
      refine Rn.getI rfl (xS_g (!b)) ?_
      rw [xup_n _ _ (by omega), xup_n _ _ (by omega), xup_n _ _ (by omega), h0]
      refine Rn.run 2 (ls' := [_, _, _, _]) (st' := [_, _]) rfl ?_
      refine Rn.putI rfl (xS_g (!b)) ?_
      exact Rn.ret rfl rfl rfl rfl rfl rfl
    · rw [xup_s]
    · rw [if_pos h5, xup_n _ _ (by omega), xup_n _ _ (by omega), xup_n _ _ (by omega), xup_n _ _ (by omega)]
    · rw [xup_n _ _ (by omega), xup_n _ _ (by omega), xup_n _ _ (by omega), xup_s]
    · rw [xup_n _ _ (by omega), xup_n _ _ (by omega), xup_s]
    · rw [xup_n _ _ (by omega), xup_s]
    · rw [xup_n _ _ (by omega), xup_n _ _ (by omega), xup_n _ _ (by omega), xup_n _ _ (by omega)]
    · rw [xup_n _ _ (by omega), xup_n _ _ (by omega), xup_n _ _ (by omega), xup_n _ _ (by omega)]
    · rw [xup_n _ _ (by omega), xup_n _ _ (by omega), xup_n _ _ (by omega), xup_n _ _ (by omega)]
  · refine ⟨xup (xup (xup (xup (xup c (gid (!b) + 1) k (v1 : Nat)) (gid (!b) + 2) k (v2 : Nat)) (gid (!b) + 3) k (v3 : Nat)) (gid (!b)) 2 ((bset (fun i => (G i).1 != 5) k ||| 2 ^ k : Nat) : Int)) (gid (!b)) 0 (k + 1 : Nat), ?_, DG_s hD hv ?_ ?_ ?_ ?_ ?_ (fun a z h1 h2 => ?_), ?_, fun a z h => ?_⟩
    · refine Rn.run 1 (ls' := [_, _, _, _]) (st' := [_]) rfl ?_
      refine Rn.getI rfl (xS_g (!b)) ?_
      rw [h0]
      refine Rn.run 1 (ls' := [_, _, _, _]) (st' := [_, _]) rfl ?_
      refine Rn.lt2 rfl (fun e6 => ?_) (fun e6 => absurd e6 (by exact fun h => h ((y_lt (n := k) (i := 6) (by decide) k31).mpr hk)))
      refine Rn.run 1 (ls' := [_, _, _, _]) (st' := [_]) rfl ?_
      refine Rn.getR rfl (xS_g (!b)) (xR_d b).1 ?_
      refine Rn.run 1 (ls' := [_, _, _, _]) (st' := [_, _]) rfl ?_
      refine Rn.getI rfl (xS_g (!b)) ?_
      rw [h0]
      refine Rn.run 1 (ls' := [_, _, _, _]) (st' := [_, _, _]) rfl ?_
      refine Rn.ast rfl (xS_g1 (!b)) (k) (x_wn k31) hk ?_
      refine Rn.run 1 (ls' := [_, _, _, _]) (st' := [_]) rfl ?_
      refine Rn.getR rfl (xS_g (!b)) (xR_d b).2.1 ?_
      refine Rn.run 1 (ls' := [_, _, _, _]) (st' := [_, _]) rfl ?_
      refine Rn.getI rfl (xS_g (!b)) ?_
      rw [xup_n _ _ (by omega), h0]
      refine Rn.run 1 (ls' := [_, _, _, _]) (st' := [_, _, _]) rfl ?_
      refine Rn.ast rfl (xS_g2 (!b)) (k) (x_wn k31) hk ?_
      refine Rn.run 1 (ls' := [_, _, _, _]) (st' := [_]) rfl ?_
      refine Rn.getR rfl (xS_g (!b)) (xR_d b).2.2 ?_
      refine Rn.run 1 (ls' := [_, _, _, _]) (st' := [_, _]) rfl ?_
      refine Rn.getI rfl (xS_g (!b)) ?_
      rw [xup_n _ _ (by omega), xup_n _ _ (by omega), h0]
      refine Rn.run 1 (ls' := [_, _, _, _]) (st' := [_, _, _]) rfl ?_
      refine Rn.ast rfl (xS_g3 (!b)) (k) (x_wn k31) hk ?_
      refine Rn.run 2 (ls' := [_, _, _, _]) (st' := [_, _]) rfl ?_
      refine Rn.eq2 rfl (fun e42 => absurd e42 (by exact fun h => h5 (k5.mp h))) (fun e42 => ?_)
      refine Rn.run 2 (ls' := [_, _, _, _]) (st' := [_, _]) rfl ?_
      refine Rn.getI rfl (xS_g (!b)) ?_
      rw [xup_n _ _ (by omega), xup_n _ _ (by omega), xup_n _ _ (by omega), hD.2.1]
      refine Rn.run 2 (ls' := [_, _, _, _]) (st' := [_, _, _, _]) rfl ?_
      refine Rn.getI rfl (xS_g (!b)) ?_
      rw [xup_n _ _ (by omega), xup_n _ _ (by omega), xup_n _ _ (by omega), h0]
      refine Rn.run 2 (ls' := [_, _, _, _]) (st' := [_, _]) rfl ?_
      rw [bt_add b64 hk]
      refine Rn.putI rfl (xS_g (!b)) ?_
      refine Rn.run 2 (ls' := [_, _, _, _]) (st' := [_, _]) rfl ?_
      refine Rn.getI rfl (xS_g (!b)) ?_
      rw [xup_n _ _ (by omega), xup_n _ _ (by omega), xup_n _ _ (by omega), xup_n _ _ (by omega), h0]
      refine Rn.run 2 (ls' := [_, _, _, _]) (st' := [_, _]) rfl ?_
      refine Rn.putI rfl (xS_g (!b)) ?_
      exact Rn.ret rfl rfl rfl rfl rfl rfl
    · rw [xup_s]
    · rw [if_neg h5, xup_n _ _ (by omega), xup_s]
    · rw [xup_n _ _ (by omega), xup_n _ _ (by omega), xup_n _ _ (by omega), xup_n _ _ (by omega), xup_s]
    · rw [xup_n _ _ (by omega), xup_n _ _ (by omega), xup_n _ _ (by omega), xup_s]
    · rw [xup_n _ _ (by omega), xup_n _ _ (by omega), xup_s]
    · rw [xup_n _ _ (by omega), xup_n _ _ (by omega), xup_n _ _ (by omega), xup_n _ _ (by omega), xup_n _ _ (by omega)]
    · rw [xup_n _ _ (by omega), xup_n _ _ (by omega), xup_n _ _ (by omega), xup_n _ _ (by omega), xup_n _ _ (by omega)]
    · rw [xup_n _ _ (by omega), xup_n _ _ (by omega), xup_n _ _ (by omega), xup_n _ _ (by omega), xup_n _ _ (by omega)]
theorem c44_a {ex : xO} (hL : ex 1 = (6, xlet)) {d : Nat} {b : Bool} {c : Nat → Nat → Int} {t S : Nat} (ht : t < 4) (S60 : S ≤ 60) {bs : Nat → Int} (hb : ∀ k, k < 60 → -128 ≤ bs k ∧ bs k < 128) {k q : Nat} {G : Nat → Nat × Nat × Nat} (hk : k ≤ 6) (hq : q < S) (h0 : c 3 0 = (q : Nat)) (h1 : c 3 1 = -9) (hx : tx c t S bs) (hD : DG c (gid (!b)) k G) (hA : k = 6 ∨ kk (bs q) = -1) : An ex (d + 4) 44 6 [xA 3, xA (34 + 2 * t), xA (gid (!b))] (hp c b) (xU, hp (xup c 3 1 (q : Nat)) b) := by
  have hg := gd_in b
  have q31 : q < 2147483648 := by omega
  have q60 : q < 60 := by omega
  have hbq := hb q q60
  have wb : w32 (bs q) = bs q := x_w _ (by omega) (by omega)
  have k31 : k < 2147483648 := by omega
  by_cases h6 : k = 6
  · refine Rn.run 1 (ls' := [_, _, _, _, _, _]) (st' := [_]) rfl ?_
    refine Rn.getI rfl (xS_g (!b)) ?_
    rw [hD.1]
    refine Rn.run 1 (ls' := [_, _, _, _, _, _]) (st' := [_, _]) rfl ?_
    refine Rn.ge2 rfl (fun e6 => ?_) (fun e6 => absurd e6 (by rw [h6]; decide))
    refine Rn.run 4 (ls' := [_, _, _, _, _, _]) (st' := [_, _]) rfl ?_
    refine Rn.ne2 rfl (fun e30 => absurd e30 (by exact fun h => h rfl)) (fun e30 => ?_)
    refine Rn.run 3 (ls' := [_, _, _, _, _, _]) (st' := [_, _]) rfl ?_
    rw [h0]
    refine Rn.run 1 (ls' := [_, _, _, _, _, _]) (st' := []) rfl ?_
    exact Rn.ret rfl rfl rfl rfl rfl rfl
  · have hm1 := hA.resolve_left h6
    have nk : ¬ w32 6 ≤ w32 (k : Int) := fun h => absurd ((y_ge (n := 6) (by omega) (by omega)).mp h) (by omega)
    refine Rn.run 1 (ls' := [_, _, _, _, _, _]) (st' := [_]) rfl ?_
    refine Rn.getI rfl (xS_g (!b)) ?_
    rw [hD.1]
    refine Rn.run 1 (ls' := [_, _, _, _, _, _]) (st' := [_, _]) rfl ?_
    refine Rn.ge2 rfl (fun e6 => absurd e6 (by exact nk)) (fun e6 => ?_)
    refine Rn.run 1 (ls' := [_, _, _, _, _, _]) (st' := [_]) rfl ?_
    refine Rn.getR rfl (xS_txt ht) (xR_txt ht).2 ?_
    refine Rn.run 2 (ls' := [_, _, _, _, _, _]) (st' := [_, _]) rfl ?_
    rw [h0]
    refine Rn.bald rfl ⟨(xS_by ht).1, (xS_by ht).2, by decide⟩ (q) (x_wn q31) q60 ?_
    rw [hx.2 q q60]
    refine Rn.call rfl rfl rfl rfl rfl (c27 hL wb) ?_
    rw [if_pos hm1]
    refine Rn.run 4 (ls' := [_, _, _, _, _, _]) (st' := [_, _]) rfl ?_
    refine Rn.ne2 rfl (fun e30 => absurd e30 (by exact fun h => h rfl)) (fun e30 => ?_)
    refine Rn.run 3 (ls' := [_, _, _, _, _, _]) (st' := [_, _]) rfl ?_
    rw [h0]
    refine Rn.run 1 (ls' := [_, _, _, _, _, _]) (st' := []) rfl ?_
    exact Rn.ret rfl rfl rfl rfl rfl rfl
theorem c44_b {ex : xO} (hL : ex 1 = (6, xlet)) {d : Nat} {b : Bool} {c : Nat → Nat → Int} {t S : Nat} (ht : t < 4) (S60 : S ≤ 60) {bs : Nat → Int} (hb : ∀ k, k < 60 → -128 ≤ bs k ∧ bs k < 128) {k q : Nat} {G : Nat → Nat × Nat × Nat} (hk : k ≤ 6) (hq : q < S) (h0 : c 3 0 = (q : Nat)) (h1 : c 3 1 = -9) (hx : tx c t S bs) (hD : DG c (gid (!b)) k G) (h6 : k ≠ 6) (hK : ¬ kk (bs q) = -1) (hB : ¬ fgo S bs 7 (q + 1) = true) : ∃ e, An ex (d + 4) 44 6 [xA 3, xA (34 + 2 * t), xA (gid (!b))] (hp c b) (xU, hp e b) ∧ (∀ a z, a ≠ 3 → ¬ (gid (!b) ≤ a ∧ a ≤ gid (!b) + 3) → e a z = c a z) ∧ e (gid (!b)) 1 = c (gid (!b)) 1 ∧ e 3 0 = (q + 1 : Nat) ∧ e 3 1 = (q + 1 : Nat) := by
  have hg := gd_in b
  have q31 : q < 2147483648 := by omega
  have q60 : q < 60 := by omega
  have hbq := hb q q60
  have wb : w32 (bs q) = bs q := x_w _ (by omega) (by omega)
  have k31 : k < 2147483648 := by omega
  have k6 : k < 6 := by omega
  have nk : ¬ w32 6 ≤ w32 (k : Int) := fun h => absurd ((y_ge (n := 6) (by omega) (by omega)).mp h) (by omega)
  have kin := (kk_in (bs q)).resolve_left hK
  obtain ⟨v1, v5, ev1⟩ : ∃ v1 : Nat, v1 ≤ 5 ∧ kk (bs q) = (v1 : Nat) := ⟨(kk (bs q)).toNat, by omega, by omega⟩
  have nk9 : w32 (v1 : Int) ≠ w32 (-9) := by rw [x_wn (by omega), show w32 (-9) = -9 from rfl]; omega
  obtain ⟨e, r, eD, eg, fr⟩ := c16 (ex := ex) (d := d + 3) (b := b) (c := xup (xup c 3 0 ((q + 1 : Nat) : Int)) 3 1 ((q + 1 : Nat) : Int)) (v1 := v1) (v2 := 0) (v3 := 0) (G := G) k6 ⟨by rw [xup_n _ _ (by omega), xup_n _ _ (by omega)]; exact hD.1, by rw [xup_n _ _ (by omega), xup_n _ _ (by omega)]; exact hD.2.1, fun i hi => by rw [xup_n _ _ (by omega), xup_n _ _ (by omega), xup_n _ _ (by omega), xup_n _ _ (by omega), xup_n _ _ (by omega), xup_n _ _ (by omega)]; exact hD.2.2 i hi⟩ ⟨v5, by decide, by decide⟩
  refine ⟨e, ?_, fun a z g1 g2 => by rw [fr a z g2, xup_n _ _ (by omega), xup_n _ _ (by omega)], by rw [eg, xup_n _ _ (by omega), xup_n _ _ (by omega)], by rw [fr 3 0 (by omega), xup_n _ _ (by omega), xup_s], by rw [fr 3 1 (by omega), xup_s]⟩
  refine Rn.run 1 (ls' := [_, _, _, _, _, _]) (st' := [_]) rfl ?_
  refine Rn.getI rfl (xS_g (!b)) ?_
  rw [hD.1]
  refine Rn.run 1 (ls' := [_, _, _, _, _, _]) (st' := [_, _]) rfl ?_
  refine Rn.ge2 rfl (fun e6 => absurd e6 (by exact nk)) (fun e6 => ?_)
  refine Rn.run 1 (ls' := [_, _, _, _, _, _]) (st' := [_]) rfl ?_
  refine Rn.getR rfl (xS_txt ht) (xR_txt ht).2 ?_
  refine Rn.run 2 (ls' := [_, _, _, _, _, _]) (st' := [_, _]) rfl ?_
  rw [h0]
  refine Rn.bald rfl ⟨(xS_by ht).1, (xS_by ht).2, by decide⟩ (q) (x_wn q31) q60 ?_
  rw [hx.2 q q60]
  refine Rn.call rfl rfl rfl rfl rfl (c27 hL wb) ?_
  rw [if_neg hK, ev1]
  refine Rn.run 4 (ls' := [_, _, _, _, _, _]) (st' := [_, _]) rfl ?_
  refine Rn.ne2 rfl (fun e30 => ?_) (fun e30 => absurd e30 (by exact fun h => h nk9))
  refine Rn.run 3 (ls' := [_, _, _, _, _, _]) (st' := [_, _]) rfl ?_
  rw [h0]
  refine Rn.run 6 (ls' := [_, _, _, _, _, _]) (st' := [_, _, _]) rfl ?_
  refine Rn.call rfl rfl rfl rfl rfl (c45_b (hi := 7) (q := q + 1) ht S60 hb (by decide) hq (xup_s _ _ _ _) (by rw [xup_n _ _ (by omega)]; exact h1) (tx_3 ht hx) hB) ?_
  refine Rn.run 4 (ls' := [_, _, _, _, _, _]) (st' := [_, _, _]) rfl ?_
  refine Rn.call rfl rfl rfl rfl rfl (c45_f (hi := 9) (f := q + 1) ht S60 hb (by omega) (xup_s _ _ _ _)) ?_
  refine Rn.run 5 (ls' := [_, _, _, _, _, _]) (st' := [_, _, _, _]) rfl ?_
  refine Rn.callV rfl (x_sv (xS_g (!b))) rfl rfl rfl (r) ?_
  exact Rn.ret rfl rfl rfl rfl rfl rfl
theorem c44_c {ex : xO} (hL : ex 1 = (6, xlet)) {d : Nat} {b : Bool} {c : Nat → Nat → Int} {t S : Nat} (ht : t < 4) (S60 : S ≤ 60) {bs : Nat → Int} (hb : ∀ k, k < 60 → -128 ≤ bs k ∧ bs k < 128) {k q : Nat} {G : Nat → Nat × Nat × Nat} (hk : k ≤ 6) (hq : q < S) (h0 : c 3 0 = (q : Nat)) (h1 : c 3 1 = -9) (hx : tx c t S bs) (hD : DG c (gid (!b)) k G) (h6 : k ≠ 6) (hK : ¬ kk (bs q) = -1) (hB : fgo S bs 7 (q + 1) = true) (hC : ¬ fgo S bs 9 (q + 2) = true) : ∃ e, An ex (d + 4) 44 6 [xA 3, xA (34 + 2 * t), xA (gid (!b))] (hp c b) (xU, hp e b) ∧ (∀ a z, a ≠ 3 → ¬ (gid (!b) ≤ a ∧ a ≤ gid (!b) + 3) → e a z = c a z) ∧ e (gid (!b)) 1 = c (gid (!b)) 1 ∧ e 3 0 = (q + 2 : Nat) ∧ e 3 1 = (q + 2 : Nat) ∧ q + 2 ≤ S := by
  have hg := gd_in b
  have q31 : q < 2147483648 := by omega
  have q60 : q < 60 := by omega
  have hbq := hb q q60
  have wb : w32 (bs q) = bs q := x_w _ (by omega) (by omega)
  have k31 : k < 2147483648 := by omega
  have k6 : k < 6 := by omega
  have nk : ¬ w32 6 ≤ w32 (k : Int) := fun h => absurd ((y_ge (n := 6) (by omega) (by omega)).mp h) (by omega)
  have kin := (kk_in (bs q)).resolve_left hK
  obtain ⟨v1, v5, ev1⟩ : ∃ v1 : Nat, v1 ≤ 5 ∧ kk (bs q) = (v1 : Nat) := ⟨(kk (bs q)).toNat, by omega, by omega⟩
  have nk9 : w32 (v1 : Int) ≠ w32 (-9) := by rw [x_wn (by omega), show w32 (-9) = -9 from rfl]; omega
  obtain ⟨qS, ev, le⟩ := fg_in hB
  have eu : xup (xup c 3 0 ((q + 1 : Nat) : Int)) 3 0 ((q + 2 : Nat) : Int) = xup c 3 0 ((q + 2 : Nat) : Int) := xup_up _ _ _ _ _
  obtain ⟨e, r, eD, eg, fr⟩ := c16 (ex := ex) (d := d + 3) (b := b) (c := xup (xup (xup c 3 0 ((q + 1 : Nat) : Int)) 3 0 ((q + 2 : Nat) : Int)) 3 1 ((q + 2 : Nat) : Int)) (v1 := v1) (v2 := fgv bs (q + 1)) (v3 := 0) (G := G) k6 (by rw [eu]; exact ⟨by rw [xup_n _ _ (by omega), xup_n _ _ (by omega)]; exact hD.1, by rw [xup_n _ _ (by omega), xup_n _ _ (by omega)]; exact hD.2.1, fun i hi => by rw [xup_n _ _ (by omega), xup_n _ _ (by omega), xup_n _ _ (by omega), xup_n _ _ (by omega), xup_n _ _ (by omega), xup_n _ _ (by omega)]; exact hD.2.2 i hi⟩) ⟨v5, le, by decide⟩
  refine ⟨e, ?_, fun a z g1 g2 => by rw [fr a z g2, xup_n _ _ (by omega), xup_n _ _ (by omega), xup_n _ _ (by omega)], by rw [eg, xup_n _ _ (by omega), xup_n _ _ (by omega), xup_n _ _ (by omega)], by rw [fr 3 0 (by omega), xup_n _ _ (by omega), xup_s], by rw [fr 3 1 (by omega), xup_s], by omega⟩
  refine Rn.run 1 (ls' := [_, _, _, _, _, _]) (st' := [_]) rfl ?_
  refine Rn.getI rfl (xS_g (!b)) ?_
  rw [hD.1]
  refine Rn.run 1 (ls' := [_, _, _, _, _, _]) (st' := [_, _]) rfl ?_
  refine Rn.ge2 rfl (fun e6 => absurd e6 (by exact nk)) (fun e6 => ?_)
  refine Rn.run 1 (ls' := [_, _, _, _, _, _]) (st' := [_]) rfl ?_
  refine Rn.getR rfl (xS_txt ht) (xR_txt ht).2 ?_
  refine Rn.run 2 (ls' := [_, _, _, _, _, _]) (st' := [_, _]) rfl ?_
  rw [h0]
  refine Rn.bald rfl ⟨(xS_by ht).1, (xS_by ht).2, by decide⟩ (q) (x_wn q31) q60 ?_
  rw [hx.2 q q60]
  refine Rn.call rfl rfl rfl rfl rfl (c27 hL wb) ?_
  rw [if_neg hK, ev1]
  refine Rn.run 4 (ls' := [_, _, _, _, _, _]) (st' := [_, _]) rfl ?_
  refine Rn.ne2 rfl (fun e30 => ?_) (fun e30 => absurd e30 (by exact fun h => h nk9))
  refine Rn.run 3 (ls' := [_, _, _, _, _, _]) (st' := [_, _]) rfl ?_
  rw [h0]
  refine Rn.run 6 (ls' := [_, _, _, _, _, _]) (st' := [_, _, _]) rfl ?_
  refine Rn.call rfl rfl rfl rfl rfl (c45_g (hi := 7) (q := q + 1) ht S60 hb (by decide) hq (xup_s _ _ _ _) (by rw [xup_n _ _ (by omega)]; exact h1) (tx_3 ht hx) hB) ?_
  refine Rn.run 4 (ls' := [_, _, _, _, _, _]) (st' := [_, _, _]) rfl ?_
  refine Rn.call rfl rfl rfl rfl rfl (c45_b (hi := 9) (q := q + 2) ht S60 hb (by decide) (by omega) (xup_s _ _ _ _) (by rw [xup_n _ _ (by omega), xup_n _ _ (by omega)]; exact h1) (tx_3 ht (tx_3 ht hx)) hC) ?_
  refine Rn.run 5 (ls' := [_, _, _, _, _, _]) (st' := [_, _, _, _]) rfl ?_
  refine Rn.callV rfl (x_sv (xS_g (!b))) rfl rfl rfl (r) ?_
  exact Rn.ret rfl rfl rfl rfl rfl rfl
theorem c44_d {ex : xO} (hL : ex 1 = (6, xlet)) {d : Nat} {b : Bool} {c : Nat → Nat → Int} {t S : Nat} (ht : t < 4) (S60 : S ≤ 60) {bs : Nat → Int} (hb : ∀ k, k < 60 → -128 ≤ bs k ∧ bs k < 128) {k q : Nat} {G : Nat → Nat × Nat × Nat} (hk : k ≤ 6) (hq : q < S) (h0 : c 3 0 = (q : Nat)) (h1 : c 3 1 = -9) (hx : tx c t S bs) (hD : DG c (gid (!b)) k G) (h6 : k ≠ 6) (hK : ¬ kk (bs q) = -1) (hB : fgo S bs 7 (q + 1) = true) (hC : fgo S bs 9 (q + 2) = true) : ∃ e, An ex (d + 4) 44 6 [xA 3, xA (34 + 2 * t), xA (gid (!b))] (hp c b) (xU, hp e b) ∧ (∀ a z, a ≠ 3 → ¬ (gid (!b) ≤ a ∧ a ≤ gid (!b) + 3) → e a z = c a z) ∧ e (gid (!b)) 1 = c (gid (!b)) 1 ∧ e 3 0 = (q + 3 : Nat) ∧ e 3 1 = -9 ∧ q + 3 ≤ S ∧ DG e (gid (!b)) (k + 1) (ext G k ((kk (bs q)).toNat, fgv bs (q + 1), fgv bs (q + 2))) := by
  have hg := gd_in b
  have q31 : q < 2147483648 := by omega
  have q60 : q < 60 := by omega
  have hbq := hb q q60
  have wb : w32 (bs q) = bs q := x_w _ (by omega) (by omega)
  have k31 : k < 2147483648 := by omega
  have k6 : k < 6 := by omega
  have nk : ¬ w32 6 ≤ w32 (k : Int) := fun h => absurd ((y_ge (n := 6) (by omega) (by omega)).mp h) (by omega)
  have kin := (kk_in (bs q)).resolve_left hK
  obtain ⟨v1, v5, ev1⟩ : ∃ v1 : Nat, v1 ≤ 5 ∧ kk (bs q) = (v1 : Nat) := ⟨(kk (bs q)).toNat, by omega, by omega⟩
  have nk9 : w32 (v1 : Int) ≠ w32 (-9) := by rw [x_wn (by omega), show w32 (-9) = -9 from rfl]; omega
  obtain ⟨qS, ev, le⟩ := fg_in hB
  obtain ⟨qS2, ev2, le2⟩ := fg_in hC
  have eu : xup (xup (xup c 3 0 ((q + 1 : Nat) : Int)) 3 0 ((q + 2 : Nat) : Int)) 3 0 ((q + 3 : Nat) : Int) = xup c 3 0 ((q + 3 : Nat) : Int) := by rw [xup_up, xup_up]
  obtain ⟨e, r, eD, eg, fr⟩ := c16 (ex := ex) (d := d + 3) (b := b) (c := xup (xup (xup c 3 0 ((q + 1 : Nat) : Int)) 3 0 ((q + 2 : Nat) : Int)) 3 0 ((q + 3 : Nat) : Int)) (v1 := v1) (v2 := fgv bs (q + 1)) (v3 := fgv bs (q + 2)) (G := G) k6 (by rw [eu]; exact ⟨by rw [xup_n _ _ (by omega)]; exact hD.1, by rw [xup_n _ _ (by omega)]; exact hD.2.1, fun i hi => by rw [xup_n _ _ (by omega), xup_n _ _ (by omega), xup_n _ _ (by omega)]; exact hD.2.2 i hi⟩) ⟨v5, le, le2⟩
  have ev3 : (kk (bs q)).toNat = v1 := by omega
  rw [ev3]
  refine ⟨e, ?_, fun a z g1 g2 => by rw [fr a z g2, xup_n _ _ (by omega), xup_n _ _ (by omega), xup_n _ _ (by omega)], by rw [eg, xup_n _ _ (by omega), xup_n _ _ (by omega), xup_n _ _ (by omega)], by rw [fr 3 0 (by omega), xup_s], by rw [fr 3 1 (by omega), xup_n _ _ (by omega), xup_n _ _ (by omega), xup_n _ _ (by omega)]; exact h1, by omega, eD⟩
  refine Rn.run 1 (ls' := [_, _, _, _, _, _]) (st' := [_]) rfl ?_
  refine Rn.getI rfl (xS_g (!b)) ?_
  rw [hD.1]
  refine Rn.run 1 (ls' := [_, _, _, _, _, _]) (st' := [_, _]) rfl ?_
  refine Rn.ge2 rfl (fun e6 => absurd e6 (by exact nk)) (fun e6 => ?_)
  refine Rn.run 1 (ls' := [_, _, _, _, _, _]) (st' := [_]) rfl ?_
  refine Rn.getR rfl (xS_txt ht) (xR_txt ht).2 ?_
  refine Rn.run 2 (ls' := [_, _, _, _, _, _]) (st' := [_, _]) rfl ?_
  rw [h0]
  refine Rn.bald rfl ⟨(xS_by ht).1, (xS_by ht).2, by decide⟩ (q) (x_wn q31) q60 ?_
  rw [hx.2 q q60]
  refine Rn.call rfl rfl rfl rfl rfl (c27 hL wb) ?_
  rw [if_neg hK, ev1]
  refine Rn.run 4 (ls' := [_, _, _, _, _, _]) (st' := [_, _]) rfl ?_
  refine Rn.ne2 rfl (fun e30 => ?_) (fun e30 => absurd e30 (by exact fun h => h nk9))
  refine Rn.run 3 (ls' := [_, _, _, _, _, _]) (st' := [_, _]) rfl ?_
  rw [h0]
  refine Rn.run 6 (ls' := [_, _, _, _, _, _]) (st' := [_, _, _]) rfl ?_
  refine Rn.call rfl rfl rfl rfl rfl (c45_g (hi := 7) (q := q + 1) ht S60 hb (by decide) hq (xup_s _ _ _ _) (by rw [xup_n _ _ (by omega)]; exact h1) (tx_3 ht hx) hB) ?_
  refine Rn.run 4 (ls' := [_, _, _, _, _, _]) (st' := [_, _, _]) rfl ?_
  refine Rn.call rfl rfl rfl rfl rfl (c45_g (hi := 9) (q := q + 2) ht S60 hb (by decide) (by omega) (xup_s _ _ _ _) (by rw [xup_n _ _ (by omega), xup_n _ _ (by omega)]; exact h1) (tx_3 ht (tx_3 ht hx)) hC) ?_
  refine Rn.run 5 (ls' := [_, _, _, _, _, _]) (st' := [_, _, _, _]) rfl ?_
  refine Rn.callV rfl (x_sv (xS_g (!b))) rfl rfl rfl (r) ?_
  exact Rn.ret rfl rfl rfl rfl rfl rfl
