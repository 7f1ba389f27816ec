-- reading a text: read, and the model
theorem tx_fe {c e : Nat → Nat → Int} {b : Bool} {t S : Nat} {bs : Nat → Int} (ht : t < 4) (fr : ∀ a z, a ≠ 3 → ¬ (gid (!b) ≤ a ∧ a ≤ gid (!b) + 3) → e a z = c a z) (hx : tx c t S bs) : tx e t S bs := by
  have hg := gd_in b
  exact tx_fr ht (fun a k ha => fr a k (by omega) (by omega)) hx
theorem x41 {ex : xO} {d : Nat} {b : Bool} {c : Nat → Nat → Int} {t f k : Nat} (ht : t < 4) (f31 : f < 2147483648) (h1 : c 3 1 = (f : Nat)) : Rn ex xt41 d 33 [xA 3, xA (34 + 2 * t), xA (gid (!b)), xI (k : Int)] [] (hp c b) (xI (f : Int), hp c b) := by
  have e : w32 (f : Int) ≠ w32 (-9) := by rw [x_wn f31, show w32 (-9) = -9 from rfl]; omega
  refine Rn.run 2 (ls' := [_, _, _, _]) (st' := [_, _]) rfl ?_
  refine Rn.gt2 rfl (fun e36 => ?_) (fun e36 => ?_)
  · refine Rn.run 2 (ls' := [_, _, _, _]) (st' := [_]) rfl ?_
    rw [h1]
    refine Rn.run 1 (ls' := [_, _, _, _]) (st' := [_, _]) rfl ?_
    refine Rn.ne2 rfl (fun e82 => ?_) (fun e82 => absurd e82 (by exact fun h => h e))
    refine Rn.run 2 (ls' := [_, _, _, _]) (st' := [_]) rfl ?_
    rw [h1]
    exact Rn.ret rfl rfl rfl rfl rfl rfl
  · refine Rn.run 2 (ls' := [_, _, _, _]) (st' := [_]) rfl ?_
    rw [h1]
    refine Rn.run 1 (ls' := [_, _, _, _]) (st' := [_, _]) rfl ?_
    refine Rn.ne2 rfl (fun e45 => ?_) (fun e45 => absurd e45 (by exact fun h => h e))
    refine Rn.run 2 (ls' := [_, _, _, _]) (st' := [_]) rfl ?_
    rw [h1]
    refine Rn.run 1 (ls' := [_, _, _, _]) (st' := [_, _]) rfl ?_
    refine Rn.ne2 rfl (fun e82 => ?_) (fun e82 => absurd e82 (by exact fun h => h e))
    refine Rn.run 2 (ls' := [_, _, _, _]) (st' := [_]) rfl ?_
    rw [h1]
    exact Rn.ret rfl rfl rfl rfl rfl rfl
theorem l41 {ex : xO} (hL : ex 1 = (6, xlet)) {d : Nat} {b : Bool} {t S : Nat} (ht : t < 4) (S60 : S ≤ 60) {bs : Nat → Int} (hb : ∀ k, k < 60 → -128 ≤ bs k ∧ bs k < 128) : ∀ (m k q : Nat) (c : Nat → Nat → Int) (G : Nat → Nat × Nat × Nat), k + m = 7 → k ≤ 6 → q ≤ S → c 3 0 = (q : Nat) → c 3 1 = -9 → tx c t S bs → DG c (gid (!b)) k G → ∃ e, Rn ex xt41 (d + 5) 33 [xA 3, xA (34 + 2 * t), xA (gid (!b)), xI (k : Int)] [] (hp c b) (xI (prs S bs m k q G).1, hp e b) ∧ (∀ a z, a ≠ 3 → ¬ (gid (!b) ≤ a ∧ a ≤ gid (!b) + 3) → e a z = c a z) ∧ ((prs S bs m k q G).1 = -9 → e (gid (!b)) 1 = c (gid (!b)) 1 ∧ DG e (gid (!b)) (prs S bs m k q G).2.1 (prs S bs m k q G).2.2) := by
  have hg := gd_in b
  intro m
  induction m with
  | zero => intro k q c G h1 h2; omega
  | succ m ih =>
    intro k q c G hm hk hqS h0 h1 hx hD
    have q31 : q < 2147483648 := by omega
    have S31 : S < 2147483648 := by omega
    have k31 : k < 2147483648 := by omega
    have nk : ¬ w32 6 < w32 (k : Int) := fun h => absurd ((y_lt (n := 6) (by omega) (by omega)).mp h) (by omega)
    by_cases hq : q < S
    · have nq : ¬ w32 (S : Int) ≤ w32 (q : Int) := fun h => absurd ((y_ge (by omega) (by omega)).mp h) (by omega)
      by_cases hA : k = 6 ∨ kk (bs q) = -1
      · rw [show prs S bs (m + 1) k q G = ((q : Int), k, G) from (if_pos hq).trans (if_pos hA)]
        refine ⟨xup (xup c 3 1 (q : Nat)) 3 0 (sk S bs q : Nat), ?_, fun a z g1 g2 => by rw [xup_n _ _ (by omega), xup_n _ _ (by omega)], fun h => by have h : (q : Int) = -9 := h; omega⟩
        refine Rn.run 2 (ls' := [_, _, _, _]) (st' := [_, _]) rfl ?_
        refine Rn.gt2 rfl (fun e36 => absurd e36 (by exact nk)) (fun e36 => ?_)
        refine Rn.run 2 (ls' := [_, _, _, _]) (st' := [_]) rfl ?_
        rw [h1]
        refine Rn.run 1 (ls' := [_, _, _, _]) (st' := [_, _]) rfl ?_
        refine Rn.ne2 rfl (fun e45 => absurd e45 (by exact fun h => h rfl)) (fun e45 => ?_)
        refine Rn.run 2 (ls' := [_, _, _, _]) (st' := [_]) rfl ?_
        rw [h0]
        refine Rn.run 1 (ls' := [_, _, _, _]) (st' := [_, _]) rfl ?_
        refine Rn.getI rfl (xS_txt ht) ?_
        rw [hx.1]
        refine Rn.ge2 rfl (fun e56 => absurd e56 (by exact nq)) (fun e56 => ?_)
        refine Rn.run 3 (ls' := [_, _, _, _]) (st' := [_, _, _]) rfl ?_
        refine Rn.call rfl rfl rfl rfl rfl (c44_a hL ht S60 hb hk hq h0 h1 hx hD hA) ?_
        refine Rn.run 2 (ls' := [_, _, _, _]) (st' := [_, _]) rfl ?_
        refine Rn.call rfl rfl rfl rfl rfl (c42 ht S60 hb hqS (by rw [xup_n _ _ (by omega)]; exact h0) (tx_3 ht hx)) ?_
        refine Rn.run 2 (ls' := [_, _, _, _]) (st' := []) rfl ?_
        exact x41 (k := k + 1) ht q31 (by rw [xup_n _ _ (by omega), xup_s])
      · have h6 : k ≠ 6 := fun z => hA (Or.inl z)
        have hK : ¬ kk (bs q) = -1 := fun z => hA (Or.inr z)
        by_cases hB : fgo S bs 7 (q + 1) = true
        · by_cases hC : fgo S bs 9 (q + 2) = true
          · obtain ⟨e1, r1, f1, g1, p0, p1, pS, pD⟩ := c44_d (d := d) (b := b) hL ht S60 hb hk hq h0 h1 hx hD h6 hK hB hC
            have e3 : prs S bs (m + 1) k q G = prs S bs m (k + 1) (sk S bs (q + 3)) (ext G k ((kk (bs q)).toNat, fgv bs (q + 1), fgv bs (q + 2))) := (if_pos hq).trans ((if_neg hA).trans ((if_neg (fun z => z hB)).trans (if_neg (fun z => z hC))))
            obtain ⟨e, r, fr, fD⟩ := ih (k + 1) (sk S bs (q + 3)) (xup e1 3 0 (sk S bs (q + 3) : Nat)) (ext G k ((kk (bs q)).toNat, fgv bs (q + 1), fgv bs (q + 2))) (by omega) (by omega) (sk_le bs pS) (xup_s _ _ _ _) (by rw [xup_n _ _ (by omega)]; exact p1) (tx_3 ht (tx_fe ht f1 hx)) ⟨by rw [xup_n _ _ (by omega)]; exact pD.1, by rw [xup_n _ _ (by omega)]; exact pD.2.1, fun i hi => by rw [xup_n _ _ (by omega), xup_n _ _ (by omega), xup_n _ _ (by omega)]; exact pD.2.2 i hi⟩
            rw [e3]
            refine ⟨e, ?_, fun a z g1 g2 => by rw [fr a z g1 g2, xup_n _ _ (by omega)]; exact f1 a z g1 g2, fun h => ⟨by rw [(fD h).1, xup_n _ _ (by omega)]; exact g1, (fD h).2⟩⟩
            refine Rn.run 2 (ls' := [_, _, _, _]) (st' := [_, _]) rfl ?_
            refine Rn.gt2 rfl (fun e36 => absurd e36 (by exact nk)) (fun e36 => ?_)
            refine Rn.run 2 (ls' := [_, _, _, _]) (st' := [_]) rfl ?_
            rw [h1]
            refine Rn.run 1 (ls' := [_, _, _, _]) (st' := [_, _]) rfl ?_
            refine Rn.ne2 rfl (fun e45 => absurd e45 (by exact fun h => h rfl)) (fun e45 => ?_)
            refine Rn.run 2 (ls' := [_, _, _, _]) (st' := [_]) rfl ?_
            rw [h0]
            refine Rn.run 1 (ls' := [_, _, _, _]) (st' := [_, _]) rfl ?_
            refine Rn.getI rfl (xS_txt ht) ?_
            rw [hx.1]
            refine Rn.ge2 rfl (fun e56 => absurd e56 (by exact nq)) (fun e56 => ?_)
            refine Rn.run 3 (ls' := [_, _, _, _]) (st' := [_, _, _]) rfl ?_
            refine Rn.call rfl rfl rfl rfl rfl (r1) ?_
            refine Rn.run 2 (ls' := [_, _, _, _]) (st' := [_, _]) rfl ?_
            refine Rn.call rfl rfl rfl rfl rfl (c42 ht S60 hb pS p0 (tx_fe ht f1 hx)) ?_
            refine Rn.run 2 (ls' := [_, _, _, _]) (st' := []) rfl ?_
            exact r
          · obtain ⟨e1, r1, f1, g1, p0, p1, pS⟩ := c44_c (d := d) (b := b) hL ht S60 hb hk hq h0 h1 hx hD h6 hK hB hC
            rw [show prs S bs (m + 1) k q G = (((q + 2 : Nat) : Int), k, G) from (if_pos hq).trans ((if_neg hA).trans ((if_neg (fun z => z hB)).trans (if_pos hC)))]
            refine ⟨xup e1 3 0 (sk S bs (q + 2) : Nat), ?_, fun a z g1 g2 => by rw [xup_n _ _ (by omega)]; exact f1 a z g1 g2, fun h => by have h : ((q + 2 : Nat) : Int) = -9 := h; omega⟩
            refine Rn.run 2 (ls' := [_, _, _, _]) (st' := [_, _]) rfl ?_
            refine Rn.gt2 rfl (fun e36 => absurd e36 (by exact nk)) (fun e36 => ?_)
            refine Rn.run 2 (ls' := [_, _, _, _]) (st' := [_]) rfl ?_
            rw [h1]
            refine Rn.run 1 (ls' := [_, _, _, _]) (st' := [_, _]) rfl ?_
            refine Rn.ne2 rfl (fun e45 => absurd e45 (by exact fun h => h rfl)) (fun e45 => ?_)
            refine Rn.run 2 (ls' := [_, _, _, _]) (st' := [_]) rfl ?_
            rw [h0]
            refine Rn.run 1 (ls' := [_, _, _, _]) (st' := [_, _]) rfl ?_
            refine Rn.getI rfl (xS_txt ht) ?_
            rw [hx.1]
            refine Rn.ge2 rfl (fun e56 => absurd e56 (by exact nq)) (fun e56 => ?_)
            refine Rn.run 3 (ls' := [_, _, _, _]) (st' := [_, _, _]) rfl ?_
            refine Rn.call rfl rfl rfl rfl rfl (r1) ?_
            refine Rn.run 2 (ls' := [_, _, _, _]) (st' := [_, _]) rfl ?_
            refine Rn.call rfl rfl rfl rfl rfl (c42 ht S60 hb pS p0 (tx_fe ht f1 hx)) ?_
            refine Rn.run 2 (ls' := [_, _, _, _]) (st' := []) rfl ?_
            exact x41 (k := k + 1) (f := q + 2) ht (by omega) (by rw [xup_n _ _ (by omega)]; exact p1)
        · obtain ⟨e1, r1, f1, g1, p0, p1⟩ := c44_b (d := d) (b := b) hL ht S60 hb hk hq h0 h1 hx hD h6 hK hB
          rw [show prs S bs (m + 1) k q G = (((q + 1 : Nat) : Int), k, G) from (if_pos hq).trans ((if_neg hA).trans (if_pos hB))]
          refine ⟨xup e1 3 0 (sk S bs (q + 1) : Nat), ?_, fun a z g1 g2 => by rw [xup_n _ _ (by omega)]; exact f1 a z g1 g2, fun h => by have h : ((q + 1 : Nat) : Int) = -9 := h; omega⟩
          refine Rn.run 2 (ls' := [_, _, _, _]) (st' := [_, _]) rfl ?_
          refine Rn.gt2 rfl (fun e36 => absurd e36 (by exact nk)) (fun e36 => ?_)
          refine Rn.run 2 (ls' := [_, _, _, _]) (st' := [_]) rfl ?_
          rw [h1]
          refine Rn.run 1 (ls' := [_, _, _, _]) (st' := [_, _]) rfl ?_
          refine Rn.ne2 rfl (fun e45 => absurd e45 (by exact fun h => h rfl)) (fun e45 => ?_)
          refine Rn.run 2 (ls' := [_, _, _, _]) (st' := [_]) rfl ?_
          rw [h0]
          refine Rn.run 1 (ls' := [_, _, _, _]) (st' := [_, _]) rfl ?_
          refine Rn.getI rfl (xS_txt ht) ?_
          rw [hx.1]
          refine Rn.ge2 rfl (fun e56 => absurd e56 (by exact nq)) (fun e56 => ?_)
          refine Rn.run 3 (ls' := [_, _, _, _]) (st' := [_, _, _]) rfl ?_
          refine Rn.call rfl rfl rfl rfl rfl (r1) ?_
          refine Rn.run 2 (ls' := [_, _, _, _]) (st' := [_, _]) rfl ?_
          refine Rn.call rfl rfl rfl rfl rfl (c42 ht S60 hb (by omega) p0 (tx_fe ht f1 hx)) ?_
          refine Rn.run 2 (ls' := [_, _, _, _]) (st' := []) rfl ?_
          exact x41 (k := k + 1) (f := q + 1) ht (by omega) (by rw [xup_n _ _ (by omega)]; exact p1)
    · have yq := (y_ge q31 S31).mpr (Nat.not_lt.mp hq)
      by_cases hk0 : k = 0
      · rw [show prs S bs (m + 1) k q G = ((q : Int), k, G) from (if_neg hq).trans (if_pos hk0)]
        refine ⟨xup c 3 1 (q : Nat), ?_, fun a z g1 g2 => by rw [xup_n _ _ (by omega)], fun h => by have h : (q : Int) = -9 := h; omega⟩
        refine Rn.run 2 (ls' := [_, _, _, _]) (st' := [_, _]) rfl ?_
        refine Rn.gt2 rfl (fun e36 => absurd e36 (by exact nk)) (fun e36 => ?_)
        refine Rn.run 2 (ls' := [_, _, _, _]) (st' := [_]) rfl ?_
        rw [h1]
        refine Rn.run 1 (ls' := [_, _, _, _]) (st' := [_, _]) rfl ?_
        refine Rn.ne2 rfl (fun e45 => absurd e45 (by exact fun h => h rfl)) (fun e45 => ?_)
        refine Rn.run 2 (ls' := [_, _, _, _]) (st' := [_]) rfl ?_
        rw [h0]
        refine Rn.run 1 (ls' := [_, _, _, _]) (st' := [_, _]) rfl ?_
        refine Rn.getI rfl (xS_txt ht) ?_
        rw [hx.1]
        refine Rn.ge2 rfl (fun e56 => ?_) (fun e56 => absurd e56 (by exact fun h => h yq))
        refine Rn.run 2 (ls' := [_, _, _, _]) (st' := [_]) rfl ?_
        rw [h1]
        refine Rn.run 1 (ls' := [_, _, _, _]) (st' := [_, _]) rfl ?_
        refine Rn.ne2 rfl (fun e82 => absurd e82 (by exact fun h => h rfl)) (fun e82 => ?_)
        refine Rn.run 1 (ls' := [_, _, _, _]) (st' := [_]) rfl ?_
        refine Rn.getI rfl (xS_g (!b)) ?_
        rw [hD.1]
        refine Rn.ne0 rfl (fun e89 => absurd e89 (by rw [hk0]; decide)) (fun e89 => ?_)
        refine Rn.run 3 (ls' := [_, _, _, _]) (st' := [_, _]) rfl ?_
        rw [h0]
        refine Rn.run 3 (ls' := [_, _, _, _]) (st' := [_]) rfl ?_
        rw [xup_s]
        exact Rn.ret rfl rfl rfl rfl rfl rfl
      · rw [show prs S bs (m + 1) k q G = (-9, k, G) from (if_neg hq).trans (if_neg hk0)]
        refine ⟨c, ?_, fun _ _ _ _ => rfl, fun _ => ⟨rfl, hD⟩⟩
        refine Rn.run 2 (ls' := [_, _, _, _]) (st' := [_, _]) rfl ?_
        refine Rn.gt2 rfl (fun e36 => absurd e36 (by exact nk)) (fun e36 => ?_)
        refine Rn.run 2 (ls' := [_, _, _, _]) (st' := [_]) rfl ?_
        rw [h1]
        refine Rn.run 1 (ls' := [_, _, _, _]) (st' := [_, _]) rfl ?_
        refine Rn.ne2 rfl (fun e45 => absurd e45 (by exact fun h => h rfl)) (fun e45 => ?_)
        refine Rn.run 2 (ls' := [_, _, _, _]) (st' := [_]) rfl ?_
        rw [h0]
        refine Rn.run 1 (ls' := [_, _, _, _]) (st' := [_, _]) rfl ?_
        refine Rn.getI rfl (xS_txt ht) ?_
        rw [hx.1]
        refine Rn.ge2 rfl (fun e56 => ?_) (fun e56 => absurd e56 (by exact fun h => h yq))
        refine Rn.run 2 (ls' := [_, _, _, _]) (st' := [_]) rfl ?_
        rw [h1]
        refine Rn.run 1 (ls' := [_, _, _, _]) (st' := [_, _]) rfl ?_
        refine Rn.ne2 rfl (fun e82 => absurd e82 (by exact fun h => h rfl)) (fun e82 => ?_)
        refine Rn.run 1 (ls' := [_, _, _, _]) (st' := [_]) rfl ?_
        refine Rn.getI rfl (xS_g (!b)) ?_
        rw [hD.1]
        refine Rn.ne0 rfl (fun e89 => ?_) (fun e89 => absurd e89 (by exact fun h => h (z_ne0 hk0 hk)))
        refine Rn.run 2 (ls' := [_, _, _, _]) (st' := [_]) rfl ?_
        rw [h1]
        exact Rn.ret rfl rfl rfl rfl rfl rfl
def G0 : Nat → Nat × Nat × Nat := fun _ => (0, 0, 0)
def rdr (S : Nat) (bs : Nat → Int) : Int × Nat × (Nat → Nat × Nat × Nat) := if trr S bs (sk S bs 0) = -9 then prs S bs 7 0 (sk S bs (sk S bs 0 + 9)) G0 else (trr S bs (sk S bs 0), 0, G0)
theorem trr_n {S : Nat} (bs : Nat → Int) {q : Nat} (h : q ≤ 60) : trr S bs q = -9 ∨ ∃ f : Nat, f ≤ 100 ∧ trr S bs q = (f : Nat) := by
  unfold trr
  split
  · split
    · exact Or.inl rfl
    · have := fbd_in (ok9 S bs q) 8 0
      exact Or.inr ⟨_, by omega, rfl⟩
  · exact Or.inr ⟨q, by omega, rfl⟩
theorem c15 {ex : xO} {d : Nat} {b : Bool} {c : Nat → Nat → Int} : An ex d 15 1 [xA (gid (!b))] (hp c b) (xU, hp (xup (xup (xup c (gid (!b)) 0 0) (gid (!b)) 1 0) (gid (!b)) 2 0) b) := by
  refine Rn.run 2 (ls' := [_]) (st' := [_, _]) rfl ?_
  refine Rn.putI rfl (xS_g (!b)) ?_
  refine Rn.run 2 (ls' := [_]) (st' := [_, _]) rfl ?_
  refine Rn.putI rfl (xS_g (!b)) ?_
  refine Rn.run 2 (ls' := [_]) (st' := [_, _]) rfl ?_
  refine Rn.putI rfl (xS_g (!b)) ?_
  exact Rn.ret rfl rfl rfl rfl rfl rfl
theorem c41 {ex : xO} (hL : ex 1 = (6, xlet)) {d : Nat} {b : Bool} {c : Nat → Nat → Int} {t S : Nat} (ht : t < 4) (S60 : S ≤ 60) {bs : Nat → Int} (hb : ∀ k, k < 60 → -128 ≤ bs k ∧ bs k < 128) (hx : tx c t S bs) : ∃ e, An ex (d + 5) 41 4 [xA 3, xA (34 + 2 * t), xA (gid (!b))] (hp c b) (xI (rdr S bs).1, hp e b) ∧ (∀ a z, a ≠ 3 → ¬ (gid (!b) ≤ a ∧ a ≤ gid (!b) + 3) → e a z = c a z) ∧ ((rdr S bs).1 = -9 → DG e (gid (!b)) (rdr S bs).2.1 (rdr S bs).2.2 ∧ pk (e (gid (!b)) 1) (fun j => fgv bs (sk S bs 0 + 1 + j))) := by
  have hg := gd_in b
  have q0S : sk S bs 0 ≤ S := sk_le bs (Nat.zero_le S)
  have cx : ∀ a z, a ≠ 3 → ¬ (gid (!b) ≤ a ∧ a ≤ gid (!b) + 3) → (xup (xup (xup (xup (xup c 3 0 0) 3 1 (-9)) (gid (!b)) 0 0) (gid (!b)) 1 0) (gid (!b)) 2 0) a z = c a z := fun a z g1 g2 => by rw [xup_n _ _ (by omega), xup_n _ _ (by omega), xup_n _ _ (by omega), xup_n _ _ (by omega), xup_n _ _ (by omega)]
  have hx1 : tx (xup (xup (xup (xup (xup c 3 0 0) 3 1 (-9)) (gid (!b)) 0 0) (gid (!b)) 1 0) (gid (!b)) 2 0) t S bs := tx_fe ht cx hx
  have z0 : (xup (xup (xup (xup (xup c 3 0 0) 3 1 (-9)) (gid (!b)) 0 0) (gid (!b)) 1 0) (gid (!b)) 2 0) 3 0 = ((0 : Nat) : Int) := by rw [xup_n _ _ (by omega), xup_n _ _ (by omega), xup_n _ _ (by omega), xup_n _ _ (by omega), xup_s]; rfl
  have z1 : (xup (xup (xup (xup (xup c 3 0 0) 3 1 (-9)) (gid (!b)) 0 0) (gid (!b)) 1 0) (gid (!b)) 2 0) 3 1 = -9 := by rw [xup_n _ _ (by omega), xup_n _ _ (by omega), xup_n _ _ (by omega), xup_s]
  have z2 : (xup (xup (xup (xup (xup c 3 0 0) 3 1 (-9)) (gid (!b)) 0 0) (gid (!b)) 1 0) (gid (!b)) 2 0) (gid (!b)) 1 = 0 := by rw [xup_n _ _ (by omega), xup_s]
  have r42 := c42 (ex := ex) (d := d + 4) (b := b) ht S60 hb (Nat.zero_le S) z0 hx1
  obtain ⟨e1, r1, f1, p1, ⟨q2, q2S, p0⟩, pk1⟩ := c43 (ex := ex) (d := d + 2) (b := b) ht S60 hb q0S (xup_s (xup (xup (xup (xup (xup c 3 0 0) 3 1 (-9)) (gid (!b)) 0 0) (gid (!b)) 1 0) (gid (!b)) 2 0) 3 0 ((sk S bs 0 : Nat) : Int)) (by rw [xup_n _ _ (by omega)]; exact z1) (tx_3 ht hx1) (by rw [xup_n _ _ (by omega)]; exact z2)
  have ce : ∀ a z, a ≠ 3 → ¬ (gid (!b) ≤ a ∧ a ≤ gid (!b) + 3) → e1 a z = c a z := fun a z g1 g2 => by rw [f1 a z g1 (by omega), xup_n _ _ (by omega)]; exact cx a z g1 g2
  have hx2 : tx e1 t S bs := tx_fe ht ce hx
  by_cases ht9 : trr S bs (sk S bs 0) = -9
  · obtain ⟨y0, yS, yp⟩ := pk1 ht9
    rw [show rdr S bs = prs S bs 7 0 (sk S bs (sk S bs 0 + 9)) G0 from if_pos ht9]
    obtain ⟨e, r, fr, fD⟩ := l41 (d := d) (b := b) hL ht S60 hb 7 0 (sk S bs (sk S bs 0 + 9)) (xup e1 3 0 (sk S bs (sk S bs 0 + 9) : Nat)) G0 rfl (by decide) (sk_le bs yS) (xup_s _ _ _ _) (by rw [xup_n _ _ (by omega), p1]; exact ht9) (tx_3 ht hx2) ⟨by rw [xup_n _ _ (by omega), f1 _ _ (by omega) (by omega), xup_n _ _ (by omega), xup_n _ _ (by omega), xup_n _ _ (by omega), xup_s]; rfl, by rw [xup_n _ _ (by omega), f1 _ _ (by omega) (by omega), xup_n _ _ (by omega), xup_s]; rfl, fun i hi => absurd hi (Nat.not_lt_zero i)⟩
    refine ⟨e, ?_, fun a z g1 g2 => by rw [fr a z g1 g2, xup_n _ _ (by omega)]; exact ce a z g1 g2, fun h => ⟨(fD h).2, by rw [(fD h).1, xup_n _ _ (by omega)]; exact yp⟩⟩
    refine Rn.run 7 (ls' := [_, _, _, _]) (st' := [_]) rfl ?_
    refine Rn.callV rfl (x_sv (xS_g (!b))) rfl rfl rfl (c15) ?_
    refine Rn.run 2 (ls' := [_, _, _, _]) (st' := [_, _]) rfl ?_
    refine Rn.call rfl rfl rfl rfl rfl (r42) ?_
    refine Rn.run 3 (ls' := [_, _, _, _]) (st' := [_, _, _]) rfl ?_
    refine Rn.call rfl rfl rfl rfl rfl (r1) ?_
    refine Rn.run 2 (ls' := [_, _, _, _]) (st' := [_, _]) rfl ?_
    refine Rn.call rfl rfl rfl rfl rfl (c42 ht S60 hb yS y0 hx2) ?_
    refine Rn.run 2 (ls' := [_, _, _, _]) (st' := []) rfl ?_
    exact r
  · obtain ⟨f, f100, ef⟩ := (trr_n bs (S := S) (q := sk S bs 0) (by omega)).resolve_left ht9
    rw [show rdr S bs = (trr S bs (sk S bs 0), 0, G0) from if_neg ht9]
    refine ⟨xup e1 3 0 (sk S bs q2 : Nat), ?_, fun a z g1 g2 => by rw [xup_n _ _ (by omega)]; exact ce a z g1 g2, fun h => absurd h ht9⟩
    show An ex (d + 5) 41 4 [xA 3, xA (34 + 2 * t), xA (gid (!b))] (hp c b) (xI (trr S bs (sk S bs 0)), _)
    rw [ef]
    rw [ef] at p1
    refine Rn.run 7 (ls' := [_, _, _, _]) (st' := [_]) rfl ?_
    refine Rn.callV rfl (x_sv (xS_g (!b))) rfl rfl rfl (c15) ?_
    refine Rn.run 2 (ls' := [_, _, _, _]) (st' := [_, _]) rfl ?_
    refine Rn.call rfl rfl rfl rfl rfl (r42) ?_
    refine Rn.run 3 (ls' := [_, _, _, _]) (st' := [_, _, _]) rfl ?_
    refine Rn.call rfl rfl rfl rfl rfl (r1) ?_
    refine Rn.run 2 (ls' := [_, _, _, _]) (st' := [_, _]) rfl ?_
    refine Rn.call rfl rfl rfl rfl rfl (c42 ht S60 hb q2S p0 hx2) ?_
    refine Rn.run 2 (ls' := [_, _, _, _]) (st' := []) rfl ?_
    exact x41 (k := 0) ht (by omega) (by rw [xup_n _ _ (by omega)]; exact p1)
