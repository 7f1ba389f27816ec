-- fault
theorem x156 {ex : xO} {d : Nat} {b : Bool} {c : Nat → Nat → Int} {t : Nat} : Rn ex xt156 d 46 [xA 54, xI (t : Int), xI 0] [] (hp c b) (xI (-9), hp c b) := by
  refine Rn.run 1 (ls' := [_, _, _]) (st' := [_]) rfl ?_
  refine Rn.eq0 rfl (fun e47 => ?_) (fun e47 => absurd e47 (by decide))
  refine Rn.run 1 (ls' := [_, _, _]) (st' := [_]) rfl ?_
  exact Rn.ret rfl rfl rfl rfl rfl rfl
theorem l156 {ex : xO} {d : Nat} {b : Bool} {t S : Nat} (ht : t < 4) (S60 : S ≤ 60) {bs : Nat → Int} (hb : ∀ k, k < 60 → -128 ≤ bs k ∧ bs k < 128) : ∀ (m k q0 : Nat) (c : Nat → Nat → Int) (G : Nat → Nat × Nat × Nat), k + m = 7 → k ≤ 6 → q0 ≤ S → c 54 12 = (q0 : Nat) → c 54 14 = (k : Nat) → mt c t S bs → MG c k G → ∃ e, Rn ex xt156 (d + 4) 46 [xA 54, xI (t : Int), xI 1] [] (hp c b) (xI (prs S bs m k (sk S bs q0) G).1, hp e b) ∧ (∀ a z, a ≠ 62 → ¬ (a = 54 ∧ (z = 12 ∨ z = 14)) → e a z = c a z) ∧ (∀ z, z < 8 → e 62 z = c 62 z) ∧ ((prs S bs m k (sk S bs q0) G).1 = -9 → e 54 14 = ((prs S bs m k (sk S bs q0) G).2.1 : Nat) ∧ MG e (prs S bs m k (sk S bs q0) G).2.1 (prs S bs m k (sk S bs q0) G).2.2) := by
  intro m
  induction m with
  | zero => intro k q0 c G h1 h2; omega
  | succ m ih =>
    intro k q0 c G hkm hk hq0 h0 h14 hm hG
    have hqS := sk_le bs hq0
    generalize hq : sk S bs q0 = q at hqS ⊢
    have q31 : q < 2147483648 := by omega
    have S31 : S < 2147483648 := by omega
    have f1 : ∀ a z, a ≠ 62 → ¬ (a = 54 ∧ (z = 12 ∨ z = 14)) → xup c 54 12 (q : Int) a z = c a z := fun a z g1 g2 => xup_n _ _ (by omega)
    have m1 : mt (xup c 54 12 (q : Int)) t S bs := mt_fr f1 hm
    have k1 : xup c 54 12 (q : Int) 54 14 = (k : Nat) := by rw [xup_n _ _ (by omega)]; exact h14
    have r155 := c155 (ex := ex) (d := d + 2) (b := b) ht S60 hb hq0 h0 hm
    rw [hq] at r155
    by_cases hS : q < S
    · have yl : w32 (q : Int) < w32 (S : Int) := (y_lt S31 q31).mpr hS
      have eh : hr S bs q = bs q := if_pos hS
      by_cases hA : k = 6 ∨ kk (bs q) = -1
      · rw [show prs S bs (m + 1) k q G = ((q : Int), k, G) from (if_pos hS).trans (if_pos hA)]
        refine ⟨xup c 54 12 (q : Int), ?_, f1, fun z hz => xup_n _ _ (by omega), fun h => by have h : (q : Int) = -9 := h; omega⟩
        refine Rn.run 1 (ls' := [_, _, _]) (st' := [_]) rfl ?_
        refine Rn.eq0 rfl (fun e47 => absurd e47 (by decide)) (fun e47 => ?_)
        refine Rn.run 1 (ls' := [_, _, _]) (st' := [_]) rfl ?_
        refine Rn.call rfl rfl rfl rfl rfl (r155) ?_
        refine Rn.run 2 (ls' := [_, _, _]) (st' := [_]) rfl ?_
        rw [xup_s]
        refine Rn.run 2 (ls' := [_, _, _]) (st' := [_, _]) rfl ?_
        rw [m1.2.1]
        refine Rn.lt2 rfl (fun e62 => ?_) (fun e62 => absurd e62 (by exact fun h => h yl))
        refine Rn.run 4 (ls' := [_, _, _]) (st' := [_]) rfl ?_
        refine Rn.eq0 rfl (fun e79 => absurd e79 (by decide)) (fun e79 => ?_)
        refine Rn.run 1 (ls' := [_, _, _]) (st' := [_]) rfl ?_
        refine Rn.call rfl rfl rfl rfl rfl (c154_a ht S60 hb hk hqS (xup_s c 54 12 ((q : Nat) : Int)) k1 m1 (by rw [eh]; exact hA.symm)) ?_
        refine Rn.ne0 rfl (fun e86 => absurd e86 (by decide)) (fun e86 => ?_)
        refine Rn.run 2 (ls' := [_, _, _]) (st' := [_]) rfl ?_
        rw [xup_s]
        exact Rn.ret rfl rfl rfl rfl rfl rfl
      · have h6 : k ≠ 6 := fun z => hA (Or.inl z)
        have hK : ¬ kk (bs q) = -1 := fun z => hA (Or.inr z)
        by_cases hB : fgo S bs 7 (q + 1) = true
        · by_cases hC : fgo S bs 9 (q + 2) = true
          · obtain ⟨e1, r1, g1, g2, p0, p14, pS, pG⟩ := c154_d (ex := ex) (d := d) (b := b) (G := G) ht S60 hb hk hqS (xup_s c 54 12 ((q : Nat) : Int)) k1 m1 hS h6 hK (fun i hi => by rw [xup_n _ _ (by omega), xup_n _ _ (by omega), xup_n _ _ (by omega)]; exact hG i hi) hB hC
            have e3 : prs S bs (m + 1) k q G = prs S bs m (k + 1) (sk S bs (q + 3)) (ext G k ((kk (bs q)).toNat, fgv bs (q + 1), fgv bs (q + 2))) := (if_pos hS).trans ((if_neg hA).trans ((if_neg (fun z => z hB)).trans (if_neg (fun z => z hC))))
            obtain ⟨e, r, fr, fr8, fD⟩ := ih (k + 1) (q + 3) e1 (ext G k ((kk (bs q)).toNat, fgv bs (q + 1), fgv bs (q + 2))) (by omega) (by omega) pS p0 p14 (mt_fr g1 m1) pG
            rw [e3]
            refine ⟨e, ?_, fun a z g3 g4 => by rw [fr a z g3 g4, g1 a z g3 g4]; exact f1 a z g3 g4, fun z hz => by rw [fr8 z hz, g2 z (by omega), xup_n _ _ (by omega)], fD⟩
            refine Rn.run 1 (ls' := [_, _, _]) (st' := [_]) rfl ?_
            refine Rn.eq0 rfl (fun e47 => absurd e47 (by decide)) (fun e47 => ?_)
            refine Rn.run 1 (ls' := [_, _, _]) (st' := [_]) rfl ?_
            refine Rn.call rfl rfl rfl rfl rfl (r155) ?_
            refine Rn.run 2 (ls' := [_, _, _]) (st' := [_]) rfl ?_
            rw [xup_s]
            refine Rn.run 2 (ls' := [_, _, _]) (st' := [_, _]) rfl ?_
            rw [m1.2.1]
            refine Rn.lt2 rfl (fun e62 => ?_) (fun e62 => absurd e62 (by exact fun h => h yl))
            refine Rn.run 4 (ls' := [_, _, _]) (st' := [_]) rfl ?_
            refine Rn.eq0 rfl (fun e79 => absurd e79 (by decide)) (fun e79 => ?_)
            refine Rn.run 1 (ls' := [_, _, _]) (st' := [_]) rfl ?_
            refine Rn.call rfl rfl rfl rfl rfl (r1) ?_
            refine Rn.ne0 rfl (fun e86 => ?_) (fun e86 => absurd e86 (by decide))
            exact r
          · obtain ⟨e1, r1, g1, g2, p0⟩ := c154_c (ex := ex) (d := d) (b := b) ht S60 hb hk hqS (xup_s c 54 12 ((q : Nat) : Int)) k1 m1 hS h6 hK hB hC
            rw [show prs S bs (m + 1) k q G = (((q + 2 : Nat) : Int), k, G) from (if_pos hS).trans ((if_neg hA).trans ((if_neg (fun z => z hB)).trans (if_pos hC)))]
            refine ⟨e1, ?_, fun a z g3 g4 => by rw [g1 a z g3 g4]; exact f1 a z g3 g4, fun z hz => by rw [g2 z (by omega), xup_n _ _ (by omega)], fun h => by have h : ((q + 2 : Nat) : Int) = -9 := h; omega⟩
            refine Rn.run 1 (ls' := [_, _, _]) (st' := [_]) rfl ?_
            refine Rn.eq0 rfl (fun e47 => absurd e47 (by decide)) (fun e47 => ?_)
            refine Rn.run 1 (ls' := [_, _, _]) (st' := [_]) rfl ?_
            refine Rn.call rfl rfl rfl rfl rfl (r155) ?_
            refine Rn.run 2 (ls' := [_, _, _]) (st' := [_]) rfl ?_
            rw [xup_s]
            refine Rn.run 2 (ls' := [_, _, _]) (st' := [_, _]) rfl ?_
            rw [m1.2.1]
            refine Rn.lt2 rfl (fun e62 => ?_) (fun e62 => absurd e62 (by exact fun h => h yl))
            refine Rn.run 4 (ls' := [_, _, _]) (st' := [_]) rfl ?_
            refine Rn.eq0 rfl (fun e79 => absurd e79 (by decide)) (fun e79 => ?_)
            refine Rn.run 1 (ls' := [_, _, _]) (st' := [_]) rfl ?_
            refine Rn.call rfl rfl rfl rfl rfl (r1) ?_
            refine Rn.ne0 rfl (fun e86 => absurd e86 (by decide)) (fun e86 => ?_)
            refine Rn.run 2 (ls' := [_, _, _]) (st' := [_]) rfl ?_
            rw [p0]
            exact Rn.ret rfl rfl rfl rfl rfl rfl
        · obtain ⟨e1, r1, g1, g2, p0⟩ := c154_b (ex := ex) (d := d) (b := b) ht S60 hb hk hqS (xup_s c 54 12 ((q : Nat) : Int)) k1 m1 hS h6 hK hB
          rw [show prs S bs (m + 1) k q G = (((q + 1 : Nat) : Int), k, G) from (if_pos hS).trans ((if_neg hA).trans (if_pos hB))]
          refine ⟨e1, ?_, fun a z g3 g4 => by rw [g1 a z g3 g4]; exact f1 a z g3 g4, fun z hz => by rw [g2 z (by omega), xup_n _ _ (by omega)], fun h => by have h : ((q + 1 : Nat) : Int) = -9 := h; omega⟩
          refine Rn.run 1 (ls' := [_, _, _]) (st' := [_]) rfl ?_
          refine Rn.eq0 rfl (fun e47 => absurd e47 (by decide)) (fun e47 => ?_)
          refine Rn.run 1 (ls' := [_, _, _]) (st' := [_]) rfl ?_
          refine Rn.call rfl rfl rfl rfl rfl (r155) ?_
          refine Rn.run 2 (ls' := [_, _, _]) (st' := [_]) rfl ?_
          rw [xup_s]
          refine Rn.run 2 (ls' := [_, _, _]) (st' := [_, _]) rfl ?_
          rw [m1.2.1]
          refine Rn.lt2 rfl (fun e62 => ?_) (fun e62 => absurd e62 (by exact fun h => h yl))
          refine Rn.run 4 (ls' := [_, _, _]) (st' := [_]) rfl ?_
          refine Rn.eq0 rfl (fun e79 => absurd e79 (by decide)) (fun e79 => ?_)
          refine Rn.run 1 (ls' := [_, _, _]) (st' := [_]) rfl ?_
          refine Rn.call rfl rfl rfl rfl rfl (r1) ?_
          refine Rn.ne0 rfl (fun e86 => absurd e86 (by decide)) (fun e86 => ?_)
          refine Rn.run 2 (ls' := [_, _, _]) (st' := [_]) rfl ?_
          rw [p0]
          exact Rn.ret rfl rfl rfl rfl rfl rfl
    · have nl : ¬ w32 (q : Int) < w32 (S : Int) := fun h => hS ((y_lt S31 q31).mp h)
      by_cases hk0 : k = 0
      · rw [show prs S bs (m + 1) k q G = ((q : Int), k, G) from (if_neg hS).trans (if_pos hk0)]
        have kz : kk (hr S bs q) = -1 := by rw [show hr S bs q = -1000 from if_neg hS]; rfl
        refine ⟨xup c 54 12 (q : Int), ?_, f1, fun z hz => xup_n _ _ (by omega), fun h => by have h : (q : Int) = -9 := h; omega⟩
        refine Rn.run 1 (ls' := [_, _, _]) (st' := [_]) rfl ?_
        refine Rn.eq0 rfl (fun e47 => absurd e47 (by decide)) (fun e47 => ?_)
        refine Rn.run 1 (ls' := [_, _, _]) (st' := [_]) rfl ?_
        refine Rn.call rfl rfl rfl rfl rfl (r155) ?_
        refine Rn.run 2 (ls' := [_, _, _]) (st' := [_]) rfl ?_
        rw [xup_s]
        refine Rn.run 2 (ls' := [_, _, _]) (st' := [_, _]) rfl ?_
        rw [m1.2.1]
        refine Rn.lt2 rfl (fun e62 => absurd e62 (by exact nl)) (fun e62 => ?_)
        refine Rn.run 2 (ls' := [_, _, _]) (st' := [_]) rfl ?_
        rw [k1]
        refine Rn.ne0 rfl (fun e69 => absurd e69 (by rw [hk0]; decide)) (fun e69 => ?_)
        refine Rn.run 4 (ls' := [_, _, _]) (st' := [_]) rfl ?_
        refine Rn.eq0 rfl (fun e79 => absurd e79 (by decide)) (fun e79 => ?_)
        refine Rn.run 1 (ls' := [_, _, _]) (st' := [_]) rfl ?_
        refine Rn.call rfl rfl rfl rfl rfl (c154_a ht S60 hb hk hqS (xup_s c 54 12 ((q : Nat) : Int)) k1 m1 (Or.inl kz)) ?_
        refine Rn.ne0 rfl (fun e86 => absurd e86 (by decide)) (fun e86 => ?_)
        refine Rn.run 2 (ls' := [_, _, _]) (st' := [_]) rfl ?_
        rw [xup_s]
        exact Rn.ret rfl rfl rfl rfl rfl rfl
      · rw [show prs S bs (m + 1) k q G = (-9, k, G) from (if_neg hS).trans (if_neg hk0)]
        refine ⟨xup c 54 12 (q : Int), ?_, f1, fun z hz => xup_n _ _ (by omega), fun _ => ⟨k1, fun i hi => by rw [xup_n _ _ (by omega), xup_n _ _ (by omega), xup_n _ _ (by omega)]; exact hG i hi⟩⟩
        refine Rn.run 1 (ls' := [_, _, _]) (st' := [_]) rfl ?_
        refine Rn.eq0 rfl (fun e47 => absurd e47 (by decide)) (fun e47 => ?_)
        refine Rn.run 1 (ls' := [_, _, _]) (st' := [_]) rfl ?_
        refine Rn.call rfl rfl rfl rfl rfl (r155) ?_
        refine Rn.run 2 (ls' := [_, _, _]) (st' := [_]) rfl ?_
        rw [xup_s]
        refine Rn.run 2 (ls' := [_, _, _]) (st' := [_, _]) rfl ?_
        rw [m1.2.1]
        refine Rn.lt2 rfl (fun e62 => absurd e62 (by exact nl)) (fun e62 => ?_)
        refine Rn.run 2 (ls' := [_, _, _]) (st' := [_]) rfl ?_
        rw [k1]
        refine Rn.ne0 rfl (fun e69 => ?_) (fun e69 => absurd e69 (by exact fun h => h (z_ne0 hk0 hk)))
        refine Rn.run 3 (ls' := [_, _, _]) (st' := [_]) rfl ?_
        refine Rn.eq0 rfl (fun e79 => ?_) (fun e79 => absurd e79 (by decide))
        exact x156
theorem c156 {ex : xO} {d : Nat} {b : Bool} {c : Nat → Nat → Int} {t S : Nat} (ht : t < 4) (S60 : S ≤ 60) {bs : Nat → Int} (hb : ∀ k, k < 60 → -128 ≤ bs k ∧ bs k < 128) (hS : c 58 t = (S : Nat)) (h59 : ∀ k, k < 60 → c 59 (60 * t + k) = bs k) : ∃ e, An ex (d + 4) 156 3 [xA 54, xI (t : Int)] (hp c b) (xI (rdr S bs).1, hp e b) ∧ (∀ a z, a ≠ 62 → ¬ (a = 54 ∧ 11 ≤ z ∧ z ≤ 14) → e a z = c a z) ∧ ((rdr S bs).1 = -9 → e 54 14 = ((rdr S bs).2.1 : Nat) ∧ MG e (rdr S bs).2.1 (rdr S bs).2.2 ∧ ∀ j, j < 8 → e 62 j = (fgv bs (sk S bs 0 + 1 + j) : Nat)) := by
  have t31 : t < 2147483648 := by omega
  have q0S : sk S bs 0 ≤ S := sk_le bs (Nat.zero_le S)
  have m0 : mt (xup (xup (xup (xup c 54 11 ((60 * t : Nat) : Int)) 54 12 ((0 : Nat) : Int)) 54 13 (S : Nat)) 54 14 ((0 : Nat) : Int)) t S bs := ⟨by rw [xup_n _ _ (by omega), xup_n _ _ (by omega), xup_n _ _ (by omega), xup_s], by rw [xup_n _ _ (by omega), xup_s], fun k hk => by rw [xup_n _ _ (by omega), xup_n _ _ (by omega), xup_n _ _ (by omega), xup_n _ _ (by omega)]; exact h59 k hk⟩
  have r155 := c155 (ex := ex) (d := d + 2) (b := b) (c := (xup (xup (xup (xup c 54 11 ((60 * t : Nat) : Int)) 54 12 ((0 : Nat) : Int)) 54 13 (S : Nat)) 54 14 ((0 : Nat) : Int))) ht S60 hb (Nat.zero_le S) (by rw [xup_n _ _ (by omega), xup_n _ _ (by omega), xup_s]) m0
  obtain ⟨e1, r1, f1, y1, y2⟩ := c153 (ex := ex) (d := d + 1) (b := b) (c := xup (xup (xup (xup (xup c 54 11 ((60 * t : Nat) : Int)) 54 12 ((0 : Nat) : Int)) 54 13 (S : Nat)) 54 14 ((0 : Nat) : Int)) 54 12 ((sk S bs 0 : Nat) : Int)) ht S60 hb q0S (xup_s _ _ _ _) (mt_fr (fun a z g1 g2 => xup_n _ _ (by omega)) m0)
  have cf : ∀ a z, a ≠ 62 → ¬ (a = 54 ∧ 11 ≤ z ∧ z ≤ 14) → e1 a z = c a z := fun a z g1 g2 => by rw [f1 a z g1 (by omega), xup_n _ _ (by omega), xup_n _ _ (by omega), xup_n _ _ (by omega), xup_n _ _ (by omega), xup_n _ _ (by omega)]
  by_cases ht9 : trr S bs (sk S bs 0) = -9
  · rw [if_pos ht9] at r1
    obtain ⟨z0, zS, z8⟩ := y1 ht9
    rw [show rdr S bs = prs S bs 7 0 (sk S bs (sk S bs 0 + 9)) G0 from if_pos ht9]
    obtain ⟨e, r, fr, fr8, fD⟩ := l156 (ex := ex) (d := d) (b := b) ht S60 hb 7 0 (sk S bs 0 + 9) e1 G0 rfl (by decide) zS z0 (by rw [f1 _ _ (by omega) (by omega), xup_n _ _ (by omega), xup_s]) (mt_fr (fun a z g1 g2 => by rw [f1 a z g1 (by omega), xup_n _ _ (by omega)]) m0) (fun i hi => absurd hi (Nat.not_lt_zero i))
    refine ⟨e, ?_, fun a z g1 g2 => by rw [fr a z g1 (by omega)]; exact cf a z g1 g2, fun h => ⟨(fD h).1, (fD h).2, fun j hj => by rw [fr8 j hj]; exact z8 j hj⟩⟩
    refine Rn.run 12 (ls' := [_, _, _]) (st' := [_, _, _]) rfl ?_
    refine Rn.ald rfl ⟨by decide, rfl⟩ (t) (x_wn t31) ht ?_
    rw [xup_n _ _ (by omega), xup_n _ _ (by omega), hS]
    refine Rn.run 5 (ls' := [_, _, _]) (st' := [_]) rfl ?_
    refine Rn.call rfl rfl rfl rfl rfl (r155) ?_
    refine Rn.run 1 (ls' := [_, _, _]) (st' := [_]) rfl ?_
    refine Rn.call rfl rfl rfl rfl rfl (r1) ?_
    refine Rn.ne0 rfl (fun e36 => ?_) (fun e36 => absurd e36 (by decide))
    refine Rn.run 2 (ls' := [_, _, _]) (st' := []) rfl ?_
    exact r
  · rw [if_neg ht9] at r1
    rw [show rdr S bs = (trr S bs (sk S bs 0), 0, G0) from if_neg ht9]
    refine ⟨e1, ?_, cf, fun h => absurd h ht9⟩
    refine Rn.run 12 (ls' := [_, _, _]) (st' := [_, _, _]) rfl ?_
    refine Rn.ald rfl ⟨by decide, rfl⟩ (t) (x_wn t31) ht ?_
    rw [xup_n _ _ (by omega), xup_n _ _ (by omega), hS]
    refine Rn.run 5 (ls' := [_, _, _]) (st' := [_]) rfl ?_
    refine Rn.call rfl rfl rfl rfl rfl (r155) ?_
    refine Rn.run 1 (ls' := [_, _, _]) (st' := [_]) rfl ?_
    refine Rn.call rfl rfl rfl rfl rfl (r1) ?_
    refine Rn.ne0 rfl (fun e36 => absurd e36 (by decide)) (fun e36 => ?_)
    refine Rn.run 2 (ls' := [_, _, _]) (st' := [_]) rfl ?_
    rw [y2 ht9]
    exact Rn.ret rfl rfl rfl rfl rfl rfl
theorem iTxt_tx {c : Nat → Nat → Int} {t S : Nat} (i2 : iTxt c) (ht : t < 4) (hS : c 58 t = (S : Nat)) : S ≤ 60 ∧ tx c t S (fun k => c 59 (60 * t + k)) ∧ ∀ k, k < 60 → -128 ≤ c 59 (60 * t + k) ∧ c 59 (60 * t + k) < 128 := by
  obtain ⟨h1, h2, h3, h4⟩ := i2 t ht
  exact ⟨by omega, ⟨by rw [h1]; exact hS, fun k hk => (h4 k hk).1⟩, fun k hk => (h4 k hk).2⟩
theorem gdd (b : Bool) : (gid b = 14 ∧ gid (!b) = 18) ∨ (gid b = 18 ∧ gid (!b) = 14) := by cases b <;> simp [gid]
theorem k65_b {ex : xO} {d : Nat} {c : Nat → Nat → Int} {b : Bool}  {a1 : Int} (h1 : w32 a1 = a1) (q1 : ¬ (0 ≤ a1 ∧ a1 < 4)) : An ex (d + 20) 65 3 [xA 0, xI a1] (hp c b) (xI (-1), hp (c) b) := by
  refine Rn.run 2 (ls' := [_, _, _]) (st' := [_, _]) rfl ?_
  refine Rn.call rfl rfl rfl rfl rfl (c108_bad (by rw [h1]; exact q1)) ?_
  refine Rn.run 2 (ls' := [_, _, _]) (st' := [_]) rfl ?_
  refine Rn.eq0 rfl (fun e7 => absurd e7 (by decide)) (fun e7 => ?_)
  refine Rn.run 1 (ls' := [_, _, _]) (st' := [_]) rfl ?_
  exact Rn.ret rfl rfl rfl rfl rfl rfl
theorem k65_n {ex : xO} {d : Nat} {c : Nat → Nat → Int} {b : Bool}  {t : Nat} (ht : t < 4) (i2 : iTxt c) (hn : c 58 t < 0) : An ex (d + 20) 65 3 [xA 0, xI (t : Int)] (hp c b) (xI (-3), hp (xup (xup c 0 13 1) 13 1 (c 13 1 + 1)) b) := by
  have t31 : t < 2147483648 := by omega
  refine Rn.run 2 (ls' := [_, _, _]) (st' := [_, _]) rfl ?_
  refine Rn.call rfl rfl rfl rfl rfl (c108_no t ht (x_wn t31) (by rw [(iTxt_w i2 ht).2]; exact hn)) ?_
  refine Rn.run 2 (ls' := [_, _, _]) (st' := [_]) rfl ?_
  refine Rn.eq0 rfl (fun e7 => absurd e7 (by decide)) (fun e7 => ?_)
  refine Rn.run 1 (ls' := [_, _, _]) (st' := [_]) rfl ?_
  exact Rn.ret rfl rfl rfl rfl rfl rfl
theorem k66_b {ex : xO} {d : Nat} {c : Nat → Nat → Int} {b : Bool}  {a1 : Int} (h1 : w32 a1 = a1) (q1 : ¬ (0 ≤ a1 ∧ a1 < 4)) : An ex (d + 20) 66 5 [xA 0, xI a1] (hp c b) (xI (-1), hp (c) b) := by
  refine Rn.run 2 (ls' := [_, _, _, _, _]) (st' := [_, _]) rfl ?_
  refine Rn.call rfl rfl rfl rfl rfl (c108_bad (by rw [h1]; exact q1)) ?_
  refine Rn.run 2 (ls' := [_, _, _, _, _]) (st' := [_]) rfl ?_
  refine Rn.eq0 rfl (fun e7 => absurd e7 (by decide)) (fun e7 => ?_)
  refine Rn.run 1 (ls' := [_, _, _, _, _]) (st' := [_]) rfl ?_
  exact Rn.ret rfl rfl rfl rfl rfl rfl
theorem k66_n {ex : xO} {d : Nat} {c : Nat → Nat → Int} {b : Bool}  {t : Nat} (ht : t < 4) (i2 : iTxt c) (hn : c 58 t < 0) : An ex (d + 20) 66 5 [xA 0, xI (t : Int)] (hp c b) (xI (-3), hp (xup (xup c 0 13 1) 13 1 (c 13 1 + 1)) b) := by
  have t31 : t < 2147483648 := by omega
  refine Rn.run 2 (ls' := [_, _, _, _, _]) (st' := [_, _]) rfl ?_
  refine Rn.call rfl rfl rfl rfl rfl (c108_no t ht (x_wn t31) (by rw [(iTxt_w i2 ht).2]; exact hn)) ?_
  refine Rn.run 2 (ls' := [_, _, _, _, _]) (st' := [_]) rfl ?_
  refine Rn.eq0 rfl (fun e7 => absurd e7 (by decide)) (fun e7 => ?_)
  refine Rn.run 1 (ls' := [_, _, _, _, _]) (st' := [_]) rfl ?_
  exact Rn.ret rfl rfl rfl rfl rfl rfl
theorem k157_b {ex : xO} {d : Nat} {c : Nat → Nat → Int} {b : Bool}  {a1 : Int} (h1 : w32 a1 = a1) (q1 : ¬ (0 ≤ a1 ∧ a1 < 4)) : An ex (d + 20) 157 2 [xA 54, xI a1] (hp c b) (xI (-1), hp (c) b) := by
  refine Rn.run 1 (ls' := [_, _]) (st' := [_]) rfl ?_
  refine Rn.call rfl rfl rfl rfl rfl (c139) ?_
  refine Rn.neB rfl (fun e4 => absurd e4 (by exact (z_no' (m := 4) h1 q1))) (fun e4 => ?_)
  refine Rn.run 1 (ls' := [_, _]) (st' := [_]) rfl ?_
  exact Rn.ret rfl rfl rfl rfl rfl rfl
theorem k157_n {ex : xO} {d : Nat} {c : Nat → Nat → Int} {b : Bool}  {t : Nat} (ht : t < 4) (i2 : iTxt c) (hn : c 58 t < 0) : An ex (d + 20) 157 2 [xA 54, xI (t : Int)] (hp c b) (xI (-3), hp (xup (xup c 54 5 1) 60 1 (c 60 1 + 1)) b) := by
  refine Rn.run 1 (ls' := [_, _]) (st' := [_]) rfl ?_
  refine Rn.call rfl rfl rfl rfl rfl (c139) ?_
  refine Rn.neB rfl (fun e4 => ?_) (fun e4 => absurd e4 (by exact fun h => h (z_in' (m := 4) ht (by omega))))
  refine Rn.run 3 (ls' := [_, _]) (st' := [_, _]) rfl ?_
  refine Rn.ald rfl ⟨by decide, rfl⟩ (t) (x_wn (n := t) (by omega)) (by omega) ?_
  refine Rn.ge0 rfl (fun e15 => absurd e15 (by rw [(iTxt_w i2 ht).1]; exact Int.not_le.mpr hn)) (fun e15 => ?_)
  refine Rn.run 2 (ls' := [_, _]) (st' := [_, _]) rfl ?_
  refine Rn.call rfl rfl rfl rfl rfl (c134 1 rfl (by decide)) ?_
  refine Rn.run 1 (ls' := [_, _]) (st' := [_]) rfl ?_
  exact Rn.ret rfl rfl rfl rfl rfl rfl
theorem k158_b {ex : xO} {d : Nat} {c : Nat → Nat → Int} {b : Bool}  {a1 : Int} (h1 : w32 a1 = a1) (q1 : ¬ (0 ≤ a1 ∧ a1 < 4)) : An ex (d + 20) 158 3 [xA 54, xI a1] (hp c b) (xI (-1), hp (c) b) := by
  refine Rn.run 1 (ls' := [_, _, _]) (st' := [_]) rfl ?_
  refine Rn.call rfl rfl rfl rfl rfl (c139) ?_
  refine Rn.neB rfl (fun e4 => absurd e4 (by exact (z_no' (m := 4) h1 q1))) (fun e4 => ?_)
  refine Rn.run 1 (ls' := [_, _, _]) (st' := [_]) rfl ?_
  exact Rn.ret rfl rfl rfl rfl rfl rfl
theorem k158_n {ex : xO} {d : Nat} {c : Nat → Nat → Int} {b : Bool}  {t : Nat} (ht : t < 4) (i2 : iTxt c) (hn : c 58 t < 0) : An ex (d + 20) 158 3 [xA 54, xI (t : Int)] (hp c b) (xI (-3), hp (xup (xup c 54 5 1) 60 1 (c 60 1 + 1)) b) := by
  refine Rn.run 1 (ls' := [_, _, _]) (st' := [_]) rfl ?_
  refine Rn.call rfl rfl rfl rfl rfl (c139) ?_
  refine Rn.neB rfl (fun e4 => ?_) (fun e4 => absurd e4 (by exact fun h => h (z_in' (m := 4) ht (by omega))))
  refine Rn.run 3 (ls' := [_, _, _]) (st' := [_, _]) rfl ?_
  refine Rn.ald rfl ⟨by decide, rfl⟩ (t) (x_wn (n := t) (by omega)) (by omega) ?_
  refine Rn.ge0 rfl (fun e15 => absurd e15 (by rw [(iTxt_w i2 ht).1]; exact Int.not_le.mpr hn)) (fun e15 => ?_)
  refine Rn.run 2 (ls' := [_, _, _]) (st' := [_, _]) rfl ?_
  refine Rn.call rfl rfl rfl rfl rfl (c134 1 rfl (by decide)) ?_
  exact Rn.ret rfl rfl rfl rfl rfl rfl
theorem k65_o {ex : xO} (hL : ex 1 = (6, xlet)) {d : Nat} {b : Bool} {c : Nat → Nat → Int} {t S : Nat} (ht : t < 4) (i2 : iTxt c) (hS : c 58 t = (S : Nat)) : ∃ e, An ex (d + 20) 65 3 [xA 0, xI (t : Int)] (hp c b) (xI (rdr S (fun k => c 59 (60 * t + k))).1, hp e b) ∧ ∀ a z, a ≠ 3 → ¬ (gid (!b) ≤ a ∧ a ≤ gid (!b) + 3) → e a z = c a z := by
  have t31 : t < 2147483648 := by omega
  have S31 : S < 2147483648 := by have := (i2 t ht).2.2.1; omega
  obtain ⟨S60, hx, hb⟩ := iTxt_tx i2 ht hS
  have S0 : ¬ w32 (c (34 + 2 * t) 0) < 0 := by rw [hx.1, x_wn S31]; omega
  obtain ⟨e, r, fr, -⟩ := c41 (d := d + 14) (b := b) hL ht S60 hb hx
  refine ⟨e, ?_, fr⟩
  refine Rn.run 2 (ls' := [_, _, _]) (st' := [_, _]) rfl ?_
  refine Rn.call rfl rfl rfl rfl rfl (c108_ok t ht (x_wn t31) S0) ?_
  refine Rn.run 2 (ls' := [_, _, _]) (st' := [_]) rfl ?_
  refine Rn.eq0 rfl (fun e7 => ?_) (fun e7 => absurd e7 (by decide))
  refine Rn.run 5 (ls' := [_, _, _]) (st' := [_, _, _]) rfl ?_
  refine Rn.aald rfl ⟨by decide, rfl, by decide, by decide⟩ (t) (x_wn (n := t) (by omega)) (by omega) (xR_txt ht).1 ?_
  refine Rn.run 1 (ls' := [_, _, _]) (st' := [_, _, _]) rfl ?_
  refine Rn.getR rfl ⟨by decide, rfl, rfl⟩ (j := gid (!b)) (by cases b <;> rfl) ?_
  refine Rn.call rfl rfl rfl rfl rfl (r) ?_
  exact Rn.ret rfl rfl rfl rfl rfl rfl
theorem k157_o {ex : xO} {d : Nat} {b : Bool} {c : Nat → Nat → Int} {t S : Nat} (ht : t < 4) (i2 : iTxt c) (hS : c 58 t = (S : Nat)) : ∃ e, An ex (d + 20) 157 2 [xA 54, xI (t : Int)] (hp c b) (xI (rdr S (fun k => c 59 (60 * t + k))).1, hp e b) ∧ (∀ a z, a ≠ 62 → ¬ (a = 54 ∧ 11 ≤ z ∧ z ≤ 14) → e a z = c a z) := by
  have t31 : t < 2147483648 := by omega
  have S31 : S < 2147483648 := by have := (i2 t ht).2.2.1; omega
  obtain ⟨S60, hx, hb⟩ := iTxt_tx i2 ht hS
  have S0 : 0 ≤ w32 (c 58 t) := by rw [hS, x_wn S31]; omega
  obtain ⟨e, r, fr, -⟩ := c156 (ex := ex) (d := d + 15) (b := b) (c := c) ht S60 hb hS (fun k hk => rfl)
  refine ⟨e, ?_, fr⟩
  refine Rn.run 1 (ls' := [_, _]) (st' := [_]) rfl ?_
  refine Rn.call rfl rfl rfl rfl rfl (c139) ?_
  refine Rn.neB rfl (fun e4 => ?_) (fun e4 => absurd e4 (by exact fun h => h (z_in' (m := 4) ht (by omega))))
  refine Rn.run 3 (ls' := [_, _]) (st' := [_, _]) rfl ?_
  refine Rn.ald rfl ⟨by decide, rfl⟩ (t) (x_wn t31) ht ?_
  refine Rn.ge0 rfl (fun e15 => ?_) (fun e15 => absurd e15 (by exact fun h => h S0))
  refine Rn.run 2 (ls' := [_, _]) (st' := [_, _]) rfl ?_
  refine Rn.call rfl rfl rfl rfl rfl (r) ?_
  exact Rn.ret rfl rfl rfl rfl rfl rfl
theorem g_fault {ex : xO} (hL : ex 1 = (6, xlet)) (a1 : Int) (h1 : w32 a1 = a1) : AgI ex 65 3 157 2 [xI a1] := by
  intro d c b hI
  by_cases q1 : 0 ≤ a1 ∧ a1 < 4
  · obtain ⟨t, ht, rfl⟩ : ∃ j : Nat, j < 4 ∧ a1 = (j : Int) := ⟨a1.toNat, by omega, by omega⟩
    have i2 := hI.2.1
    by_cases hn : c 58 t < 0
    · exact Ag_find2 hI 1 (by decide) (k65_n ht i2 hn) (fun c' hq => k157_n ht (iTxt_fr (fun a k ha => hq a k (by omega) (by omega)) i2) (by rw [hq 58 t (by decide) (by decide)]; exact hn))
    · obtain ⟨S, hS⟩ : ∃ S : Nat, c 58 t = (S : Nat) := ⟨(c 58 t).toNat, by omega⟩
      have hg := gdd b
      obtain ⟨e1, r1, f1⟩ := k65_o (d := d) (b := b) hL ht i2 hS
      have fr : ∀ a z, 22 ≤ a → e1 a z = c a z := fun a z ha => f1 a z (by omega) (by omega)
      obtain ⟨e2, r2, f2⟩ := k157_o (ex := ex) (d := d) (b := b) (c := e1) ht (iTxt_fr (fun a k ha => fr a k (by omega)) i2) (by rw [fr 58 t (by omega)]; exact hS)
      rw [show (fun k => e1 59 (60 * t + k)) = fun k => c 59 (60 * t + k) from funext (fun k => fr 59 _ (by omega))] at r2
      exact ⟨_, _, e1, b, e2, b, r1, r2, rfl, Inv_fr (fun a k ha => by rw [f2 a k (by omega) (by omega)]; exact f1 a k (by omega) (by omega)) hI⟩
  · exact Ag_same hI (-1) (k65_b h1 q1) (k157_b h1 q1)
