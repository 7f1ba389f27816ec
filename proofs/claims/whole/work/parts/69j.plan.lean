-- plan
def paf (pa : Nat → Nat × (Nat → Nat) → (Nat → Nat) → Option (Nat → Nat)) (kd bo wo : Nat → Nat) (n k s : Nat) (L tr : Nat → Nat) (i : Nat) (a : Option (Nat → Nat)) : Option (Nat → Nat) := match a with
  | some f => some f
  | none => if can kd n s i = true then pa (k + 1) (s ||| 2 ^ i, tl kd bo wo i L) (exn tr k i) else none
def pa (kd bo wo : Nat → Nat) (n v j : Nat) : Nat → Nat → Nat × (Nat → Nat) → (Nat → Nat) → Option (Nat → Nat)
  | 0, _, t, tr => if v ≤ t.2 j then some tr else none
  | m + 1, k, t, tr => xit (fun i a => match a with
    | some f => some f
    | none => if can kd n t.1 i = true then pa kd bo wo n v j m (k + 1) (t.1 ||| 2 ^ i, tl kd bo wo i t.2) (exn tr k i) else none) n 0 none
theorem pa_s (kd bo wo : Nat → Nat) (n v j m k : Nat) (t : Nat × (Nat → Nat)) (tr : Nat → Nat) : pa kd bo wo n v j (m + 1) k t tr = xit (paf (pa kd bo wo n v j m) kd bo wo n k t.1 t.2 tr) n 0 none := rfl
theorem paf_some (p : Nat → Nat × (Nat → Nat) → (Nat → Nat) → Option (Nat → Nat)) (kd bo wo : Nat → Nat) (n k s : Nat) (L tr : Nat → Nat) (f : Nat → Nat) : ∀ m i, xit (paf p kd bo wo n k s L tr) m i (some f) = some f := by
  intro m
  induction m with
  | zero => intro i; rfl
  | succ m ih => intro i; exact ih (i + 1)
theorem c37 {ex : xO} {b : Bool} {n : Nat} {kd bo wo : Nat → Nat} (ho : gok n kd bo wo) {N v j : Nat} (hN : N ≤ 6) (hv : v ≤ 9) (hj : j < 8) : ∀ (m d k s : Nat) (X : Int) (L tr : Nat → Nat) (c : Nat → Nat → Int), k + m = N → s < 64 → pk X L → l9 L → cG c b n kd bo wo → c 4 4 = (j : Nat) → c 4 5 = (v : Nat) → (∀ i, i < k → c 5 i = (tr i : Nat)) → ∃ e, An ex (d + m + 6) 37 7 [xA 4, xA (gid b), xI (N : Int), xI (k : Int), xI X, xI (s : Int)] (hp c b) (xI (if (pa kd bo wo n v j m k (s, L) tr).isSome = true then 1 else 0), hp e b) ∧ (∀ f, pa kd bo wo n v j m k (s, L) tr = some f → ∀ i, i < N → e 5 i = (f i : Nat)) ∧ (pa kd bo wo n v j m k (s, L) tr = none → ∀ i, i < k → e 5 i = (tr i : Nat)) ∧ ∀ a z, a ≠ 5 → e a z = c a z := by
  have hn := ho.1
  have hg := gid_in b
  intro m
  induction m with
  | zero =>
    intro d k s X L tr c hkm hs hX h9 hC h4 h5 ht
    obtain rfl : k = N := by omega
    have l9j := h9 j hj
    have ev : (w32 ((L j : Nat) : Int) < w32 (v : Int)) ↔ L j < v := y_lt (n := L j) (i := v) (by omega) (by omega)
    by_cases hl : v ≤ L j
    · rw [show pa kd bo wo n v j 0 k (s, L) tr = some tr from if_pos hl]
      refine ⟨c, ?_, fun f hf => by cases hf; exact ht, fun h => (by cases h), fun _ _ _ => rfl⟩
      refine Rn.run 2 (ls' := [_, _, _, _, _, _, _]) (st' := [_, _]) rfl ?_
      refine Rn.ne2 rfl (fun e2 => absurd e2 (by exact fun h => h rfl)) (fun e2 => ?_)
      refine Rn.run 3 (ls' := [_, _, _, _, _, _, _]) (st' := [_, _]) rfl ?_
      rw [h4]
      refine Rn.call rfl rfl rfl rfl rfl (c0 hj) ?_
      rw [hX j hj]
      refine Rn.run 2 (ls' := [_, _, _, _, _, _, _]) (st' := [_, _]) rfl ?_
      rw [h5]
      refine Rn.lt2 rfl (fun e18 => absurd e18 (by exact fun h => absurd (ev.mp h) (Nat.not_lt.mpr hl))) (fun e18 => ?_)
      refine Rn.run 2 (ls' := [_, _, _, _, _, _, _]) (st' := [_]) rfl ?_
      exact Rn.retZ rfl (Or.inr rfl) rfl
    · rw [show pa kd bo wo n v j 0 k (s, L) tr = none from if_neg hl]
      refine ⟨c, ?_, fun f hf => (by cases hf), fun _ => ht, fun _ _ _ => rfl⟩
      refine Rn.run 2 (ls' := [_, _, _, _, _, _, _]) (st' := [_, _]) rfl ?_
      refine Rn.ne2 rfl (fun e2 => absurd e2 (by exact fun h => h rfl)) (fun e2 => ?_)
      refine Rn.run 3 (ls' := [_, _, _, _, _, _, _]) (st' := [_, _]) rfl ?_
      rw [h4]
      refine Rn.call rfl rfl rfl rfl rfl (c0 hj) ?_
      rw [hX j hj]
      refine Rn.run 2 (ls' := [_, _, _, _, _, _, _]) (st' := [_, _]) rfl ?_
      rw [h5]
      refine Rn.lt2 rfl (fun e18 => ?_) (fun e18 => absurd e18 (by exact fun h => h (ev.mpr (Nat.not_le.mp hl))))
      refine Rn.run 1 (ls' := [_, _, _, _, _, _, _]) (st' := [_]) rfl ?_
      exact Rn.retZ rfl (Or.inl rfl) rfl
  | succ m ih =>
    intro d k s X L tr c hkm hs hX h9 hC h4 h5 ht
    have inner : ∀ (w i : Nat) (c : Nat → Nat → Int), i + w = n → cG c b n kd bo wo → c 4 4 = (j : Nat) → c 4 5 = (v : Nat) → (∀ i, i < k → c 5 i = (tr i : Nat)) → ∃ e, Rn ex xt37 (d + m + 6 + 1) 38 [xA 4, xA (gid b), xI (N : Int), xI (k : Int), xI X, xI (s : Int), xI (i : Int)] [] (hp c b) (xI (if (xit (paf (pa kd bo wo n v j m) kd bo wo n k s L tr) w i none).isSome = true then 1 else 0), hp e b) ∧ (∀ f, xit (paf (pa kd bo wo n v j m) kd bo wo n k s L tr) w i none = some f → ∀ i, i < N → e 5 i = (f i : Nat)) ∧ (xit (paf (pa kd bo wo n v j m) kd bo wo n k s L tr) w i none = none → ∀ i, i < k → e 5 i = (tr i : Nat)) ∧ ∀ a z, a ≠ 5 → e a z = c a z := by
      intro w
      induction w with
      | zero =>
        intro i c hi hC h4 h5 ht
        obtain rfl : i = n := by omega
        have i31 : i < 2147483648 := by omega
        refine ⟨c, ?_, fun f hf => (by cases hf), fun _ => ht, fun _ _ _ => rfl⟩
        refine Rn.run 2 (ls' := [_, _, _, _, _, _, _]) (st' := [_, _]) rfl ?_
        refine Rn.getI rfl (xS_g b) ?_
        rw [hC.1]
        refine Rn.ge2 rfl (fun e44 => ?_) (fun e44 => absurd e44 (by exact fun h => h ((y_ge i31 i31).mpr (Nat.le_refl _))))
        refine Rn.run 1 (ls' := [_, _, _, _, _, _, _]) (st' := [_]) rfl ?_
        exact Rn.retZ rfl (Or.inl rfl) rfl
      | succ w ihw =>
        intro i c hi hC h4 h5 ht
        have i6 : i < 6 := by omega
        have iin : i < n := by omega
        have h3 := ho.2 i iin
        have ni : ¬ w32 (n : Int) ≤ w32 (i : Int) := fun h => absurd ((y_ge (by omega) (by omega)).mp h) (by omega)
        have k31 : k < 2147483648 := by omega
        have k6 : k < 6 := by omega
        by_cases hk : can kd n s i = true
        · have e1 : paf (pa kd bo wo n v j m) kd bo wo n k s L tr i none = pa kd bo wo n v j m (k + 1) (s ||| 2 ^ i, tl kd bo wo i L) (exn tr k i) := if_pos hk
          obtain ⟨e2, r2, o2, p2, f2⟩ := ih d (k + 1) (s ||| 2 ^ i) (xwith X (bo i) (ans (kd i) (wo i) (L (bo i)))) (tl kd bo wo i L) (exn tr k i) (xup c 5 k (i : Nat)) (by omega) (or64 hs i6) (pk_tl hX h9 h3.2.2 h3.2.1) (tl_9 h3.2.2 h3.2.1 h9) (cG_fr (fun a z h => xup_n _ _ (by omega)) hC) (by rw [xup_n _ _ (by omega)]; exact h4) (by rw [xup_n _ _ (by omega)]; exact h5) (fun q hq => by
            unfold exn
            by_cases ej : q = k
            · rw [ej, xup_s, if_pos rfl]
            · rw [xup_n _ _ (by omega), if_neg ej]; exact ht q (by omega))
          have hC2 : cG (xup c 5 k (i : Nat)) b n kd bo wo := cG_fr (fun a z h => xup_n _ _ (by omega)) hC
          rw [xit, e1]
          cases hR : pa kd bo wo n v j m (k + 1) (s ||| 2 ^ i, tl kd bo wo i L) (exn tr k i) with
          | some f =>
            rw [hR] at r2
            rw [paf_some]
            refine ⟨e2, ?_, fun g hg => by cases hg; exact o2 f hR, fun h => (by cases h), fun a z h => by rw [f2 a z h, xup_n _ _ (by omega)]⟩
            refine Rn.run 2 (ls' := [_, _, _, _, _, _, _]) (st' := [_, _]) rfl ?_
            refine Rn.getI rfl (xS_g b) ?_
            rw [hC.1]
            refine Rn.ge2 rfl (fun e44 => absurd e44 (by exact ni)) (fun e44 => ?_)
            refine Rn.run 3 (ls' := [_, _, _, _, _, _, _]) (st' := [_, _, _]) rfl ?_
            refine Rn.callV rfl (x_sv (xS_g b)) rfl rfl rfl (c21 ho hC iin hs) ?_
            refine Rn.eqB rfl (fun e55 => absurd e55 (by exact fun h => h hk)) (fun e55 => ?_)
            refine Rn.run 4 (ls' := [_, _, _, _, _, _, _]) (st' := [_, _, _]) rfl ?_
            refine Rn.ast rfl ⟨by decide, rfl⟩ (k) (x_wn k31) k6 ?_
            refine Rn.run 9 (ls' := [_, _, _, _, _, _, _]) (st' := [_, _, _, _, _, _, _]) rfl ?_
            refine Rn.callV rfl (x_sv (xS_g b)) rfl rfl rfl (c25 ho hC2 iin hX h9) ?_
            refine Rn.run 5 (ls' := [_, _, _, _, _, _, _]) (st' := [_, _, _, _, _, _]) rfl ?_
            rw [bt_add hs i6]
            refine Rn.call rfl rfl rfl rfl rfl (r2) ?_
            refine Rn.eq0 rfl (fun e90 => absurd e90 (by show ¬ w32 1 = 0; decide)) (fun e90 => ?_)
            refine Rn.run 1 (ls' := [_, _, _, _, _, _, _]) (st' := [_]) rfl ?_
            exact Rn.retZ rfl (Or.inr rfl) rfl
          | none =>
            rw [hR] at r2
            have p3 := p2 hR
            obtain ⟨e, r, o, p, f⟩ := ihw (i + 1) e2 (by omega) (cG_fr (fun a z h => by rw [f2 a z (by omega), xup_n _ _ (by omega)]) hC) (by rw [f2 4 4 (by omega), xup_n _ _ (by omega)]; exact h4) (by rw [f2 4 5 (by omega), xup_n _ _ (by omega)]; exact h5) (fun q hq => by rw [p3 q (by omega)]; unfold exn; rw [if_neg (by omega)])
            refine ⟨e, ?_, o, p, fun a z h => by rw [f a z h, f2 a z h, xup_n _ _ (by omega)]⟩
            refine Rn.run 2 (ls' := [_, _, _, _, _, _, _]) (st' := [_, _]) rfl ?_
            refine Rn.getI rfl (xS_g b) ?_
            rw [hC.1]
            refine Rn.ge2 rfl (fun e44 => absurd e44 (by exact ni)) (fun e44 => ?_)
            refine Rn.run 3 (ls' := [_, _, _, _, _, _, _]) (st' := [_, _, _]) rfl ?_
            refine Rn.callV rfl (x_sv (xS_g b)) rfl rfl rfl (c21 ho hC iin hs) ?_
            refine Rn.eqB rfl (fun e55 => absurd e55 (by exact fun h => h hk)) (fun e55 => ?_)
            refine Rn.run 4 (ls' := [_, _, _, _, _, _, _]) (st' := [_, _, _]) rfl ?_
            refine Rn.ast rfl ⟨by decide, rfl⟩ (k) (x_wn k31) k6 ?_
            refine Rn.run 9 (ls' := [_, _, _, _, _, _, _]) (st' := [_, _, _, _, _, _, _]) rfl ?_
            refine Rn.callV rfl (x_sv (xS_g b)) rfl rfl rfl (c25 ho hC2 iin hX h9) ?_
            refine Rn.run 5 (ls' := [_, _, _, _, _, _, _]) (st' := [_, _, _, _, _, _]) rfl ?_
            rw [bt_add hs i6]
            refine Rn.call rfl rfl rfl rfl rfl (r2) ?_
            refine Rn.eq0 rfl (fun e90 => ?_) (fun e90 => absurd e90 (by decide))
            refine Rn.run 2 (ls' := [_, _, _, _, _, _, _]) (st' := []) rfl ?_
            exact r
        · have e1 : paf (pa kd bo wo n v j m) kd bo wo n k s L tr i none = none := if_neg hk
          obtain ⟨e, r, o⟩ := ihw (i + 1) c (by omega) hC h4 h5 ht
          rw [xit, e1]
          refine ⟨e, ?_, o⟩
          refine Rn.run 2 (ls' := [_, _, _, _, _, _, _]) (st' := [_, _]) rfl ?_
          refine Rn.getI rfl (xS_g b) ?_
          rw [hC.1]
          refine Rn.ge2 rfl (fun e44 => absurd e44 (by exact ni)) (fun e44 => ?_)
          refine Rn.run 3 (ls' := [_, _, _, _, _, _, _]) (st' := [_, _, _]) rfl ?_
          refine Rn.callV rfl (x_sv (xS_g b)) rfl rfl rfl (c21 ho hC iin hs) ?_
          refine Rn.eqB rfl (fun e55 => ?_) (fun e55 => absurd e55 (by exact hk))
          refine Rn.run 2 (ls' := [_, _, _, _, _, _, _]) (st' := []) rfl ?_
          exact r
    have k31 : k < 2147483648 := by omega
    have N31 : N < 2147483648 := by omega
    have k6 : k < 6 := by omega
    have kN0 : k ≠ N := by omega
    have kN : w32 (k : Int) ≠ w32 (N : Int) := fun h => kN0 ((y_eq N31 k31).mp h)
    obtain ⟨e, r, o⟩ := inner n 0 c (Nat.zero_add n) hC h4 h5 ht
    rw [pa_s]
    refine ⟨e, ?_, o⟩
    refine Rn.run 2 (ls' := [_, _, _, _, _, _, _]) (st' := [_, _]) rfl ?_
    refine Rn.ne2 rfl (fun e2 => ?_) (fun e2 => absurd e2 (by exact fun h => h kN))
    refine Rn.run 2 (ls' := [_, _, _, _, _, _, _]) (st' := [_, _]) rfl ?_
    refine Rn.lt2 rfl (fun e30 => ?_) (fun e30 => absurd e30 (by exact fun h => h ((y_lt (n := k) (i := 6) (by decide) k31).mpr k6)))
    refine Rn.run 2 (ls' := [_, _, _, _, _, _, _]) (st' := []) rfl ?_
    exact r
def fw (P : Nat → Option (Nat → Nat)) : Nat → Nat → Option (Nat × (Nat → Nat))
  | 0, _ => none
  | m + 1, i => match P i with
    | some f => some (i, f)
    | none => fw P m (i + 1)
theorem fw_n {P : Nat → Option (Nat → Nat)} {m i : Nat} (h : P i = none) : fw P (m + 1) i = fw P m (i + 1) := by simp only [fw, h]
theorem fw_y {P : Nat → Option (Nat → Nat)} {m i : Nat} {f : Nat → Nat} (h : P i = some f) : fw P (m + 1) i = some (i, f) := by simp only [fw, h]
theorem l36 {ex : xO} {d : Nat} {b : Bool} {n : Nat} {kd bo wo : Nat → Nat} (ho : gok n kd bo wo) {v j T : Nat} {X : Int} {L : Nat → Nat} (hv : v ≤ 9) (hj : j < 8) (hT : T < 64) (hX : pk X L) (h9 : l9 L) : ∀ (m i : Nat) (c : Nat → Nat → Int), i + m = 7 → cG c b n kd bo wo → c 4 4 = (j : Nat) → c 4 5 = (v : Nat) → ∃ e, Rn ex xt36 (d + 14) 3 [xA 4, xA (gid b), xI X, xI (T : Int), xI (i : Int)] [] (hp c b) (xI (match fw (fun N => pa kd bo wo n v j N 0 (T, L) (fun _ => 0)) m i with | none => -9 | some q => (q.1 : Nat)), hp e b) ∧ (∀ q, fw (fun N => pa kd bo wo n v j N 0 (T, L) (fun _ => 0)) m i = some q → q.1 ≤ 6 ∧ e 4 2 = (q.1 : Nat) ∧ ∀ i, i < q.1 → e 6 i = (q.2 i : Nat)) ∧ ∀ a z, ¬ (4 ≤ a ∧ a ≤ 6) → e a z = c a z := by
  have hg := gid_in b
  intro m
  induction m with
  | zero =>
    intro i c hm hC h4 h5
    obtain rfl : i = 7 := by omega
    refine ⟨c, ?_, fun q hq => (by cases hq), fun _ _ _ => rfl⟩
    refine Rn.run 2 (ls' := [_, _, _, _, _]) (st' := [_, _]) rfl ?_
    refine Rn.gt2 rfl (fun e7 => ?_) (fun e7 => absurd e7 (by decide))
    refine Rn.run 1 (ls' := [_, _, _, _, _]) (st' := [_]) rfl ?_
    exact Rn.ret rfl rfl rfl rfl rfl rfl
  | succ m ih =>
    intro i c hm hC h4 h5
    have i6 : i ≤ 6 := by omega
    have i31 : i < 2147483648 := by omega
    have ni : ¬ w32 6 < w32 (i : Int) := fun h => absurd ((y_lt (n := 6) i31 (by decide)).mp h) (Nat.not_lt.mpr i6)
    obtain ⟨e2, r2, o2, p2, f2⟩ := c37 (ex := ex) (b := b) ho (N := i) i6 hv hj i (d + 7 - i) 0 T X L (fun _ => 0) c (Nat.zero_add i) hT hX h9 hC h4 h5 (fun q hq => absurd hq (Nat.not_lt_zero q))
    rw [show d + 7 - i + i + 6 = d + 13 by omega] at r2
    cases hR : pa kd bo wo n v j i 0 (T, L) (fun _ => 0) with
    | some f =>
      rw [show fw (fun N => pa kd bo wo n v j N 0 (T, L) (fun _ => 0)) (m + 1) i = some (i, f) from fw_y hR]
      rw [hR] at r2
      refine ⟨tkt e2 i, ?_, fun q hq => ?_, fun a z h => ?_⟩
      · refine Rn.run 2 (ls' := [_, _, _, _, _]) (st' := [_, _]) rfl ?_
        refine Rn.gt2 rfl (fun e7 => absurd e7 (by exact ni)) (fun e7 => ?_)
        refine Rn.run 6 (ls' := [_, _, _, _, _]) (st' := [_, _, _, _, _, _]) rfl ?_
        refine Rn.call rfl rfl rfl rfl rfl (r2) ?_
        refine Rn.eq0 rfl (fun e20 => absurd e20 (by show ¬ w32 1 = 0; decide)) (fun e20 => ?_)
        refine Rn.run 2 (ls' := [_, _, _, _, _]) (st' := [_, _]) rfl ?_
        refine Rn.call rfl rfl rfl rfl rfl (c38 i6) ?_
        refine Rn.run 1 (ls' := [_, _, _, _, _]) (st' := [_]) rfl ?_
        exact Rn.ret rfl rfl rfl rfl rfl rfl
      · cases hq
        refine ⟨i6, ?_, fun q hq => ?_⟩
        · unfold tkt
          rw [xrow_n _ _ (by omega), xup_s]
        · unfold tkt
          rw [xrow_s _ _ rfl, xcp_in _ _ hq, xup_n _ _ (by omega)]
          exact o2 f hR q hq
      · unfold tkt
        rw [xrow_n _ _ (by omega), xup_n _ _ (by omega), f2 a z (by omega)]
    | none =>
      rw [show fw (fun N => pa kd bo wo n v j N 0 (T, L) (fun _ => 0)) (m + 1) i = fw (fun N => pa kd bo wo n v j N 0 (T, L) (fun _ => 0)) m (i + 1) from fw_n hR]
      rw [hR] at r2
      obtain ⟨e, r, o, f⟩ := ih (i + 1) e2 (by omega) (cG_fr (fun a z h => f2 a z (by omega)) hC) (by rw [f2 4 4 (by omega)]; exact h4) (by rw [f2 4 5 (by omega)]; exact h5)
      refine ⟨e, ?_, o, fun a z h => by rw [f a z h, f2 a z (by omega)]⟩
      refine Rn.run 2 (ls' := [_, _, _, _, _]) (st' := [_, _]) rfl ?_
      refine Rn.gt2 rfl (fun e7 => absurd e7 (by exact ni)) (fun e7 => ?_)
      refine Rn.run 6 (ls' := [_, _, _, _, _]) (st' := [_, _, _, _, _, _]) rfl ?_
      refine Rn.call rfl rfl rfl rfl rfl (r2) ?_
      refine Rn.eq0 rfl (fun e20 => ?_) (fun e20 => absurd e20 (by decide))
      refine Rn.run 2 (ls' := [_, _, _, _, _]) (st' := []) rfl ?_
      exact r
