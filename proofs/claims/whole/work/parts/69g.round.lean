-- round: orders, the class
def exn (tr : Nat → Nat) (k i : Nat) : Nat → Nat := fun j => if j = k then i else tr j
def vis (acc : Option (Nat × (Nat → Nat))) (v : Nat) (tr : Nat → Nat) : Option (Nat × (Nat → Nat)) := match acc with
  | none => some (v, tr)
  | some q => if q.1 < v then some (v, tr) else some q
def rs (kd bo wo : Nat → Nat) (n : Nat) : Nat → Nat → Nat → Nat → (Nat → Nat) → (Nat → Nat) → Option (Nat × (Nat → Nat)) → Option (Nat × (Nat → Nat))
  | 0, _, _, _, L, tr, acc => vis acc (s8 L) tr
  | m + 1, k, l, s, L, tr, acc => xit (fun i a => if l.testBit i = true ∧ can kd n s i = true then rs kd bo wo n m (k + 1) (l ^^^ (l &&& 2 ^ i)) (s ||| 2 ^ i) (tl kd bo wo i L) (exn tr k i) a else a) n 0 acc
/-- a step over death i -/
def rsf (kd bo wo : Nat → Nat) (n m k l s : Nat) (L tr : Nat → Nat) (i : Nat) (a : Option (Nat × (Nat → Nat))) : Option (Nat × (Nat → Nat)) := if l.testBit i = true ∧ can kd n s i = true then rs kd bo wo n m (k + 1) (l ^^^ (l &&& 2 ^ i)) (s ||| 2 ^ i) (tl kd bo wo i L) (exn tr k i) a else a
theorem rs_s (kd bo wo : Nat → Nat) (n m k l s : Nat) (L tr : Nat → Nat) (acc : Option (Nat × (Nat → Nat))) : rs kd bo wo n (m + 1) k l s L tr acc = xit (rsf kd bo wo n m k l s L tr) n 0 acc := rfl
def aok (acc : Option (Nat × (Nat → Nat))) : Prop := ∀ q, acc = some q → q.1 ≤ 72
theorem vis_ok {acc : Option (Nat × (Nat → Nat))} {v : Nat} {tr : Nat → Nat} (h : aok acc) (hv : v ≤ 72) : aok (vis acc v tr) := by
  intro q hq
  unfold vis at hq
  cases acc with
  | none => cases hq; exact hv
  | some w =>
    dsimp only at hq
    split at hq
    · cases hq; exact hv
    · have e := Option.some.inj hq
      rw [← e]
      exact h w rfl
def OC (c : Nat → Nat → Int) (N : Nat) (acc : Option (Nat × (Nat → Nat))) : Prop := match acc with
  | none => c 4 3 = -9
  | some q => c 4 3 = (q.1 : Nat) ∧ c 4 2 = (N : Nat) ∧ ∀ i, i < N → c 6 i = (q.2 i : Nat)
theorem OC_5 {c : Nat → Nat → Int} {N : Nat} {acc : Option (Nat × (Nat → Nat))} {j : Nat} {v : Int} (h : OC c N acc) : OC (xup c 5 j v) N acc := by
  cases acc with
  | none => show xup c 5 j v 4 3 = -9; rw [xup_n _ _ (by omega)]; exact h
  | some q => exact ⟨by rw [xup_n _ _ (by omega)]; exact h.1, by rw [xup_n _ _ (by omega)]; exact h.2.1, fun i hi => by rw [xup_n _ _ (by omega)]; exact h.2.2 i hi⟩
def tkt (c : Nat → Nat → Int) (k : Nat) : Nat → Nat → Int := xrow (xup c 4 2 (k : Nat)) 6 (xcp (xup c 4 2 (k : Nat) 5) (xup c 4 2 (k : Nat) 6) 0 0 k)
set_option maxRecDepth 100000 in
theorem pop_rm : ∀ l, l < 64 → ∀ i, i < 6 → l.testBit i = true → pop (l ^^^ (l &&& 2 ^ i)) + 1 = pop l := by decide +kernel
set_option maxRecDepth 100000 in
theorem pop_z : ∀ l, l < 64 → pop l = 0 → l = 0 := by decide +kernel
theorem xrm64 {l : Nat} (i : Nat) (h : l < 64) : l ^^^ (l &&& 2 ^ i) < 64 := Nat.xor_lt_two_pow (n := 6) h (and_64 h)
theorem pw64 {i : Nat} (h : i < 6) : 2 ^ i < 64 := Nat.lt_of_lt_of_le (Nat.pow_lt_pow_right (by decide) h) (by decide : 2 ^ 6 ≤ 64)
theorem bt_rm {l i : Nat} (hl : l < 64) (hi : i < 6) : xand (l : Int) (xxor (xshl 1 (i : Int)) (-1)) = ((l ^^^ (l &&& 2 ^ i) : Nat) : Int) := by rw [bt_one i (by omega)]; exact bt_andn l hl (2 ^ i) (pw64 hi)
theorem c38 {ex : xO} {d : Nat} {b : Bool} {c : Nat → Nat → Int} {k : Nat} (hk : k ≤ 6) : An ex (d + 1) 38 2 [xA 4, xI (k : Int)] (hp c b) (xU, hp (tkt c k) b) := by
  have k31 : k < 2147483648 := by omega
  refine Rn.run 10 (ls' := [_, _]) (st' := [_, _, _, _, _]) rfl ?_
  refine Rn.cpy rfl (by omega) rfl ⟨by decide, rfl⟩ ⟨by decide, rfl⟩ 0 0 k rfl rfl (x_wn k31) (by omega) (by omega) ?_
  exact Rn.ret rfl rfl rfl rfl rfl rfl
theorem OC_tk {c : Nat → Nat → Int} {N v : Nat} {tr : Nat → Nat} (hN : N ≤ 6) (ht : ∀ j, j < N → c 5 j = (tr j : Nat)) (hv : v ≤ 72) : OC (tkt (xup c 4 3 (v : Nat)) N) N (some (v, tr)) ∧ ∀ a z, ¬ (a = 4 ∨ a = 6) → tkt (xup c 4 3 (v : Nat)) N a z = c a z := by
  refine ⟨⟨?_, ?_, fun i hi => ?_⟩, fun a z h => ?_⟩
  · unfold tkt
    rw [xrow_n _ _ (by omega), xup_n _ _ (by omega), xup_s]
  · unfold tkt
    rw [xrow_n _ _ (by omega), xup_s]
  · unfold tkt
    rw [xrow_s _ _ rfl, xcp_in _ _ hi, xup_n _ _ (by omega), xup_n _ _ (by omega)]
    exact ht i hi
  · unfold tkt
    rw [xrow_n _ _ (by omega), xup_n _ _ (by omega), xup_n _ _ (by omega)]
theorem c34 {ex : xO} {b : Bool} {n : Nat} {kd bo wo : Nat → Nat} (ho : gok n kd bo wo) {N : Nat} (hN : N ≤ 6) : ∀ (m d k l s : Nat) (X : Int) (L tr : Nat → Nat) (acc : Option (Nat × (Nat → Nat))) (c : Nat → Nat → Int), k + m = N → pop l = m → l < 64 → s < 64 → pk X L → l9 L → cG c b n kd bo wo → OC c N acc → aok acc → (∀ j, j < k → c 5 j = (tr j : Nat)) → ∃ e, An ex (d + m + 6) 34 7 [xA 4, xA (gid b), xI (l : Int), xI (k : Int), xI X, xI (s : Int)] (hp c b) (xU, hp e b) ∧ OC e N (rs kd bo wo n m k l s L tr acc) ∧ aok (rs kd bo wo n m k l s L tr acc) ∧ (∀ j, j < k → e 5 j = (tr j : Nat)) ∧ ∀ a z, ¬ (4 ≤ a ∧ a ≤ 6) → e a z = c a z := by
  have hn := ho.1
  have hg := gid_in b
  intro m
  induction m with
  | zero =>
    intro d k l s X L tr acc c hkm hpp hl hs hX h9 hC hO hA ht
    obtain rfl : k = N := by omega
    obtain rfl := pop_z l hl hpp
    have s72 := s8_le h9
    obtain ⟨o1, o2⟩ := OC_tk (v := s8 L) hN ht s72
    have s31 : s8 L < 2147483648 := by omega
    show ∃ e, _ ∧ OC e k (vis acc (s8 L) tr) ∧ aok (vis acc (s8 L) tr) ∧ _
    cases acc with
    | none =>
      have hO' : c 4 3 = -9 := hO
      have nl : ¬ w32 ((s8 L : Nat) : Int) ≤ w32 (-9) := by rw [x_wn s31, show w32 (-9) = -9 from rfl]; omega
      refine ⟨tkt (xup c 4 3 (s8 L : Nat)) k, ?_, o1, vis_ok hA s72, fun j hj => by rw [o2 5 j (by omega)]; exact ht j hj, fun a z h => o2 a z (by omega)⟩
      refine Rn.run 1 (ls' := [_, _, _, _, _, _, _]) (st' := [_]) rfl ?_
      refine Rn.ne0 rfl (fun e1 => absurd e1 (by exact fun h => h rfl)) (fun e1 => ?_)
      refine Rn.run 1 (ls' := [_, _, _, _, _, _, _]) (st' := [_]) rfl ?_
      refine Rn.call rfl rfl rfl rfl rfl (c2 hX) ?_
      refine Rn.run 2 (ls' := [_, _, _, _, _, _, _]) (st' := [_, _]) rfl ?_
      rw [hO']
      refine Rn.le2 rfl (fun e13 => absurd e13 (by exact nl)) (fun e13 => ?_)
      refine Rn.run 2 (ls' := [_, _, _, _, _, _, _]) (st' := [_, _]) rfl ?_
      refine Rn.call rfl rfl rfl rfl rfl (c2 hX) ?_
      refine Rn.run 3 (ls' := [_, _, _, _, _, _, _]) (st' := [_, _]) rfl ?_
      refine Rn.call rfl rfl rfl rfl rfl (c38 (k := k) hN) ?_
      exact Rn.ret rfl rfl rfl rfl rfl rfl
    | some q =>
      have hO' := hO.1
      have q72 := hA q rfl
      have el : (w32 ((s8 L : Nat) : Int) ≤ w32 ((q.1 : Nat) : Int)) ↔ s8 L ≤ q.1 := y_ge (by omega) s31
      by_cases hlt : q.1 < s8 L
      · rw [show vis (some q) (s8 L) tr = some (s8 L, tr) from if_pos hlt]
        refine ⟨tkt (xup c 4 3 (s8 L : Nat)) k, ?_, o1, fun z hz => by cases hz; exact s72, fun j hj => by rw [o2 5 j (by omega)]; exact ht j hj, fun a z h => o2 a z (by omega)⟩
        refine Rn.run 1 (ls' := [_, _, _, _, _, _, _]) (st' := [_]) rfl ?_
        refine Rn.ne0 rfl (fun e1 => absurd e1 (by exact fun h => h rfl)) (fun e1 => ?_)
        refine Rn.run 1 (ls' := [_, _, _, _, _, _, _]) (st' := [_]) rfl ?_
        refine Rn.call rfl rfl rfl rfl rfl (c2 hX) ?_
        refine Rn.run 2 (ls' := [_, _, _, _, _, _, _]) (st' := [_, _]) rfl ?_
        rw [hO']
        refine Rn.le2 rfl (fun e13 => absurd e13 (by exact fun h => absurd (el.mp h) (Nat.not_le.mpr hlt))) (fun e13 => ?_)
        refine Rn.run 2 (ls' := [_, _, _, _, _, _, _]) (st' := [_, _]) rfl ?_
        refine Rn.call rfl rfl rfl rfl rfl (c2 hX) ?_
        refine Rn.run 3 (ls' := [_, _, _, _, _, _, _]) (st' := [_, _]) rfl ?_
        refine Rn.call rfl rfl rfl rfl rfl (c38 (k := k) hN) ?_
        exact Rn.ret rfl rfl rfl rfl rfl rfl
      · rw [show vis (some q) (s8 L) tr = some q from if_neg hlt]
        refine ⟨c, ?_, hO, hA, ht, fun _ _ _ => rfl⟩
        refine Rn.run 1 (ls' := [_, _, _, _, _, _, _]) (st' := [_]) rfl ?_
        refine Rn.ne0 rfl (fun e1 => absurd e1 (by exact fun h => h rfl)) (fun e1 => ?_)
        refine Rn.run 1 (ls' := [_, _, _, _, _, _, _]) (st' := [_]) rfl ?_
        refine Rn.call rfl rfl rfl rfl rfl (c2 hX) ?_
        refine Rn.run 2 (ls' := [_, _, _, _, _, _, _]) (st' := [_, _]) rfl ?_
        rw [hO']
        refine Rn.le2 rfl (fun e13 => ?_) (fun e13 => absurd e13 (by exact fun h => h (el.mpr (Nat.not_lt.mp hlt))))
        exact Rn.ret rfl rfl rfl rfl rfl rfl
  | succ m ih =>
    intro d k l s X L tr acc c hkm hpp hl hs hX h9 hC hO hA ht
    have inner : ∀ (w i : Nat) (a : Option (Nat × (Nat → Nat))) (c : Nat → Nat → Int), i + w = n → cG c b n kd bo wo → OC c N a → aok a → (∀ j, j < k → c 5 j = (tr j : Nat)) → ∃ e, Rn ex xt34 (d + m + 6 + 1) 41 [xA 4, xA (gid b), xI (l : Int), xI (k : Int), xI X, xI (s : Int), xI (i : Int)] [] (hp c b) (xU, hp e b) ∧ OC e N (xit (rsf kd bo wo n m k l s L tr) w i a) ∧ aok (xit (rsf kd bo wo n m k l s L tr) w i a) ∧ (∀ j, j < k → e 5 j = (tr j : Nat)) ∧ ∀ a z, ¬ (4 ≤ a ∧ a ≤ 6) → e a z = c a z := by
      intro w
      induction w with
      | zero =>
        intro i a c hi hC hO hA ht
        obtain rfl : i = n := by omega
        have i31 : i < 2147483648 := by omega
        refine ⟨c, ?_, hO, hA, ht, fun _ _ _ => rfl⟩
        refine Rn.run 2 (ls' := [_, _, _, _, _, _, _]) (st' := [_, _]) rfl ?_
        refine Rn.getI rfl (xS_g b) ?_
        rw [hC.1]
        refine Rn.ge2 rfl (fun e47 => ?_) (fun e47 => absurd e47 (by exact fun h => h ((y_ge i31 i31).mpr (Nat.le_refl _))))
        exact Rn.ret rfl rfl rfl rfl rfl rfl
      | succ w ihw =>
        intro i a c hi hC hO hA ht
        have i6 : i < 6 := by omega
        have iin : i < n := by omega
        have h3 := ho.2 i iin
        have ni : ¬ w32 (n : Int) ≤ w32 (i : Int) := fun h => absurd ((y_ge (by omega) (by omega)).mp h) (by omega)
        have eb := bt_has l hl i i6
        have k31 : k < 2147483648 := by omega
        have k6 : k < 6 := by omega
        by_cases hb : l.testBit i = true
        · rw [if_pos hb] at eb
          by_cases hk : can kd n s i = true
          · have e1 : rsf kd bo wo n m k l s L tr i a = rs kd bo wo n m (k + 1) (l ^^^ (l &&& 2 ^ i)) (s ||| 2 ^ i) (tl kd bo wo i L) (exn tr k i) a := if_pos ⟨hb, hk⟩
            have hpr := pop_rm l hl i i6 hb
            obtain ⟨e2, r2, o2, a2, t2, f2⟩ := ih d (k + 1) (l ^^^ (l &&& 2 ^ i)) (s ||| 2 ^ i) (xwith X (bo i) (ans (kd i) (wo i) (L (bo i)))) (tl kd bo wo i L) (exn tr k i) a (xup c 5 k (i : Nat)) (by omega) (by omega) (xrm64 i hl) (or64 hs i6) (pk_tl hX h9 h3.2.2 h3.2.1) (tl_9 h3.2.2 h3.2.1 h9) (cG_fr (fun a z h => xup_n _ _ (by omega)) hC) (OC_5 hO) hA (fun j hj => by
              unfold exn
              by_cases ej : j = k
              · rw [ej, xup_s, if_pos rfl]
              · rw [xup_n _ _ (by omega), if_neg ej]; exact ht j (by omega))
            rw [← e1] at o2 a2
            obtain ⟨e, r, o, a', t', f⟩ := ihw (i + 1) _ e2 (by omega) (cG_fr (fun a z h => by rw [f2 a z (by omega), xup_n _ _ (by omega)]) hC) o2 a2 (fun j hj => by rw [t2 j (by omega)]; unfold exn; rw [if_neg (by omega)])
            refine ⟨e, ?_, o, a', t', fun a z h => by rw [f a z h, f2 a z h, xup_n _ _ (by omega)]⟩
            refine Rn.run 2 (ls' := [_, _, _, _, _, _, _]) (st' := [_, _]) rfl ?_
            refine Rn.getI rfl (xS_g b) ?_
            rw [hC.1]
            refine Rn.ge2 rfl (fun e47 => absurd e47 (by exact ni)) (fun e47 => ?_)
            refine Rn.run 5 (ls' := [_, _, _, _, _, _, _]) (st' := [_]) rfl ?_
            rw [eb]
            refine Rn.run 1 (ls' := [_, _, _, _, _, _, _]) (st' := [_, _]) rfl ?_
            refine Rn.ne2 rfl (fun e57 => absurd e57 (by exact fun h => h rfl)) (fun e57 => ?_)
            refine Rn.run 3 (ls' := [_, _, _, _, _, _, _]) (st' := [_, _, _]) rfl ?_
            refine Rn.callV rfl (x_sv (xS_g b)) rfl rfl rfl (c21 ho hC iin hs) ?_
            refine Rn.eqB rfl (fun e68 => absurd e68 (by exact fun h => h hk)) (fun e68 => ?_)
            refine Rn.run 4 (ls' := [_, _, _, _, _, _, _]) (st' := [_, _, _]) rfl ?_
            refine Rn.ast rfl ⟨by decide, rfl⟩ (k) (x_wn k31) k6 ?_
            refine Rn.run 9 (ls' := [_, _, _, _, _, _, _]) (st' := [_, _, _]) rfl ?_
            rw [bt_rm hl i6]
            refine Rn.run 6 (ls' := [_, _, _, _, _, _, _]) (st' := [_, _, _, _, _, _, _]) rfl ?_
            refine Rn.callV rfl (x_sv (xS_g b)) rfl rfl rfl (c25 ho (cG_fr (fun a z h => xup_n _ _ (by omega)) hC) iin hX h9) ?_
            refine Rn.run 5 (ls' := [_, _, _, _, _, _, _]) (st' := [_, _, _, _, _, _]) rfl ?_
            rw [bt_add hs i6]
            refine Rn.call rfl rfl rfl rfl rfl (r2) ?_
            refine Rn.run 2 (ls' := [_, _, _, _, _, _, _]) (st' := []) rfl ?_
            exact r
          · have e1 : rsf kd bo wo n m k l s L tr i a = a := if_neg (fun z => hk z.2)
            obtain ⟨e, r, o⟩ := ihw (i + 1) a c (by omega) hC hO hA ht
            rw [xit, e1]
            refine ⟨e, ?_, o⟩
            refine Rn.run 2 (ls' := [_, _, _, _, _, _, _]) (st' := [_, _]) rfl ?_
            refine Rn.getI rfl (xS_g b) ?_
            rw [hC.1]
            refine Rn.ge2 rfl (fun e47 => absurd e47 (by exact ni)) (fun e47 => ?_)
            refine Rn.run 5 (ls' := [_, _, _, _, _, _, _]) (st' := [_]) rfl ?_
            rw [eb]
            refine Rn.run 1 (ls' := [_, _, _, _, _, _, _]) (st' := [_, _]) rfl ?_
            refine Rn.ne2 rfl (fun e57 => absurd e57 (by exact fun h => h rfl)) (fun e57 => ?_)
            refine Rn.run 3 (ls' := [_, _, _, _, _, _, _]) (st' := [_, _, _]) rfl ?_
            refine Rn.callV rfl (x_sv (xS_g b)) rfl rfl rfl (c21 ho hC iin hs) ?_
            refine Rn.eqB rfl (fun e68 => ?_) (fun e68 => absurd e68 (by exact hk))
            refine Rn.run 2 (ls' := [_, _, _, _, _, _, _]) (st' := []) rfl ?_
            exact r
        · rw [if_neg hb] at eb
          have e1 : rsf kd bo wo n m k l s L tr i a = a := if_neg (fun z => hb z.1)
          obtain ⟨e, r, o⟩ := ihw (i + 1) a c (by omega) hC hO hA ht
          rw [xit, e1]
          refine ⟨e, ?_, o⟩
          refine Rn.run 2 (ls' := [_, _, _, _, _, _, _]) (st' := [_, _]) rfl ?_
          refine Rn.getI rfl (xS_g b) ?_
          rw [hC.1]
          refine Rn.ge2 rfl (fun e47 => absurd e47 (by exact ni)) (fun e47 => ?_)
          refine Rn.run 5 (ls' := [_, _, _, _, _, _, _]) (st' := [_]) rfl ?_
          rw [eb]
          refine Rn.run 1 (ls' := [_, _, _, _, _, _, _]) (st' := [_, _]) rfl ?_
          refine Rn.ne2 rfl (fun e57 => ?_) (fun e57 => absurd e57 (by exact fun h => h (by decide)))
          refine Rn.run 2 (ls' := [_, _, _, _, _, _, _]) (st' := []) rfl ?_
          exact r
    have l0 : w32 (l : Int) ≠ 0 := fun z => by
      have h0 : l = 0 := (y_eq0 (by omega)).mp z
      rw [h0] at hpp
      exact absurd hpp (by show (0 : Nat) ≠ m + 1; omega)
    have k31 : k < 2147483648 := by omega
    have k6 : k < 6 := by omega
    obtain ⟨e, r, o⟩ := inner n 0 acc c (Nat.zero_add n) hC hO hA ht
    rw [rs_s]
    refine ⟨e, ?_, o⟩
    refine Rn.run 1 (ls' := [_, _, _, _, _, _, _]) (st' := [_]) rfl ?_
    refine Rn.ne0 rfl (fun e1 => ?_) (fun e1 => absurd e1 (by exact fun h => h l0))
    refine Rn.run 2 (ls' := [_, _, _, _, _, _, _]) (st' := [_, _]) rfl ?_
    refine Rn.lt2 rfl (fun e34 => ?_) (fun e34 => absurd e34 (by exact fun h => h ((y_lt (n := k) (i := 6) (by decide) k31).mpr k6)))
    refine Rn.run 2 (ls' := [_, _, _, _, _, _, _]) (st' := []) rfl ?_
    exact r
theorem c33 {ex : xO} {d : Nat} {b : Bool} {c : Nat → Nat → Int} {n : Nat} {kd bo wo : Nat → Nat} (ho : gok n kd bo wo) {l s : Nat} {X : Int} {L : Nat → Nat} (hl : l < 64) (hl6 : pop l ≤ 6) (hs : s < 64) (hX : pk X L) (h9 : l9 L) (hC : cG c b n kd bo wo) : ∃ e, An ex (d + 14) 33 5 [xA 4, xA (gid b), xI (l : Int), xI X, xI (s : Int)] (hp c b) (xI (match rs kd bo wo n (pop l) 0 l s L (fun _ => 0) none with | none => -9 | some q => (q.1 : Nat)), hp e b) ∧ OC e (pop l) (rs kd bo wo n (pop l) 0 l s L (fun _ => 0) none) ∧ aok (rs kd bo wo n (pop l) 0 l s L (fun _ => 0) none) ∧ ∀ a z, ¬ (4 ≤ a ∧ a ≤ 6) → e a z = c a z := by
  have hg := gid_in b
  obtain ⟨e, r, o, a, -, f⟩ := c34 (ex := ex) (b := b) ho (N := pop l) hl6 (pop l) (d + 7 - pop l) 0 l s X L (fun _ => 0) none (xup c 4 3 (-9)) (Nat.zero_add _) rfl hl hs hX h9 (cG_fr (fun a z h => xup_n _ _ (by omega)) hC) (xup_s _ _ _ _) (fun q hq => by cases hq) (fun j hj => absurd hj (Nat.not_lt_zero j))
  rw [show d + 7 - pop l + pop l + 6 = d + 13 by omega] at r
  have em : e 4 3 = (match rs kd bo wo n (pop l) 0 l s L (fun _ => 0) none with | none => -9 | some q => (q.1 : Nat)) := by
    cases hr : rs kd bo wo n (pop l) 0 l s L (fun _ => 0) none with
    | none => rw [hr] at o; exact o
    | some q => rw [hr] at o; exact o.1
  refine ⟨e, ?_, o, a, fun a z h => by rw [f a z h, xup_n _ _ (by omega)]⟩
  refine Rn.run 9 (ls' := [_, _, _, _, _]) (st' := [_, _, _, _, _, _]) rfl ?_
  refine Rn.call rfl rfl rfl rfl rfl (r) ?_
  refine Rn.run 2 (ls' := [_, _, _, _, _]) (st' := [_]) rfl ?_
  rw [em]
  exact Rn.ret rfl rfl rfl rfl rfl rfl
