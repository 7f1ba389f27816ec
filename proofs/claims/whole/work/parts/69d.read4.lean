-- reading a text: the model
def mt (c : Nat → Nat → Int) (t S : Nat) (bs : Nat → Int) : Prop := c 54 11 = (60 * t : Nat) ∧ c 54 13 = (S : Nat) ∧ ∀ k, k < 60 → c 59 (60 * t + k) = bs k
theorem mt_fr {c c' : Nat → Nat → Int} {t S : Nat} {bs : Nat → Int} (h : ∀ a z, a ≠ 62 → ¬ (a = 54 ∧ (z = 12 ∨ z = 14)) → c' a z = c a z) (hm : mt c t S bs) : mt c' t S bs := ⟨by rw [h _ _ (by omega) (by omega)]; exact hm.1, by rw [h _ _ (by omega) (by omega)]; exact hm.2.1, fun k hk => by rw [h _ _ (by omega) (by omega)]; exact hm.2.2 k hk⟩
def hr (S : Nat) (bs : Nat → Int) (q : Nat) : Int := if q < S then bs q else -1000
theorem c150 {ex : xO} {d : Nat} {b : Bool} {c : Nat → Nat → Int} {t S : Nat} (ht : t < 4) (S60 : S ≤ 60) {bs : Nat → Int} (hb : ∀ k, k < 60 → -128 ≤ bs k ∧ bs k < 128) {q : Nat} (hq : q ≤ S) (h0 : c 54 12 = (q : Nat)) (hm : mt c t S bs) : An ex d 150 1 [xA 54] (hp c b) (xI (hr S bs q), hp c b) := by
  have q31 : q < 2147483648 := by omega
  have S31 : S < 2147483648 := by omega
  by_cases hS : q < S
  · have q60 : q < 60 := by omega
    have i31 : 60 * t + q < 2147483648 := by omega
    have i24 : 60 * t + q < 240 := by omega
    rw [show hr S bs q = bs q from if_pos hS]
    refine Rn.run 2 (ls' := [_]) (st' := [_]) rfl ?_
    rw [h0]
    refine Rn.run 2 (ls' := [_]) (st' := [_, _]) rfl ?_
    rw [hm.2.1]
    refine Rn.ge2 rfl (fun e8 => absurd e8 (by exact fun h => absurd ((y_ge q31 S31).mp h) (Nat.not_le.mpr hS))) (fun e8 => ?_)
    refine Rn.run 4 (ls' := [_]) (st' := [_, _]) rfl ?_
    rw [hm.1]
    refine Rn.run 2 (ls' := [_]) (st' := [_, _, _]) rfl ?_
    rw [h0]
    refine Rn.run 1 (ls' := [_]) (st' := [_, _]) rfl ?_
    refine Rn.ald rfl ⟨by decide, rfl⟩ (60 * t + q) (x_wn i31) i24 ?_
    rw [hm.2.2 q q60]
    refine Rn.run 1 (ls' := [_]) (st' := [_]) rfl ?_
    exact Rn.ret rfl rfl rfl rfl rfl rfl
  · rw [show hr S bs q = -1000 from if_neg hS]
    refine Rn.run 2 (ls' := [_]) (st' := [_]) rfl ?_
    rw [h0]
    refine Rn.run 2 (ls' := [_]) (st' := [_, _]) rfl ?_
    rw [hm.2.1]
    refine Rn.ge2 rfl (fun e8 => ?_) (fun e8 => absurd e8 (by exact fun h => h ((y_ge q31 S31).mpr (Nat.not_lt.mp hS))))
    refine Rn.run 1 (ls' := [_]) (st' := [_]) rfl ?_
    exact Rn.ret rfl rfl rfl rfl rfl rfl
theorem hr_w {S : Nat} {bs : Nat → Int} (S60 : S ≤ 60) (hb : ∀ k, k < 60 → -128 ≤ bs k ∧ bs k < 128) (q : Nat) : w32 (hr S bs q) = hr S bs q ∧ -1000 ≤ hr S bs q ∧ hr S bs q < 128 := by
  unfold hr
  split
  · have := hb q (by omega)
    exact ⟨x_w _ (by omega) (by omega), by omega, by omega⟩
  · exact ⟨rfl, by omega, by omega⟩
theorem fg_hr {S : Nat} {bs : Nat → Int} {hi q : Nat} (hi9 : hi ≤ 9) : (fgo S bs hi q = true) ↔ (0 ≤ hr S bs q - 48 ∧ hr S bs q - 48 < (hi : Int) + 1) := by
  unfold fgo hr
  rw [decide_eq_true_iff]
  split <;> omega
theorem l155 {ex : xO} {d : Nat} {b : Bool} {t S : Nat} (ht : t < 4) (S60 : S ≤ 60) {bs : Nat → Int} (hb : ∀ k, k < 60 → -128 ≤ bs k ∧ bs k < 128) : ∀ (m q : Nat) (c : Nat → Nat → Int), q + m = S → c 54 12 = (q : Nat) → mt c t S bs → Rn ex xt155 (d + 1) 0 [xA 54] [] (hp c b) (xU, hp (xup c 54 12 (skp bs m q : Nat)) b) := by
  intro m
  induction m with
  | zero =>
    intro q c hm h0 hx
    have e1 : hr S bs q = -1000 := if_neg (by omega)
    refine Rn.run 1 (ls' := [_]) (st' := [_]) rfl ?_
    refine Rn.call rfl rfl rfl rfl rfl (c150 ht S60 hb (by omega) h0 hx) ?_
    rw [e1]
    refine Rn.run 1 (ls' := [_]) (st' := [_, _]) rfl ?_
    refine Rn.ne2 rfl (fun e6 => ?_) (fun e6 => absurd e6 (by decide))
    refine Rn.ret rfl rfl rfl rfl rfl ?_
    rw [show skp bs 0 q = q from rfl, ← h0, xup_id]
  | succ m ih =>
    intro q c hm h0 hx
    have hbq := hb q (by omega)
    have wb : w32 (bs q) = bs q := x_w _ (by omega) (by omega)
    have e1 : hr S bs q = bs q := if_pos (by omega)
    by_cases h32 : bs q = 32
    · rw [show skp bs (m + 1) q = skp bs m (q + 1) from if_pos h32, ← xup_up c 54 12 ((q + 1 : Nat) : Int)]
      have r := ih (q + 1) (xup c 54 12 ((q + 1 : Nat) : Int)) (by omega) (xup_s _ _ _ _) (mt_fr (fun a z g1 g2 => xup_n _ _ (by omega)) hx)
      refine Rn.run 1 (ls' := [_]) (st' := [_]) rfl ?_
      refine Rn.call rfl rfl rfl rfl rfl (c150 ht S60 hb (by omega) h0 hx) ?_
      rw [e1]
      refine Rn.run 1 (ls' := [_]) (st' := [_, _]) rfl ?_
      refine Rn.ne2 rfl (fun e6 => absurd e6 (by rw [wb]; exact fun h => h h32)) (fun e6 => ?_)
      refine Rn.run 3 (ls' := [_]) (st' := [_, _]) rfl ?_
      rw [h0]
      refine Rn.run 4 (ls' := [_]) (st' := []) rfl ?_
      exact r
    · rw [show skp bs (m + 1) q = q from if_neg h32]
      refine Rn.run 1 (ls' := [_]) (st' := [_]) rfl ?_
      refine Rn.call rfl rfl rfl rfl rfl (c150 ht S60 hb (by omega) h0 hx) ?_
      rw [e1]
      refine Rn.run 1 (ls' := [_]) (st' := [_, _]) rfl ?_
      refine Rn.ne2 rfl (fun e6 => ?_) (fun e6 => absurd e6 (by rw [wb]; exact fun h => h h32))
      refine Rn.ret rfl rfl rfl rfl rfl ?_
      rw [← h0, xup_id]
theorem c155 {ex : xO} {d : Nat} {b : Bool} {c : Nat → Nat → Int} {t S : Nat} (ht : t < 4) (S60 : S ≤ 60) {bs : Nat → Int} (hb : ∀ k, k < 60 → -128 ≤ bs k ∧ bs k < 128) {q : Nat} (hq : q ≤ S) (h0 : c 54 12 = (q : Nat)) (hm : mt c t S bs) : An ex (d + 1) 155 1 [xA 54] (hp c b) (xU, hp (xup c 54 12 (sk S bs q : Nat)) b) := l155 ht S60 hb (S - q) q c (by omega) h0 hm
theorem c151 {ex : xO} {d : Nat} {h : xH} {z : Int} (hz : w32 z = z) : An ex d 151 1 [xI z] h (xI (kk z), h) := by
  unfold kk
  by_cases h0 : z = 100
  · rw [if_pos h0]
    refine Rn.run 2 (ls' := [_]) (st' := [_, _]) rfl ?_
    refine Rn.ne2 rfl (fun e3 => absurd e3 (by rw [hz]; exact fun h => h h0)) (fun e3 => ?_)
    refine Rn.run 2 (ls' := [_]) (st' := [_]) rfl ?_
    exact Rn.ret rfl rfl rfl rfl rfl rfl
  · skip
    by_cases h1 : z = 103
    · rw [if_neg h0, if_pos h1]
      refine Rn.run 2 (ls' := [_]) (st' := [_, _]) rfl ?_
      refine Rn.ne2 rfl (fun e3 => ?_) (fun e3 => absurd e3 (by rw [hz]; exact fun h => h h0))
      refine Rn.run 2 (ls' := [_]) (st' := [_, _]) rfl ?_
      refine Rn.ne2 rfl (fun e13 => absurd e13 (by rw [hz]; exact fun h => h h1)) (fun e13 => ?_)
      refine Rn.run 2 (ls' := [_]) (st' := [_]) rfl ?_
      exact Rn.ret rfl rfl rfl rfl rfl rfl
    · skip
      by_cases h2 : z = 102
      · rw [if_neg h0, if_neg h1, if_pos h2]
        refine Rn.run 2 (ls' := [_]) (st' := [_, _]) rfl ?_
        refine Rn.ne2 rfl (fun e3 => ?_) (fun e3 => absurd e3 (by rw [hz]; exact fun h => h h0))
        refine Rn.run 2 (ls' := [_]) (st' := [_, _]) rfl ?_
        refine Rn.ne2 rfl (fun e13 => ?_) (fun e13 => absurd e13 (by rw [hz]; exact fun h => h h1))
        refine Rn.run 2 (ls' := [_]) (st' := [_, _]) rfl ?_
        refine Rn.ne2 rfl (fun e23 => absurd e23 (by rw [hz]; exact fun h => h h2)) (fun e23 => ?_)
        refine Rn.run 2 (ls' := [_]) (st' := [_]) rfl ?_
        exact Rn.ret rfl rfl rfl rfl rfl rfl
      · skip
        by_cases h3 : z = 98
        · rw [if_neg h0, if_neg h1, if_neg h2, if_pos h3]
          refine Rn.run 2 (ls' := [_]) (st' := [_, _]) rfl ?_
          refine Rn.ne2 rfl (fun e3 => ?_) (fun e3 => absurd e3 (by rw [hz]; exact fun h => h h0))
          refine Rn.run 2 (ls' := [_]) (st' := [_, _]) rfl ?_
          refine Rn.ne2 rfl (fun e13 => ?_) (fun e13 => absurd e13 (by rw [hz]; exact fun h => h h1))
          refine Rn.run 2 (ls' := [_]) (st' := [_, _]) rfl ?_
          refine Rn.ne2 rfl (fun e23 => ?_) (fun e23 => absurd e23 (by rw [hz]; exact fun h => h h2))
          refine Rn.run 2 (ls' := [_]) (st' := [_, _]) rfl ?_
          refine Rn.ne2 rfl (fun e33 => absurd e33 (by rw [hz]; exact fun h => h h3)) (fun e33 => ?_)
          refine Rn.run 2 (ls' := [_]) (st' := [_]) rfl ?_
          exact Rn.ret rfl rfl rfl rfl rfl rfl
        · skip
          by_cases h4 : z = 115
          · rw [if_neg h0, if_neg h1, if_neg h2, if_neg h3, if_pos h4]
            refine Rn.run 2 (ls' := [_]) (st' := [_, _]) rfl ?_
            refine Rn.ne2 rfl (fun e3 => ?_) (fun e3 => absurd e3 (by rw [hz]; exact fun h => h h0))
            refine Rn.run 2 (ls' := [_]) (st' := [_, _]) rfl ?_
            refine Rn.ne2 rfl (fun e13 => ?_) (fun e13 => absurd e13 (by rw [hz]; exact fun h => h h1))
            refine Rn.run 2 (ls' := [_]) (st' := [_, _]) rfl ?_
            refine Rn.ne2 rfl (fun e23 => ?_) (fun e23 => absurd e23 (by rw [hz]; exact fun h => h h2))
            refine Rn.run 2 (ls' := [_]) (st' := [_, _]) rfl ?_
            refine Rn.ne2 rfl (fun e33 => ?_) (fun e33 => absurd e33 (by rw [hz]; exact fun h => h h3))
            refine Rn.run 2 (ls' := [_]) (st' := [_, _]) rfl ?_
            refine Rn.ne2 rfl (fun e43 => absurd e43 (by rw [hz]; exact fun h => h h4)) (fun e43 => ?_)
            refine Rn.run 2 (ls' := [_]) (st' := [_]) rfl ?_
            exact Rn.ret rfl rfl rfl rfl rfl rfl
          · skip
            by_cases h5 : z = 107
            · rw [if_neg h0, if_neg h1, if_neg h2, if_neg h3, if_neg h4, if_pos h5]
              refine Rn.run 2 (ls' := [_]) (st' := [_, _]) rfl ?_
              refine Rn.ne2 rfl (fun e3 => ?_) (fun e3 => absurd e3 (by rw [hz]; exact fun h => h h0))
              refine Rn.run 2 (ls' := [_]) (st' := [_, _]) rfl ?_
              refine Rn.ne2 rfl (fun e13 => ?_) (fun e13 => absurd e13 (by rw [hz]; exact fun h => h h1))
              refine Rn.run 2 (ls' := [_]) (st' := [_, _]) rfl ?_
              refine Rn.ne2 rfl (fun e23 => ?_) (fun e23 => absurd e23 (by rw [hz]; exact fun h => h h2))
              refine Rn.run 2 (ls' := [_]) (st' := [_, _]) rfl ?_
              refine Rn.ne2 rfl (fun e33 => ?_) (fun e33 => absurd e33 (by rw [hz]; exact fun h => h h3))
              refine Rn.run 2 (ls' := [_]) (st' := [_, _]) rfl ?_
              refine Rn.ne2 rfl (fun e43 => ?_) (fun e43 => absurd e43 (by rw [hz]; exact fun h => h h4))
              refine Rn.run 2 (ls' := [_]) (st' := [_, _]) rfl ?_
              refine Rn.ne2 rfl (fun e53 => absurd e53 (by rw [hz]; exact fun h => h h5)) (fun e53 => ?_)
              refine Rn.run 2 (ls' := [_]) (st' := [_]) rfl ?_
              exact Rn.ret rfl rfl rfl rfl rfl rfl
            · skip
              rw [if_neg h0, if_neg h1, if_neg h2, if_neg h3, if_neg h4, if_neg h5]
              refine Rn.run 2 (ls' := [_]) (st' := [_, _]) rfl ?_
              refine Rn.ne2 rfl (fun e3 => ?_) (fun e3 => absurd e3 (by rw [hz]; exact fun h => h h0))
              refine Rn.run 2 (ls' := [_]) (st' := [_, _]) rfl ?_
              refine Rn.ne2 rfl (fun e13 => ?_) (fun e13 => absurd e13 (by rw [hz]; exact fun h => h h1))
              refine Rn.run 2 (ls' := [_]) (st' := [_, _]) rfl ?_
              refine Rn.ne2 rfl (fun e23 => ?_) (fun e23 => absurd e23 (by rw [hz]; exact fun h => h h2))
              refine Rn.run 2 (ls' := [_]) (st' := [_, _]) rfl ?_
              refine Rn.ne2 rfl (fun e33 => ?_) (fun e33 => absurd e33 (by rw [hz]; exact fun h => h h3))
              refine Rn.run 2 (ls' := [_]) (st' := [_, _]) rfl ?_
              refine Rn.ne2 rfl (fun e43 => ?_) (fun e43 => absurd e43 (by rw [hz]; exact fun h => h h4))
              refine Rn.run 2 (ls' := [_]) (st' := [_, _]) rfl ?_
              refine Rn.ne2 rfl (fun e53 => ?_) (fun e53 => absurd e53 (by rw [hz]; exact fun h => h h5))
              refine Rn.run 1 (ls' := [_]) (st' := [_]) rfl ?_
              exact Rn.ret rfl rfl rfl rfl rfl rfl
theorem c152_g {ex : xO} {d : Nat} {b : Bool} {c : Nat → Nat → Int} {t S : Nat} (ht : t < 4) (S60 : S ≤ 60) {bs : Nat → Int} (hb : ∀ k, k < 60 → -128 ≤ bs k ∧ bs k < 128) {hi to q : Nat} (hi9 : hi ≤ 9) (to26 : to < 26) (hq : q ≤ S) (h0 : c 54 12 = (q : Nat)) (hm : mt c t S bs) (hg : fgo S bs hi q = true) : An ex (d + 1) 152 4 [xA 54, xI (hi : Int), xI (to : Int)] (hp c b) (xI 1, hp (xup (xup c 62 to (fgv bs q : Nat)) 54 12 ((q + 1 : Nat) : Int)) b) := by
  have to31 : to < 2147483648 := by omega
  obtain ⟨hw, hl, hu⟩ := hr_w S60 hb q
  have wv : w32 (hr S bs q - 48) = hr S bs q - 48 := x_w _ (by omega) (by omega)
  obtain ⟨qS, ev, le⟩ := fg_in hg
  have eh : hr S bs q - 48 = (fgv bs q : Nat) := by rw [show hr S bs q = bs q from if_pos qS]; exact ev
  have vi : w64 0 ≤ w64 (w32 (hr S bs q - 48)) ∧ w64 (w32 (hr S bs q - 48)) ≤ w64 (w32 (hi : Int)) := (x_in64 (by omega)).mpr (by rw [wv]; exact (fg_hr hi9).mp hg)
  refine Rn.run 1 (ls' := [_, _, _, _]) (st' := [_]) rfl ?_
  refine Rn.call rfl rfl rfl rfl rfl (c150 ht S60 hb hq h0 hm) ?_
  refine Rn.run 8 (ls' := [_, _, _, _]) (st' := [_, _, _]) rfl ?_
  refine Rn.call rfl rfl rfl rfl rfl (c131) ?_
  refine Rn.neB rfl (fun e16 => ?_) (fun e16 => absurd e16 (by exact fun h => h vi))
  refine Rn.run 4 (ls' := [_, _, _, _]) (st' := [_, _, _]) rfl ?_
  refine Rn.ast rfl ⟨by decide, rfl⟩ (to) (x_wn to31) to26 ?_
  refine Rn.run 3 (ls' := [_, _, _, _]) (st' := [_, _]) rfl ?_
  rw [xup_n _ _ (by omega), h0]
  refine Rn.run 4 (ls' := [_, _, _, _]) (st' := [_]) rfl ?_
  exact Rn.ret rfl rfl rfl rfl rfl (by rw [eh]; rfl)
theorem c152_b {ex : xO} {d : Nat} {b : Bool} {c : Nat → Nat → Int} {t S : Nat} (ht : t < 4) (S60 : S ≤ 60) {bs : Nat → Int} (hb : ∀ k, k < 60 → -128 ≤ bs k ∧ bs k < 128) {hi to q : Nat} (hi9 : hi ≤ 9) (to26 : to < 26) (hq : q ≤ S) (h0 : c 54 12 = (q : Nat)) (hm : mt c t S bs) (hg : ¬ fgo S bs hi q = true) : An ex (d + 1) 152 4 [xA 54, xI (hi : Int), xI (to : Int)] (hp c b) (xI 0, hp c b) := by
  have to31 : to < 2147483648 := by omega
  obtain ⟨hw, hl, hu⟩ := hr_w S60 hb q
  have wv : w32 (hr S bs q - 48) = hr S bs q - 48 := x_w _ (by omega) (by omega)
  have vi : ¬ (w64 0 ≤ w64 (w32 (hr S bs q - 48)) ∧ w64 (w32 (hr S bs q - 48)) ≤ w64 (w32 (hi : Int))) := fun z => hg ((fg_hr hi9).mpr (by have := (x_in64 (by omega)).mp z; rw [wv] at this; exact this))
  refine Rn.run 1 (ls' := [_, _, _, _]) (st' := [_]) rfl ?_
  refine Rn.call rfl rfl rfl rfl rfl (c150 ht S60 hb hq h0 hm) ?_
  refine Rn.run 8 (ls' := [_, _, _, _]) (st' := [_, _, _]) rfl ?_
  refine Rn.call rfl rfl rfl rfl rfl (c131) ?_
  refine Rn.neB rfl (fun e16 => absurd e16 (by exact vi)) (fun e16 => ?_)
  refine Rn.run 1 (ls' := [_, _, _, _]) (st' := [_]) rfl ?_
  exact Rn.ret rfl rfl rfl rfl rfl rfl
theorem x153 {ex : xO} {d : Nat} {b : Bool} {c : Nat → Nat → Int} {i : Nat} : Rn ex xt153 d 25 [xA 54, xI 0, xI (i : Int)] [] (hp c b) (xI 0, hp c b) := by
  refine Rn.run 2 (ls' := [_, _, _]) (st' := [_, _]) rfl ?_
  refine Rn.ge2 rfl (fun e28 => ?_) (fun e28 => ?_)
  · refine Rn.run 1 (ls' := [_, _, _]) (st' := [_]) rfl ?_
    exact Rn.ret rfl rfl rfl rfl rfl rfl
  · refine Rn.run 1 (ls' := [_, _, _]) (st' := [_]) rfl ?_
    refine Rn.eq0 rfl (fun e32 => ?_) (fun e32 => absurd e32 (by decide))
    refine Rn.run 1 (ls' := [_, _, _]) (st' := [_]) rfl ?_
    exact Rn.ret rfl rfl rfl rfl rfl rfl
theorem l153 {ex : xO} {d : Nat} {b : Bool} {t S : Nat} (ht : t < 4) (S60 : S ≤ 60) {bs : Nat → Int} (hb : ∀ k, k < 60 → -128 ≤ bs k ∧ bs k < 128) {q : Nat} : ∀ (m i : Nat) (c : Nat → Nat → Int), i + m = 8 → q + 1 + i ≤ S → c 54 12 = (q + 1 + i : Nat) → mt c t S bs → (∀ j, j < i → c 62 j = (fgv bs (q + 1 + j) : Nat)) → ∃ e, Rn ex xt153 (d + 2) 25 [xA 54, xI 1, xI (i : Int)] [] (hp c b) (xI (if fbd (ok9 S bs q) m i = 8 then 1 else 0), hp e b) ∧ (∀ a z, a ≠ 62 → ¬ (a = 54 ∧ z = 12) → e a z = c a z) ∧ e 54 12 = ((q + 1 + fbd (ok9 S bs q) m i : Nat) : Int) ∧ q + 1 + fbd (ok9 S bs q) m i ≤ S ∧ (fbd (ok9 S bs q) m i = 8 → ∀ j, j < 8 → e 62 j = (fgv bs (q + 1 + j) : Nat)) := by
  intro m
  induction m with
  | zero =>
    intro i c hm hq h0 hx hr
    obtain rfl : i = 8 := by omega
    rw [show fbd (ok9 S bs q) 0 8 = 8 from rfl, if_pos rfl]
    refine ⟨c, ?_, fun _ _ _ _ => rfl, h0, hq, fun _ => hr⟩
    refine Rn.run 2 (ls' := [_, _, _]) (st' := [_, _]) rfl ?_
    refine Rn.ge2 rfl (fun e28 => ?_) (fun e28 => absurd e28 (by decide))
    refine Rn.run 1 (ls' := [_, _, _]) (st' := [_]) rfl ?_
    exact Rn.ret rfl rfl rfl rfl rfl rfl
  | succ m ih =>
    intro i c hm hq h0 hx hr
    have i8 : ¬ w32 8 ≤ w32 (i : Int) := fun h => absurd ((y_ge (n := 8) (by omega) (by omega)).mp h) (by omega)
    by_cases hok : ok9 S bs q i = true
    · obtain ⟨qS, ev, le⟩ := fg_in hok
      rw [show fbd (ok9 S bs q) (m + 1) i = fbd (ok9 S bs q) m (i + 1) from if_pos hok]
      obtain ⟨e, r, fr, e0, eS, e1⟩ := ih (i + 1) (xup (xup c 62 i (fgv bs (q + 1 + i) : Nat)) 54 12 ((q + 1 + i + 1 : Nat) : Int)) (by omega) (by omega) (by rw [xup_s]; rfl) (mt_fr (fun a z g1 g2 => by rw [xup_n _ _ (by omega), xup_n _ _ (by omega)]) hx) (fun j hj => by
        rw [xup_n _ _ (by omega)]
        by_cases ej : j = i
        · rw [ej, xup_s]
        · rw [xup_n _ _ (by omega)]; exact hr j (by omega))
      refine ⟨e, ?_, fun a z g1 g2 => by rw [fr a z g1 g2, xup_n _ _ (by omega), xup_n _ _ (by omega)], e0, eS, e1⟩
      refine Rn.run 2 (ls' := [_, _, _]) (st' := [_, _]) rfl ?_
      refine Rn.ge2 rfl (fun e28 => absurd e28 (by exact i8)) (fun e28 => ?_)
      refine Rn.run 1 (ls' := [_, _, _]) (st' := [_]) rfl ?_
      refine Rn.eq0 rfl (fun e32 => absurd e32 (by decide)) (fun e32 => ?_)
      refine Rn.run 3 (ls' := [_, _, _]) (st' := [_, _, _]) rfl ?_
      refine Rn.call rfl rfl rfl rfl rfl (c152_g (hi := 9) (to := i) (q := q + 1 + i) ht S60 hb (by decide) (by omega) hq h0 hx hok) ?_
      refine Rn.run 3 (ls' := [_, _, _]) (st' := []) rfl ?_
      exact r
    · rw [show fbd (ok9 S bs q) (m + 1) i = i from if_neg hok, if_neg (show ¬ i = 8 by omega)]
      refine ⟨c, ?_, fun _ _ _ _ => rfl, h0, hq, fun h => by omega⟩
      refine Rn.run 2 (ls' := [_, _, _]) (st' := [_, _]) rfl ?_
      refine Rn.ge2 rfl (fun e28 => absurd e28 (by exact i8)) (fun e28 => ?_)
      refine Rn.run 1 (ls' := [_, _, _]) (st' := [_]) rfl ?_
      refine Rn.eq0 rfl (fun e32 => absurd e32 (by decide)) (fun e32 => ?_)
      refine Rn.run 3 (ls' := [_, _, _]) (st' := [_, _, _]) rfl ?_
      refine Rn.call rfl rfl rfl rfl rfl (c152_b (hi := 9) (to := i) (q := q + 1 + i) ht S60 hb (by decide) (by omega) hq h0 hx hok) ?_
      refine Rn.run 3 (ls' := [_, _, _]) (st' := []) rfl ?_
      exact x153 (i := i + 1)
theorem c153 {ex : xO} {d : Nat} {b : Bool} {c : Nat → Nat → Int} {t S : Nat} (ht : t < 4) (S60 : S ≤ 60) {bs : Nat → Int} (hb : ∀ k, k < 60 → -128 ≤ bs k ∧ bs k < 128) {q : Nat} (hq : q ≤ S) (h0 : c 54 12 = (q : Nat)) (hm : mt c t S bs) : ∃ e, An ex (d + 2) 153 3 [xA 54] (hp c b) (xI (if trr S bs q = -9 then 1 else 0), hp e b) ∧ (∀ a z, a ≠ 62 → ¬ (a = 54 ∧ z = 12) → e a z = c a z) ∧ (trr S bs q = -9 → e 54 12 = (q + 9 : Nat) ∧ q + 9 ≤ S ∧ ∀ j, j < 8 → e 62 j = (fgv bs (q + 1 + j) : Nat)) ∧ (trr S bs q ≠ -9 → e 54 12 = trr S bs q) := by
  obtain ⟨hw, hl, hu⟩ := hr_w S60 hb q
  by_cases hT : q < S ∧ bs q = 116
  · have eh : hr S bs q = 116 := (if_pos hT.1).trans hT.2
    have et : trr S bs q = if fbd (ok9 S bs q) 8 0 = 8 then -9 else ((q + 1 + fbd (ok9 S bs q) 8 0 : Nat) : Int) := if_pos hT
    obtain ⟨e, r, fr, e0, eS, e1⟩ := l153 (ex := ex) (d := d) (b := b) ht S60 hb (q := q) 8 0 (xup c 54 12 ((q + 1 : Nat) : Int)) rfl (by omega) (xup_s _ _ _ _) (mt_fr (fun a z g1 g2 => xup_n _ _ (by omega)) hm) (fun j hj => absurd hj (Nat.not_lt_zero j))
    have ec : (trr S bs q = -9) ↔ fbd (ok9 S bs q) 8 0 = 8 := by
      rw [et]
      split
      · exact ⟨fun _ => by assumption, fun _ => rfl⟩
      · constructor
        · intro h; omega
        · intro h; omega
    refine ⟨e, ?_, fun a z g1 g2 => by rw [fr a z g1 g2, xup_n _ _ (by omega)], fun h => ?_, fun h => ?_⟩
    · rw [x_ifc ec]
      refine Rn.run 1 (ls' := [_, _, _]) (st' := [_]) rfl ?_
      refine Rn.call rfl rfl rfl rfl rfl (c150 ht S60 hb hq h0 hm) ?_
      rw [eh]
      refine Rn.run 1 (ls' := [_, _, _]) (st' := [_, _]) rfl ?_
      refine Rn.eq2 rfl (fun e6 => ?_) (fun e6 => absurd e6 (by decide))
      refine Rn.run 3 (ls' := [_, _, _]) (st' := [_, _]) rfl ?_
      rw [h0]
      refine Rn.run 7 (ls' := [_, _, _]) (st' := []) rfl ?_
      exact r
    · have h8 := ec.mp h
      rw [h8] at e0 eS
      exact ⟨e0, eS, e1 h8⟩
    · rw [et, if_neg (fun z => h (ec.mpr z))]
      exact e0
  · have eh : ¬ w32 (hr S bs q) = w32 116 := by
      rw [hw, show w32 116 = 116 from rfl]
      intro h
      refine hT ?_
      unfold hr at h
      by_cases hS : q < S
      · rw [if_pos hS] at h; exact ⟨hS, h⟩
      · rw [if_neg hS] at h; omega
    have et : trr S bs q = (q : Int) := if_neg hT
    have en : ¬ (trr S bs q = -9) := by rw [et]; omega
    rw [if_neg en]
    refine ⟨c, ?_, fun _ _ _ _ => rfl, fun h => absurd h en, fun _ => by rw [et]; exact h0⟩
    refine Rn.run 1 (ls' := [_, _, _]) (st' := [_]) rfl ?_
    refine Rn.call rfl rfl rfl rfl rfl (c150 ht S60 hb hq h0 hm) ?_
    refine Rn.run 1 (ls' := [_, _, _]) (st' := [_, _]) rfl ?_
    refine Rn.eq2 rfl (fun e6 => absurd e6 (by exact eh)) (fun e6 => ?_)
    refine Rn.run 1 (ls' := [_, _, _]) (st' := [_]) rfl ?_
    exact Rn.ret rfl rfl rfl rfl rfl rfl
def MG (c : Nat → Nat → Int) (k : Nat) (G : Nat → Nat × Nat × Nat) : Prop := ∀ i, i < k → c 62 (8 + 3 * i) = ((G i).1 : Nat) ∧ c 62 (8 + 3 * i + 1) = ((G i).2.1 : Nat) ∧ c 62 (8 + 3 * i + 2) = ((G i).2.2 : Nat)
theorem c154_a {ex : xO} {d : Nat} {b : Bool} {c : Nat → Nat → Int} {t S : Nat} (ht : t < 4) (S60 : S ≤ 60) {bs : Nat → Int} (hb : ∀ k, k < 60 → -128 ≤ bs k ∧ bs k < 128) {k q : Nat} (hk : k ≤ 6) (hq : q ≤ S) (h0 : c 54 12 = (q : Nat)) (h14 : c 54 14 = (k : Nat)) (hm : mt c t S bs) (hA : kk (hr S bs q) = -1 ∨ k = 6) : An ex (d + 3) 154 3 [xA 54] (hp c b) (xI 0, hp c b) := by
  obtain ⟨hw, hl, hu⟩ := hr_w S60 hb q
  by_cases hK : kk (hr S bs q) = -1
  · refine Rn.run 1 (ls' := [_, _, _]) (st' := [_]) rfl ?_
    refine Rn.call rfl rfl rfl rfl rfl (c150 ht S60 hb hq h0 hm) ?_
    refine Rn.call rfl rfl rfl rfl rfl (c151 hw) ?_
    rw [hK]
    refine Rn.run 2 (ls' := [_, _, _]) (st' := [_]) rfl ?_
    refine Rn.lt0 rfl (fun e9 => ?_) (fun e9 => absurd e9 (by decide))
    refine Rn.run 1 (ls' := [_, _, _]) (st' := [_]) rfl ?_
    exact Rn.ret rfl rfl rfl rfl rfl rfl
  · have h6 := hA.resolve_left hK
    have kin := (kk_in (hr S bs q)).resolve_left hK
    have n0 : ¬ w32 (kk (hr S bs q)) < 0 := by rw [x_w _ (by omega) (by omega)]; omega
    refine Rn.run 1 (ls' := [_, _, _]) (st' := [_]) rfl ?_
    refine Rn.call rfl rfl rfl rfl rfl (c150 ht S60 hb hq h0 hm) ?_
    refine Rn.call rfl rfl rfl rfl rfl (c151 hw) ?_
    refine Rn.run 2 (ls' := [_, _, _]) (st' := [_]) rfl ?_
    refine Rn.lt0 rfl (fun e9 => absurd e9 (by exact n0)) (fun e9 => ?_)
    refine Rn.run 2 (ls' := [_, _, _]) (st' := [_]) rfl ?_
    rw [h14, h6]
    refine Rn.run 1 (ls' := [_, _, _]) (st' := [_, _]) rfl ?_
    refine Rn.ne2 rfl (fun e18 => absurd e18 (by decide)) (fun e18 => ?_)
    refine Rn.run 1 (ls' := [_, _, _]) (st' := [_]) rfl ?_
    exact Rn.ret rfl rfl rfl rfl rfl rfl
theorem c154_b {ex : xO} {d : Nat} {b : Bool} {c : Nat → Nat → Int} {t S : Nat} (ht : t < 4) (S60 : S ≤ 60) {bs : Nat → Int} (hb : ∀ k, k < 60 → -128 ≤ bs k ∧ bs k < 128) {k q : Nat} (hk : k ≤ 6) (hq : q ≤ S) (h0 : c 54 12 = (q : Nat)) (h14 : c 54 14 = (k : Nat)) (hm : mt c t S bs) (hqS : q < S) (h6 : k ≠ 6) (hK : ¬ kk (bs q) = -1) (hB : ¬ fgo S bs 7 (q + 1) = true) : ∃ e, An ex (d + 3) 154 3 [xA 54] (hp c b) (xI 0, hp e b) ∧ (∀ a z, a ≠ 62 → ¬ (a = 54 ∧ (z = 12 ∨ z = 14)) → e a z = c a z) ∧ (∀ z, z < 8 + 3 * k → e 62 z = c 62 z) ∧ e 54 12 = (q + 1 : Nat) := by
  obtain ⟨hw, hl, hu⟩ := hr_w S60 hb q
  have eh : hr S bs q = bs q := if_pos hqS
  rw [eh] at hw
  have kin := (kk_in (bs q)).resolve_left hK
  obtain ⟨v1, v5, ev1⟩ : ∃ v1 : Nat, v1 ≤ 5 ∧ kk (bs q) = (v1 : Nat) := ⟨(kk (bs q)).toNat, by omega, by omega⟩
  have n0 : ¬ w32 (v1 : Int) < 0 := by rw [x_wn (by omega)]; omega
  have n6 : w32 (k : Int) ≠ w32 6 := fun z => h6 ((y_eq (i := 6) (by omega) (by omega)).mp z)
  have k6 : k < 6 := by omega
  have i31 : 8 + 3 * k < 2147483648 := by omega
  have i26 : 8 + 3 * k < 26 := by omega
  refine ⟨(xup (xup c 54 12 ((q + 1 : Nat) : Int)) 62 (8 + 3 * k) (v1 : Nat)), ?_, fun a z g1 g2 => by rw [xup_n _ _ (by omega), xup_n _ _ (by omega)], fun z hz => by rw [xup_n _ _ (by omega), xup_n _ _ (by omega)], by rw [xup_n _ _ (by omega), xup_s]⟩
  refine Rn.run 1 (ls' := [_, _, _]) (st' := [_]) rfl ?_
  refine Rn.call rfl rfl rfl rfl rfl (c150 ht S60 hb hq h0 hm) ?_
  rw [eh]
  refine Rn.call rfl rfl rfl rfl rfl (c151 hw) ?_
  rw [ev1]
  refine Rn.run 2 (ls' := [_, _, _]) (st' := [_]) rfl ?_
  refine Rn.lt0 rfl (fun e9 => absurd e9 (by exact n0)) (fun e9 => ?_)
  refine Rn.run 2 (ls' := [_, _, _]) (st' := [_]) rfl ?_
  rw [h14]
  refine Rn.run 1 (ls' := [_, _, _]) (st' := [_, _]) rfl ?_
  refine Rn.ne2 rfl (fun e18 => ?_) (fun e18 => absurd e18 (by exact fun h => h n6))
  refine Rn.run 3 (ls' := [_, _, _]) (st' := [_, _]) rfl ?_
  rw [h0]
  refine Rn.run 7 (ls' := [_, _, _]) (st' := [_, _, _]) rfl ?_
  rw [xup_n _ _ (by omega), h14]
  refine Rn.run 7 (ls' := [_, _, _]) (st' := [_, _, _]) rfl ?_
  refine Rn.ast rfl ⟨by decide, rfl⟩ (8 + 3 * k) (x_wn i31) i26 ?_
  refine Rn.run 5 (ls' := [_, _, _]) (st' := [_, _, _]) rfl ?_
  refine Rn.call rfl rfl rfl rfl rfl (c152_b (hi := 7) (to := 8 + 3 * k + 1) (q := q + 1) ht S60 hb (by decide) (by omega) (by omega) (by rw [xup_n _ _ (by omega), xup_s]; rfl) (mt_fr (fun a z g1 g2 => by rw [xup_n _ _ (by omega), xup_n _ _ (by omega)]) hm) hB) ?_
  refine Rn.eq0 rfl (fun e59 => ?_) (fun e59 => absurd e59 (by decide))
  refine Rn.run 1 (ls' := [_, _, _]) (st' := [_]) rfl ?_
  exact Rn.ret rfl rfl rfl rfl rfl rfl
theorem c154_c {ex : xO} {d : Nat} {b : Bool} {c : Nat → Nat → Int} {t S : Nat} (ht : t < 4) (S60 : S ≤ 60) {bs : Nat → Int} (hb : ∀ k, k < 60 → -128 ≤ bs k ∧ bs k < 128) {k q : Nat} (hk : k ≤ 6) (hq : q ≤ S) (h0 : c 54 12 = (q : Nat)) (h14 : c 54 14 = (k : Nat)) (hm : mt c t S bs) (hqS : q < S) (h6 : k ≠ 6) (hK : ¬ kk (bs q) = -1) (hB : fgo S bs 7 (q + 1) = true) (hC : ¬ fgo S bs 9 (q + 2) = true) : ∃ e, An ex (d + 3) 154 3 [xA 54] (hp c b) (xI 0, hp e b) ∧ (∀ a z, a ≠ 62 → ¬ (a = 54 ∧ (z = 12 ∨ z = 14)) → e a z = c a z) ∧ (∀ z, z < 8 + 3 * k → e 62 z = c 62 z) ∧ e 54 12 = (q + 2 : Nat) := by
  obtain ⟨hw, hl, hu⟩ := hr_w S60 hb q
  have eh : hr S bs q = bs q := if_pos hqS
  rw [eh] at hw
  have kin := (kk_in (bs q)).resolve_left hK
  obtain ⟨v1, v5, ev1⟩ : ∃ v1 : Nat, v1 ≤ 5 ∧ kk (bs q) = (v1 : Nat) := ⟨(kk (bs q)).toNat, by omega, by omega⟩
  have n0 : ¬ w32 (v1 : Int) < 0 := by rw [x_wn (by omega)]; omega
  have n6 : w32 (k : Int) ≠ w32 6 := fun z => h6 ((y_eq (i := 6) (by omega) (by omega)).mp z)
  have k6 : k < 6 := by omega
  have i31 : 8 + 3 * k < 2147483648 := by omega
  have i26 : 8 + 3 * k < 26 := by omega
  obtain ⟨qS1, -, -⟩ := fg_in hB
  refine ⟨(xup (xup (xup (xup c 54 12 ((q + 1 : Nat) : Int)) 62 (8 + 3 * k) (v1 : Nat)) 62 (8 + 3 * k + 1) (fgv bs (q + 1) : Nat)) 54 12 ((q + 1 + 1 : Nat) : Int)), ?_, fun a z g1 g2 => by rw [xup_n _ _ (by omega), xup_n _ _ (by omega), xup_n _ _ (by omega), xup_n _ _ (by omega)], fun z hz => by rw [xup_n _ _ (by omega), xup_n _ _ (by omega), xup_n _ _ (by omega), xup_n _ _ (by omega)], by rw [xup_s]⟩
  refine Rn.run 1 (ls' := [_, _, _]) (st' := [_]) rfl ?_
  refine Rn.call rfl rfl rfl rfl rfl (c150 ht S60 hb hq h0 hm) ?_
  rw [eh]
  refine Rn.call rfl rfl rfl rfl rfl (c151 hw) ?_
  rw [ev1]
  refine Rn.run 2 (ls' := [_, _, _]) (st' := [_]) rfl ?_
  refine Rn.lt0 rfl (fun e9 => absurd e9 (by exact n0)) (fun e9 => ?_)
  refine Rn.run 2 (ls' := [_, _, _]) (st' := [_]) rfl ?_
  rw [h14]
  refine Rn.run 1 (ls' := [_, _, _]) (st' := [_, _]) rfl ?_
  refine Rn.ne2 rfl (fun e18 => ?_) (fun e18 => absurd e18 (by exact fun h => h n6))
  refine Rn.run 3 (ls' := [_, _, _]) (st' := [_, _]) rfl ?_
  rw [h0]
  refine Rn.run 7 (ls' := [_, _, _]) (st' := [_, _, _]) rfl ?_
  rw [xup_n _ _ (by omega), h14]
  refine Rn.run 7 (ls' := [_, _, _]) (st' := [_, _, _]) rfl ?_
  refine Rn.ast rfl ⟨by decide, rfl⟩ (8 + 3 * k) (x_wn i31) i26 ?_
  refine Rn.run 5 (ls' := [_, _, _]) (st' := [_, _, _]) rfl ?_
  refine Rn.call rfl rfl rfl rfl rfl (c152_g (hi := 7) (to := 8 + 3 * k + 1) (q := q + 1) ht S60 hb (by decide) (by omega) (by omega) (by rw [xup_n _ _ (by omega), xup_s]; rfl) (mt_fr (fun a z g1 g2 => by rw [xup_n _ _ (by omega), xup_n _ _ (by omega)]) hm) hB) ?_
  refine Rn.eq0 rfl (fun e59 => absurd e59 (by decide)) (fun e59 => ?_)
  refine Rn.run 5 (ls' := [_, _, _]) (st' := [_, _, _]) rfl ?_
  refine Rn.call rfl rfl rfl rfl rfl (c152_b (hi := 9) (to := 8 + 3 * k + 2) (q := q + 2) ht S60 hb (by decide) (by omega) (by omega) (by rw [xup_s]) (mt_fr (fun a z g1 g2 => by rw [xup_n _ _ (by omega), xup_n _ _ (by omega), xup_n _ _ (by omega), xup_n _ _ (by omega)]) hm) hC) ?_
  refine Rn.ne0 rfl (fun e71 => absurd e71 (by decide)) (fun e71 => ?_)
  refine Rn.run 1 (ls' := [_, _, _]) (st' := [_]) rfl ?_
  exact Rn.ret rfl rfl rfl rfl rfl rfl
theorem c154_d {ex : xO} {d : Nat} {b : Bool} {c : Nat → Nat → Int} {t S : Nat} (ht : t < 4) (S60 : S ≤ 60) {bs : Nat → Int} (hb : ∀ k, k < 60 → -128 ≤ bs k ∧ bs k < 128) {k q : Nat} (hk : k ≤ 6) (hq : q ≤ S) (h0 : c 54 12 = (q : Nat)) (h14 : c 54 14 = (k : Nat)) (hm : mt c t S bs) (hqS : q < S) (h6 : k ≠ 6) (hK : ¬ kk (bs q) = -1) {G : Nat → Nat × Nat × Nat} (hG : MG c k G) (hB : fgo S bs 7 (q + 1) = true) (hC : fgo S bs 9 (q + 2) = true) : ∃ e, An ex (d + 3) 154 3 [xA 54] (hp c b) (xI 1, hp e b) ∧ (∀ a z, a ≠ 62 → ¬ (a = 54 ∧ (z = 12 ∨ z = 14)) → e a z = c a z) ∧ (∀ z, z < 8 + 3 * k → e 62 z = c 62 z) ∧ e 54 12 = (q + 3 : Nat) ∧ e 54 14 = (k + 1 : Nat) ∧ q + 3 ≤ S ∧ MG e (k + 1) (ext G k ((kk (bs q)).toNat, fgv bs (q + 1), fgv bs (q + 2))) := by
  obtain ⟨hw, hl, hu⟩ := hr_w S60 hb q
  have eh : hr S bs q = bs q := if_pos hqS
  rw [eh] at hw
  have kin := (kk_in (bs q)).resolve_left hK
  obtain ⟨v1, v5, ev1⟩ : ∃ v1 : Nat, v1 ≤ 5 ∧ kk (bs q) = (v1 : Nat) := ⟨(kk (bs q)).toNat, by omega, by omega⟩
  have n0 : ¬ w32 (v1 : Int) < 0 := by rw [x_wn (by omega)]; omega
  have n6 : w32 (k : Int) ≠ w32 6 := fun z => h6 ((y_eq (i := 6) (by omega) (by omega)).mp z)
  have k6 : k < 6 := by omega
  have i31 : 8 + 3 * k < 2147483648 := by omega
  have i26 : 8 + 3 * k < 26 := by omega
  obtain ⟨qS1, -, -⟩ := fg_in hB
  obtain ⟨qS2, -, -⟩ := fg_in hC
  have ev3 : (kk (bs q)).toNat = v1 := by omega
  rw [ev3]
  refine ⟨xup (xup (xup (xup (xup (xup (xup c 54 12 ((q + 1 : Nat) : Int)) 62 (8 + 3 * k) (v1 : Nat)) 62 (8 + 3 * k + 1) (fgv bs (q + 1) : Nat)) 54 12 ((q + 1 + 1 : Nat) : Int)) 62 (8 + 3 * k + 2) (fgv bs (q + 2) : Nat)) 54 12 ((q + 2 + 1 : Nat) : Int)) 54 14 ((k + 1 : Nat) : Int), ?_, fun a z g1 g2 => by rw [xup_n _ _ (by omega)]; rw [xup_n _ _ (by omega), xup_n _ _ (by omega), xup_n _ _ (by omega), xup_n _ _ (by omega), xup_n _ _ (by omega), xup_n _ _ (by omega)], fun z hz => by rw [xup_n _ _ (by omega)]; rw [xup_n _ _ (by omega), xup_n _ _ (by omega), xup_n _ _ (by omega), xup_n _ _ (by omega), xup_n _ _ (by omega), xup_n _ _ (by omega)], by rw [xup_n _ _ (by omega), xup_s], by rw [xup_s], by omega, fun i hi => ?_⟩
  · refine Rn.run 1 (ls' := [_, _, _]) (st' := [_]) rfl ?_
    refine Rn.call rfl rfl rfl rfl rfl (c150 ht S60 hb hq h0 hm) ?_
    rw [eh]
    refine Rn.call rfl rfl rfl rfl rfl (c151 hw) ?_
    rw [ev1]
    refine Rn.run 2 (ls' := [_, _, _]) (st' := [_]) rfl ?_
    refine Rn.lt0 rfl (fun e9 => absurd e9 (by exact n0)) (fun e9 => ?_)
    refine Rn.run 2 (ls' := [_, _, _]) (st' := [_]) rfl ?_
    rw [h14]
    refine Rn.run 1 (ls' := [_, _, _]) (st' := [_, _]) rfl ?_
    refine Rn.ne2 rfl (fun e18 => ?_) (fun e18 => absurd e18 (by exact fun h => h n6))
    refine Rn.run 3 (ls' := [_, _, _]) (st' := [_, _]) rfl ?_
    rw [h0]
    refine Rn.run 7 (ls' := [_, _, _]) (st' := [_, _, _]) rfl ?_
    rw [xup_n _ _ (by omega), h14]
    refine Rn.run 7 (ls' := [_, _, _]) (st' := [_, _, _]) rfl ?_
    refine Rn.ast rfl ⟨by decide, rfl⟩ (8 + 3 * k) (x_wn i31) i26 ?_
    refine Rn.run 5 (ls' := [_, _, _]) (st' := [_, _, _]) rfl ?_
    refine Rn.call rfl rfl rfl rfl rfl (c152_g (hi := 7) (to := 8 + 3 * k + 1) (q := q + 1) ht S60 hb (by decide) (by omega) (by omega) (by rw [xup_n _ _ (by omega), xup_s]; rfl) (mt_fr (fun a z g1 g2 => by rw [xup_n _ _ (by omega), xup_n _ _ (by omega)]) hm) hB) ?_
    refine Rn.eq0 rfl (fun e59 => absurd e59 (by decide)) (fun e59 => ?_)
    refine Rn.run 5 (ls' := [_, _, _]) (st' := [_, _, _]) rfl ?_
    refine Rn.call rfl rfl rfl rfl rfl (c152_g (hi := 9) (to := 8 + 3 * k + 2) (q := q + 2) ht S60 hb (by decide) (by omega) (by omega) (by rw [xup_s]) (mt_fr (fun a z g1 g2 => by rw [xup_n _ _ (by omega), xup_n _ _ (by omega), xup_n _ _ (by omega), xup_n _ _ (by omega)]) hm) hC) ?_
    refine Rn.ne0 rfl (fun e71 => ?_) (fun e71 => absurd e71 (by decide))
    refine Rn.run 3 (ls' := [_, _, _]) (st' := [_, _]) rfl ?_
    rw [xup_n _ _ (by omega), xup_n _ _ (by omega), xup_n _ _ (by omega), xup_n _ _ (by omega), xup_n _ _ (by omega), xup_n _ _ (by omega), h14]
    refine Rn.run 4 (ls' := [_, _, _]) (st' := [_]) rfl ?_
    exact Rn.ret rfl rfl rfl rfl rfl rfl
  · by_cases ei : i = k
    · rw [ei, show ext G k (v1, fgv bs (q + 1), fgv bs (q + 2)) k = (v1, fgv bs (q + 1), fgv bs (q + 2)) from if_pos rfl]
      refine ⟨?_, ?_, ?_⟩
      · rw [xup_n _ _ (by omega), xup_n _ _ (by omega), xup_n _ _ (by omega), xup_n _ _ (by omega), xup_n _ _ (by omega), xup_s]
      · rw [xup_n _ _ (by omega), xup_n _ _ (by omega), xup_n _ _ (by omega), xup_n _ _ (by omega), xup_s]
      · rw [xup_n _ _ (by omega), xup_n _ _ (by omega), xup_s]
    · rw [show ext G k (v1, fgv bs (q + 1), fgv bs (q + 2)) i = G i from if_neg ei]
      obtain ⟨p1, p2, p3⟩ := hG i (by omega)
      refine ⟨?_, ?_, ?_⟩
      · rw [xup_n _ _ (by omega)]; rw [xup_n _ _ (by omega), xup_n _ _ (by omega), xup_n _ _ (by omega), xup_n _ _ (by omega), xup_n _ _ (by omega), xup_n _ _ (by omega)]; exact p1
      · rw [xup_n _ _ (by omega)]; rw [xup_n _ _ (by omega), xup_n _ _ (by omega), xup_n _ _ (by omega), xup_n _ _ (by omega), xup_n _ _ (by omega), xup_n _ _ (by omega)]; exact p2
      · rw [xup_n _ _ (by omega)]; rw [xup_n _ _ (by omega), xup_n _ _ (by omega), xup_n _ _ (by omega), xup_n _ _ (by omega), xup_n _ _ (by omega), xup_n _ _ (by omega)]; exact p3
