-- deeds: the class's add, the model's minds, and what follows of them
theorem cadd_o (c : Nat → Nat → Int) (D : Nat) (x s m : Int) {a k : Nat} (h : ¬ (a = 7 ∧ k = 0) ∧ ¬ (8 ≤ a ∧ a ≤ 10 ∧ k = D + 1)) : cadd c D x s m a k = c a k := by
  unfold cadd
  rw [xup_n _ _ (by omega), xup_n _ _ (by omega), xup_n _ _ (by omega), xup_n _ _ (by omega)]
theorem cadd_7 (c : Nat → Nat → Int) (D : Nat) (x s m : Int) : cadd c D x s m 7 0 = (D + 1 : Nat) := by
  unfold cadd
  rw [xup_n _ _ (by omega), xup_n _ _ (by omega), xup_n _ _ (by omega), xup_s]
theorem cadd_8 (c : Nat → Nat → Int) (D : Nat) (x s m : Int) : cadd c D x s m 8 (D + 1) = x := by
  unfold cadd
  rw [xup_n _ _ (by omega), xup_n _ _ (by omega), xup_s]
theorem cadd_9 (c : Nat → Nat → Int) (D : Nat) (x s m : Int) : cadd c D x s m 9 (D + 1) = s := by
  unfold cadd
  rw [xup_n _ _ (by omega), xup_s]
theorem cadd_10 (c : Nat → Nat → Int) (D : Nat) (x s m : Int) : cadd c D x s m 10 (D + 1) = m := by
  unfold cadd
  rw [xup_s]
theorem cS_add {c : Nat → Nat → Int} {b : Bool} {n D T Mo T' Mo' : Nat} {kd bo wo L L' : Nat → Nat} {x : Int} (hc : cS c b n kd bo wo D T Mo L) (hx : pk x L') : cS (cadd c D x T' Mo') b n kd bo wo (D + 1) T' Mo' L' := by
  have hg := gid_in b
  obtain ⟨hC, d7, t9, hL, m10⟩ := hc
  exact ⟨cG_fr (fun a k ha => cadd_o _ _ _ _ _ (by omega)) hC, cadd_7 _ _ _ _ _, cadd_9 _ _ _ _ _, by rw [cadd_8]; exact hx, cadd_10 _ _ _ _ _⟩
def wtr (v m : Nat) : Nat := if v + m ≤ 9 then v + m else 9
theorem wtr_9 (v m : Nat) : wtr v m ≤ 9 := by
  unfold wtr
  split <;> omega
/-- leaves with bough j changed -/
def lset (L : Nat → Nat) (j v : Nat) : Nat → Nat := fun i => if i = j then v else L i
theorem lset_9 {L : Nat → Nat} {j v : Nat} (h : l9 L) (hv : v ≤ 9) : l9 (lset L j v) := by
  intro i hi
  unfold lset
  split
  · exact hv
  · exact h i hi
/-- what the model's deed has done -/
def mDeed (c c' : Nat → Nat → Int) (n : Nat) (kd bo wo : Nat → Nat) (D T Mo : Nat) (L : Nat → Nat) (T' Mo' : Nat) (L' : Nat → Nat) : Prop := mS c' n kd bo wo (D + 1) T' Mo' L' ∧ c' 55 (30 + 10 * D) = (Mo : Nat) ∧ c' 55 (30 + 10 * D + 1) = (T : Nat) ∧ (∀ j, j < 8 → c' 55 (30 + 10 * D + 2 + j) = (L j : Nat)) ∧ ∀ a k, ¬ scr a → ¬ (a = 55 ∧ ((1 ≤ k ∧ k ≤ 10) ∨ k = 29 ∨ (30 + 10 * D ≤ k ∧ k < 40 + 10 * D))) → c' a k = c a k
theorem Inv_deed {c c' : Nat → Nat → Int} {b : Bool} {n D T Mo T' Mo' : Nat} {kd bo wo L L' : Nat → Nat} {x : Int} (hI : Inv c b) (hP : pS n kd bo wo D T Mo L) (hc : cS c b n kd bo wo D T Mo L) (hm : mS c n kd bo wo D T Mo L) (hD : D < 40) (hx : pk x L') (h9' : l9 L') (hT' : T' < 2 ^ n) (hMo' : Mo' ≤ D + 1) (hd : mDeed (cadd c D x T' Mo') c' n kd bo wo D T Mo L T' Mo' L') : Inv c' b := by
  obtain ⟨i1, i2, i3, i4, n', hG, ⟨D', d1, d2, d3, d4, d5, d6, d7⟩, hK⟩ := hI
  obtain ⟨ho, h40, hT, h9, hMo⟩ := hP
  obtain ⟨hC, e7, t9, hL, m10⟩ := hc
  obtain ⟨-, -, u2, ul, u1⟩ := hm
  obtain ⟨⟨hM, f29, f2, fl, f1⟩, q0, q1, q2, fr⟩ := hd
  have hg := gid_in b
  obtain rfl : D' = D := by omega
  obtain rfl : n' = n := by have h1 := hG.2.2.1; have h2 := hC.1; omega
  have key : ∀ a k, ¬ scr a → ¬ (a = 7 ∧ k = 0) → ¬ (8 ≤ a ∧ a ≤ 10 ∧ k = D' + 1) → ¬ (a = 55 ∧ ((1 ≤ k ∧ k ≤ 10) ∨ k = 29 ∨ (30 + 10 * D' ≤ k ∧ k < 40 + 10 * D'))) → c' a k = c a k := by
    intro a k h1 h2 h3 h4
    rw [fr a k h1 h4, cadd_o _ _ _ _ _ ⟨h2, h3⟩]
  have cl : ∀ a k, 7 ≤ a ∧ a ≤ 10 → c' a k = cadd c D' x T' Mo' a k := fun a k ha => fr a k (by unfold scr; omega) (by omega)
  have pw : ((2 ^ n' : Nat) : Int) = (2 : Int) ^ n' := by push_cast; rfl
  have s7 : ¬ scr 7 ∧ ¬ scr 8 ∧ ¬ scr 9 ∧ ¬ scr 10 ∧ ¬ scr 55 := by unfold scr; omega
  refine ⟨iRow_fr (fun a z h => key a z (by unfold scr; omega) (by omega) (by omega) (by omega)) i1, iTxt_fr (fun a z h => key a z (by unfold scr; omega) (by omega) (by omega) (by omega)) i2, iFnd_fr (fun a z h => key a z (by unfold scr; omega) (by omega) (by omega) (by omega)) i3, iAsk_fr (fun a z h => key a z (by unfold scr; omega) (by omega) (by omega) (by omega)) i4, n', iGrn_fr2 (fun a z h => key a z (by unfold scr; omega) (by omega) (by omega) (by omega)) hG, ⟨D' + 1, by omega, ?_, ?_, ?_, ?_, ?_, ?_⟩, fun j hj => iKpt_fr2 hj hG.1 (fun a z h => key a z (by unfold scr; omega) (by omega) (by omega) (by omega)) (hK j hj)⟩
  · rw [cl 7 0 (by omega), cadd_7]
  · exact f29
  · intro y hy
    rw [cl 8 _ (by omega), cadd_8, Nat.zero_add, fl y hy]
    have := h9' y hy
    exact ⟨hx y hy, by omega, by omega⟩
  · rw [cl 9 _ (by omega), cadd_9, Nat.zero_add, f2]
    exact ⟨rfl, by omega, by omega⟩
  · rw [cl 10 _ (by omega), cadd_10, Nat.zero_add, f1]
    exact ⟨rfl, by omega, by omega⟩
  · intro j hj
    rw [cl 8 j (by omega), cl 9 j (by omega), cl 10 j (by omega), cadd_o _ _ _ _ _ (by omega), cadd_o _ _ _ _ _ (by omega), cadd_o _ _ _ _ _ (by omega)]
    by_cases e : j = D'
    · subst e
      rw [Nat.zero_add]
      refine ⟨fun y hy => ?_, ?_, ?_⟩
      · rw [q2 y hy]
        have := h9 y hy
        exact ⟨hL y hy, by omega, by omega⟩
      · rw [q1, t9]
        exact ⟨rfl, by omega, by omega⟩
      · rw [q0, m10]
        exact ⟨rfl, by omega, by omega⟩
    · obtain ⟨p1, p2, p3⟩ := d7 j (by omega)
      refine ⟨fun y hy => ?_, ?_, ?_⟩
      · rw [key 55 _ s7.2.2.2.2 (by omega) (by omega) (by omega)]; exact p1 y hy
      · rw [key 55 _ s7.2.2.2.2 (by omega) (by omega) (by omega)]; exact p2
      · rw [key 55 _ s7.2.2.2.2 (by omega) (by omega) (by omega)]; exact p3
theorem c118 {ex : xO} {d : Nat} {c : Nat → Nat → Int} {b : Bool} {n D T Mo : Nat} {kd bo wo L : Nat → Nat} (hP : pS n kd bo wo D T Mo L) (hc : cS c b n kd bo wo D T Mo L) (hD : D < 40) : An ex (d + 5) 118 2 [xA 0] (hp c b) (xU, hp (cadd c D (xit (fbl kd bo n T 1 L) 8 0 0) (T : Nat) (Mo + 1 : Nat)) b) := by
  obtain ⟨ho, h40, hT, h9, hMo⟩ := hP
  obtain ⟨hC, d7, t9, hL, m10⟩ := hc
  have hn := ho.1
  have hT6 := p64 hn hT
  refine Rn.run 2 (ls' := [_, _]) (st' := [_]) rfl ?_
  refine Rn.call rfl rfl rfl rfl rfl (c11 d7 h40) ?_
  rw [t9]
  refine Rn.run 4 (ls' := [_, _]) (st' := [_, _]) rfl ?_
  refine Rn.getR rfl ⟨by decide, rfl, rfl⟩ (j := gid b) (rfl) ?_
  refine Rn.run 2 (ls' := [_, _]) (st' := [_, _, _]) rfl ?_
  refine Rn.call rfl rfl rfl rfl rfl (c10 d7 h40) ?_
  refine Rn.run 2 (ls' := [_, _]) (st' := [_, _, _, _, _]) rfl ?_
  refine Rn.callV rfl (x_sv (xS_g b)) rfl rfl rfl (c26 (k := 1) ho hC hT6 (by omega) hL h9) ?_
  refine Rn.run 3 (ls' := [_, _]) (st' := [_, _, _, _]) rfl ?_
  refine Rn.call rfl rfl rfl rfl rfl (c12 d7 h40) ?_
  rw [m10]
  refine Rn.run 2 (ls' := [_, _]) (st' := [_, _, _, _]) rfl ?_
  refine Rn.call rfl rfl rfl rfl rfl (c9 d7 hD) ?_
  exact Rn.ret rfl rfl rfl rfl rfl rfl
theorem c119 {ex : xO} {d : Nat} {c : Nat → Nat → Int} {b : Bool} {n D T Mo : Nat} {kd bo wo L : Nat → Nat} (hP : pS n kd bo wo D T Mo L) (hc : cS c b n kd bo wo D T Mo L) {i : Nat} (hi : i < n) (hD : D < 40) : An ex (d + 5) 119 2 [xA 0, xI (i : Int)] (hp c b) (xU, hp (cadd c D (xwith (c 8 D) (bo i) (ans (kd i) (wo i) (L (bo i)))) (T ||| 2 ^ i : Nat) (Mo : Nat)) b) := by
  obtain ⟨ho, h40, hT, h9, hMo⟩ := hP
  obtain ⟨hC, d7, t9, hL, m10⟩ := hc
  have hn := ho.1
  have hT6 := p64 hn hT
  refine Rn.run 3 (ls' := [_, _]) (st' := [_, _]) rfl ?_
  refine Rn.getR rfl ⟨by decide, rfl, rfl⟩ (j := gid b) (rfl) ?_
  refine Rn.run 3 (ls' := [_, _]) (st' := [_, _, _, _]) rfl ?_
  refine Rn.call rfl rfl rfl rfl rfl (c10 d7 h40) ?_
  refine Rn.callV rfl (x_sv (xS_g b)) rfl rfl rfl (c25 ho hC hi hL h9) ?_
  refine Rn.run 2 (ls' := [_, _]) (st' := [_, _, _]) rfl ?_
  refine Rn.call rfl rfl rfl rfl rfl (c11 d7 h40) ?_
  rw [t9]
  refine Rn.run 4 (ls' := [_, _]) (st' := [_, _, _]) rfl ?_
  rw [bt_add hT6 (by omega)]
  refine Rn.run 2 (ls' := [_, _]) (st' := [_, _, _, _]) rfl ?_
  refine Rn.call rfl rfl rfl rfl rfl (c12 d7 h40) ?_
  rw [m10]
  refine Rn.call rfl rfl rfl rfl rfl (c9 d7 hD) ?_
  exact Rn.ret rfl rfl rfl rfl rfl rfl
theorem x_wtr {v m : Nat} (hv : v ≤ 9) (hm : m ≤ 9) : (if w32 ((v : Int) + (m : Int)) < w32 9 then (v : Int) + (m : Int) else 9) = (wtr v m : Nat) := by
  rw [x_mn (by omega)]
  unfold wtr
  split <;> split <;> omega
theorem c120 {ex : xO} {d : Nat} {c : Nat → Nat → Int} {b : Bool} {n D T Mo : Nat} {kd bo wo L : Nat → Nat} (hP : pS n kd bo wo D T Mo L) (hc : cS c b n kd bo wo D T Mo L) {j m : Nat} (hj : j < 8) (hm : m ≤ 9) (hD : D < 40) : An ex (d + 5) 120 4 [xA 0, xI (j : Int), xI (m : Int)] (hp c b) (xU, hp (cadd c D (xwith (c 8 D) j (wtr (L j) m : Nat)) (T : Nat) (Mo : Nat)) b) := by
  obtain ⟨ho, h40, hT, h9, hMo⟩ := hP
  obtain ⟨hC, d7, t9, hL, m10⟩ := hc
  have hn := ho.1
  have hT6 := p64 hn hT
  refine Rn.run 3 (ls' := [_, _, _, _]) (st' := [_, _]) rfl ?_
  refine Rn.call rfl rfl rfl rfl rfl (c10 d7 h40) ?_
  refine Rn.run 1 (ls' := [_, _, _, _]) (st' := [_, _, _]) rfl ?_
  refine Rn.call rfl rfl rfl rfl rfl (c0 hj) ?_
  rw [hL j hj]
  refine Rn.run 3 (ls' := [_, _, _, _]) (st' := [_]) rfl ?_
  rw [x_wtr (h9 j hj) hm]
  refine Rn.run 5 (ls' := [_, _, _, _]) (st' := [_, _]) rfl ?_
  refine Rn.call rfl rfl rfl rfl rfl (c10 d7 h40) ?_
  refine Rn.run 2 (ls' := [_, _, _, _]) (st' := [_, _, _, _]) rfl ?_
  refine Rn.call rfl rfl rfl rfl rfl (c1) ?_
  refine Rn.run 2 (ls' := [_, _, _, _]) (st' := [_, _, _]) rfl ?_
  refine Rn.call rfl rfl rfl rfl rfl (c11 d7 h40) ?_
  rw [t9]
  refine Rn.run 2 (ls' := [_, _, _, _]) (st' := [_, _, _, _]) rfl ?_
  refine Rn.call rfl rfl rfl rfl rfl (c12 d7 h40) ?_
  rw [m10]
  refine Rn.call rfl rfl rfl rfl rfl (c9 d7 hD) ?_
  exact Rn.ret rfl rfl rfl rfl rfl rfl
theorem c121 {ex : xO} {d : Nat} {c : Nat → Nat → Int} {b : Bool} {n D T Mo : Nat} {kd bo wo L : Nat → Nat} (hP : pS n kd bo wo D T Mo L) (hc : cS c b n kd bo wo D T Mo L) {j : Nat} (hj : j < 8) (hD : D < 40) : An ex (d + 5) 121 2 [xA 0, xI (j : Int)] (hp c b) (xU, hp (cadd c D (xwith (c 8 D) j ((0 : Nat) : Int)) (T : Nat) (Mo : Nat)) b) := by
  obtain ⟨ho, h40, hT, h9, hMo⟩ := hP
  obtain ⟨hC, d7, t9, hL, m10⟩ := hc
  have hn := ho.1
  have hT6 := p64 hn hT
  refine Rn.run 4 (ls' := [_, _]) (st' := [_, _]) rfl ?_
  refine Rn.call rfl rfl rfl rfl rfl (c10 d7 h40) ?_
  refine Rn.run 2 (ls' := [_, _]) (st' := [_, _, _, _]) rfl ?_
  refine Rn.call rfl rfl rfl rfl rfl (c1) ?_
  refine Rn.run 2 (ls' := [_, _]) (st' := [_, _, _]) rfl ?_
  refine Rn.call rfl rfl rfl rfl rfl (c11 d7 h40) ?_
  rw [t9]
  refine Rn.run 2 (ls' := [_, _]) (st' := [_, _, _, _]) rfl ?_
  refine Rn.call rfl rfl rfl rfl rfl (c12 d7 h40) ?_
  rw [m10]
  refine Rn.call rfl rfl rfl rfl rfl (c9 d7 hD) ?_
  exact Rn.ret rfl rfl rfl rfl rfl rfl
theorem c122 {ex : xO} {d : Nat} {c : Nat → Nat → Int} {b : Bool} {n D T Mo : Nat} {kd bo wo L : Nat → Nat} (hP : pS n kd bo wo D T Mo L) (hc : cS c b n kd bo wo D T Mo L) (hD : D < 40) : An ex (d + 5) 122 1 [xA 0] (hp c b) (xU, hp (cadd c D (c 8 D) (T : Nat) (Mo : Nat)) b) := by
  obtain ⟨ho, h40, hT, h9, hMo⟩ := hP
  obtain ⟨hC, d7, t9, hL, m10⟩ := hc
  have hn := ho.1
  have hT6 := p64 hn hT
  refine Rn.run 4 (ls' := [_]) (st' := [_, _]) rfl ?_
  refine Rn.call rfl rfl rfl rfl rfl (c10 d7 h40) ?_
  refine Rn.run 2 (ls' := [_]) (st' := [_, _, _]) rfl ?_
  refine Rn.call rfl rfl rfl rfl rfl (c11 d7 h40) ?_
  rw [t9]
  refine Rn.run 2 (ls' := [_]) (st' := [_, _, _, _]) rfl ?_
  refine Rn.call rfl rfl rfl rfl rfl (c12 d7 h40) ?_
  rw [m10]
  refine Rn.call rfl rfl rfl rfl rfl (c9 d7 hD) ?_
  exact Rn.ret rfl rfl rfl rfl rfl rfl
def mnd (c : Nat → Nat → Int) (D T Mo : Nat) (L : Nat → Nat) : Nat → Nat → Int := xup (xfl3 (xup (xup c 55 (30 + 10 * D) (Mo : Nat)) 55 (30 + 10 * D + 1) (T : Nat)) 55 (30 + 10 * D + 2 + 0) (30 + 10 * D + 10) (fun x => ((L (x - (30 + 10 * D + 2)) : Nat) : Int))) 55 29 (D + 1 : Nat)
theorem mnd_o (c : Nat → Nat → Int) (D T Mo : Nat) (L : Nat → Nat) {a k : Nat} (h : ¬ (a = 55 ∧ (k = 29 ∨ (30 + 10 * D ≤ k ∧ k < 40 + 10 * D)))) : mnd c D T Mo L a k = c a k := by
  unfold mnd
  rw [xup_n _ _ (by omega), xfl3_out _ _ (by omega), xup_n _ _ (by omega), xup_n _ _ (by omega)]
theorem mS_mnd {c : Nat → Nat → Int} {n D T Mo : Nat} {kd bo wo L : Nat → Nat} (hn : n ≤ 6) (hm : mS c n kd bo wo D T Mo L) : mDeed c (mnd c D T Mo L) n kd bo wo D T Mo L T Mo L := by
  obtain ⟨hM, d29, t2, l55, m1⟩ := hm
  refine ⟨⟨mG_fr hn (fun k hk => mnd_o _ _ _ _ _ (by omega)) hM, ?_, ?_, fun j hj => ?_, ?_⟩, ?_, ?_, fun j hj => ?_, fun a k h1 h2 => mnd_o _ _ _ _ _ (by omega)⟩
  · unfold mnd; rw [xup_s]
  · rw [mnd_o _ _ _ _ _ (by omega)]; exact t2
  · rw [mnd_o _ _ _ _ _ (by omega)]; exact l55 j hj
  · rw [mnd_o _ _ _ _ _ (by omega)]; exact m1
  · unfold mnd
    rw [xup_n _ _ (by omega), xfl3_out _ _ (by omega), xup_n _ _ (by omega), xup_s]
  · unfold mnd
    rw [xup_n _ _ (by omega), xfl3_out _ _ (by omega), xup_s]
  · unfold mnd
    rw [xup_n _ _ (by omega), xfl3_in _ _ (by omega)]
    show ((L (30 + 10 * D + 2 + j - (30 + 10 * D + 2)) : Nat) : Int) = _
    rw [Nat.add_sub_cancel_left]
/-- a later change of the model's state keeps what the deed has minded -/
theorem mDeed_tr {c c1 c2 : Nat → Nat → Int} {n D T Mo T' Mo' T1 Mo1 : Nat} {kd bo wo L L' L1 : Nat → Nat} (h : mDeed c c1 n kd bo wo D T Mo L T1 Mo1 L1) (hm : mS c2 n kd bo wo (D + 1) T' Mo' L') (hf : ∀ a k, ¬ scr a → ¬ (a = 55 ∧ 1 ≤ k ∧ k ≤ 10) → c2 a k = c1 a k) : mDeed c c2 n kd bo wo D T Mo L T' Mo' L' := by
  obtain ⟨-, q0, q1, q2, fr⟩ := h
  have s5 : ¬ scr 55 := by unfold scr; omega
  exact ⟨hm, by rw [hf _ _ s5 (by omega)]; exact q0, by rw [hf _ _ s5 (by omega)]; exact q1, fun j hj => by rw [hf _ _ s5 (by omega)]; exact q2 j hj, fun a k h1 h2 => by rw [hf a k h1 (by omega)]; exact fr a k h1 h2⟩
theorem l179 {ex : xO} {d : Nat} {b : Bool} {D : Nat} {L : Nat → Nat} (h40 : D < 40) : ∀ (m i : Nat) (c : Nat → Nat → Int), i + m = 8 → c 55 29 = (D : Nat) → (∀ j, j < 8 → c 55 (3 + j) = (L j : Nat)) → Rn ex xt179 d 42 [xA 54, xI (30 + 10 * (D : Int)), xI (i : Int)] [] (hp c b) (xU, hp (xup (xfl3 c 55 (30 + 10 * D + 2 + i) (30 + 10 * D + 10) (fun x => ((L (x - (30 + 10 * D + 2)) : Nat) : Int))) 55 29 (D + 1 : Nat)) b) := by
  intro m
  induction m with
  | zero =>
    intro i c hm h29 hl
    obtain rfl : i = 8 := by omega
    rw [xfl3_e]
    refine Rn.run 2 (ls' := [_, _, _]) (st' := [_, _]) rfl ?_
    refine Rn.ge2 rfl (fun e45 => ?_) (fun e45 => absurd e45 (by decide))
    refine Rn.run 4 (ls' := [_, _, _]) (st' := [_, _, _, _]) rfl ?_
    refine Rn.ald rfl ⟨by decide, rfl⟩ (29) rfl (by decide) ?_
    rw [h29]
    refine Rn.run 2 (ls' := [_, _, _]) (st' := [_, _, _]) rfl ?_
    refine Rn.ast rfl ⟨by decide, rfl⟩ (29) rfl (by decide) ?_
    exact Rn.ret rfl rfl rfl rfl rfl rfl
  | succ m ih =>
    intro i c hm h29 hl
    have e1 : ((L i : Nat) : Int) = (fun x => ((L (x - (30 + 10 * D + 2)) : Nat) : Int)) (30 + 10 * D + 2 + i) := by show _ = ((L (30 + 10 * D + 2 + i - (30 + 10 * D + 2)) : Nat) : Int); rw [Nat.add_sub_cancel_left]
    refine Rn.run 2 (ls' := [_, _, _]) (st' := [_, _]) rfl ?_
    refine Rn.ge2 rfl (fun e45 => absurd e45 (by exact fun h => absurd ((y_ge (n := 8) (by omega) (by omega)).mp h) (by omega))) (fun e45 => ?_)
    refine Rn.run 12 (ls' := [_, _, _]) (st' := [_, _, _, _]) rfl ?_
    refine Rn.ald rfl ⟨by decide, rfl⟩ (3 + i) (x_wn (n := 3 + i) (by omega)) (by omega) ?_
    rw [hl i (by omega)]
    refine Rn.ast rfl ⟨by decide, rfl⟩ (30 + 10 * D + 2 + i) (by unfold w32; omega) (by omega) ?_
    refine Rn.run 2 (ls' := [_, _, _]) (st' := []) rfl ?_
    rw [e1, ← xfl3_s c (fun x => ((L (x - (30 + 10 * D + 2)) : Nat) : Int)) (show 30 + 10 * D + 2 + i < 30 + 10 * D + 10 by omega)]
    exact ih (i + 1) _ (by omega) (by rw [xup_n _ _ (by omega)]; exact h29) (fun j hj => by rw [xup_n _ _ (by omega)]; exact hl j hj)
theorem c179 {ex : xO} {d : Nat} {c : Nat → Nat → Int} {b : Bool} {n D T Mo : Nat} {kd bo wo L : Nat → Nat} (hP : pS n kd bo wo D T Mo L) (hm : mS c n kd bo wo D T Mo L) (hD : D < 40) : An ex d 179 3 [xA 54] (hp c b) (xU, hp (mnd c D T Mo L) b) := by
  obtain ⟨ho, h40, hT, h9, hMo⟩ := hP
  obtain ⟨hM, d29, t2, l55, m1⟩ := hm
  have hn := ho.1
  have hT6 := p64 hn hT
  refine Rn.run 5 (ls' := [_, _, _]) (st' := [_, _, _, _]) rfl ?_
  refine Rn.ald rfl ⟨by decide, rfl⟩ (29) rfl (by decide) ?_
  rw [d29]
  refine Rn.run 9 (ls' := [_, _, _]) (st' := [_, _, _, _]) rfl ?_
  refine Rn.ald rfl ⟨by decide, rfl⟩ (1) rfl (by decide) ?_
  rw [m1]
  refine Rn.ast rfl ⟨by decide, rfl⟩ (30 + 10 * D) (by unfold w32; omega) (by omega) ?_
  refine Rn.run 8 (ls' := [_, _, _]) (st' := [_, _, _, _]) rfl ?_
  refine Rn.ald rfl ⟨by decide, rfl⟩ (2) rfl (by decide) ?_
  rw [xup_n _ _ (by omega), t2]
  refine Rn.ast rfl ⟨by decide, rfl⟩ (30 + 10 * D + 1) (by unfold w32; omega) (by omega) ?_
  refine Rn.run 2 (ls' := [_, _, _]) (st' := []) rfl ?_
  exact l179 hD 8 0 _ rfl (by rw [xup_n _ _ (by omega), xup_n _ _ (by omega)]; exact d29) (fun j hj => by rw [xup_n _ _ (by omega), xup_n _ _ (by omega)]; exact l55 j hj)
theorem l180 {ex : xO} {d : Nat} {b : Bool} {f : Nat → Int} {Mo : Nat} : ∀ (m i : Nat) (c : Nat → Nat → Int), i + m = 8 → c 55 1 = (Mo : Nat) → (∀ j, j < 8 → c 63 j = f (3 + j)) → Rn ex xt180 d 16 [xA 54, xI (i : Int)] [] (hp c b) (xU, hp (xup (xfl3 c 55 (3 + i) (11) (f)) 55 1 (Mo + 1 : Nat)) b) := by
  intro m
  induction m with
  | zero =>
    intro i c hm h1 hl
    obtain rfl : i = 8 := by omega
    rw [xfl3_e]
    refine Rn.run 2 (ls' := [_, _]) (st' := [_, _]) rfl ?_
    refine Rn.ge2 rfl (fun e19 => ?_) (fun e19 => absurd e19 (by decide))
    refine Rn.run 4 (ls' := [_, _]) (st' := [_, _, _, _]) rfl ?_
    refine Rn.ald rfl ⟨by decide, rfl⟩ (1) rfl (by decide) ?_
    rw [h1]
    refine Rn.run 2 (ls' := [_, _]) (st' := [_, _, _]) rfl ?_
    refine Rn.ast rfl ⟨by decide, rfl⟩ (1) rfl (by decide) ?_
    exact Rn.ret rfl rfl rfl rfl rfl rfl
  | succ m ih =>
    intro i c hm h1 hl
    refine Rn.run 2 (ls' := [_, _]) (st' := [_, _]) rfl ?_
    refine Rn.ge2 rfl (fun e19 => absurd e19 (by exact fun h => absurd ((y_ge (n := 8) (by omega) (by omega)).mp h) (by omega))) (fun e19 => ?_)
    refine Rn.run 8 (ls' := [_, _]) (st' := [_, _, _, _]) rfl ?_
    refine Rn.ald rfl ⟨by decide, rfl⟩ (i) (x_wn (n := i) (by omega)) (by omega) ?_
    rw [hl i (by omega)]
    refine Rn.ast rfl ⟨by decide, rfl⟩ (3 + i) (x_wn (n := 3 + i) (by omega)) (by omega) ?_
    refine Rn.run 2 (ls' := [_, _]) (st' := []) rfl ?_
    rw [← xfl3_s c f (show 3 + i < 11 by omega)]
    exact ih (i + 1) _ (by omega) (by rw [xup_n _ _ (by omega)]; exact h1) (fun j hj => by rw [xup_n _ _ (by omega)]; exact hl j hj)
theorem c180 {ex : xO} {d : Nat} {c : Nat → Nat → Int} {b : Bool} {n D T Mo : Nat} {kd bo wo L : Nat → Nat} (hP : pS n kd bo wo D T Mo L) (hm : mS c n kd bo wo D T Mo L) : ∃ c', An ex (d + 5) 180 2 [xA 54] (hp c b) (xU, hp c' b) ∧ mS c' n kd bo wo D T (Mo + 1) (mo kd bo n T 1 L) ∧ ∀ a k, ¬ scr a → ¬ (a = 55 ∧ 1 ≤ k ∧ k ≤ 10) → c' a k = c a k := by
  obtain ⟨ho, h40, hT, h9, hMo⟩ := hP
  obtain ⟨hM, d29, t2, l55, m1⟩ := hm
  have hn := ho.1
  have hT6 := p64 hn hT
  refine ⟨xup (xfl3 (lf (lf c L) (mo kd bo n T 1 L)) 55 (3 + 0) 11 (fun x => ((mo kd bo n T 1 L (x - 3) : Nat) : Int))) 55 1 (Mo + 1 : Nat), ?_, ⟨mG_fr hn (fun k hk => ?_) hM, ?_, ?_, fun j hj => ?_, ?_⟩, fun a k h1 h2 => ?_⟩
  · refine Rn.run 1 (ls' := [_, _]) (st' := [_]) rfl ?_
    refine Rn.call rfl rfl rfl rfl rfl (c168 l55) ?_
    refine Rn.run 4 (ls' := [_, _]) (st' := [_, _, _]) rfl ?_
    refine Rn.ald rfl ⟨by decide, rfl⟩ (2) rfl (by decide) ?_
    rw [lf_out _ _ (by decide), t2]
    refine Rn.call rfl rfl rfl rfl rfl (c169 ho (mG_lf hM) hT6 h9 (fun j hj => lf_in _ _ hj)) ?_
    refine Rn.run 2 (ls' := [_, _]) (st' := []) rfl ?_
    exact l180 8 0 _ rfl (by rw [lf_out _ _ (by decide), lf_out _ _ (by decide)]; exact m1) (fun j hj => by rw [lf_in _ _ hj]; show _ = ((mo kd bo n T 1 L (3 + j - 3) : Nat) : Int); rw [Nat.add_sub_cancel_left])
  · rw [xup_n _ _ (by omega), xfl3_out _ _ (by omega), lf_out _ _ (by decide), lf_out _ _ (by decide)]
  · rw [xup_n _ _ (by omega), xfl3_out _ _ (by omega), lf_out _ _ (by decide), lf_out _ _ (by decide)]; exact d29
  · rw [xup_n _ _ (by omega), xfl3_out _ _ (by omega), lf_out _ _ (by decide), lf_out _ _ (by decide)]; exact t2
  · rw [xup_n _ _ (by omega), xfl3_in _ _ (by omega)]
    show ((mo kd bo n T 1 L (3 + j - 3) : Nat) : Int) = _
    rw [Nat.add_sub_cancel_left]
  · rw [xup_s]
  · have h3 : a ≠ 63 := fun e => h1 (by unfold scr; omega)
    rw [xup_n _ _ (by omega), xfl3_out _ _ (by omega), lf_out _ _ h3, lf_out _ _ h3]
theorem c182 {ex : xO} {d : Nat} {c : Nat → Nat → Int} {b : Bool} {n D T Mo : Nat} {kd bo wo L : Nat → Nat} (hP : pS n kd bo wo D T Mo L) (hm : mS c n kd bo wo D T Mo L) {i : Nat} (hi : i < n) : ∃ c', An ex (d + 5) 182 3 [xA 54, xI (i : Int)] (hp c b) (xU, hp c' b) ∧ mS c' n kd bo wo D (T ||| 2 ^ i) Mo (tl kd bo wo i L) ∧ ∀ a k, ¬ scr a → ¬ (a = 55 ∧ 1 ≤ k ∧ k ≤ 10) → c' a k = c a k := by
  obtain ⟨ho, h40, hT, h9, hMo⟩ := hP
  obtain ⟨hM, d29, t2, l55, m1⟩ := hm
  have hn := ho.1
  have hT6 := p64 hn hT
  have hk := ho.2 i hi
  refine ⟨xup (xup c 55 (3 + bo i) (ans (kd i) (wo i) (L (bo i)) : Nat)) 55 2 (T ||| 2 ^ i : Nat), ?_, ⟨mG_fr hn (fun k hk => ?_) hM, ?_, ?_, fun j hj => ?_, ?_⟩, fun a k h1 h2 => ?_⟩
  · refine Rn.run 5 (ls' := [_, _, _]) (st' := [_, _]) rfl ?_
    refine Rn.ald rfl ⟨by decide, rfl⟩ (17 + i) (x_wn (n := 17 + i) (by omega)) (by omega) ?_
    rw [(hM.2 i hi).2.1]
    refine Rn.run 13 (ls' := [_, _, _]) (st' := [_, _, _, _, _, _]) rfl ?_
    refine Rn.ald rfl ⟨by decide, rfl⟩ (3 + (bo i)) (x_wn (n := 3 + (bo i)) (by omega)) (by omega) ?_
    rw [l55 _ (by omega)]
    refine Rn.call rfl rfl rfl rfl rfl (c162 ho hM hi (h9 _ (by omega))) ?_
    refine Rn.ast rfl ⟨by decide, rfl⟩ (3 + (bo i)) (x_wn (n := 3 + (bo i)) (by omega)) (by omega) ?_
    refine Rn.run 4 (ls' := [_, _, _]) (st' := [_, _, _, _]) rfl ?_
    refine Rn.ald rfl ⟨by decide, rfl⟩ (2) rfl (by decide) ?_
    rw [xup_n _ _ (by omega), t2]
    refine Rn.run 4 (ls' := [_, _, _]) (st' := [_, _, _]) rfl ?_
    rw [bt_add hT6 (by omega)]
    refine Rn.ast rfl ⟨by decide, rfl⟩ (2) rfl (by decide) ?_
    exact Rn.ret rfl rfl rfl rfl rfl rfl
  · rw [xup_n _ _ (by omega), xup_n _ _ (by omega)]
  · rw [xup_n _ _ (by omega), xup_n _ _ (by omega)]; exact d29
  · rw [xup_s]
  · rw [xup_n _ _ (by omega)]
    unfold tl
    by_cases e : j = bo i
    · rw [if_pos e, e, xup_s]
    · rw [if_neg e, xup_n _ _ (by omega)]; exact l55 j hj
  · rw [xup_n _ _ (by omega), xup_n _ _ (by omega)]; exact m1
  · rw [xup_n _ _ (by omega), xup_n _ _ (by omega)]
theorem mS_lset {c : Nat → Nat → Int} {n D T Mo : Nat} {kd bo wo L : Nat → Nat} {j v : Nat} (hn : n ≤ 6) (hj : j < 8) (hm : mS c n kd bo wo D T Mo L) : mS (xup c 55 (3 + j) (v : Nat)) n kd bo wo D T Mo (lset L j v) := by
  obtain ⟨hM, d29, t2, l55, m1⟩ := hm
  refine ⟨mG_fr hn (fun k hk => xup_n _ _ (by omega)) hM, by rw [xup_n _ _ (by omega)]; exact d29, by rw [xup_n _ _ (by omega)]; exact t2, fun i hi => ?_, by rw [xup_n _ _ (by omega)]; exact m1⟩
  unfold lset
  by_cases e : i = j
  · rw [if_pos e, e, xup_s]
  · rw [if_neg e, xup_n _ _ (by omega)]; exact l55 i hi
theorem c184 {ex : xO} {d : Nat} {c : Nat → Nat → Int} {b : Bool} {n D T Mo : Nat} {kd bo wo L : Nat → Nat} (hP : pS n kd bo wo D T Mo L) (hm : mS c n kd bo wo D T Mo L) {j m : Nat} (hj : j < 8) (hm9 : m ≤ 9) : An ex d 184 3 [xA 54, xI (j : Int), xI (m : Int)] (hp c b) (xU, hp (xup c 55 (3 + j) (wtr (L j) m : Nat)) b) := by
  obtain ⟨ho, h40, hT, h9, hMo⟩ := hP
  obtain ⟨hM, d29, t2, l55, m1⟩ := hm
  have hn := ho.1
  have hT6 := p64 hn hT
  have h9j := h9 j hj
  refine Rn.run 10 (ls' := [_, _, _]) (st' := [_, _, _, _]) rfl ?_
  refine Rn.ald rfl ⟨by decide, rfl⟩ (3 + j) (x_wn (n := 3 + j) (by omega)) (by omega) ?_
  rw [l55 j hj]
  refine Rn.run 3 (ls' := [_, _, _]) (st' := [_, _, _, _]) rfl ?_
  refine Rn.le2 rfl (fun e19 => ?_) (fun e19 => ?_)
  · refine Rn.run 5 (ls' := [_, _, _]) (st' := [_, _, _, _]) rfl ?_
    refine Rn.ald rfl ⟨by decide, rfl⟩ (3 + j) (x_wn (n := 3 + j) (by omega)) (by omega) ?_
    rw [l55 j hj]
    refine Rn.run 2 (ls' := [_, _, _]) (st' := [_, _, _]) rfl ?_
    refine Rn.ast rfl ⟨by decide, rfl⟩ (3 + j) (x_wn (n := 3 + j) (by omega)) (by omega) ?_
    refine Rn.ret rfl rfl rfl rfl rfl ?_
    have q9 : (w32 ((L j : Int) + (m : Int)) ≤ w32 9) ↔ L j + m ≤ 9 := by rw [x_w _ (by omega) (by omega), show w32 9 = 9 from rfl]; omega
    first | (rw [show wtr (L j) m = L j + m from if_pos (q9.mp e19)]; first | done | rfl) | (rw [show wtr (L j) m = 9 from if_neg (fun z => e19 (q9.mpr z))]; first | done | rfl)
  · refine Rn.run 2 (ls' := [_, _, _]) (st' := [_, _, _]) rfl ?_
    refine Rn.ast rfl ⟨by decide, rfl⟩ (3 + j) (x_wn (n := 3 + j) (by omega)) (by omega) ?_
    refine Rn.ret rfl rfl rfl rfl rfl ?_
    have q9 : (w32 ((L j : Int) + (m : Int)) ≤ w32 9) ↔ L j + m ≤ 9 := by rw [x_w _ (by omega) (by omega), show w32 9 = 9 from rfl]; omega
    first | (rw [show wtr (L j) m = L j + m from if_pos (q9.mp e19)]; first | done | rfl) | (rw [show wtr (L j) m = 9 from if_neg (fun z => e19 (q9.mpr z))]; first | done | rfl)
