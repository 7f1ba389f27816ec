-- mark
def cnt (p : Nat → Bool) (n : Nat) : Nat := xit (fun i a => a + (if p i = true then 1 else 0)) n 0 0
theorem pop_bset (p : Nat → Bool) {n : Nat} (hn : n ≤ 8) : pop (bset p n) = cnt p n := by
  have e : pop (bset p n) = (List.range 8).foldl (fun a i => a + (if (decide (i < n) && p i) = true then 1 else 0)) 0 := by
    unfold pop
    simp only [bset_bit]
  rw [e]
  rcases (by omega : n = 0 ∨ n = 1 ∨ n = 2 ∨ n = 3 ∨ n = 4 ∨ n = 5 ∨ n = 6 ∨ n = 7 ∨ n = 8) with rfl | rfl | rfl | rfl | rfl | rfl | rfl | rfl | rfl
  all_goals rfl
theorem cnt_congr {p q : Nat → Bool} {n : Nat} (h : ∀ i, i < n → p i = q i) : cnt p n = cnt q n := xit_congr n 0 0 (fun j t _ hj => by rw [h j (by omega)])
theorem cnt_s (p : Nat → Bool) (n : Nat) : cnt p (n + 1) = cnt p n + (if p n = true then 1 else 0) := by unfold cnt; rw [xit_l, Nat.zero_add]
theorem cnt_not (p : Nat → Bool) (n : Nat) : cnt p n + cnt (fun i => !p i) n = n := by
  induction n with
  | zero => rfl
  | succ n ih =>
    rw [cnt_s, cnt_s]
    cases h : p n <;> simp <;> omega
/-- those below n that are not in T -/
def unt (n T : Nat) : Nat := (2 ^ n - 1) ^^^ ((2 ^ n - 1) &&& T)
theorem unt_bit (n T j : Nat) : (unt n T).testBit j = (decide (j < n) && !T.testBit j) := by
  unfold unt
  rw [Nat.testBit_xor, Nat.testBit_and, Nat.testBit_two_pow_sub_one]
  cases h : decide (j < n) <;> cases T.testBit j <;> rfl
theorem unt_b (n T : Nat) : unt n T = bset (fun i => !T.testBit i) n := by
  apply Nat.eq_of_testBit_eq
  intro j
  rw [unt_bit, bset_bit]
theorem unt_64 {n : Nat} (T : Nat) (hn : n ≤ 6) : unt n T < 64 := by rw [unt_b]; exact bset_64 _ hn
theorem and_64 {a b : Nat} (h : a < 64) : a &&& b < 64 := Nat.lt_of_le_of_lt Nat.and_le_left h
theorem bt_unt {n T : Nat} (hn : n ≤ 6) (hT : T < 64) : xand (((2 ^ n : Nat) : Int) - 1) (xxor (T : Int) (-1)) = (unt n T : Nat) := by
  have h1 : 1 ≤ 2 ^ n := Nat.one_le_two_pow
  have h2 := pp64 hn
  rw [show ((2 ^ n : Nat) : Int) - 1 = ((2 ^ n - 1 : Nat) : Int) by omega, bt_andn _ (by omega) T hT]
  rfl
theorem and_bset (p q : Nat → Bool) (n : Nat) : bset p n &&& bset q n = bset (fun i => p i && q i) n := by
  apply Nat.eq_of_testBit_eq
  intro j
  rw [Nat.testBit_and, bset_bit, bset_bit, bset_bit]
  cases decide (j < n) <;> cases p j <;> cases q j <;> rfl
theorem andn_bset (p q : Nat → Bool) (n : Nat) : bset p n ^^^ (bset p n &&& bset q n) = bset (fun i => p i && !q i) n := by
  apply Nat.eq_of_testBit_eq
  intro j
  rw [Nat.testBit_xor, Nat.testBit_and, bset_bit, bset_bit, bset_bit]
  cases decide (j < n) <;> cases p j <;> cases q j <;> rfl
/-- the first number from i on (m tries) that makes 9 -/
def f9 (k w : Nat) : Nat → Nat → Nat
  | 0, i => i
  | m + 1, i => if ans k w i = 9 then i else f9 k w m (i + 1)
theorem ans_g9 {k w : Nat} (hg : k = 1 ∨ k = 4 ∨ k = 5) (hw : w ≤ 9) : ans k w 9 = 9 := by
  have key : ∀ w, w ≤ 9 → ans 1 w 9 = 9 ∧ ans 4 w 9 = 9 ∧ ans 5 w 9 = 9 := by decide +kernel
  rcases hg with rfl | rfl | rfl
  · exact (key w hw).1
  · exact (key w hw).2.1
  · exact (key w hw).2.2
theorem l114 {ex : xO} {d : Nat} {c : Nat → Nat → Int} {b : Bool} {n D T Mo : Nat} {kd bo wo L : Nat → Nat} (hP : pS n kd bo wo D T Mo L) (hc : cS c b n kd bo wo D T Mo L) {i : Nat} (hi : i < n) : ∀ (m v : Nat), v + m = 9 → Rn ex xt114 (d + 5) 2 [xA 0, xI (i : Int), xI (v : Int)] [] (hp c b) (xI (f9 (kd i) (wo i) m v : Nat), hp c b) := by
  obtain ⟨ho, h40, hT, h9, hMo⟩ := hP
  obtain ⟨hC, d7, t9, hL, m10⟩ := hc
  have hn := ho.1
  have hT6 := p64 hn hT
  have hk := ho.2 i hi
  intro m
  induction m with
  | zero =>
    intro v hm
    obtain rfl : v = 9 := by omega
    refine Rn.run 2 (ls' := [_, _, _]) (st' := [_, _]) rfl ?_
    refine Rn.ge2 rfl (fun e5 => ?_) (fun e5 => absurd e5 (by decide))
    refine Rn.run 1 (ls' := [_, _, _]) (st' := [_]) rfl ?_
    exact Rn.ret rfl rfl rfl rfl rfl rfl
  | succ m ih =>
    intro v hm
    have ha := ans_le (k := kd i) (w := wo i) (v := v) (by omega) (by omega)
    by_cases q : ans (kd i) (wo i) v = 9
    · rw [show f9 (kd i) (wo i) (m + 1) v = v from if_pos q]
      refine Rn.run 2 (ls' := [_, _, _]) (st' := [_, _]) rfl ?_
      refine Rn.ge2 rfl (fun e5 => absurd e5 (by exact fun h => absurd ((y_ge (n := 9) (by omega) (by omega)).mp h) (by omega))) (fun e5 => ?_)
      refine Rn.run 1 (ls' := [_, _, _]) (st' := [_]) rfl ?_
      refine Rn.getR rfl ⟨by decide, rfl, rfl⟩ (j := gid b) (rfl) ?_
      refine Rn.run 2 (ls' := [_, _, _]) (st' := [_, _, _]) rfl ?_
      refine Rn.callV rfl (x_sv (xS_g b)) rfl rfl rfl (c24 ho hC hi (by omega)) ?_
      refine Rn.run 1 (ls' := [_, _, _]) (st' := [_, _]) rfl ?_
      refine Rn.ne2 rfl (fun e19 => absurd e19 (by exact fun h => h ((y_eq (i := 9) (by omega) (by omega)).mpr q))) (fun e19 => ?_)
      refine Rn.run 1 (ls' := [_, _, _]) (st' := [_]) rfl ?_
      exact Rn.ret rfl rfl rfl rfl rfl rfl
    · rw [show f9 (kd i) (wo i) (m + 1) v = f9 (kd i) (wo i) m (v + 1) from if_neg q]
      refine Rn.run 2 (ls' := [_, _, _]) (st' := [_, _]) rfl ?_
      refine Rn.ge2 rfl (fun e5 => absurd e5 (by exact fun h => absurd ((y_ge (n := 9) (by omega) (by omega)).mp h) (by omega))) (fun e5 => ?_)
      refine Rn.run 1 (ls' := [_, _, _]) (st' := [_]) rfl ?_
      refine Rn.getR rfl ⟨by decide, rfl, rfl⟩ (j := gid b) (rfl) ?_
      refine Rn.run 2 (ls' := [_, _, _]) (st' := [_, _, _]) rfl ?_
      refine Rn.callV rfl (x_sv (xS_g b)) rfl rfl rfl (c24 ho hC hi (by omega)) ?_
      refine Rn.run 1 (ls' := [_, _, _]) (st' := [_, _]) rfl ?_
      refine Rn.ne2 rfl (fun e19 => ?_) (fun e19 => absurd e19 (by exact fun h => h (fun z => q ((y_eq (i := 9) (by omega) (by omega)).mp z))))
      refine Rn.run 2 (ls' := [_, _, _]) (st' := []) rfl ?_
      exact ih (v + 1) (by omega)
theorem l176 {ex : xO} {d : Nat} {c : Nat → Nat → Int} {b : Bool} {n D T Mo : Nat} {kd bo wo L : Nat → Nat} (hP : pS n kd bo wo D T Mo L) (hm : mS c n kd bo wo D T Mo L) {i : Nat} (hi : i < n) (hg : kd i = 1 ∨ kd i = 4 ∨ kd i = 5) : ∀ (m v : Nat), v + m = 9 → Rn ex xt176 (d + 5) 2 [xA 54, xI (i : Int), xI (v : Int)] [] (hp c b) (xI (f9 (kd i) (wo i) m v : Nat), hp c b) := by
  obtain ⟨ho, h40, hT, h9, hMo⟩ := hP
  obtain ⟨hM, d29, t2, l55, m1⟩ := hm
  have hn := ho.1
  have hT6 := p64 hn hT
  have hk := ho.2 i hi
  intro m
  induction m with
  | zero =>
    intro v hm
    obtain rfl : v = 9 := by omega
    have q := ans_g9 hg hk.2.2
    refine Rn.run 3 (ls' := [_, _, _]) (st' := [_, _, _]) rfl ?_
    refine Rn.call rfl rfl rfl rfl rfl (c162 ho hM hi (by omega)) ?_
    refine Rn.run 1 (ls' := [_, _, _]) (st' := [_, _]) rfl ?_
    refine Rn.ge2 rfl (fun e10 => ?_) (fun e10 => absurd e10 (by rw [q]; decide))
    refine Rn.run 1 (ls' := [_, _, _]) (st' := [_]) rfl ?_
    exact Rn.ret rfl rfl rfl rfl rfl rfl
  | succ m ih =>
    intro v hm
    have ha := ans_le (k := kd i) (w := wo i) (v := v) (by omega) (by omega)
    by_cases q : ans (kd i) (wo i) v = 9
    · rw [show f9 (kd i) (wo i) (m + 1) v = v from if_pos q]
      refine Rn.run 3 (ls' := [_, _, _]) (st' := [_, _, _]) rfl ?_
      refine Rn.call rfl rfl rfl rfl rfl (c162 ho hM hi (by omega)) ?_
      refine Rn.run 1 (ls' := [_, _, _]) (st' := [_, _]) rfl ?_
      refine Rn.ge2 rfl (fun e10 => ?_) (fun e10 => absurd e10 (by rw [q]; decide))
      refine Rn.run 1 (ls' := [_, _, _]) (st' := [_]) rfl ?_
      exact Rn.ret rfl rfl rfl rfl rfl rfl
    · rw [show f9 (kd i) (wo i) (m + 1) v = f9 (kd i) (wo i) m (v + 1) from if_neg q]
      refine Rn.run 3 (ls' := [_, _, _]) (st' := [_, _, _]) rfl ?_
      refine Rn.call rfl rfl rfl rfl rfl (c162 ho hM hi (by omega)) ?_
      refine Rn.run 1 (ls' := [_, _, _]) (st' := [_, _]) rfl ?_
      refine Rn.ge2 rfl (fun e10 => absurd e10 (by exact fun h => absurd ((y_ge (n := 9) (by omega) (by omega)).mp h) (by omega))) (fun e10 => ?_)
      refine Rn.run 2 (ls' := [_, _, _]) (st' := []) rfl ?_
      exact ih (v + 1) (by omega)
theorem c114 {ex : xO} {d : Nat} {c : Nat → Nat → Int} {b : Bool} {n D T Mo : Nat} {kd bo wo L : Nat → Nat} (hP : pS n kd bo wo D T Mo L) (hc : cS c b n kd bo wo D T Mo L) {i : Nat} (hi : i < n) : An ex (d + 5) 114 3 [xA 0, xI (i : Int)] (hp c b) (xI (f9 (kd i) (wo i) 9 0 : Nat), hp (c) b) := by
  obtain ⟨ho, h40, hT, h9, hMo⟩ := hP
  obtain ⟨hC, d7, t9, hL, m10⟩ := hc
  have hn := ho.1
  have hT6 := p64 hn hT
  refine Rn.run 2 (ls' := [_, _, _]) (st' := []) rfl ?_
  exact l114 ⟨ho, h40, hT, h9, hMo⟩ ⟨hC, d7, t9, hL, m10⟩ hi 9 0 rfl
theorem c176 {ex : xO} {d : Nat} {c : Nat → Nat → Int} {b : Bool} {n D T Mo : Nat} {kd bo wo L : Nat → Nat} (hP : pS n kd bo wo D T Mo L) (hm : mS c n kd bo wo D T Mo L) {i : Nat} (hi : i < n) (hg : kd i = 1 ∨ kd i = 4 ∨ kd i = 5) : An ex (d + 5) 176 3 [xA 54, xI (i : Int)] (hp c b) (xI (f9 (kd i) (wo i) 9 0 : Nat), hp (c) b) := by
  obtain ⟨ho, h40, hT, h9, hMo⟩ := hP
  obtain ⟨hM, d29, t2, l55, m1⟩ := hm
  have hn := ho.1
  have hT6 := p64 hn hT
  refine Rn.run 2 (ls' := [_, _, _]) (st' := []) rfl ?_
  exact l176 ⟨ho, h40, hT, h9, hMo⟩ ⟨hM, d29, t2, l55, m1⟩ hi hg 9 0 rfl
theorem l177 {ex : xO} {d : Nat} {c : Nat → Nat → Int} {b : Bool} {n : Nat} {kd bo wo : Nat → Nat} (ho : gok n kd bo wo) (hM : mG c n kd bo wo) {T : Nat} (t2 : c 55 2 = (T : Nat)) (hT6 : T < 64) : ∀ (m i : Nat) (a : Nat), i + m = n → Rn ex xt177 (d + 1) 4 [xA 54, xI (a : Int), xI (i : Int)] [] (hp c b) (xI ((xit (fun i a => a + (if (isg (kd i) && !T.testBit i) = true then 1 else 0)) m i a : Nat) : Int), hp c b) := by
  intro m
  induction m with
  | zero =>
    intro i a hm
    have hn := ho.1
    refine Rn.run 4 (ls' := [_, _, _]) (st' := [_, _, _]) rfl ?_
    refine Rn.ald rfl ⟨by decide, rfl⟩ (0) rfl (by decide) ?_
    rw [hM.1]
    refine Rn.ge2 rfl (fun e11 => ?_) (fun e11 => absurd e11 (by exact fun h => h ((y_ge (by omega) (by omega)).mpr (by omega))))
    refine Rn.run 1 (ls' := [_, _, _]) (st' := [_]) rfl ?_
    exact Rn.ret rfl rfl rfl rfl rfl rfl
  | succ m ih =>
    intro i a hm
    have hn := ho.1
    refine Rn.run 4 (ls' := [_, _, _]) (st' := [_, _, _]) rfl ?_
    refine Rn.ald rfl ⟨by decide, rfl⟩ (0) rfl (by decide) ?_
    rw [hM.1]
    refine Rn.ge2 rfl (fun e11 => absurd e11 (by exact fun h => absurd ((y_ge (by omega) (by omega)).mp h) (by omega))) (fun e11 => ?_)
    refine Rn.run 6 (ls' := [_, _, _]) (st' := [_, _, _]) rfl ?_
    refine Rn.ald rfl ⟨by decide, rfl⟩ (11 + i) (x_wn (n := 11 + i) (by omega)) (by omega) ?_
    rw [(hM.2 i (by omega)).1]
    refine Rn.run 1 (ls' := [_, _, _]) (st' := [_, _, _]) rfl ?_
    refine Rn.call rfl rfl rfl rfl rfl (c159 (k := kd i) (w := 1) (ho.2 i (by omega)).1 (by decide)) ?_
    refine Rn.eqB rfl (fun e28 => ?_) (fun e28 => ?_)
    · refine Rn.run 5 (ls' := [_, _, _]) (st' := []) rfl ?_
      refine Rn.ls ?_ (ih (i + 1) (a + (if (isg (kd i) && !T.testBit i) = true then 1 else 0)) (by omega))
      first | (rw [show (if (isg (kd i) && !T.testBit i) = true then 1 else 0) = 0 from if_neg (fun q => e28 (by unfold isg at q; simp at q; omega))]; rfl) | (rw [show (if (isg (kd i) && !T.testBit i) = true then 1 else 0) = 0 from if_neg (fun q => by rw [e41] at q; simp at q)]; rfl) | (rw [show (if (isg (kd i) && !T.testBit i) = true then 1 else 0) = 1 from if_pos (by unfold isg; simp; exact ⟨by omega, by simpa using e41⟩)]; rfl)
    · refine Rn.run 3 (ls' := [_, _, _]) (st' := [_, _, _]) rfl ?_
      refine Rn.ald rfl ⟨by decide, rfl⟩ (2) rfl (by decide) ?_
      rw [t2]
      refine Rn.run 1 (ls' := [_, _, _]) (st' := [_, _, _]) rfl ?_
      refine Rn.call rfl rfl rfl rfl rfl (c132 hT6 (by omega)) ?_
      refine Rn.neB rfl (fun e41 => ?_) (fun e41 => ?_)
      · refine Rn.run 5 (ls' := [_, _, _]) (st' := []) rfl ?_
        refine Rn.ls ?_ (ih (i + 1) (a + (if (isg (kd i) && !T.testBit i) = true then 1 else 0)) (by omega))
        first | (rw [show (if (isg (kd i) && !T.testBit i) = true then 1 else 0) = 0 from if_neg (fun q => e28 (by unfold isg at q; simp at q; omega))]; rfl) | (rw [show (if (isg (kd i) && !T.testBit i) = true then 1 else 0) = 0 from if_neg (fun q => by rw [e41] at q; simp at q)]; rfl) | (rw [show (if (isg (kd i) && !T.testBit i) = true then 1 else 0) = 1 from if_pos (by unfold isg; simp; exact ⟨by omega, by simpa using e41⟩)]; rfl)
      · refine Rn.run 6 (ls' := [_, _, _]) (st' := []) rfl ?_
        refine Rn.ls ?_ (ih (i + 1) (a + (if (isg (kd i) && !T.testBit i) = true then 1 else 0)) (by omega))
        first | (rw [show (if (isg (kd i) && !T.testBit i) = true then 1 else 0) = 0 from if_neg (fun q => e28 (by unfold isg at q; simp at q; omega))]; rfl) | (rw [show (if (isg (kd i) && !T.testBit i) = true then 1 else 0) = 0 from if_neg (fun q => by rw [e41] at q; simp at q)]; rfl) | (rw [show (if (isg (kd i) && !T.testBit i) = true then 1 else 0) = 1 from if_pos (by unfold isg; simp; exact ⟨by omega, by simpa using e41⟩)]; rfl)
theorem c177 {ex : xO} {d : Nat} {c : Nat → Nat → Int} {b : Bool} {n D T Mo : Nat} {kd bo wo L : Nat → Nat} (hP : pS n kd bo wo D T Mo L) (hm : mS c n kd bo wo D T Mo L)  : An ex (d + 1) 177 3 [xA 54] (hp c b) (xI (cnt (fun i => isg (kd i) && !T.testBit i) n : Nat), hp (c) b) := by
  obtain ⟨ho, h40, hT, h9, hMo⟩ := hP
  obtain ⟨hM, d29, t2, l55, m1⟩ := hm
  have hn := ho.1
  have hT6 := p64 hn hT
  refine Rn.run 4 (ls' := [_, _, _]) (st' := []) rfl ?_
  exact l177 ho hM t2 hT6 n 0 0 (by omega)
theorem k69_b1 {ex : xO} {d : Nat} {c : Nat → Nat → Int} {b : Bool} {n D T Mo : Nat} {kd bo wo L : Nat → Nat} (hP : pS n kd bo wo D T Mo L) (hc : cS c b n kd bo wo D T Mo L) {a1 a2 : Int} (h1 : w32 a1 = a1) (q1 : ¬ (0 ≤ a1 ∧ a1 < n)) : An ex (d + 20) 69 4 [xA 0, xI a1, xI a2] (hp c b) (xI (-1), hp (c) b) := by
  obtain ⟨ho, h40, hT, h9, hMo⟩ := hP
  obtain ⟨hC, d7, t9, hL, m10⟩ := hc
  have hn := ho.1
  have hT6 := p64 hn hT
  refine Rn.run 2 (ls' := [_, _, _, _]) (st' := [_, _]) rfl ?_
  refine Rn.getR rfl ⟨by decide, rfl, rfl⟩ (j := gid b) (rfl) ?_
  refine Rn.getI rfl (xS_g b) ?_
  rw [hC.1]
  refine Rn.call rfl rfl rfl rfl rfl (c100) ?_
  refine Rn.eqB rfl (fun e11 => ?_) (fun e11 => absurd e11 (by exact (z_no h1 (by omega) q1)))
  refine Rn.run 1 (ls' := [_, _, _, _]) (st' := [_]) rfl ?_
  exact Rn.ret rfl rfl rfl rfl rfl rfl
theorem k69_b2 {ex : xO} {d : Nat} {c : Nat → Nat → Int} {b : Bool} {n D T Mo : Nat} {kd bo wo L : Nat → Nat} (hP : pS n kd bo wo D T Mo L) (hc : cS c b n kd bo wo D T Mo L) {a2 : Int} {i : Nat} (hi : i < n) (h2 : w32 a2 = a2) (q2 : ¬ (1 ≤ a2 ∧ a2 < 6)) : An ex (d + 20) 69 4 [xA 0, xI (i : Int), xI a2] (hp c b) (xI (-1), hp (c) b) := by
  obtain ⟨ho, h40, hT, h9, hMo⟩ := hP
  obtain ⟨hC, d7, t9, hL, m10⟩ := hc
  have hn := ho.1
  have hT6 := p64 hn hT
  refine Rn.run 2 (ls' := [_, _, _, _]) (st' := [_, _]) rfl ?_
  refine Rn.getR rfl ⟨by decide, rfl, rfl⟩ (j := gid b) (rfl) ?_
  refine Rn.getI rfl (xS_g b) ?_
  rw [hC.1]
  refine Rn.call rfl rfl rfl rfl rfl (c100) ?_
  refine Rn.eqB rfl (fun e11 => absurd e11 (by exact fun h => h (z_in hi (by omega)))) (fun e11 => ?_)
  refine Rn.run 1 (ls' := [_, _, _, _]) (st' := [_]) rfl ?_
  refine Rn.eq0 rfl (fun e15 => ?_) (fun e15 => ?_)
  · refine Rn.run 1 (ls' := [_, _, _, _]) (st' := [_]) rfl ?_
    exact Rn.ret rfl rfl rfl rfl rfl rfl
  · refine Rn.run 2 (ls' := [_, _, _, _]) (st' := [_, _]) rfl ?_
    refine Rn.call rfl rfl rfl rfl rfl (c100) ?_
    refine Rn.neB rfl (fun e24 => absurd e24 (by exact (fun q => q2 (by rw [h2] at q e15; have q := q.2; have : a2 < 6 := q; omega)))) (fun e24 => ?_)
    refine Rn.run 1 (ls' := [_, _, _, _]) (st' := [_]) rfl ?_
    exact Rn.ret rfl rfl rfl rfl rfl rfl
theorem k69_un {ex : xO} {d : Nat} {c : Nat → Nat → Int} {b : Bool} {n D T Mo : Nat} {kd bo wo L : Nat → Nat} (hP : pS n kd bo wo D T Mo L) (hc : cS c b n kd bo wo D T Mo L) {i k : Nat} (hi : i < n) (hk : 1 ≤ k ∧ k < 6) (hu : ¬ (kd i = k ∨ (k = 1 ∧ (kd i = 4 ∨ kd i = 5)))) : An ex (d + 20) 69 4 [xA 0, xI (i : Int), xI (k : Int)] (hp c b) (xI (-3), hp (xup (xup c 0 13 3) 13 3 (c 13 3 + 1)) b) := by
  obtain ⟨ho, h40, hT, h9, hMo⟩ := hP
  obtain ⟨hC, d7, t9, hL, m10⟩ := hc
  have hn := ho.1
  have hT6 := p64 hn hT
  refine Rn.run 2 (ls' := [_, _, _, _]) (st' := [_, _]) rfl ?_
  refine Rn.getR rfl ⟨by decide, rfl, rfl⟩ (j := gid b) (rfl) ?_
  refine Rn.getI rfl (xS_g b) ?_
  rw [hC.1]
  refine Rn.call rfl rfl rfl rfl rfl (c100) ?_
  refine Rn.eqB rfl (fun e11 => absurd e11 (by exact fun h => h (z_in hi (by omega)))) (fun e11 => ?_)
  refine Rn.run 1 (ls' := [_, _, _, _]) (st' := [_]) rfl ?_
  refine Rn.eq0 rfl (fun e15 => absurd e15 (by rw [x_wn (by omega)]; omega)) (fun e15 => ?_)
  refine Rn.run 2 (ls' := [_, _, _, _]) (st' := [_, _]) rfl ?_
  refine Rn.call rfl rfl rfl rfl rfl (c100) ?_
  refine Rn.neB rfl (fun e24 => ?_) (fun e24 => absurd e24 (by exact fun h => h (z_in (m := 6) (by omega) (by omega))))
  refine Rn.run 1 (ls' := [_, _, _, _]) (st' := [_]) rfl ?_
  refine Rn.getR rfl ⟨by decide, rfl, rfl⟩ (j := gid b) (rfl) ?_
  refine Rn.getR rfl (xS_g b) (xR_g b).1 ?_
  refine Rn.run 1 (ls' := [_, _, _, _]) (st' := [_, _]) rfl ?_
  refine Rn.ald rfl (xS_g1 b) (i) (x_wn (by omega)) (by omega) ?_
  rw [(hC.2.2 i hi).1]
  refine Rn.run 1 (ls' := [_, _, _, _]) (st' := [_, _]) rfl ?_
  refine Rn.call rfl rfl rfl rfl rfl (c28 (ho.2 i hi).1 (by omega)) ?_
  refine Rn.neB rfl (fun e42 => absurd e42 (by exact fun h => h.elim (fun z => absurd hk.1 (by rw [z]; decide)) hu)) (fun e42 => ?_)
  refine Rn.run 2 (ls' := [_, _, _, _]) (st' := [_, _]) rfl ?_
  refine Rn.call rfl rfl rfl rfl rfl (c101 3 rfl (by decide)) ?_
  exact Rn.ret rfl rfl rfl rfl rfl rfl
theorem mk4 (kd : Nat → Nat) (T : Nat) {n : Nat} (hn : n ≤ 6) : pop (unt n T &&& bset (fun i => isg (kd i)) n) = cnt (fun i => isg (kd i) && !T.testBit i) n := by
  rw [unt_b, and_bset, pop_bset _ (by omega)]
  exact cnt_congr (fun i _ => Bool.and_comm _ _)
theorem mk5 (kd : Nat → Nat) (T : Nat) {n : Nat} (hn : n ≤ 6) : pop (unt n T &&& cm kd n) = cnt (fun i => !T.testBit i && kd i != 5) n := by
  unfold cm
  rw [unt_b, and_bset, pop_bset _ (by omega)]
theorem mk6 (kd : Nat → Nat) (T : Nat) {n : Nat} (hn : n ≤ 6) : pop (unt n T ^^^ (unt n T &&& bset (fun i => kd i == 5) n)) = cnt (fun i => !T.testBit i && kd i != 5) n := by
  rw [unt_b, andn_bset, pop_bset _ (by omega)]
  exact cnt_congr (fun i _ => rfl)
theorem k69_1 {ex : xO} {d : Nat} {c : Nat → Nat → Int} {b : Bool} {n D T Mo : Nat} {kd bo wo L : Nat → Nat} (hP : pS n kd bo wo D T Mo L) (hc : cS c b n kd bo wo D T Mo L) {i : Nat} (hi : i < n) (hk : 1 ≤ 1 ∧ 1 < 6) (hu : (kd i  = 1 ∨ (1 = 1 ∧ (kd i = 4 ∨ kd i = 5)))) : An ex (d + 20) 69 4 [xA 0, xI (i : Int), xI ((1 : Nat) : Int)] (hp c b) (xI (f9 (kd i) (wo i) 9 0 : Nat), hp (c) b) := by
  obtain ⟨ho, h40, hT, h9, hMo⟩ := hP
  obtain ⟨hC, d7, t9, hL, m10⟩ := hc
  have hn := ho.1
  have hT6 := p64 hn hT
  have hk2 := ho.2 i hi
  refine Rn.run 2 (ls' := [_, _, _, _]) (st' := [_, _]) rfl ?_
  refine Rn.getR rfl ⟨by decide, rfl, rfl⟩ (j := gid b) (rfl) ?_
  refine Rn.getI rfl (xS_g b) ?_
  rw [hC.1]
  refine Rn.call rfl rfl rfl rfl rfl (c100) ?_
  refine Rn.eqB rfl (fun e11 => absurd e11 (by exact fun h => h (z_in hi (by omega)))) (fun e11 => ?_)
  refine Rn.run 1 (ls' := [_, _, _, _]) (st' := [_]) rfl ?_
  refine Rn.eq0 rfl (fun e15 => absurd e15 (by decide)) (fun e15 => ?_)
  refine Rn.run 2 (ls' := [_, _, _, _]) (st' := [_, _]) rfl ?_
  refine Rn.call rfl rfl rfl rfl rfl (c100) ?_
  refine Rn.neB rfl (fun e24 => ?_) (fun e24 => absurd e24 (by exact fun h => h (by decide)))
  refine Rn.run 1 (ls' := [_, _, _, _]) (st' := [_]) rfl ?_
  refine Rn.getR rfl ⟨by decide, rfl, rfl⟩ (j := gid b) (rfl) ?_
  refine Rn.getR rfl (xS_g b) (xR_g b).1 ?_
  refine Rn.run 1 (ls' := [_, _, _, _]) (st' := [_, _]) rfl ?_
  refine Rn.ald rfl (xS_g1 b) (i) (x_wn (by omega)) (by omega) ?_
  rw [(hC.2.2 i hi).1]
  refine Rn.run 1 (ls' := [_, _, _, _]) (st' := [_, _]) rfl ?_
  refine Rn.call rfl rfl rfl rfl rfl (c28 (k := kd i) (w := 1) (ho.2 i hi).1 (by decide)) ?_
  refine Rn.neB rfl (fun e42 => ?_) (fun e42 => absurd e42 (by exact fun h => h (Or.inr hu)))
  refine Rn.run 1 (ls' := [_, _, _, _]) (st' := [_]) rfl ?_
  refine Rn.getR rfl ⟨by decide, rfl, rfl⟩ (j := gid b) (rfl) ?_
  refine Rn.callV rfl (x_sv (xS_g b)) rfl rfl rfl (c17 hn hC.1) ?_
  refine Rn.run 2 (ls' := [_, _, _, _]) (st' := [_, _]) rfl ?_
  refine Rn.call rfl rfl rfl rfl rfl (c11 d7 h40) ?_
  rw [t9]
  refine Rn.run 3 (ls' := [_, _, _, _]) (st' := [_]) rfl ?_
  rw [bt_unt hn hT6]
  refine Rn.run 2 (ls' := [_, _, _, _]) (st' := [_]) rfl ?_
  refine Rn.run 1 rfl ?_
  refine Rn.run 2 (ls' := [_, _, _, _]) (st' := [_, _]) rfl ?_
  refine Rn.call rfl rfl rfl rfl rfl (c114 ⟨ho, h40, hT, h9, hMo⟩ ⟨hC, d7, t9, hL, m10⟩ hi) ?_
  exact Rn.ret rfl rfl rfl rfl rfl rfl
theorem k69_2 {ex : xO} {d : Nat} {c : Nat → Nat → Int} {b : Bool} {n D T Mo : Nat} {kd bo wo L : Nat → Nat} (hP : pS n kd bo wo D T Mo L) (hc : cS c b n kd bo wo D T Mo L) {i : Nat} (hi : i < n) (hk : 1 ≤ 2 ∧ 2 < 6) (hu : (kd i  = 2 ∨ (2 = 1 ∧ (kd i = 4 ∨ kd i = 5)))) : An ex (d + 20) 69 4 [xA 0, xI (i : Int), xI ((2 : Nat) : Int)] (hp c b) (xI ((L (bo i) : Int) - (ans (kd i) (wo i) (L (bo i)) : Nat)), hp (c) b) := by
  obtain ⟨ho, h40, hT, h9, hMo⟩ := hP
  obtain ⟨hC, d7, t9, hL, m10⟩ := hc
  have hn := ho.1
  have hT6 := p64 hn hT
  have hk2 := ho.2 i hi
  refine Rn.run 2 (ls' := [_, _, _, _]) (st' := [_, _]) rfl ?_
  refine Rn.getR rfl ⟨by decide, rfl, rfl⟩ (j := gid b) (rfl) ?_
  refine Rn.getI rfl (xS_g b) ?_
  rw [hC.1]
  refine Rn.call rfl rfl rfl rfl rfl (c100) ?_
  refine Rn.eqB rfl (fun e11 => absurd e11 (by exact fun h => h (z_in hi (by omega)))) (fun e11 => ?_)
  refine Rn.run 1 (ls' := [_, _, _, _]) (st' := [_]) rfl ?_
  refine Rn.eq0 rfl (fun e15 => absurd e15 (by decide)) (fun e15 => ?_)
  refine Rn.run 2 (ls' := [_, _, _, _]) (st' := [_, _]) rfl ?_
  refine Rn.call rfl rfl rfl rfl rfl (c100) ?_
  refine Rn.neB rfl (fun e24 => ?_) (fun e24 => absurd e24 (by exact fun h => h (by decide)))
  refine Rn.run 1 (ls' := [_, _, _, _]) (st' := [_]) rfl ?_
  refine Rn.getR rfl ⟨by decide, rfl, rfl⟩ (j := gid b) (rfl) ?_
  refine Rn.getR rfl (xS_g b) (xR_g b).1 ?_
  refine Rn.run 1 (ls' := [_, _, _, _]) (st' := [_, _]) rfl ?_
  refine Rn.ald rfl (xS_g1 b) (i) (x_wn (by omega)) (by omega) ?_
  rw [(hC.2.2 i hi).1]
  refine Rn.run 1 (ls' := [_, _, _, _]) (st' := [_, _]) rfl ?_
  refine Rn.call rfl rfl rfl rfl rfl (c28 (k := kd i) (w := 2) (ho.2 i hi).1 (by decide)) ?_
  refine Rn.neB rfl (fun e42 => ?_) (fun e42 => absurd e42 (by exact fun h => h (Or.inr hu)))
  refine Rn.run 1 (ls' := [_, _, _, _]) (st' := [_]) rfl ?_
  refine Rn.getR rfl ⟨by decide, rfl, rfl⟩ (j := gid b) (rfl) ?_
  refine Rn.callV rfl (x_sv (xS_g b)) rfl rfl rfl (c17 hn hC.1) ?_
  refine Rn.run 2 (ls' := [_, _, _, _]) (st' := [_, _]) rfl ?_
  refine Rn.call rfl rfl rfl rfl rfl (c11 d7 h40) ?_
  rw [t9]
  refine Rn.run 3 (ls' := [_, _, _, _]) (st' := [_]) rfl ?_
  rw [bt_unt hn hT6]
  refine Rn.run 2 (ls' := [_, _, _, _]) (st' := [_]) rfl ?_
  refine Rn.run 1 rfl ?_
  refine Rn.run 2 (ls' := [_, _, _, _]) (st' := [_, _]) rfl ?_
  refine Rn.call rfl rfl rfl rfl rfl (c112 ⟨ho, h40, hT, h9, hMo⟩ ⟨hC, d7, t9, hL, m10⟩ hi) ?_
  refine Rn.run 1 (ls' := [_, _, _, _]) (st' := [_, _]) rfl ?_
  refine Rn.getR rfl ⟨by decide, rfl, rfl⟩ (j := gid b) (rfl) ?_
  refine Rn.run 3 (ls' := [_, _, _, _]) (st' := [_, _, _, _, _]) rfl ?_
  refine Rn.call rfl rfl rfl rfl rfl (c112 ⟨ho, h40, hT, h9, hMo⟩ ⟨hC, d7, t9, hL, m10⟩ hi) ?_
  refine Rn.callV rfl (x_sv (xS_g b)) rfl rfl rfl (c24 ho hC hi (h9 _ (by omega))) ?_
  refine Rn.run 1 (ls' := [_, _, _, _]) (st' := [_]) rfl ?_
  exact Rn.ret rfl rfl rfl rfl rfl rfl
theorem k69_3 {ex : xO} {d : Nat} {c : Nat → Nat → Int} {b : Bool} {n D T Mo : Nat} {kd bo wo L : Nat → Nat} (hP : pS n kd bo wo D T Mo L) (hc : cS c b n kd bo wo D T Mo L) {i : Nat} (hi : i < n) (hk : 1 ≤ 3 ∧ 3 < 6) (hu : (kd i  = 3 ∨ (3 = 1 ∧ (kd i = 4 ∨ kd i = 5)))) : An ex (d + 20) 69 4 [xA 0, xI (i : Int), xI ((3 : Nat) : Int)] (hp c b) (xI ((s8 L : Int) - (L (bo i) : Nat)), hp (c) b) := by
  obtain ⟨ho, h40, hT, h9, hMo⟩ := hP
  obtain ⟨hC, d7, t9, hL, m10⟩ := hc
  have hn := ho.1
  have hT6 := p64 hn hT
  have hk2 := ho.2 i hi
  refine Rn.run 2 (ls' := [_, _, _, _]) (st' := [_, _]) rfl ?_
  refine Rn.getR rfl ⟨by decide, rfl, rfl⟩ (j := gid b) (rfl) ?_
  refine Rn.getI rfl (xS_g b) ?_
  rw [hC.1]
  refine Rn.call rfl rfl rfl rfl rfl (c100) ?_
  refine Rn.eqB rfl (fun e11 => absurd e11 (by exact fun h => h (z_in hi (by omega)))) (fun e11 => ?_)
  refine Rn.run 1 (ls' := [_, _, _, _]) (st' := [_]) rfl ?_
  refine Rn.eq0 rfl (fun e15 => absurd e15 (by decide)) (fun e15 => ?_)
  refine Rn.run 2 (ls' := [_, _, _, _]) (st' := [_, _]) rfl ?_
  refine Rn.call rfl rfl rfl rfl rfl (c100) ?_
  refine Rn.neB rfl (fun e24 => ?_) (fun e24 => absurd e24 (by exact fun h => h (by decide)))
  refine Rn.run 1 (ls' := [_, _, _, _]) (st' := [_]) rfl ?_
  refine Rn.getR rfl ⟨by decide, rfl, rfl⟩ (j := gid b) (rfl) ?_
  refine Rn.getR rfl (xS_g b) (xR_g b).1 ?_
  refine Rn.run 1 (ls' := [_, _, _, _]) (st' := [_, _]) rfl ?_
  refine Rn.ald rfl (xS_g1 b) (i) (x_wn (by omega)) (by omega) ?_
  rw [(hC.2.2 i hi).1]
  refine Rn.run 1 (ls' := [_, _, _, _]) (st' := [_, _]) rfl ?_
  refine Rn.call rfl rfl rfl rfl rfl (c28 (k := kd i) (w := 3) (ho.2 i hi).1 (by decide)) ?_
  refine Rn.neB rfl (fun e42 => ?_) (fun e42 => absurd e42 (by exact fun h => h (Or.inr hu)))
  refine Rn.run 1 (ls' := [_, _, _, _]) (st' := [_]) rfl ?_
  refine Rn.getR rfl ⟨by decide, rfl, rfl⟩ (j := gid b) (rfl) ?_
  refine Rn.callV rfl (x_sv (xS_g b)) rfl rfl rfl (c17 hn hC.1) ?_
  refine Rn.run 2 (ls' := [_, _, _, _]) (st' := [_, _]) rfl ?_
  refine Rn.call rfl rfl rfl rfl rfl (c11 d7 h40) ?_
  rw [t9]
  refine Rn.run 3 (ls' := [_, _, _, _]) (st' := [_]) rfl ?_
  rw [bt_unt hn hT6]
  refine Rn.run 2 (ls' := [_, _, _, _]) (st' := [_]) rfl ?_
  refine Rn.run 1 rfl ?_
  refine Rn.run 2 (ls' := [_, _, _, _]) (st' := [_]) rfl ?_
  refine Rn.call rfl rfl rfl rfl rfl (c10 d7 h40) ?_
  refine Rn.call rfl rfl rfl rfl rfl (c2 hL) ?_
  refine Rn.run 2 (ls' := [_, _, _, _]) (st' := [_, _, _]) rfl ?_
  refine Rn.call rfl rfl rfl rfl rfl (c112 ⟨ho, h40, hT, h9, hMo⟩ ⟨hC, d7, t9, hL, m10⟩ hi) ?_
  refine Rn.run 1 (ls' := [_, _, _, _]) (st' := [_]) rfl ?_
  exact Rn.ret rfl rfl rfl rfl rfl rfl
theorem k69_4 {ex : xO} {d : Nat} {c : Nat → Nat → Int} {b : Bool} {n D T Mo : Nat} {kd bo wo L : Nat → Nat} (hP : pS n kd bo wo D T Mo L) (hc : cS c b n kd bo wo D T Mo L) {i : Nat} (hi : i < n) (hk : 1 ≤ 4 ∧ 4 < 6) (hu : (kd i  = 4 ∨ (4 = 1 ∧ (kd i = 4 ∨ kd i = 5)))) : An ex (d + 20) 69 4 [xA 0, xI (i : Int), xI ((4 : Nat) : Int)] (hp c b) (xI (cnt (fun i => isg (kd i) && !T.testBit i) n : Nat), hp (c) b) := by
  obtain ⟨ho, h40, hT, h9, hMo⟩ := hP
  obtain ⟨hC, d7, t9, hL, m10⟩ := hc
  have hn := ho.1
  have hT6 := p64 hn hT
  have hk2 := ho.2 i hi
  refine Rn.run 2 (ls' := [_, _, _, _]) (st' := [_, _]) rfl ?_
  refine Rn.getR rfl ⟨by decide, rfl, rfl⟩ (j := gid b) (rfl) ?_
  refine Rn.getI rfl (xS_g b) ?_
  rw [hC.1]
  refine Rn.call rfl rfl rfl rfl rfl (c100) ?_
  refine Rn.eqB rfl (fun e11 => absurd e11 (by exact fun h => h (z_in hi (by omega)))) (fun e11 => ?_)
  refine Rn.run 1 (ls' := [_, _, _, _]) (st' := [_]) rfl ?_
  refine Rn.eq0 rfl (fun e15 => absurd e15 (by decide)) (fun e15 => ?_)
  refine Rn.run 2 (ls' := [_, _, _, _]) (st' := [_, _]) rfl ?_
  refine Rn.call rfl rfl rfl rfl rfl (c100) ?_
  refine Rn.neB rfl (fun e24 => ?_) (fun e24 => absurd e24 (by exact fun h => h (by decide)))
  refine Rn.run 1 (ls' := [_, _, _, _]) (st' := [_]) rfl ?_
  refine Rn.getR rfl ⟨by decide, rfl, rfl⟩ (j := gid b) (rfl) ?_
  refine Rn.getR rfl (xS_g b) (xR_g b).1 ?_
  refine Rn.run 1 (ls' := [_, _, _, _]) (st' := [_, _]) rfl ?_
  refine Rn.ald rfl (xS_g1 b) (i) (x_wn (by omega)) (by omega) ?_
  rw [(hC.2.2 i hi).1]
  refine Rn.run 1 (ls' := [_, _, _, _]) (st' := [_, _]) rfl ?_
  refine Rn.call rfl rfl rfl rfl rfl (c28 (k := kd i) (w := 4) (ho.2 i hi).1 (by decide)) ?_
  refine Rn.neB rfl (fun e42 => ?_) (fun e42 => absurd e42 (by exact fun h => h (Or.inr hu)))
  refine Rn.run 1 (ls' := [_, _, _, _]) (st' := [_]) rfl ?_
  refine Rn.getR rfl ⟨by decide, rfl, rfl⟩ (j := gid b) (rfl) ?_
  refine Rn.callV rfl (x_sv (xS_g b)) rfl rfl rfl (c17 hn hC.1) ?_
  refine Rn.run 2 (ls' := [_, _, _, _]) (st' := [_, _]) rfl ?_
  refine Rn.call rfl rfl rfl rfl rfl (c11 d7 h40) ?_
  rw [t9]
  refine Rn.run 3 (ls' := [_, _, _, _]) (st' := [_]) rfl ?_
  rw [bt_unt hn hT6]
  refine Rn.run 2 (ls' := [_, _, _, _]) (st' := [_]) rfl ?_
  refine Rn.run 1 rfl ?_
  refine Rn.run 2 (ls' := [_, _, _, _]) (st' := [_, _]) rfl ?_
  refine Rn.getR rfl ⟨by decide, rfl, rfl⟩ (j := gid b) (rfl) ?_
  refine Rn.callV rfl (x_sv (xS_g b)) rfl rfl rfl (c18 ho hC) ?_
  refine Rn.run 1 (ls' := [_, _, _, _]) (st' := [_]) rfl ?_
  rw [bt_and _ (unt_64 T hn) _ (bset_64 _ hn)]
  refine Rn.call rfl rfl rfl rfl rfl (c235 (and_64 (unt_64 T hn))) ?_
  exact Rn.ret rfl rfl rfl rfl (by rw [mk4 kd T hn]) rfl
theorem k69_5 {ex : xO} {d : Nat} {c : Nat → Nat → Int} {b : Bool} {n D T Mo : Nat} {kd bo wo L : Nat → Nat} (hP : pS n kd bo wo D T Mo L) (hc : cS c b n kd bo wo D T Mo L) {i : Nat} (hi : i < n) (hk : 1 ≤ 5 ∧ 5 < 6) (hu : (kd i  = 5 ∨ (5 = 1 ∧ (kd i = 4 ∨ kd i = 5)))) : An ex (d + 20) 69 4 [xA 0, xI (i : Int), xI ((5 : Nat) : Int)] (hp c b) (xI (cnt (fun i => !T.testBit i && kd i != 5) n : Nat), hp (c) b) := by
  obtain ⟨ho, h40, hT, h9, hMo⟩ := hP
  obtain ⟨hC, d7, t9, hL, m10⟩ := hc
  have hn := ho.1
  have hT6 := p64 hn hT
  have hk2 := ho.2 i hi
  refine Rn.run 2 (ls' := [_, _, _, _]) (st' := [_, _]) rfl ?_
  refine Rn.getR rfl ⟨by decide, rfl, rfl⟩ (j := gid b) (rfl) ?_
  refine Rn.getI rfl (xS_g b) ?_
  rw [hC.1]
  refine Rn.call rfl rfl rfl rfl rfl (c100) ?_
  refine Rn.eqB rfl (fun e11 => absurd e11 (by exact fun h => h (z_in hi (by omega)))) (fun e11 => ?_)
  refine Rn.run 1 (ls' := [_, _, _, _]) (st' := [_]) rfl ?_
  refine Rn.eq0 rfl (fun e15 => absurd e15 (by decide)) (fun e15 => ?_)
  refine Rn.run 2 (ls' := [_, _, _, _]) (st' := [_, _]) rfl ?_
  refine Rn.call rfl rfl rfl rfl rfl (c100) ?_
  refine Rn.neB rfl (fun e24 => ?_) (fun e24 => absurd e24 (by exact fun h => h (by decide)))
  refine Rn.run 1 (ls' := [_, _, _, _]) (st' := [_]) rfl ?_
  refine Rn.getR rfl ⟨by decide, rfl, rfl⟩ (j := gid b) (rfl) ?_
  refine Rn.getR rfl (xS_g b) (xR_g b).1 ?_
  refine Rn.run 1 (ls' := [_, _, _, _]) (st' := [_, _]) rfl ?_
  refine Rn.ald rfl (xS_g1 b) (i) (x_wn (by omega)) (by omega) ?_
  rw [(hC.2.2 i hi).1]
  refine Rn.run 1 (ls' := [_, _, _, _]) (st' := [_, _]) rfl ?_
  refine Rn.call rfl rfl rfl rfl rfl (c28 (k := kd i) (w := 5) (ho.2 i hi).1 (by decide)) ?_
  refine Rn.neB rfl (fun e42 => ?_) (fun e42 => absurd e42 (by exact fun h => h (Or.inr hu)))
  refine Rn.run 1 (ls' := [_, _, _, _]) (st' := [_]) rfl ?_
  refine Rn.getR rfl ⟨by decide, rfl, rfl⟩ (j := gid b) (rfl) ?_
  refine Rn.callV rfl (x_sv (xS_g b)) rfl rfl rfl (c17 hn hC.1) ?_
  refine Rn.run 2 (ls' := [_, _, _, _]) (st' := [_, _]) rfl ?_
  refine Rn.call rfl rfl rfl rfl rfl (c11 d7 h40) ?_
  rw [t9]
  refine Rn.run 3 (ls' := [_, _, _, _]) (st' := [_]) rfl ?_
  rw [bt_unt hn hT6]
  refine Rn.run 2 (ls' := [_, _, _, _]) (st' := [_]) rfl ?_
  refine Rn.run 1 rfl ?_
  refine Rn.run 2 (ls' := [_, _, _, _]) (st' := [_, _]) rfl ?_
  refine Rn.getR rfl ⟨by decide, rfl, rfl⟩ (j := gid b) (rfl) ?_
  refine Rn.getI rfl (xS_g b) ?_
  rw [hC.2.1]
  refine Rn.run 1 (ls' := [_, _, _, _]) (st' := [_]) rfl ?_
  rw [bt_and _ (unt_64 T hn) _ (show cm kd n < 64 from bset_64 _ hn)]
  refine Rn.call rfl rfl rfl rfl rfl (c235 (and_64 (unt_64 T hn))) ?_
  exact Rn.ret rfl rfl rfl rfl (congrArg (fun z : Nat => xI (z : Int)) (mk5 kd T hn)) rfl
theorem k178_b1 {ex : xO} {d : Nat} {c : Nat → Nat → Int} {b : Bool} {n D T Mo : Nat} {kd bo wo L : Nat → Nat} (hP : pS n kd bo wo D T Mo L) (hm : mS c n kd bo wo D T Mo L) {a1 a2 : Int} (h1 : w32 a1 = a1) (q1 : ¬ (0 ≤ a1 ∧ a1 < n)) : An ex (d + 20) 178 4 [xA 54, xI a1, xI a2] (hp c b) (xI (-1), hp (c) b) := by
  obtain ⟨ho, h40, hT, h9, hMo⟩ := hP
  obtain ⟨hM, d29, t2, l55, m1⟩ := hm
  have hn := ho.1
  have hT6 := p64 hn hT
  refine Rn.run 2 (ls' := [_, _, _, _]) (st' := [_, _]) rfl ?_
  refine Rn.call rfl rfl rfl rfl rfl (c140 hn hM.1) ?_
  refine Rn.eqB rfl (fun e5 => ?_) (fun e5 => absurd e5 (by exact (z_no' h1 q1)))
  refine Rn.run 1 (ls' := [_, _, _, _]) (st' := [_]) rfl ?_
  exact Rn.ret rfl rfl rfl rfl rfl rfl
theorem z_in15 {k : Nat} (h : 1 ≤ k ∧ k < 6) : w64 1 ≤ w64 (w32 (k : Int)) ∧ w64 (w32 (k : Int)) ≤ w64 5 := by rw [x_wn (by omega)]; simp only [w64]; omega
theorem z_no15 {a : Int} (ha : w32 a = a) (h : ¬ (1 ≤ a ∧ a < 6)) : ¬ (w64 1 ≤ w64 (w32 a) ∧ w64 (w32 a) ≤ w64 5) := by
  have h2 : -2147483648 ≤ w32 a ∧ w32 a < 2147483648 := by unfold w32; omega
  rw [ha] at h2 ⊢
  simp only [w64]
  omega
theorem k178_b2 {ex : xO} {d : Nat} {c : Nat → Nat → Int} {b : Bool} {n D T Mo : Nat} {kd bo wo L : Nat → Nat} (hP : pS n kd bo wo D T Mo L) (hm : mS c n kd bo wo D T Mo L) {a2 : Int} {i : Nat} (hi : i < n) (h2 : w32 a2 = a2) (q2 : ¬ (1 ≤ a2 ∧ a2 < 6)) : An ex (d + 20) 178 4 [xA 54, xI (i : Int), xI a2] (hp c b) (xI (-1), hp (c) b) := by
  obtain ⟨ho, h40, hT, h9, hMo⟩ := hP
  obtain ⟨hM, d29, t2, l55, m1⟩ := hm
  have hn := ho.1
  have hT6 := p64 hn hT
  refine Rn.run 2 (ls' := [_, _, _, _]) (st' := [_, _]) rfl ?_
  refine Rn.call rfl rfl rfl rfl rfl (c140 hn hM.1) ?_
  refine Rn.eqB rfl (fun e5 => absurd e5 (by exact fun h => h (z_in' hi (by omega)))) (fun e5 => ?_)
  refine Rn.run 4 (ls' := [_, _, _, _]) (st' := [_, _, _]) rfl ?_
  refine Rn.call rfl rfl rfl rfl rfl (c131) ?_
  refine Rn.neB rfl (fun e17 => absurd e17 (by exact (z_no15 h2 q2))) (fun e17 => ?_)
  refine Rn.run 1 (ls' := [_, _, _, _]) (st' := [_]) rfl ?_
  exact Rn.ret rfl rfl rfl rfl rfl rfl
theorem k178_un {ex : xO} {d : Nat} {c : Nat → Nat → Int} {b : Bool} {n D T Mo : Nat} {kd bo wo L : Nat → Nat} (hP : pS n kd bo wo D T Mo L) (hm : mS c n kd bo wo D T Mo L) {i k : Nat} (hi : i < n) (hk : 1 ≤ k ∧ k < 6) (hu : ¬ (kd i = k ∨ (k = 1 ∧ (kd i = 4 ∨ kd i = 5)))) : An ex (d + 20) 178 4 [xA 54, xI (i : Int), xI (k : Int)] (hp c b) (xI (-3), hp (xup (xup c 54 5 3) 60 3 (c 60 3 + 1)) b) := by
  obtain ⟨ho, h40, hT, h9, hMo⟩ := hP
  obtain ⟨hM, d29, t2, l55, m1⟩ := hm
  have hn := ho.1
  have hT6 := p64 hn hT
  refine Rn.run 2 (ls' := [_, _, _, _]) (st' := [_, _]) rfl ?_
  refine Rn.call rfl rfl rfl rfl rfl (c140 hn hM.1) ?_
  refine Rn.eqB rfl (fun e5 => absurd e5 (by exact fun h => h (z_in' hi (by omega)))) (fun e5 => ?_)
  refine Rn.run 4 (ls' := [_, _, _, _]) (st' := [_, _, _]) rfl ?_
  refine Rn.call rfl rfl rfl rfl rfl (c131) ?_
  refine Rn.neB rfl (fun e17 => ?_) (fun e17 => absurd e17 (by exact fun h => h (z_in15 hk)))
  refine Rn.run 5 (ls' := [_, _, _, _]) (st' := [_, _]) rfl ?_
  refine Rn.ald rfl ⟨by decide, rfl⟩ (11 + i) (x_wn (n := 11 + i) (by omega)) (by omega) ?_
  rw [(hM.2 i hi).1]
  refine Rn.run 1 (ls' := [_, _, _, _]) (st' := [_, _]) rfl ?_
  refine Rn.call rfl rfl rfl rfl rfl (c159 (ho.2 i hi).1 (by omega)) ?_
  refine Rn.neB rfl (fun e35 => absurd e35 (by exact hu)) (fun e35 => ?_)
  refine Rn.run 2 (ls' := [_, _, _, _]) (st' := [_, _]) rfl ?_
  refine Rn.call rfl rfl rfl rfl rfl (c134 3 rfl (by decide)) ?_
  exact Rn.ret rfl rfl rfl rfl rfl rfl
theorem k178_1 {ex : xO} {d : Nat} {c : Nat → Nat → Int} {b : Bool} {n D T Mo : Nat} {kd bo wo L : Nat → Nat} (hP : pS n kd bo wo D T Mo L) (hm : mS c n kd bo wo D T Mo L) {i : Nat} (hi : i < n) (hk : 1 ≤ 1 ∧ 1 < 6) (hu : (kd i  = 1 ∨ (1 = 1 ∧ (kd i = 4 ∨ kd i = 5)))) : An ex (d + 20) 178 4 [xA 54, xI (i : Int), xI ((1 : Nat) : Int)] (hp c b) (xI (f9 (kd i) (wo i) 9 0 : Nat), hp (c) b) := by
  obtain ⟨ho, h40, hT, h9, hMo⟩ := hP
  obtain ⟨hM, d29, t2, l55, m1⟩ := hm
  have hn := ho.1
  have hT6 := p64 hn hT
  have hk2 := ho.2 i hi
  have hg : kd i = 1 ∨ kd i = 4 ∨ kd i = 5 := by omega
  refine Rn.run 2 (ls' := [_, _, _, _]) (st' := [_, _]) rfl ?_
  refine Rn.call rfl rfl rfl rfl rfl (c140 hn hM.1) ?_
  refine Rn.eqB rfl (fun e5 => absurd e5 (by exact fun h => h (z_in' hi (by omega)))) (fun e5 => ?_)
  refine Rn.run 4 (ls' := [_, _, _, _]) (st' := [_, _, _]) rfl ?_
  refine Rn.call rfl rfl rfl rfl rfl (c131) ?_
  refine Rn.neB rfl (fun e17 => ?_) (fun e17 => absurd e17 (by exact fun h => h (by decide)))
  refine Rn.run 5 (ls' := [_, _, _, _]) (st' := [_, _]) rfl ?_
  refine Rn.ald rfl ⟨by decide, rfl⟩ (11 + i) (x_wn (n := 11 + i) (by omega)) (by omega) ?_
  rw [(hM.2 i hi).1]
  refine Rn.run 1 (ls' := [_, _, _, _]) (st' := [_, _]) rfl ?_
  refine Rn.call rfl rfl rfl rfl rfl (c159 (k := kd i) (w := 1) (ho.2 i hi).1 (by decide)) ?_
  refine Rn.neB rfl (fun e35 => ?_) (fun e35 => absurd e35 (by exact fun h => h hu))
  refine Rn.run 8 (ls' := [_, _, _, _]) (st' := [_, _, _, _]) rfl ?_
  refine Rn.ald rfl ⟨by decide, rfl⟩ (17 + i) (x_wn (n := 17 + i) (by omega)) (by omega) ?_
  rw [(hM.2 i hi).2.1]
  refine Rn.run 1 (ls' := [_, _, _, _]) (st' := [_, _]) rfl ?_
  refine Rn.ald rfl ⟨by decide, rfl⟩ (3 + (bo i)) (x_wn (n := 3 + (bo i)) (by omega)) (by omega) ?_
  rw [l55 _ (by omega)]
  refine Rn.run 2 (ls' := [_, _, _, _]) (st' := [_]) rfl ?_
  refine Rn.run 1 rfl ?_
  refine Rn.run 2 (ls' := [_, _, _, _]) (st' := [_, _]) rfl ?_
  refine Rn.call rfl rfl rfl rfl rfl (c176 ⟨ho, h40, hT, h9, hMo⟩ ⟨hM, d29, t2, l55, m1⟩ hi hg) ?_
  exact Rn.ret rfl rfl rfl rfl rfl rfl
theorem k178_2 {ex : xO} {d : Nat} {c : Nat → Nat → Int} {b : Bool} {n D T Mo : Nat} {kd bo wo L : Nat → Nat} (hP : pS n kd bo wo D T Mo L) (hm : mS c n kd bo wo D T Mo L) {i : Nat} (hi : i < n) (hk : 1 ≤ 2 ∧ 2 < 6) (hu : (kd i  = 2 ∨ (2 = 1 ∧ (kd i = 4 ∨ kd i = 5)))) : An ex (d + 20) 178 4 [xA 54, xI (i : Int), xI ((2 : Nat) : Int)] (hp c b) (xI ((L (bo i) : Int) - (ans (kd i) (wo i) (L (bo i)) : Nat)), hp (c) b) := by
  obtain ⟨ho, h40, hT, h9, hMo⟩ := hP
  obtain ⟨hM, d29, t2, l55, m1⟩ := hm
  have hn := ho.1
  have hT6 := p64 hn hT
  have hk2 := ho.2 i hi
  refine Rn.run 2 (ls' := [_, _, _, _]) (st' := [_, _]) rfl ?_
  refine Rn.call rfl rfl rfl rfl rfl (c140 hn hM.1) ?_
  refine Rn.eqB rfl (fun e5 => absurd e5 (by exact fun h => h (z_in' hi (by omega)))) (fun e5 => ?_)
  refine Rn.run 4 (ls' := [_, _, _, _]) (st' := [_, _, _]) rfl ?_
  refine Rn.call rfl rfl rfl rfl rfl (c131) ?_
  refine Rn.neB rfl (fun e17 => ?_) (fun e17 => absurd e17 (by exact fun h => h (by decide)))
  refine Rn.run 5 (ls' := [_, _, _, _]) (st' := [_, _]) rfl ?_
  refine Rn.ald rfl ⟨by decide, rfl⟩ (11 + i) (x_wn (n := 11 + i) (by omega)) (by omega) ?_
  rw [(hM.2 i hi).1]
  refine Rn.run 1 (ls' := [_, _, _, _]) (st' := [_, _]) rfl ?_
  refine Rn.call rfl rfl rfl rfl rfl (c159 (k := kd i) (w := 2) (ho.2 i hi).1 (by decide)) ?_
  refine Rn.neB rfl (fun e35 => ?_) (fun e35 => absurd e35 (by exact fun h => h hu))
  refine Rn.run 8 (ls' := [_, _, _, _]) (st' := [_, _, _, _]) rfl ?_
  refine Rn.ald rfl ⟨by decide, rfl⟩ (17 + i) (x_wn (n := 17 + i) (by omega)) (by omega) ?_
  rw [(hM.2 i hi).2.1]
  refine Rn.run 1 (ls' := [_, _, _, _]) (st' := [_, _]) rfl ?_
  refine Rn.ald rfl ⟨by decide, rfl⟩ (3 + (bo i)) (x_wn (n := 3 + (bo i)) (by omega)) (by omega) ?_
  rw [l55 _ (by omega)]
  refine Rn.run 2 (ls' := [_, _, _, _]) (st' := [_]) rfl ?_
  refine Rn.run 1 rfl ?_
  refine Rn.run 4 (ls' := [_, _, _, _]) (st' := [_, _, _, _]) rfl ?_
  refine Rn.call rfl rfl rfl rfl rfl (c162 ho hM hi (h9 _ (by omega))) ?_
  refine Rn.run 1 (ls' := [_, _, _, _]) (st' := [_]) rfl ?_
  exact Rn.ret rfl rfl rfl rfl rfl rfl
theorem k178_3 {ex : xO} {d : Nat} {c : Nat → Nat → Int} {b : Bool} {n D T Mo : Nat} {kd bo wo L : Nat → Nat} (hP : pS n kd bo wo D T Mo L) (hm : mS c n kd bo wo D T Mo L) {i : Nat} (hi : i < n) (hk : 1 ≤ 3 ∧ 3 < 6) (hu : (kd i  = 3 ∨ (3 = 1 ∧ (kd i = 4 ∨ kd i = 5)))) : An ex (d + 20) 178 4 [xA 54, xI (i : Int), xI ((3 : Nat) : Int)] (hp c b) (xI ((s8 L : Int) - (L (bo i) : Nat)), hp (lf c L) b) := by
  obtain ⟨ho, h40, hT, h9, hMo⟩ := hP
  obtain ⟨hM, d29, t2, l55, m1⟩ := hm
  have hn := ho.1
  have hT6 := p64 hn hT
  have hk2 := ho.2 i hi
  refine Rn.run 2 (ls' := [_, _, _, _]) (st' := [_, _]) rfl ?_
  refine Rn.call rfl rfl rfl rfl rfl (c140 hn hM.1) ?_
  refine Rn.eqB rfl (fun e5 => absurd e5 (by exact fun h => h (z_in' hi (by omega)))) (fun e5 => ?_)
  refine Rn.run 4 (ls' := [_, _, _, _]) (st' := [_, _, _]) rfl ?_
  refine Rn.call rfl rfl rfl rfl rfl (c131) ?_
  refine Rn.neB rfl (fun e17 => ?_) (fun e17 => absurd e17 (by exact fun h => h (by decide)))
  refine Rn.run 5 (ls' := [_, _, _, _]) (st' := [_, _]) rfl ?_
  refine Rn.ald rfl ⟨by decide, rfl⟩ (11 + i) (x_wn (n := 11 + i) (by omega)) (by omega) ?_
  rw [(hM.2 i hi).1]
  refine Rn.run 1 (ls' := [_, _, _, _]) (st' := [_, _]) rfl ?_
  refine Rn.call rfl rfl rfl rfl rfl (c159 (k := kd i) (w := 3) (ho.2 i hi).1 (by decide)) ?_
  refine Rn.neB rfl (fun e35 => ?_) (fun e35 => absurd e35 (by exact fun h => h hu))
  refine Rn.run 8 (ls' := [_, _, _, _]) (st' := [_, _, _, _]) rfl ?_
  refine Rn.ald rfl ⟨by decide, rfl⟩ (17 + i) (x_wn (n := 17 + i) (by omega)) (by omega) ?_
  rw [(hM.2 i hi).2.1]
  refine Rn.run 1 (ls' := [_, _, _, _]) (st' := [_, _]) rfl ?_
  refine Rn.ald rfl ⟨by decide, rfl⟩ (3 + (bo i)) (x_wn (n := 3 + (bo i)) (by omega)) (by omega) ?_
  rw [l55 _ (by omega)]
  refine Rn.run 2 (ls' := [_, _, _, _]) (st' := [_]) rfl ?_
  refine Rn.run 1 rfl ?_
  refine Rn.run 1 (ls' := [_, _, _, _]) (st' := [_]) rfl ?_
  refine Rn.call rfl rfl rfl rfl rfl (c171 l55) ?_
  refine Rn.run 2 (ls' := [_, _, _, _]) (st' := [_]) rfl ?_
  exact Rn.ret rfl rfl rfl rfl rfl rfl
theorem k178_4 {ex : xO} {d : Nat} {c : Nat → Nat → Int} {b : Bool} {n D T Mo : Nat} {kd bo wo L : Nat → Nat} (hP : pS n kd bo wo D T Mo L) (hm : mS c n kd bo wo D T Mo L) {i : Nat} (hi : i < n) (hk : 1 ≤ 4 ∧ 4 < 6) (hu : (kd i  = 4 ∨ (4 = 1 ∧ (kd i = 4 ∨ kd i = 5)))) : An ex (d + 20) 178 4 [xA 54, xI (i : Int), xI ((4 : Nat) : Int)] (hp c b) (xI (cnt (fun i => isg (kd i) && !T.testBit i) n : Nat), hp (c) b) := by
  obtain ⟨ho, h40, hT, h9, hMo⟩ := hP
  obtain ⟨hM, d29, t2, l55, m1⟩ := hm
  have hn := ho.1
  have hT6 := p64 hn hT
  have hk2 := ho.2 i hi
  refine Rn.run 2 (ls' := [_, _, _, _]) (st' := [_, _]) rfl ?_
  refine Rn.call rfl rfl rfl rfl rfl (c140 hn hM.1) ?_
  refine Rn.eqB rfl (fun e5 => absurd e5 (by exact fun h => h (z_in' hi (by omega)))) (fun e5 => ?_)
  refine Rn.run 4 (ls' := [_, _, _, _]) (st' := [_, _, _]) rfl ?_
  refine Rn.call rfl rfl rfl rfl rfl (c131) ?_
  refine Rn.neB rfl (fun e17 => ?_) (fun e17 => absurd e17 (by exact fun h => h (by decide)))
  refine Rn.run 5 (ls' := [_, _, _, _]) (st' := [_, _]) rfl ?_
  refine Rn.ald rfl ⟨by decide, rfl⟩ (11 + i) (x_wn (n := 11 + i) (by omega)) (by omega) ?_
  rw [(hM.2 i hi).1]
  refine Rn.run 1 (ls' := [_, _, _, _]) (st' := [_, _]) rfl ?_
  refine Rn.call rfl rfl rfl rfl rfl (c159 (k := kd i) (w := 4) (ho.2 i hi).1 (by decide)) ?_
  refine Rn.neB rfl (fun e35 => ?_) (fun e35 => absurd e35 (by exact fun h => h hu))
  refine Rn.run 8 (ls' := [_, _, _, _]) (st' := [_, _, _, _]) rfl ?_
  refine Rn.ald rfl ⟨by decide, rfl⟩ (17 + i) (x_wn (n := 17 + i) (by omega)) (by omega) ?_
  rw [(hM.2 i hi).2.1]
  refine Rn.run 1 (ls' := [_, _, _, _]) (st' := [_, _]) rfl ?_
  refine Rn.ald rfl ⟨by decide, rfl⟩ (3 + (bo i)) (x_wn (n := 3 + (bo i)) (by omega)) (by omega) ?_
  rw [l55 _ (by omega)]
  refine Rn.run 2 (ls' := [_, _, _, _]) (st' := [_]) rfl ?_
  refine Rn.run 1 rfl ?_
  refine Rn.run 1 (ls' := [_, _, _, _]) (st' := [_]) rfl ?_
  refine Rn.call rfl rfl rfl rfl rfl (c177 ⟨ho, h40, hT, h9, hMo⟩ ⟨hM, d29, t2, l55, m1⟩) ?_
  exact Rn.ret rfl rfl rfl rfl rfl rfl
theorem k178_5 {ex : xO} {d : Nat} {c : Nat → Nat → Int} {b : Bool} {n D T Mo : Nat} {kd bo wo L : Nat → Nat} (hP : pS n kd bo wo D T Mo L) (hm : mS c n kd bo wo D T Mo L) {i : Nat} (hi : i < n) (hk : 1 ≤ 5 ∧ 5 < 6) (hu : (kd i  = 5 ∨ (5 = 1 ∧ (kd i = 4 ∨ kd i = 5)))) : An ex (d + 20) 178 4 [xA 54, xI (i : Int), xI ((5 : Nat) : Int)] (hp c b) (xI (cnt (fun i => !T.testBit i && kd i != 5) n : Nat), hp (c) b) := by
  obtain ⟨ho, h40, hT, h9, hMo⟩ := hP
  obtain ⟨hM, d29, t2, l55, m1⟩ := hm
  have hn := ho.1
  have hT6 := p64 hn hT
  have hk2 := ho.2 i hi
  refine Rn.run 2 (ls' := [_, _, _, _]) (st' := [_, _]) rfl ?_
  refine Rn.call rfl rfl rfl rfl rfl (c140 hn hM.1) ?_
  refine Rn.eqB rfl (fun e5 => absurd e5 (by exact fun h => h (z_in' hi (by omega)))) (fun e5 => ?_)
  refine Rn.run 4 (ls' := [_, _, _, _]) (st' := [_, _, _]) rfl ?_
  refine Rn.call rfl rfl rfl rfl rfl (c131) ?_
  refine Rn.neB rfl (fun e17 => ?_) (fun e17 => absurd e17 (by exact fun h => h (by decide)))
  refine Rn.run 5 (ls' := [_, _, _, _]) (st' := [_, _]) rfl ?_
  refine Rn.ald rfl ⟨by decide, rfl⟩ (11 + i) (x_wn (n := 11 + i) (by omega)) (by omega) ?_
  rw [(hM.2 i hi).1]
  refine Rn.run 1 (ls' := [_, _, _, _]) (st' := [_, _]) rfl ?_
  refine Rn.call rfl rfl rfl rfl rfl (c159 (k := kd i) (w := 5) (ho.2 i hi).1 (by decide)) ?_
  refine Rn.neB rfl (fun e35 => ?_) (fun e35 => absurd e35 (by exact fun h => h hu))
  refine Rn.run 8 (ls' := [_, _, _, _]) (st' := [_, _, _, _]) rfl ?_
  refine Rn.ald rfl ⟨by decide, rfl⟩ (17 + i) (x_wn (n := 17 + i) (by omega)) (by omega) ?_
  rw [(hM.2 i hi).2.1]
  refine Rn.run 1 (ls' := [_, _, _, _]) (st' := [_, _]) rfl ?_
  refine Rn.ald rfl ⟨by decide, rfl⟩ (3 + (bo i)) (x_wn (n := 3 + (bo i)) (by omega)) (by omega) ?_
  rw [l55 _ (by omega)]
  refine Rn.run 2 (ls' := [_, _, _, _]) (st' := [_]) rfl ?_
  refine Rn.run 1 rfl ?_
  refine Rn.run 1 (ls' := [_, _, _, _]) (st' := [_]) rfl ?_
  refine Rn.call rfl rfl rfl rfl rfl (c163 hn hM.1) ?_
  refine Rn.run 3 (ls' := [_, _, _, _]) (st' := [_, _, _]) rfl ?_
  refine Rn.ald rfl ⟨by decide, rfl⟩ (2) rfl (by decide) ?_
  rw [t2]
  refine Rn.run 3 (ls' := [_, _, _, _]) (st' := [_]) rfl ?_
  rw [bt_unt hn hT6]
  refine Rn.run 1 (ls' := [_, _, _, _]) (st' := [_, _]) rfl ?_
  refine Rn.call rfl rfl rfl rfl rfl (c164 ho hM) ?_
  refine Rn.run 3 (ls' := [_, _, _, _]) (st' := [_]) rfl ?_
  rw [bt_andn _ (unt_64 T hn) _ (bset_64 _ hn)]
  refine Rn.call rfl rfl rfl rfl rfl (c133 (Nat.xor_lt_two_pow (n := 6) (unt_64 T hn) (and_64 (unt_64 T hn)))) ?_
  exact Rn.ret rfl rfl rfl rfl (congrArg (fun z : Nat => xI (z : Int)) (mk6 kd T hn)) rfl
theorem g_mark {ex : xO} (a1 a2 : Int) (h1 : w32 a1 = a1) (h2 : w32 a2 = a2) : AgI ex 69 4 178 4 [xI a1, xI a2] := by
  intro d c b hI
  obtain ⟨n, kd, bo, wo, D, T, Mo, L, hP, hc, hm⟩ := Inv_St hI
  by_cases q1 : 0 ≤ a1 ∧ a1 < n
  · obtain ⟨i, hi, rfl⟩ : ∃ j : Nat, j < n ∧ a1 = (j : Int) := ⟨a1.toNat, by omega, by omega⟩
    by_cases q2 : 1 ≤ a2 ∧ a2 < 6
    · obtain ⟨k, hk, rfl⟩ : ∃ k : Nat, (1 ≤ k ∧ k < 6) ∧ a2 = (k : Int) := ⟨a2.toNat, by omega, by omega⟩
      by_cases hu : kd i = k ∨ (k = 1 ∧ (kd i = 4 ∨ kd i = 5))
      · rcases (by omega : k = 1 ∨ k = 2 ∨ k = 3 ∨ k = 4 ∨ k = 5) with rfl | rfl | rfl | rfl | rfl
        · exact Ag_same hI _ (k69_1 hP hc hi hk hu) (k178_1 hP hm hi hk hu)
        · exact Ag_same hI _ (k69_2 hP hc hi hk hu) (k178_2 hP hm hi hk hu)
        · exact Ag_scr hI _ (k69_3 hP hc hi hk hu) (k178_3 hP hm hi hk hu) (fun a z h => lf_out _ _ (fun e => h (by unfold scr; omega)))
        · exact Ag_same hI _ (k69_4 hP hc hi hk hu) (k178_4 hP hm hi hk hu)
        · exact Ag_same hI _ (k69_5 hP hc hi hk hu) (k178_5 hP hm hi hk hu)
      · refine Ag_find hI 3 (by decide) (k69_un hP hc hi hk hu) ?_
        have h := k178_un (ex := ex) (d := d) (b := b) hP (mS_fr (c' := xup (xup c 0 13 (3 : Nat)) 13 3 (c 13 3 + 1)) (fun k => by rw [xup_n _ _ (by omega), xup_n _ _ (by omega)]) hm) hi hk hu
        rw [xup_n _ _ (by omega), xup_n _ _ (by omega)] at h
        exact h
    · exact Ag_same hI (-1) (k69_b2 hP hc hi h2 q2) (k178_b2 hP hm hi h2 q2)
  · exact Ag_same hI (-1) (k69_b1 hP hc h1 q1) (k178_b1 hP hm h1 q1)
