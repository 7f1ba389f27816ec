-- surely
theorem z_all {n i : Nat} (hn : n ≤ 6) (hi : i ≤ 64) : (w32 (((2 ^ n : Nat) : Int) - 1) < w32 (i : Int)) ↔ 2 ^ n ≤ i := by
  have h1 : 1 ≤ 2 ^ n := Nat.one_le_two_pow
  have h2 := pp64 hn
  generalize 2 ^ n = q at *
  rw [x_w _ (by omega) (by omega), x_wn (by omega)]
  omega
theorem e2n (n : Nat) : ((2 ^ n : Nat) : Int) - 1 = ((2 ^ n - 1 : Nat) : Int) := by
  have h1 : 1 ≤ 2 ^ n := Nat.one_le_two_pow
  omega
theorem m64 {n : Nat} (hn : n ≤ 6) : 2 ^ n - 1 < 64 := by
  have h1 : 1 ≤ 2 ^ n := Nat.one_le_two_pow
  have h2 := pp64 hn
  omega
theorem fy_le (p : Nat → Bool) : ∀ m i y, y ≤ 1 → xit (fy p) m i y ≤ 1 := by
  intro m
  induction m with
  | zero => intro i y h; exact h
  | succ m ih =>
    intro i y h
    refine ih (i + 1) _ ?_
    unfold fy
    split <;> omega
theorem l88 {ex : xO} {d : Nat} {c : Nat → Nat → Int} {b : Bool} {n : Nat} {kd bo wo : Nat → Nat} (ho : gok n kd bo wo) (hC : cG c b n kd bo wo) {v : Nat} (hv : v < 55) {o : xV × xH} : ∀ (m i a e q : Nat), i + m = 2 ^ n → e < 64 → q < 64 → Rn ex xt88 (d + 1) 35 [xA 0, xI (v : Int), xI 0, xI ((xit (fc (fun s => decide (wsum wo n s = v))) m i a) : Nat), xI ((xit (fe (fun s => decide (wsum wo n s = v))) m i e) : Nat), xI ((xit (fo (fun s => decide (wsum wo n s = v))) m i q) : Nat), xI ((2 ^ n) : Nat)] [] (hp c b) o → Rn ex xt88 (d + 1) 35 [xA 0, xI (v : Int), xI 0, xI (a : Nat), xI (e : Nat), xI (q : Nat), xI (i : Nat)] [] (hp c b) o := by
  have hn := ho.1
  have hp2 := pp64 hn
  intro m
  induction m with
  | zero =>
    intro i a e q hm he hq kk
    obtain rfl : i = 2 ^ n := by omega
    exact kk
  | succ m ih =>
    intro i a e q hm he hq kk
    have r := ih (i + 1) (fc (fun s => decide (wsum wo n s = v)) i a) (fe (fun s => decide (wsum wo n s = v)) i e) (fo (fun s => decide (wsum wo n s = v)) i q) (by omega) (fe_64 he) (fo_64 hq) kk
    by_cases hw : wsum wo n i = v
    · have w1 : decide (wsum wo n i = v) = true := decide_eq_true hw
      rw [show fc (fun s => decide (wsum wo n s = v)) i a = a + 1 from congrArg (fun z => a + z) (if_pos w1), show fe (fun s => decide (wsum wo n s = v)) i e = e &&& i from if_pos w1, show fo (fun s => decide (wsum wo n s = v)) i q = q ^^^ (q &&& i) from if_pos w1] at r
      refine Rn.run 2 (ls' := [_, _, _, _, _, _, _]) (st' := [_, _]) rfl ?_
      refine Rn.getR rfl ⟨by decide, rfl, rfl⟩ (j := gid b) (rfl) ?_
      refine Rn.callV rfl (x_sv (xS_g b)) rfl rfl rfl (c17 hn hC.1) ?_
      refine Rn.gt2 rfl (fun e44 => absurd e44 (by exact fun h => absurd ((z_all hn (by omega)).mp h) (by omega))) (fun e44 => ?_)
      refine Rn.run 1 (ls' := [_, _, _, _, _, _, _]) (st' := [_]) rfl ?_
      refine Rn.getR rfl ⟨by decide, rfl, rfl⟩ (j := gid b) (rfl) ?_
      refine Rn.run 1 (ls' := [_, _, _, _, _, _, _]) (st' := [_, _]) rfl ?_
      refine Rn.callV rfl (x_sv (xS_g b)) rfl rfl rfl (c20 ho hC (by omega)) ?_
      refine Rn.run 1 (ls' := [_, _, _, _, _, _, _]) (st' := [_, _]) rfl ?_
      refine Rn.ne2 rfl (fun e57 => absurd e57 (by exact fun h => h ((z_w ho hv).mpr hw))) (fun e57 => ?_)
      refine Rn.run 4 (ls' := [_, _, _, _, _, _, _]) (st' := [_]) rfl ?_
      rw [bt_and e he i (by omega)]
      refine Rn.run 6 (ls' := [_, _, _, _, _, _, _]) (st' := [_]) rfl ?_
      rw [bt_andn q hq i (by omega)]
      refine Rn.run 3 (ls' := [_, _, _, _, _, _, _]) (st' := []) rfl ?_
      exact r
    · have w1 : ¬ decide (wsum wo n i = v) = true := fun q => hw (of_decide_eq_true q)
      rw [show fc (fun s => decide (wsum wo n s = v)) i a = a from congrArg (fun z => a + z) (if_neg w1), show fe (fun s => decide (wsum wo n s = v)) i e = e from if_neg w1, show fo (fun s => decide (wsum wo n s = v)) i q = q from if_neg w1] at r
      refine Rn.run 2 (ls' := [_, _, _, _, _, _, _]) (st' := [_, _]) rfl ?_
      refine Rn.getR rfl ⟨by decide, rfl, rfl⟩ (j := gid b) (rfl) ?_
      refine Rn.callV rfl (x_sv (xS_g b)) rfl rfl rfl (c17 hn hC.1) ?_
      refine Rn.gt2 rfl (fun e44 => absurd e44 (by exact fun h => absurd ((z_all hn (by omega)).mp h) (by omega))) (fun e44 => ?_)
      refine Rn.run 1 (ls' := [_, _, _, _, _, _, _]) (st' := [_]) rfl ?_
      refine Rn.getR rfl ⟨by decide, rfl, rfl⟩ (j := gid b) (rfl) ?_
      refine Rn.run 1 (ls' := [_, _, _, _, _, _, _]) (st' := [_, _]) rfl ?_
      refine Rn.callV rfl (x_sv (xS_g b)) rfl rfl rfl (c20 ho hC (by omega)) ?_
      refine Rn.run 1 (ls' := [_, _, _, _, _, _, _]) (st' := [_, _]) rfl ?_
      refine Rn.ne2 rfl (fun e57 => ?_) (fun e57 => absurd e57 (by exact fun h => h (fun q => hw ((z_w ho hv).mp q))))
      refine Rn.run 2 (ls' := [_, _, _, _, _, _, _]) (st' := []) rfl ?_
      exact r
theorem l211 {ex : xO} {d : Nat} {c : Nat → Nat → Int} {b : Bool} {n : Nat} {kd bo wo : Nat → Nat} (ho : gok n kd bo wo) (hM : mG c n kd bo wo) {v : Nat} (hv : v < 55) {o : xV × xH} : ∀ (m i e q y : Nat), i + m = 2 ^ n → e < 64 → q < 64 → Rn ex xt211 (d + 2) 42 [xA 54, xI (v : Int), xI ((xit (fe (fun s => decide (wsum wo n s = v))) m i e) : Nat), xI ((xit (fo (fun s => decide (wsum wo n s = v))) m i q) : Nat), xI ((xit (fy (fun s => decide (wsum wo n s = v))) m i y) : Nat), xI ((2 ^ n) : Nat)] [] (hp c b) o → Rn ex xt211 (d + 2) 42 [xA 54, xI (v : Int), xI (e : Nat), xI (q : Nat), xI (y : Nat), xI (i : Nat)] [] (hp c b) o := by
  have hn := ho.1
  have hp2 := pp64 hn
  intro m
  induction m with
  | zero =>
    intro i e q y hm he hq kk
    obtain rfl : i = 2 ^ n := by omega
    exact kk
  | succ m ih =>
    intro i e q y hm he hq kk
    have r := ih (i + 1) (fe (fun s => decide (wsum wo n s = v)) i e) (fo (fun s => decide (wsum wo n s = v)) i q) (fy (fun s => decide (wsum wo n s = v)) i y) (by omega) (fe_64 he) (fo_64 hq) kk
    by_cases hw : wsum wo n i = v
    · have w1 : decide (wsum wo n i = v) = true := decide_eq_true hw
      rw [show fe (fun s => decide (wsum wo n s = v)) i e = e &&& i from if_pos w1, show fo (fun s => decide (wsum wo n s = v)) i q = q ^^^ (q &&& i) from if_pos w1, show fy (fun s => decide (wsum wo n s = v)) i y = 1 from if_pos w1] at r
      refine Rn.run 2 (ls' := [_, _, _, _, _, _]) (st' := [_, _]) rfl ?_
      refine Rn.call rfl rfl rfl rfl rfl (c163 hn hM.1) ?_
      refine Rn.gt2 rfl (fun e48 => absurd e48 (by exact fun h => absurd ((z_all hn (by omega)).mp h) (by omega))) (fun e48 => ?_)
      refine Rn.run 2 (ls' := [_, _, _, _, _, _]) (st' := [_, _]) rfl ?_
      refine Rn.call rfl rfl rfl rfl rfl (c209 ho hM (by omega)) ?_
      refine Rn.run 1 (ls' := [_, _, _, _, _, _]) (st' := [_, _]) rfl ?_
      refine Rn.ne2 rfl (fun e58 => absurd e58 (by exact fun h => h ((z_w ho hv).mpr hw))) (fun e58 => ?_)
      refine Rn.run 3 (ls' := [_, _, _, _, _, _]) (st' := [_]) rfl ?_
      rw [bt_and e he i (by omega)]
      refine Rn.run 6 (ls' := [_, _, _, _, _, _]) (st' := [_]) rfl ?_
      rw [bt_andn q hq i (by omega)]
      refine Rn.run 5 (ls' := [_, _, _, _, _, _]) (st' := []) rfl ?_
      exact r
    · have w1 : ¬ decide (wsum wo n i = v) = true := fun q => hw (of_decide_eq_true q)
      rw [show fe (fun s => decide (wsum wo n s = v)) i e = e from if_neg w1, show fo (fun s => decide (wsum wo n s = v)) i q = q from if_neg w1, show fy (fun s => decide (wsum wo n s = v)) i y = y from if_neg w1] at r
      refine Rn.run 2 (ls' := [_, _, _, _, _, _]) (st' := [_, _]) rfl ?_
      refine Rn.call rfl rfl rfl rfl rfl (c163 hn hM.1) ?_
      refine Rn.gt2 rfl (fun e48 => absurd e48 (by exact fun h => absurd ((z_all hn (by omega)).mp h) (by omega))) (fun e48 => ?_)
      refine Rn.run 2 (ls' := [_, _, _, _, _, _]) (st' := [_, _]) rfl ?_
      refine Rn.call rfl rfl rfl rfl rfl (c209 ho hM (by omega)) ?_
      refine Rn.run 1 (ls' := [_, _, _, _, _, _]) (st' := [_, _]) rfl ?_
      refine Rn.ne2 rfl (fun e58 => ?_) (fun e58 => absurd e58 (by exact fun h => h (fun q => hw ((z_w ho hv).mp q))))
      refine Rn.run 2 (ls' := [_, _, _, _, _, _]) (st' := []) rfl ?_
      exact r
theorem k88_b {ex : xO} {d : Nat} {c : Nat → Nat → Int} {b : Bool}  {a1 : Int} (h1 : w32 a1 = a1) (q1 : ¬ (0 ≤ a1 ∧ a1 < 55)) : An ex (d + 20) 88 7 [xA 0, xI a1] (hp c b) (xI (-1), hp (c) b) := by
  refine Rn.run 2 (ls' := [_, _, _, _, _, _, _]) (st' := [_, _]) rfl ?_
  refine Rn.call rfl rfl rfl rfl rfl (k111_b h1 q1) ?_
  refine Rn.run 2 (ls' := [_, _, _, _, _, _, _]) (st' := [_]) rfl ?_
  refine Rn.eq0 rfl (fun e7 => absurd e7 (by decide)) (fun e7 => ?_)
  refine Rn.run 1 (ls' := [_, _, _, _, _, _, _]) (st' := [_]) rfl ?_
  exact Rn.ret rfl rfl rfl rfl rfl rfl
theorem k88_s {ex : xO} {d : Nat} {c : Nat → Nat → Int} {b : Bool} {n D T Mo : Nat} {kd bo wo L : Nat → Nat} (hP : pS n kd bo wo D T Mo L) (hc : cS c b n kd bo wo D T Mo L) {v : Nat} (hv : v < 55) (h0 : n = 0) : An ex (d + 20) 88 7 [xA 0, xI (v : Int)] (hp c b) (xI (-4), hp (c) b) := by
  obtain ⟨ho, h40, hT, h9, hMo⟩ := hP
  obtain ⟨hC, d7, t9, hL, m10⟩ := hc
  have hn := ho.1
  have hT6 := p64 hn hT
  refine Rn.run 2 (ls' := [_, _, _, _, _, _, _]) (st' := [_, _]) rfl ?_
  refine Rn.call rfl rfl rfl rfl rfl (k111_s ⟨ho, h40, hT, h9, hMo⟩ ⟨hC, d7, t9, hL, m10⟩ hv h0) ?_
  refine Rn.run 2 (ls' := [_, _, _, _, _, _, _]) (st' := [_]) rfl ?_
  refine Rn.eq0 rfl (fun e7 => absurd e7 (by decide)) (fun e7 => ?_)
  refine Rn.run 1 (ls' := [_, _, _, _, _, _, _]) (st' := [_]) rfl ?_
  exact Rn.ret rfl rfl rfl rfl rfl rfl
theorem k88_n {ex : xO} {d : Nat} {c : Nat → Nat → Int} {b : Bool} {n D T Mo : Nat} {kd bo wo L : Nat → Nat} (hP : pS n kd bo wo D T Mo L) (hc : cS c b n kd bo wo D T Mo L) {v : Nat} (hv : v < 55) (h0 : n ≠ 0) (hz : cnt (fun s => decide (wsum wo n s = v)) (2 ^ n) = 0) : An ex (d + 20) 88 7 [xA 0, xI (v : Int)] (hp c b) (xI (-3), hp (xup (xup c 0 13 4) 13 4 (c 13 4 + 1)) b) := by
  obtain ⟨ho, h40, hT, h9, hMo⟩ := hP
  obtain ⟨hC, d7, t9, hL, m10⟩ := hc
  have hn := ho.1
  have hT6 := p64 hn hT
  have hp2 := pp64 hn
  have hcl := cnt_le (fun s => decide (wsum wo n s = v)) (2 ^ n)
  have hcl2 : cnt (fun s => decide (wsum wo n s = v)) (2 ^ n) < 2147483648 := by omega
  have hall := (z_all hn hp2).mpr (Nat.le_refl (2 ^ n))
  refine Rn.run 2 (ls' := [_, _, _, _, _, _, _]) (st' := [_, _]) rfl ?_
  refine Rn.call rfl rfl rfl rfl rfl (k111_o ⟨ho, h40, hT, h9, hMo⟩ ⟨hC, d7, t9, hL, m10⟩ hv h0) ?_
  refine Rn.run 2 (ls' := [_, _, _, _, _, _, _]) (st' := [_]) rfl ?_
  refine Rn.eq0 rfl (fun e7 => ?_) (fun e7 => absurd e7 (by decide))
  refine Rn.run 3 (ls' := [_, _, _, _, _, _, _]) (st' := [_]) rfl ?_
  refine Rn.getR rfl ⟨by decide, rfl, rfl⟩ (j := gid b) (rfl) ?_
  refine Rn.callV rfl (x_sv (xS_g b)) rfl rfl rfl (c17 hn hC.1) ?_
  rw [e2n]
  refine Rn.run 2 (ls' := [_, _, _, _, _, _, _]) (st' := [_]) rfl ?_
  refine Rn.getR rfl ⟨by decide, rfl, rfl⟩ (j := gid b) (rfl) ?_
  refine Rn.callV rfl (x_sv (xS_g b)) rfl rfl rfl (c17 hn hC.1) ?_
  rw [e2n]
  refine Rn.run 3 (ls' := [_, _, _, _, _, _, _]) (st' := []) rfl ?_
  refine l88 (d := d + 19) ho hC hv (2 ^ n) 0 0 (2 ^ n - 1) (2 ^ n - 1) (Nat.zero_add _) (m64 hn) (m64 hn) ?_
  rw [xit_cnt]
  refine Rn.run 2 (ls' := [_, _, _, _, _, _, _]) (st' := [_, _]) rfl ?_
  refine Rn.getR rfl ⟨by decide, rfl, rfl⟩ (j := gid b) (rfl) ?_
  refine Rn.callV rfl (x_sv (xS_g b)) rfl rfl rfl (c17 hn hC.1) ?_
  refine Rn.gt2 rfl (fun e44 => ?_) (fun e44 => absurd e44 (by exact fun h => h hall))
  refine Rn.run 1 (ls' := [_, _, _, _, _, _, _]) (st' := [_]) rfl ?_
  refine Rn.ne0 rfl (fun e86 => absurd e86 (by exact fun h => h ((y_eq0 hcl2).mpr hz))) (fun e86 => ?_)
  refine Rn.run 2 (ls' := [_, _, _, _, _, _, _]) (st' := [_, _]) rfl ?_
  refine Rn.call rfl rfl rfl rfl rfl (c101 4 rfl (by decide)) ?_
  exact Rn.ret rfl rfl rfl rfl rfl rfl
theorem k88_o {ex : xO} {d : Nat} {c : Nat → Nat → Int} {b : Bool} {n D T Mo : Nat} {kd bo wo L : Nat → Nat} (hP : pS n kd bo wo D T Mo L) (hc : cS c b n kd bo wo D T Mo L) {v : Nat} (hv : v < 55) (h0 : n ≠ 0) (hz : cnt (fun s => decide (wsum wo n s = v)) (2 ^ n) ≠ 0) : An ex (d + 20) 88 7 [xA 0, xI (v : Int)] (hp c b) (xI ((xit (fe (fun s => decide (wsum wo n s = v))) (2 ^ n) 0 (2 ^ n - 1) : Nat) : Int), hp (xup c 0 10 ((xit (fo (fun s => decide (wsum wo n s = v))) (2 ^ n) 0 (2 ^ n - 1) : Nat) : Int)) b) := by
  obtain ⟨ho, h40, hT, h9, hMo⟩ := hP
  obtain ⟨hC, d7, t9, hL, m10⟩ := hc
  have hn := ho.1
  have hT6 := p64 hn hT
  have hp2 := pp64 hn
  have hcl := cnt_le (fun s => decide (wsum wo n s = v)) (2 ^ n)
  have hcl2 : cnt (fun s => decide (wsum wo n s = v)) (2 ^ n) < 2147483648 := by omega
  have hall := (z_all hn hp2).mpr (Nat.le_refl (2 ^ n))
  refine Rn.run 2 (ls' := [_, _, _, _, _, _, _]) (st' := [_, _]) rfl ?_
  refine Rn.call rfl rfl rfl rfl rfl (k111_o ⟨ho, h40, hT, h9, hMo⟩ ⟨hC, d7, t9, hL, m10⟩ hv h0) ?_
  refine Rn.run 2 (ls' := [_, _, _, _, _, _, _]) (st' := [_]) rfl ?_
  refine Rn.eq0 rfl (fun e7 => ?_) (fun e7 => absurd e7 (by decide))
  refine Rn.run 3 (ls' := [_, _, _, _, _, _, _]) (st' := [_]) rfl ?_
  refine Rn.getR rfl ⟨by decide, rfl, rfl⟩ (j := gid b) (rfl) ?_
  refine Rn.callV rfl (x_sv (xS_g b)) rfl rfl rfl (c17 hn hC.1) ?_
  rw [e2n]
  refine Rn.run 2 (ls' := [_, _, _, _, _, _, _]) (st' := [_]) rfl ?_
  refine Rn.getR rfl ⟨by decide, rfl, rfl⟩ (j := gid b) (rfl) ?_
  refine Rn.callV rfl (x_sv (xS_g b)) rfl rfl rfl (c17 hn hC.1) ?_
  rw [e2n]
  refine Rn.run 3 (ls' := [_, _, _, _, _, _, _]) (st' := []) rfl ?_
  refine l88 (d := d + 19) ho hC hv (2 ^ n) 0 0 (2 ^ n - 1) (2 ^ n - 1) (Nat.zero_add _) (m64 hn) (m64 hn) ?_
  rw [xit_cnt]
  refine Rn.run 2 (ls' := [_, _, _, _, _, _, _]) (st' := [_, _]) rfl ?_
  refine Rn.getR rfl ⟨by decide, rfl, rfl⟩ (j := gid b) (rfl) ?_
  refine Rn.callV rfl (x_sv (xS_g b)) rfl rfl rfl (c17 hn hC.1) ?_
  refine Rn.gt2 rfl (fun e44 => ?_) (fun e44 => absurd e44 (by exact fun h => h hall))
  refine Rn.run 1 (ls' := [_, _, _, _, _, _, _]) (st' := [_]) rfl ?_
  refine Rn.ne0 rfl (fun e86 => ?_) (fun e86 => absurd e86 (by exact fun h => h (fun z => hz ((y_eq0 hcl2).mp z))))
  refine Rn.run 2 (ls' := [_, _, _, _, _, _, _]) (st' := [_, _]) rfl ?_
  refine Rn.call rfl rfl rfl rfl rfl (c102) ?_
  refine Rn.run 2 (ls' := [_, _, _, _, _, _, _]) (st' := [_]) rfl ?_
  exact Rn.ret rfl rfl rfl rfl rfl rfl
theorem k211_b {ex : xO} {d : Nat} {c : Nat → Nat → Int} {b : Bool}  {a1 : Int} (h1 : w32 a1 = a1) (q1 : ¬ (0 ≤ a1 ∧ a1 < 55)) : An ex (d + 20) 211 6 [xA 54, xI a1] (hp c b) (xI (-1), hp (c) b) := by
  refine Rn.run 4 (ls' := [_, _, _, _, _, _]) (st' := [_, _, _]) rfl ?_
  refine Rn.call rfl rfl rfl rfl rfl (c131) ?_
  refine Rn.neB rfl (fun e9 => absurd e9 (by exact (z_no9 (m := 54) h1 (by omega) q1))) (fun e9 => ?_)
  refine Rn.run 1 (ls' := [_, _, _, _, _, _]) (st' := [_]) rfl ?_
  exact Rn.ret rfl rfl rfl rfl rfl rfl
theorem k211_s {ex : xO} {d : Nat} {c : Nat → Nat → Int} {b : Bool} {n D T Mo : Nat} {kd bo wo L : Nat → Nat} (hP : pS n kd bo wo D T Mo L) (hm : mS c n kd bo wo D T Mo L) {v : Nat} (hv : v < 55) (h0 : n = 0) : An ex (d + 20) 211 6 [xA 54, xI (v : Int)] (hp c b) (xI (-4), hp (c) b) := by
  obtain ⟨ho, h40, hT, h9, hMo⟩ := hP
  obtain ⟨hM, d29, t2, l55, m1⟩ := hm
  have hn := ho.1
  have hT6 := p64 hn hT
  refine Rn.run 4 (ls' := [_, _, _, _, _, _]) (st' := [_, _, _]) rfl ?_
  refine Rn.call rfl rfl rfl rfl rfl (c131) ?_
  refine Rn.neB rfl (fun e9 => ?_) (fun e9 => absurd e9 (by exact fun h => h (z_in9 (m := 54) (by omega) (by omega))))
  refine Rn.run 3 (ls' := [_, _, _, _, _, _]) (st' := [_, _]) rfl ?_
  refine Rn.ald rfl ⟨by decide, rfl⟩ (0) rfl (by decide) ?_
  rw [hM.1]
  refine Rn.ne0 rfl (fun e20 => absurd e20 (by rw [h0]; decide)) (fun e20 => ?_)
  refine Rn.run 1 (ls' := [_, _, _, _, _, _]) (st' := [_]) rfl ?_
  exact Rn.ret rfl rfl rfl rfl rfl rfl
theorem k211_n {ex : xO} {d : Nat} {c : Nat → Nat → Int} {b : Bool} {n D T Mo : Nat} {kd bo wo L : Nat → Nat} (hP : pS n kd bo wo D T Mo L) (hm : mS c n kd bo wo D T Mo L) {v : Nat} (hv : v < 55) (h0 : n ≠ 0) (hz : cnt (fun s => decide (wsum wo n s = v)) (2 ^ n) = 0) : An ex (d + 20) 211 6 [xA 54, xI (v : Int)] (hp c b) (xI (-3), hp (xup (xup c 54 5 4) 60 4 (c 60 4 + 1)) b) := by
  obtain ⟨ho, h40, hT, h9, hMo⟩ := hP
  obtain ⟨hM, d29, t2, l55, m1⟩ := hm
  have hn := ho.1
  have hT6 := p64 hn hT
  have hp2 := pp64 hn
  have hall := (z_all hn hp2).mpr (Nat.le_refl (2 ^ n))
  have hy := fy_le (fun s => decide (wsum wo n s = v)) (2 ^ n) 0 0 (by omega)
  have hy2 : xit (fy (fun s => decide (wsum wo n s = v))) (2 ^ n) 0 0 < 2147483648 := by omega
  have hyz := fy_0 (fun s => decide (wsum wo n s = v)) (2 ^ n) 0 0 0 Iff.rfl
  refine Rn.run 4 (ls' := [_, _, _, _, _, _]) (st' := [_, _, _]) rfl ?_
  refine Rn.call rfl rfl rfl rfl rfl (c131) ?_
  refine Rn.neB rfl (fun e9 => ?_) (fun e9 => absurd e9 (by exact fun h => h (z_in9 (m := 54) (by omega) (by omega))))
  refine Rn.run 3 (ls' := [_, _, _, _, _, _]) (st' := [_, _]) rfl ?_
  refine Rn.ald rfl ⟨by decide, rfl⟩ (0) rfl (by decide) ?_
  rw [hM.1]
  refine Rn.ne0 rfl (fun e20 => ?_) (fun e20 => absurd e20 (by exact fun h => h (z_ne0 h0 hn)))
  refine Rn.run 1 (ls' := [_, _, _, _, _, _]) (st' := [_]) rfl ?_
  refine Rn.call rfl rfl rfl rfl rfl (c163 hn hM.1) ?_
  rw [e2n]
  refine Rn.run 2 (ls' := [_, _, _, _, _, _]) (st' := [_]) rfl ?_
  refine Rn.call rfl rfl rfl rfl rfl (c163 hn hM.1) ?_
  rw [e2n]
  refine Rn.run 5 (ls' := [_, _, _, _, _, _]) (st' := []) rfl ?_
  refine l211 (d := d + 18) ho hM hv (2 ^ n) 0 (2 ^ n - 1) (2 ^ n - 1) 0 (Nat.zero_add _) (m64 hn) (m64 hn) ?_
  refine Rn.run 2 (ls' := [_, _, _, _, _, _]) (st' := [_, _]) rfl ?_
  refine Rn.call rfl rfl rfl rfl rfl (c163 hn hM.1) ?_
  refine Rn.gt2 rfl (fun e48 => ?_) (fun e48 => absurd e48 (by exact fun h => h hall))
  refine Rn.run 1 (ls' := [_, _, _, _, _, _]) (st' := [_]) rfl ?_
  refine Rn.ne0 rfl (fun e84 => absurd e84 (by exact fun h => h ((y_eq0 hy2).mpr (hyz.mpr hz)))) (fun e84 => ?_)
  refine Rn.run 2 (ls' := [_, _, _, _, _, _]) (st' := [_, _]) rfl ?_
  refine Rn.call rfl rfl rfl rfl rfl (c134 4 rfl (by decide)) ?_
  exact Rn.ret rfl rfl rfl rfl rfl rfl
theorem k211_o {ex : xO} {d : Nat} {c : Nat → Nat → Int} {b : Bool} {n D T Mo : Nat} {kd bo wo L : Nat → Nat} (hP : pS n kd bo wo D T Mo L) (hm : mS c n kd bo wo D T Mo L) {v : Nat} (hv : v < 55) (h0 : n ≠ 0) (hz : cnt (fun s => decide (wsum wo n s = v)) (2 ^ n) ≠ 0) : An ex (d + 20) 211 6 [xA 54, xI (v : Int)] (hp c b) (xI ((xit (fe (fun s => decide (wsum wo n s = v))) (2 ^ n) 0 (2 ^ n - 1) : Nat) : Int), hp (xup c 54 7 ((xit (fo (fun s => decide (wsum wo n s = v))) (2 ^ n) 0 (2 ^ n - 1) : Nat) : Int)) b) := by
  obtain ⟨ho, h40, hT, h9, hMo⟩ := hP
  obtain ⟨hM, d29, t2, l55, m1⟩ := hm
  have hn := ho.1
  have hT6 := p64 hn hT
  have hp2 := pp64 hn
  have hall := (z_all hn hp2).mpr (Nat.le_refl (2 ^ n))
  have hy := fy_le (fun s => decide (wsum wo n s = v)) (2 ^ n) 0 0 (by omega)
  have hy2 : xit (fy (fun s => decide (wsum wo n s = v))) (2 ^ n) 0 0 < 2147483648 := by omega
  have hyz := fy_0 (fun s => decide (wsum wo n s = v)) (2 ^ n) 0 0 0 Iff.rfl
  refine Rn.run 4 (ls' := [_, _, _, _, _, _]) (st' := [_, _, _]) rfl ?_
  refine Rn.call rfl rfl rfl rfl rfl (c131) ?_
  refine Rn.neB rfl (fun e9 => ?_) (fun e9 => absurd e9 (by exact fun h => h (z_in9 (m := 54) (by omega) (by omega))))
  refine Rn.run 3 (ls' := [_, _, _, _, _, _]) (st' := [_, _]) rfl ?_
  refine Rn.ald rfl ⟨by decide, rfl⟩ (0) rfl (by decide) ?_
  rw [hM.1]
  refine Rn.ne0 rfl (fun e20 => ?_) (fun e20 => absurd e20 (by exact fun h => h (z_ne0 h0 hn)))
  refine Rn.run 1 (ls' := [_, _, _, _, _, _]) (st' := [_]) rfl ?_
  refine Rn.call rfl rfl rfl rfl rfl (c163 hn hM.1) ?_
  rw [e2n]
  refine Rn.run 2 (ls' := [_, _, _, _, _, _]) (st' := [_]) rfl ?_
  refine Rn.call rfl rfl rfl rfl rfl (c163 hn hM.1) ?_
  rw [e2n]
  refine Rn.run 5 (ls' := [_, _, _, _, _, _]) (st' := []) rfl ?_
  refine l211 (d := d + 18) ho hM hv (2 ^ n) 0 (2 ^ n - 1) (2 ^ n - 1) 0 (Nat.zero_add _) (m64 hn) (m64 hn) ?_
  refine Rn.run 2 (ls' := [_, _, _, _, _, _]) (st' := [_, _]) rfl ?_
  refine Rn.call rfl rfl rfl rfl rfl (c163 hn hM.1) ?_
  refine Rn.gt2 rfl (fun e48 => ?_) (fun e48 => absurd e48 (by exact fun h => h hall))
  refine Rn.run 1 (ls' := [_, _, _, _, _, _]) (st' := [_]) rfl ?_
  refine Rn.ne0 rfl (fun e84 => ?_) (fun e84 => absurd e84 (by exact fun h => h (fun z => hz (hyz.mp ((y_eq0 hy2).mp z)))))
  refine Rn.run 4 (ls' := [_, _, _, _, _, _]) (st' := [_]) rfl ?_
  exact Rn.ret rfl rfl rfl rfl rfl rfl
theorem Ag_find2 {ex : xO} {mc lc mm lm : Nat} {as : List xV} {d : Nat} {c : Nat → Nat → Int} {b : Bool} (hI : Inv c b) (f : Nat) (hf : f < 6) (h1 : An ex (d + 20) mc lc (xA 0 :: as) (hp c b) (xI (-3), hp (xup (xup c 0 13 f) 13 f (c 13 f + 1)) b)) (h2 : ∀ c', (∀ a k, a ≠ 0 → a ≠ 13 → c' a k = c a k) → An ex (d + 20) mm lm (xA 54 :: as) (hp c' b) (xI (-3), hp (xup (xup c' 54 5 f) 60 f (c' 60 f + 1)) b)) :
    ∃ v1 v2 c1 b1 c2 b2, An ex (d + 20) mc lc (xA 0 :: as) (hp c b) (xI v1, hp c1 b1) ∧ An ex (d + 20) mm lm (xA 54 :: as) (hp c1 b1) (xI v2, hp c2 b2) ∧ w32 v1 = w32 v2 ∧ Inv c2 b2 := by
  have h3 := h2 (xup (xup c 0 13 f) 13 f (c 13 f + 1)) (fun a k h1 h2 => by rw [xup_n _ _ (by omega), xup_n _ _ (by omega)])
  rw [show xup (xup c 0 13 (f : Int)) 13 f (c 13 f + 1) 60 f = c 60 f by rw [xup_n _ _ (by omega), xup_n _ _ (by omega)]] at h3
  exact ⟨_, _, _, b, _, b, h1, h3, rfl, Inv_find hI hf⟩
theorem g_surely {ex : xO} (a1 : Int) (h1 : w32 a1 = a1) : AgI ex 88 7 211 6 [xI a1] := by
  intro d c b hI
  obtain ⟨n, kd, bo, wo, D, T, Mo, L, hP, hc, hm⟩ := Inv_St hI
  by_cases q1 : 0 ≤ a1 ∧ a1 < 55
  · obtain ⟨v, hv, rfl⟩ : ∃ j : Nat, j < 55 ∧ a1 = (j : Int) := ⟨a1.toNat, by omega, by omega⟩
    by_cases h0 : n = 0
    · exact Ag_same hI (-4) (k88_s hP hc hv h0) (k211_s hP hm hv h0)
    · by_cases hz : cnt (fun s => decide (wsum wo n s = v)) (2 ^ n) = 0
      · exact Ag_find2 hI 4 (by decide) (k88_n hP hc hv h0 hz) (fun c' hf => k211_n hP (mS_fr (fun k => hf 55 k (by decide) (by decide)) hm) hv h0 hz)
      · exact Ag_ask hI _ _ (k88_o hP hc hv h0 hz) (k211_o hP (mS_fr (fun k => xup_n _ _ (Or.inl (by decide))) hm) hv h0 hz) (fun _ _ _ => rfl)
  · exact Ag_same hI (-1) (k88_b h1 q1) (k211_b h1 q1)
