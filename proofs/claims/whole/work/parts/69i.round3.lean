-- round: rows, the method
def lyi (c : Nat → Nat → Int) (r N : Nat) : Nat → Nat → Int := xrow (xfl2 (xup c (22 + 2 * r) 0 (N : Nat)) (23 + 2 * r) 0 40 0) (23 + 2 * r) (xcp (xfl2 (xup c (22 + 2 * r) 0 (N : Nat)) (23 + 2 * r) 0 40 0 6) (xfl2 (xup c (22 + 2 * r) 0 (N : Nat)) (23 + 2 * r) 0 40 0 (23 + 2 * r)) 0 0 N)
theorem lyi_o (c : Nat → Nat → Int) {r N a z : Nat} (h1 : a ≠ 22 + 2 * r) (h2 : a ≠ 23 + 2 * r) : lyi c r N a z = c a z := by
  unfold lyi
  rw [xrow_n _ _ h2, xfl2_out _ _ (Or.inl h2), xup_n _ _ (Or.inl h1)]
theorem lyi_0 (c : Nat → Nat → Int) {r N : Nat} : lyi c r N (22 + 2 * r) 0 = (N : Nat) := by
  unfold lyi
  rw [xrow_n _ _ (by omega), xfl2_out _ _ (by omega), xup_s]
theorem lyi_k (c : Nat → Nat → Int) {r N k : Nat} (hk : k < 40) : lyi c r N (23 + 2 * r) k = if k < N then c 6 k else 0 := by
  unfold lyi
  rw [xrow_s _ _ rfl]
  by_cases h : k < N
  · rw [xcp_in _ _ h, if_pos h, xfl2_out _ _ (by omega), xup_n _ _ (by omega)]
  · unfold xcp
    rw [if_neg (by omega), if_neg h, xfl2_in _ _ (by omega)]
theorem c39 {ex : xO} {d : Nat} {b : Bool} {c : Nat → Nat → Int} {r N : Nat} (hr : r < 6) (hN : N ≤ 6) (h2 : c 4 2 = (N : Nat)) : An ex (d + 2) 39 2 [xA 4, xA (22 + 2 * r)] (hp c b) (xU, hp (lyi c r N) b) := by
  have N31 : N < 2147483648 := by omega
  have N6 : 0 + N ≤ 6 := by omega
  have N40 : 0 + N ≤ 40 := by omega
  refine Rn.run 3 (ls' := [_, _]) (st' := [_, _]) rfl ?_
  rw [h2]
  refine Rn.callV rfl (x_sv (xS_row hr)) rfl rfl rfl (c48 hr (x_wn N31) (by omega) (by omega)) ?_
  refine Rn.run 4 (ls' := [_, _]) (st' := [_, _, _]) rfl ?_
  refine Rn.getR rfl (xS_row hr) (xR_row hr).2 ?_
  refine Rn.run 3 (ls' := [_, _]) (st' := [_, _, _, _, _]) rfl ?_
  rw [xfl2_out _ _ (by omega), xup_n _ _ (by omega), h2]
  refine Rn.cpy rfl (by omega) rfl ⟨by decide, rfl⟩ (xS_pl hr) 0 0 N rfl rfl (x_wn N31) N6 N40 ?_
  exact Rn.ret rfl rfl rfl rfl rfl rfl
theorem l195 {ex : xO} {d : Nat} {b : Bool} {r N : Nat} {f : Nat → Nat} (hr : r < 6) (hN : N ≤ 6) : ∀ (m k : Nat) (c : Nat → Nat → Int), k + m = 40 → (∀ i, i < N → c 65 i = (f i : Nat)) → Rn ex xt195 d 9 [xA 54, xI (N : Int), xI (r : Int), xI (k : Int)] [] (hp c b) (xU, hp (xfl3 c 57 (40 * r + k) (40 * r + 40) (fun x => if x - 40 * r < N then ((f (x - 40 * r) : Nat) : Int) else 0)) b) := by
  intro m
  induction m with
  | zero =>
    intro k c hm hf
    obtain rfl : k = 40 := by omega
    rw [xfl3_e]
    refine Rn.run 2 (ls' := [_, _, _, _]) (st' := [_, _]) rfl ?_
    refine Rn.ge2 rfl (fun e12 => ?_) (fun e12 => absurd e12 (by decide))
    exact Rn.ret rfl rfl rfl rfl rfl rfl
  | succ m ih =>
    intro k c hm hf
    have k31 : k < 2147483648 := by omega
    have N31 : N < 2147483648 := by omega
    have i31 : 40 * r + k < 2147483648 := by omega
    have i24 : 40 * r + k < 240 := by omega
    have nk : ¬ w32 40 ≤ w32 (k : Int) := fun h => absurd ((y_ge (n := 40) (by omega) (by omega)).mp h) (by omega)
    rw [← xfl3_s c (fun x => if x - 40 * r < N then ((f (x - 40 * r) : Nat) : Int) else 0) (show 40 * r + k < 40 * r + 40 by omega)]
    have ef : (fun x => if x - 40 * r < N then ((f (x - 40 * r) : Nat) : Int) else 0) (40 * r + k) = if k < N then ((f k : Nat) : Int) else 0 := by
      show (if 40 * r + k - 40 * r < N then ((f (40 * r + k - 40 * r) : Nat) : Int) else 0) = _
      rw [Nat.add_sub_cancel_left]
    have q := ih (k + 1) (xup c 57 (40 * r + k) ((fun x => if x - 40 * r < N then ((f (x - 40 * r) : Nat) : Int) else 0) (40 * r + k))) (by omega) (fun i hi => by rw [xup_n _ _ (by omega)]; exact hf i hi)
    rw [ef] at q
    rw [Nat.add_sub_cancel_left]
    by_cases hk : k < N
    · have k6 : k < 6 := by omega
      rw [if_pos hk] at q ⊢
      refine Rn.run 2 (ls' := [_, _, _, _]) (st' := [_, _]) rfl ?_
      refine Rn.ge2 rfl (fun e12 => absurd e12 (by exact nk)) (fun e12 => ?_)
      refine Rn.run 9 (ls' := [_, _, _, _]) (st' := [_, _, _, _]) rfl ?_
      refine Rn.ge2 rfl (fun e27 => absurd e27 (by exact fun h => absurd ((y_ge k31 N31).mp h) (Nat.not_le.mpr hk))) (fun e27 => ?_)
      refine Rn.run 3 (ls' := [_, _, _, _]) (st' := [_, _, _, _]) rfl ?_
      refine Rn.ald rfl ⟨by decide, rfl⟩ (k) (x_wn k31) k6 ?_
      rw [hf k hk]
      refine Rn.run 1 (ls' := [_, _, _, _]) (st' := [_, _, _]) rfl ?_
      refine Rn.ast rfl ⟨by decide, rfl⟩ (40 * r + k) (x_wn i31) i24 ?_
      refine Rn.run 2 (ls' := [_, _, _, _]) (st' := []) rfl ?_
      exact q
    · rw [if_neg hk] at q ⊢
      refine Rn.run 2 (ls' := [_, _, _, _]) (st' := [_, _]) rfl ?_
      refine Rn.ge2 rfl (fun e12 => absurd e12 (by exact nk)) (fun e12 => ?_)
      refine Rn.run 9 (ls' := [_, _, _, _]) (st' := [_, _, _, _]) rfl ?_
      refine Rn.ge2 rfl (fun e27 => ?_) (fun e27 => absurd e27 (by exact fun h => h ((y_ge k31 N31).mpr (Nat.not_lt.mp hk))))
      refine Rn.run 1 (ls' := [_, _, _, _]) (st' := [_, _, _]) rfl ?_
      refine Rn.ast rfl ⟨by decide, rfl⟩ (40 * r + k) (x_wn i31) i24 ?_
      refine Rn.run 2 (ls' := [_, _, _, _]) (st' := []) rfl ?_
      exact q
theorem c195 {ex : xO} {d : Nat} {b : Bool} {c : Nat → Nat → Int} {r N : Nat} {f : Nat → Nat} (hr : r < 6) (hN : N ≤ 6) (hf : ∀ i, i < N → c 65 i = (f i : Nat)) : An ex d 195 4 [xA 54, xI (N : Int), xI (r : Int)] (hp c b) (xU, hp (xfl3 (xup c 56 r (N : Nat)) 57 (40 * r) (40 * r + 40) (fun x => if x - 40 * r < N then ((f (x - 40 * r) : Nat) : Int) else 0)) b) := by
  have r31 : r < 2147483648 := by omega
  refine Rn.run 4 (ls' := [_, _, _, _]) (st' := [_, _, _]) rfl ?_
  refine Rn.ast rfl ⟨by decide, rfl⟩ (r) (x_wn r31) hr ?_
  refine Rn.run 2 (ls' := [_, _, _, _]) (st' := []) rfl ?_
  exact l195 hr hN 40 0 _ rfl (fun i hi => by rw [xup_n _ _ (by omega)]; exact hf i hi)
theorem Inv_row2 {c c2 : Nat → Nat → Int} {b : Bool} {r N : Nat} (hI : Inv c b) (hr : r < 6) (hN : N ≤ 40) (e1 : c2 (22 + 2 * r) 0 = (N : Nat)) (e2 : c2 56 r = (N : Nat)) (e3 : ∀ k, k < 40 → c2 (23 + 2 * r) k = c2 57 (40 * r + k)) (fr : ∀ a z, ¬ scr a → a ≠ 22 + 2 * r → a ≠ 23 + 2 * r → ¬ (a = 56 ∧ z = r) → ¬ (a = 57 ∧ 40 * r ≤ z ∧ z < 40 * r + 40) → c2 a z = c a z) : Inv c2 b := by
  have hg := gid_in b
  refine Inv_mk (fun r' hr' => ?_) (iTxt_fr (fun a z h => fr a z (by unfold scr; omega) (by omega) (by omega) (by omega) (by omega)) hI.2.1) (iFnd_fr (fun a z h => fr a z (by unfold scr; omega) (by omega) (by omega) (by omega) (by omega)) hI.2.2.1) (iAsk_fr (fun a z h => fr a z (by unfold scr; omega) (by omega) (by omega) (by omega) (by omega)) hI.2.2.2.1) (iG_fr (fun a z h => fr a z (by unfold scr; omega) (by omega) (by omega) (by omega) (by omega)) hI.2.2.2.2)
  by_cases e : r' = r
  · subst e
    rw [e1, e2]
    exact ⟨rfl, by omega, by omega, fun k hk => e3 k hk⟩
  · obtain ⟨h1, h2, h3, h4⟩ := hI.1 r' hr'
    have s5 : ¬ scr 56 ∧ ¬ scr 57 := by unfold scr; omega
    rw [fr _ _ (by unfold scr; omega) (by omega) (by omega) (by omega) (by omega), fr 56 r' s5.1 (by omega) (by omega) (by omega) (by omega)]
    exact ⟨h1, h2, h3, fun k hk => by rw [fr _ _ (by unfold scr; omega) (by omega) (by omega) (by omega) (by omega), fr 57 _ s5.2 (by omega) (by omega) (by omega) (by omega)]; exact h4 k hk⟩
theorem bI_gen {x i : Nat} (hi : i < 32) : bI (x : Int) i = x.testBit i := by
  unfold bI
  rw [BitVec.ofInt_natCast, BitVec.getLsbD_ofNat]
  simp [hi]
theorem bI_w {y : Int} (h : w32 y = 0) (i : Nat) : bI y i = false := by
  have h0 : y % 4294967296 = 0 := by unfold w32 at h; omega
  have e : BitVec.ofInt 32 y = 0#32 := by
    apply BitVec.eq_of_toNat_eq
    rw [BitVec.toNat_ofInt]
    show (y % 4294967296).toNat = 0
    rw [h0]
    rfl
  unfold bI
  rw [e]
  simp
theorem bt_hi {x n : Nat} (hn : n ≤ 6) (hx : 2 ^ n ≤ x) (hx2 : x < 2147483648) : w32 (xand (x : Int) (xxor (((2 ^ n : Nat) : Int) - 1) (-1))) ≠ 0 := by
  intro h
  obtain ⟨i, hi, hb⟩ := Nat.exists_ge_and_testBit_of_ge_two_pow hx
  have i31 : i < 31 := by
    refine Nat.lt_of_not_le (fun hq => ?_)
    rw [Nat.testBit_lt_two_pow (Nat.lt_of_lt_of_le hx2 (Nat.pow_le_pow_right (n := 2) (by decide) hq))] at hb
    cases hb
  have h2 := bI_w h i
  rw [bI_and, bI_xor, bI_gen (by omega), e2n, bI_gen (by omega), bI_m1 i (by omega), hb, Nat.testBit_two_pow_sub_one, decide_eq_false (by omega)] at h2
  cases h2
theorem set_and {x n : Nat} (hx : x < 2 ^ n) : x ^^^ (x &&& (2 ^ n - 1)) = 0 := by rw [Nat.and_two_pow_sub_one_eq_mod, Nat.mod_eq_of_lt hx, Nat.xor_self]
theorem k80_b1 {ex : xO} {d : Nat} {c : Nat → Nat → Int} {b : Bool}  {a1 a2 : Int} (h2 : w32 a2 = a2) (q2 : ¬ (0 ≤ a2 ∧ a2 < 6)) : An ex (d + 20) 80 4 [xA 0, xI a1, xI a2] (hp c b) (xI (-1), hp (c) b) := by
  refine Rn.run 2 (ls' := [_, _, _, _]) (st' := [_, _]) rfl ?_
  refine Rn.call rfl rfl rfl rfl rfl (c100) ?_
  refine Rn.eqB rfl (fun e6 => ?_) (fun e6 => absurd e6 (by exact (z_no (m := 6) h2 (by omega) q2)))
  refine Rn.run 1 (ls' := [_, _, _, _]) (st' := [_]) rfl ?_
  exact Rn.ret rfl rfl rfl rfl rfl rfl
theorem k80_b2 {ex : xO} {d : Nat} {c : Nat → Nat → Int} {b : Bool}  {a1 : Int} {r : Nat} (hr : r < 6) (h1 : w32 a1 = a1) (q1 : a1 < 0) : An ex (d + 20) 80 4 [xA 0, xI a1, xI (r : Int)] (hp c b) (xI (-1), hp (c) b) := by
  refine Rn.run 2 (ls' := [_, _, _, _]) (st' := [_, _]) rfl ?_
  refine Rn.call rfl rfl rfl rfl rfl (c100) ?_
  refine Rn.eqB rfl (fun e6 => absurd e6 (by exact fun h => h (z_in (m := 6) hr (by omega)))) (fun e6 => ?_)
  refine Rn.run 1 (ls' := [_, _, _, _]) (st' := [_]) rfl ?_
  refine Rn.lt0 rfl (fun e10 => ?_) (fun e10 => absurd e10 (by rw [h1]; exact fun h => h q1))
  refine Rn.run 1 (ls' := [_, _, _, _]) (st' := [_]) rfl ?_
  exact Rn.ret rfl rfl rfl rfl rfl rfl
theorem k80_b3 {ex : xO} {d : Nat} {c : Nat → Nat → Int} {b : Bool} {n D T Mo : Nat} {kd bo wo L : Nat → Nat} (hP : pS n kd bo wo D T Mo L) (hc : cS c b n kd bo wo D T Mo L) {x r : Nat} (hr : r < 6) (x31 : x < 2147483648) (hx : 2 ^ n ≤ x) : An ex (d + 20) 80 4 [xA 0, xI (x : Int), xI (r : Int)] (hp c b) (xI (-1), hp (c) b) := by
  obtain ⟨ho, h40, hT, h9, hMo⟩ := hP
  obtain ⟨hC, d7, t9, hL, m10⟩ := hc
  have hn := ho.1
  have hT6 := p64 hn hT
  have x0 : ¬ w32 (x : Int) < 0 := by rw [x_wn x31]; omega
  have bh := bt_hi hn hx x31
  refine Rn.run 2 (ls' := [_, _, _, _]) (st' := [_, _]) rfl ?_
  refine Rn.call rfl rfl rfl rfl rfl (c100) ?_
  refine Rn.eqB rfl (fun e6 => absurd e6 (by exact fun h => h (z_in (m := 6) hr (by omega)))) (fun e6 => ?_)
  refine Rn.run 1 (ls' := [_, _, _, _]) (st' := [_]) rfl ?_
  refine Rn.lt0 rfl (fun e10 => absurd e10 (by exact x0)) (fun e10 => ?_)
  refine Rn.run 2 (ls' := [_, _, _, _]) (st' := [_, _]) rfl ?_
  refine Rn.getR rfl ⟨by decide, rfl, rfl⟩ (j := gid b) (rfl) ?_
  refine Rn.callV rfl (x_sv (xS_g b)) rfl rfl rfl (c17 hn hC.1) ?_
  refine Rn.run 3 (ls' := [_, _, _, _]) (st' := [_]) rfl ?_
  refine Rn.eq0 rfl (fun e24 => absurd e24 (by exact bh)) (fun e24 => ?_)
  refine Rn.run 1 (ls' := [_, _, _, _]) (st' := [_]) rfl ?_
  exact Rn.ret rfl rfl rfl rfl rfl rfl
theorem k80_s1 {ex : xO} {d : Nat} {c : Nat → Nat → Int} {b : Bool} {n D T Mo : Nat} {kd bo wo L : Nat → Nat} (hP : pS n kd bo wo D T Mo L) (hc : cS c b n kd bo wo D T Mo L) {x r : Nat} (hr : r < 6) (hx : x < 2 ^ n) (h0 : n = 0) : An ex (d + 20) 80 4 [xA 0, xI (x : Int), xI (r : Int)] (hp c b) (xI (-4), hp (c) b) := by
  obtain ⟨ho, h40, hT, h9, hMo⟩ := hP
  obtain ⟨hC, d7, t9, hL, m10⟩ := hc
  have hn := ho.1
  have hT6 := p64 hn hT
  have x64 := p64 hn hx
  have x31 : x < 2147483648 := by omega
  have x0 : ¬ w32 (x : Int) < 0 := by rw [x_wn x31]; omega
  have sa := set_and hx
  have m6 := m64 hn
  refine Rn.run 2 (ls' := [_, _, _, _]) (st' := [_, _]) rfl ?_
  refine Rn.call rfl rfl rfl rfl rfl (c100) ?_
  refine Rn.eqB rfl (fun e6 => absurd e6 (by exact fun h => h (z_in (m := 6) hr (by omega)))) (fun e6 => ?_)
  refine Rn.run 1 (ls' := [_, _, _, _]) (st' := [_]) rfl ?_
  refine Rn.lt0 rfl (fun e10 => absurd e10 (by exact x0)) (fun e10 => ?_)
  refine Rn.run 2 (ls' := [_, _, _, _]) (st' := [_, _]) rfl ?_
  refine Rn.getR rfl ⟨by decide, rfl, rfl⟩ (j := gid b) (rfl) ?_
  refine Rn.callV rfl (x_sv (xS_g b)) rfl rfl rfl (c17 hn hC.1) ?_
  refine Rn.run 3 (ls' := [_, _, _, _]) (st' := [_]) rfl ?_
  rw [e2n, bt_andn x x64 _ m6, sa]
  refine Rn.eq0 rfl (fun e24 => ?_) (fun e24 => absurd e24 (by decide))
  refine Rn.run 1 (ls' := [_, _, _, _]) (st' := [_]) rfl ?_
  refine Rn.getR rfl ⟨by decide, rfl, rfl⟩ (j := gid b) (rfl) ?_
  refine Rn.getI rfl (xS_g b) ?_
  rw [hC.1]
  refine Rn.eq0 rfl (fun e36 => ?_) (fun e36 => absurd e36 (by rw [h0]; decide))
  refine Rn.run 1 (ls' := [_, _, _, _]) (st' := [_]) rfl ?_
  exact Rn.ret rfl rfl rfl rfl rfl rfl
theorem k80_s2 {ex : xO} {d : Nat} {c : Nat → Nat → Int} {b : Bool} {n D T Mo : Nat} {kd bo wo L : Nat → Nat} (hP : pS n kd bo wo D T Mo L) (hc : cS c b n kd bo wo D T Mo L) {x r : Nat} (hr : r < 6) (hx : x < 2 ^ n) (h0 : n ≠ 0) (ht : x &&& T ≠ 0) : An ex (d + 20) 80 4 [xA 0, xI (x : Int), xI (r : Int)] (hp c b) (xI (-4), hp (c) b) := by
  obtain ⟨ho, h40, hT, h9, hMo⟩ := hP
  obtain ⟨hC, d7, t9, hL, m10⟩ := hc
  have hn := ho.1
  have hT6 := p64 hn hT
  have x64 := p64 hn hx
  have x31 : x < 2147483648 := by omega
  have x0 : ¬ w32 (x : Int) < 0 := by rw [x_wn x31]; omega
  have sa := set_and hx
  have m6 := m64 hn
  have et : (w32 ((x &&& T : Nat) : Int) = 0) ↔ x &&& T = 0 := y_eq0 (Nat.lt_trans (and_64 x64) (by decide))
  refine Rn.run 2 (ls' := [_, _, _, _]) (st' := [_, _]) rfl ?_
  refine Rn.call rfl rfl rfl rfl rfl (c100) ?_
  refine Rn.eqB rfl (fun e6 => absurd e6 (by exact fun h => h (z_in (m := 6) hr (by omega)))) (fun e6 => ?_)
  refine Rn.run 1 (ls' := [_, _, _, _]) (st' := [_]) rfl ?_
  refine Rn.lt0 rfl (fun e10 => absurd e10 (by exact x0)) (fun e10 => ?_)
  refine Rn.run 2 (ls' := [_, _, _, _]) (st' := [_, _]) rfl ?_
  refine Rn.getR rfl ⟨by decide, rfl, rfl⟩ (j := gid b) (rfl) ?_
  refine Rn.callV rfl (x_sv (xS_g b)) rfl rfl rfl (c17 hn hC.1) ?_
  refine Rn.run 3 (ls' := [_, _, _, _]) (st' := [_]) rfl ?_
  rw [e2n, bt_andn x x64 _ m6, sa]
  refine Rn.eq0 rfl (fun e24 => ?_) (fun e24 => absurd e24 (by decide))
  refine Rn.run 1 (ls' := [_, _, _, _]) (st' := [_]) rfl ?_
  refine Rn.getR rfl ⟨by decide, rfl, rfl⟩ (j := gid b) (rfl) ?_
  refine Rn.getI rfl (xS_g b) ?_
  rw [hC.1]
  refine Rn.eq0 rfl (fun e36 => absurd e36 (by exact z_ne0 h0 hn)) (fun e36 => ?_)
  refine Rn.run 3 (ls' := [_, _, _, _]) (st' := [_, _]) rfl ?_
  refine Rn.call rfl rfl rfl rfl rfl (c11 d7 h40) ?_
  rw [t9]
  refine Rn.run 1 (ls' := [_, _, _, _]) (st' := [_]) rfl ?_
  rw [bt_and x x64 T hT6]
  refine Rn.eq0 rfl (fun e48 => absurd e48 (by exact fun h => ht (et.mp h))) (fun e48 => ?_)
  refine Rn.run 1 (ls' := [_, _, _, _]) (st' := [_]) rfl ?_
  exact Rn.ret rfl rfl rfl rfl rfl rfl
theorem k80_n {ex : xO} {d : Nat} {c : Nat → Nat → Int} {b : Bool} {n D T Mo : Nat} {kd bo wo L : Nat → Nat} (hP : pS n kd bo wo D T Mo L) (hc : cS c b n kd bo wo D T Mo L) {x r : Nat} (hr : r < 6) (hx : x < 2 ^ n) (h0 : n ≠ 0) (ht : x &&& T = 0) (hR : rs kd bo wo n (pop x) 0 x T L (fun _ => 0) none = none) : ∃ e, An ex (d + 20) 80 4 [xA 0, xI (x : Int), xI (r : Int)] (hp c b) (xI (-9), hp e b) ∧ ∀ a z, ¬ (4 ≤ a ∧ a ≤ 6) → e a z = c a z := by
  obtain ⟨ho, h40, hT, h9, hMo⟩ := hP
  obtain ⟨hC, d7, t9, hL, m10⟩ := hc
  have hn := ho.1
  have hT6 := p64 hn hT
  have x64 := p64 hn hx
  have x31 : x < 2147483648 := by omega
  have x0 : ¬ w32 (x : Int) < 0 := by rw [x_wn x31]; omega
  have sa := set_and hx
  have m6 := m64 hn
  have et : (w32 ((x &&& T : Nat) : Int) = 0) ↔ x &&& T = 0 := y_eq0 (Nat.lt_trans (and_64 x64) (by decide))
  obtain ⟨e, q, o, a, f⟩ := c33 (ex := ex) (d := d + 5) (b := b) ho x64 (pop_6 x x64) hT6 hL h9 hC
  rw [hR] at q o a
  refine ⟨e, ?_, f⟩
  refine Rn.run 2 (ls' := [_, _, _, _]) (st' := [_, _]) rfl ?_
  refine Rn.call rfl rfl rfl rfl rfl (c100) ?_
  refine Rn.eqB rfl (fun e6 => absurd e6 (by exact fun h => h (z_in (m := 6) hr (by omega)))) (fun e6 => ?_)
  refine Rn.run 1 (ls' := [_, _, _, _]) (st' := [_]) rfl ?_
  refine Rn.lt0 rfl (fun e10 => absurd e10 (by exact x0)) (fun e10 => ?_)
  refine Rn.run 2 (ls' := [_, _, _, _]) (st' := [_, _]) rfl ?_
  refine Rn.getR rfl ⟨by decide, rfl, rfl⟩ (j := gid b) (rfl) ?_
  refine Rn.callV rfl (x_sv (xS_g b)) rfl rfl rfl (c17 hn hC.1) ?_
  refine Rn.run 3 (ls' := [_, _, _, _]) (st' := [_]) rfl ?_
  rw [e2n, bt_andn x x64 _ m6, sa]
  refine Rn.eq0 rfl (fun e24 => ?_) (fun e24 => absurd e24 (by decide))
  refine Rn.run 1 (ls' := [_, _, _, _]) (st' := [_]) rfl ?_
  refine Rn.getR rfl ⟨by decide, rfl, rfl⟩ (j := gid b) (rfl) ?_
  refine Rn.getI rfl (xS_g b) ?_
  rw [hC.1]
  refine Rn.eq0 rfl (fun e36 => absurd e36 (by exact z_ne0 h0 hn)) (fun e36 => ?_)
  refine Rn.run 3 (ls' := [_, _, _, _]) (st' := [_, _]) rfl ?_
  refine Rn.call rfl rfl rfl rfl rfl (c11 d7 h40) ?_
  rw [t9]
  refine Rn.run 1 (ls' := [_, _, _, _]) (st' := [_]) rfl ?_
  rw [bt_and x x64 T hT6]
  refine Rn.eq0 rfl (fun e48 => ?_) (fun e48 => absurd e48 (by exact fun h => h (et.mpr ht)))
  refine Rn.run 3 (ls' := [_, _, _, _]) (st' := [_, _]) rfl ?_
  refine Rn.getR rfl ⟨by decide, rfl, rfl⟩ (j := gid b) (rfl) ?_
  refine Rn.run 3 (ls' := [_, _, _, _]) (st' := [_, _, _, _]) rfl ?_
  refine Rn.call rfl rfl rfl rfl rfl (c10 d7 h40) ?_
  refine Rn.run 2 (ls' := [_, _, _, _]) (st' := [_, _, _, _, _]) rfl ?_
  refine Rn.call rfl rfl rfl rfl rfl (c11 d7 h40) ?_
  rw [t9]
  refine Rn.call rfl rfl rfl rfl rfl (q) ?_
  refine Rn.run 3 (ls' := [_, _, _, _]) (st' := [_, _]) rfl ?_
  refine Rn.eq2 rfl (fun e84 => ?_) (fun e84 => absurd e84 (by exact fun h => h rfl))
  refine Rn.run 1 (ls' := [_, _, _, _]) (st' := [_]) rfl ?_
  exact Rn.ret rfl rfl rfl rfl rfl rfl
theorem k80_o {ex : xO} {d : Nat} {c : Nat → Nat → Int} {b : Bool} {n D T Mo : Nat} {kd bo wo L : Nat → Nat} (hP : pS n kd bo wo D T Mo L) (hc : cS c b n kd bo wo D T Mo L) {x r : Nat} (hr : r < 6) (hx : x < 2 ^ n) (h0 : n ≠ 0) (ht : x &&& T = 0) {w : Nat × (Nat → Nat)} (hR : rs kd bo wo n (pop x) 0 x T L (fun _ => 0) none = some w) : w.1 ≤ 72 ∧ ∃ e, An ex (d + 20) 80 4 [xA 0, xI (x : Int), xI (r : Int)] (hp c b) (xI ((w.1 : Nat) : Int), hp e b) ∧ e (22 + 2 * r) 0 = (pop x : Nat) ∧ (∀ k, k < 40 → e (23 + 2 * r) k = if k < pop x then ((w.2 k : Nat) : Int) else 0) ∧ ∀ a z, ¬ (4 ≤ a ∧ a ≤ 6) → a ≠ 22 + 2 * r → a ≠ 23 + 2 * r → e a z = c a z := by
  obtain ⟨ho, h40, hT, h9, hMo⟩ := hP
  obtain ⟨hC, d7, t9, hL, m10⟩ := hc
  have hn := ho.1
  have hT6 := p64 hn hT
  have x64 := p64 hn hx
  have x31 : x < 2147483648 := by omega
  have x0 : ¬ w32 (x : Int) < 0 := by rw [x_wn x31]; omega
  have sa := set_and hx
  have m6 := m64 hn
  have et : (w32 ((x &&& T : Nat) : Int) = 0) ↔ x &&& T = 0 := y_eq0 (Nat.lt_trans (and_64 x64) (by decide))
  obtain ⟨e, q, o, a, f⟩ := c33 (ex := ex) (d := d + 5) (b := b) ho x64 (pop_6 x x64) hT6 hL h9 hC
  rw [hR] at q o a
  have w72 := a w rfl
  have w9 : ¬ w32 ((w.1 : Nat) : Int) = w32 (-9) := by rw [x_wn (by omega), show w32 (-9) = -9 from rfl]; omega
  obtain ⟨o1, o2, o3⟩ := o
  have p6 := pop_6 x x64
  refine ⟨w72, lyi e r (pop x), ?_, lyi_0 _, fun k hk => ?_, fun a z h1 h2 h3 => by rw [lyi_o _ h2 h3]; exact f a z h1⟩
  · refine Rn.run 2 (ls' := [_, _, _, _]) (st' := [_, _]) rfl ?_
    refine Rn.call rfl rfl rfl rfl rfl (c100) ?_
    refine Rn.eqB rfl (fun e6 => absurd e6 (by exact fun h => h (z_in (m := 6) hr (by omega)))) (fun e6 => ?_)
    refine Rn.run 1 (ls' := [_, _, _, _]) (st' := [_]) rfl ?_
    refine Rn.lt0 rfl (fun e10 => absurd e10 (by exact x0)) (fun e10 => ?_)
    refine Rn.run 2 (ls' := [_, _, _, _]) (st' := [_, _]) rfl ?_
    refine Rn.getR rfl ⟨by decide, rfl, rfl⟩ (j := gid b) (rfl) ?_
    refine Rn.callV rfl (x_sv (xS_g b)) rfl rfl rfl (c17 hn hC.1) ?_
    refine Rn.run 3 (ls' := [_, _, _, _]) (st' := [_]) rfl ?_
    rw [e2n, bt_andn x x64 _ m6, sa]
    refine Rn.eq0 rfl (fun e24 => ?_) (fun e24 => absurd e24 (by decide))
    refine Rn.run 1 (ls' := [_, _, _, _]) (st' := [_]) rfl ?_
    refine Rn.getR rfl ⟨by decide, rfl, rfl⟩ (j := gid b) (rfl) ?_
    refine Rn.getI rfl (xS_g b) ?_
    rw [hC.1]
    refine Rn.eq0 rfl (fun e36 => absurd e36 (by exact z_ne0 h0 hn)) (fun e36 => ?_)
    refine Rn.run 3 (ls' := [_, _, _, _]) (st' := [_, _]) rfl ?_
    refine Rn.call rfl rfl rfl rfl rfl (c11 d7 h40) ?_
    rw [t9]
    refine Rn.run 1 (ls' := [_, _, _, _]) (st' := [_]) rfl ?_
    rw [bt_and x x64 T hT6]
    refine Rn.eq0 rfl (fun e48 => ?_) (fun e48 => absurd e48 (by exact fun h => h (et.mpr ht)))
    refine Rn.run 3 (ls' := [_, _, _, _]) (st' := [_, _]) rfl ?_
    refine Rn.getR rfl ⟨by decide, rfl, rfl⟩ (j := gid b) (rfl) ?_
    refine Rn.run 3 (ls' := [_, _, _, _]) (st' := [_, _, _, _]) rfl ?_
    refine Rn.call rfl rfl rfl rfl rfl (c10 d7 h40) ?_
    refine Rn.run 2 (ls' := [_, _, _, _]) (st' := [_, _, _, _, _]) rfl ?_
    refine Rn.call rfl rfl rfl rfl rfl (c11 d7 h40) ?_
    rw [t9]
    refine Rn.call rfl rfl rfl rfl rfl (q) ?_
    refine Rn.run 3 (ls' := [_, _, _, _]) (st' := [_, _]) rfl ?_
    refine Rn.eq2 rfl (fun e84 => absurd e84 (by exact w9)) (fun e84 => ?_)
    refine Rn.run 5 (ls' := [_, _, _, _]) (st' := [_, _, _]) rfl ?_
    refine Rn.aald rfl ⟨by decide, rfl, by decide, by decide⟩ (r) (x_wn (n := r) (by omega)) (by omega) (xR_row hr).1 ?_
    refine Rn.call rfl rfl rfl rfl rfl (c39 hr p6 o2) ?_
    refine Rn.run 1 (ls' := [_, _, _, _]) (st' := [_]) rfl ?_
    exact Rn.ret rfl rfl rfl rfl rfl rfl
  · rw [lyi_k _ hk]
    by_cases h : k < pop x
    · rw [if_pos h, if_pos h]; exact o3 k h
    · rw [if_neg h, if_neg h]
theorem k196_b1 {ex : xO} {d : Nat} {c : Nat → Nat → Int} {b : Bool} {n D T Mo : Nat} {kd bo wo L : Nat → Nat} (hP : pS n kd bo wo D T Mo L) (hm : mS c n kd bo wo D T Mo L) {a1 a2 : Int} (h1 : w32 a1 = a1) (q1 : ¬ (0 ≤ a1 ∧ a1 < ((2 ^ n : Nat) : Int))) : An ex (d + 20) 196 8 [xA 54, xI a1, xI a2] (hp c b) (xI (-1), hp (c) b) := by
  obtain ⟨ho, h40, hT, h9, hMo⟩ := hP
  obtain ⟨hM, d29, t2, l55, m1⟩ := hm
  have hn := ho.1
  have hT6 := p64 hn hT
  have hp2 := pp64 hn
  have h1p : 1 ≤ 2 ^ n := Nat.one_le_two_pow
  have vi : ¬ (w64 0 ≤ w64 (w32 a1) ∧ w64 (w32 a1) ≤ w64 (w32 (((2 ^ n : Nat) : Int) - 1))) := fun z => q1 (by have := (x_in64 (by omega)).mp z; rw [h1] at this; omega)
  refine Rn.run 4 (ls' := [_, _, _, _, _, _, _, _]) (st' := [_, _, _]) rfl ?_
  refine Rn.call rfl rfl rfl rfl rfl (c163 hn hM.1) ?_
  refine Rn.run 1 (ls' := [_, _, _, _, _, _, _, _]) (st' := [_, _, _]) rfl ?_
  refine Rn.call rfl rfl rfl rfl rfl (c131) ?_
  refine Rn.eqB rfl (fun e11 => ?_) (fun e11 => absurd e11 (by exact (vi)))
  refine Rn.run 1 (ls' := [_, _, _, _, _, _, _, _]) (st' := [_]) rfl ?_
  exact Rn.ret rfl rfl rfl rfl rfl rfl
theorem k196_b2 {ex : xO} {d : Nat} {c : Nat → Nat → Int} {b : Bool} {n D T Mo : Nat} {kd bo wo L : Nat → Nat} (hP : pS n kd bo wo D T Mo L) (hm : mS c n kd bo wo D T Mo L) {x : Nat} {a2 : Int} (hx : x < 2 ^ n) (h2 : w32 a2 = a2) (q2 : ¬ (0 ≤ a2 ∧ a2 < 6)) : An ex (d + 20) 196 8 [xA 54, xI (x : Int), xI a2] (hp c b) (xI (-1), hp (c) b) := by
  obtain ⟨ho, h40, hT, h9, hMo⟩ := hP
  obtain ⟨hM, d29, t2, l55, m1⟩ := hm
  have hn := ho.1
  have hT6 := p64 hn hT
  have hp2 := pp64 hn
  have h1p : 1 ≤ 2 ^ n := Nat.one_le_two_pow
  have x64 := p64 hn hx
  have x31 : x < 2147483648 := by omega
  have vi : w64 0 ≤ w64 (w32 (x : Int)) ∧ w64 (w32 (x : Int)) ≤ w64 (w32 (((2 ^ n : Nat) : Int) - 1)) := (x_in64 (by omega)).mpr (by rw [x_wn x31]; omega)
  refine Rn.run 4 (ls' := [_, _, _, _, _, _, _, _]) (st' := [_, _, _]) rfl ?_
  refine Rn.call rfl rfl rfl rfl rfl (c163 hn hM.1) ?_
  refine Rn.run 1 (ls' := [_, _, _, _, _, _, _, _]) (st' := [_, _, _]) rfl ?_
  refine Rn.call rfl rfl rfl rfl rfl (c131) ?_
  refine Rn.eqB rfl (fun e11 => absurd e11 (by exact fun h => h (vi))) (fun e11 => ?_)
  refine Rn.run 1 (ls' := [_, _, _, _, _, _, _, _]) (st' := [_]) rfl ?_
  refine Rn.call rfl rfl rfl rfl rfl (c138) ?_
  refine Rn.neB rfl (fun e18 => absurd e18 (by exact (z_no' (m := 6) h2 q2))) (fun e18 => ?_)
  refine Rn.run 1 (ls' := [_, _, _, _, _, _, _, _]) (st' := [_]) rfl ?_
  exact Rn.ret rfl rfl rfl rfl rfl rfl
theorem k196_s1 {ex : xO} {d : Nat} {c : Nat → Nat → Int} {b : Bool} {n D T Mo : Nat} {kd bo wo L : Nat → Nat} (hP : pS n kd bo wo D T Mo L) (hm : mS c n kd bo wo D T Mo L) {x r : Nat} (hr : r < 6) (hx : x < 2 ^ n) (h0 : n = 0) : An ex (d + 20) 196 8 [xA 54, xI (x : Int), xI (r : Int)] (hp c b) (xI (-4), hp (c) b) := by
  obtain ⟨ho, h40, hT, h9, hMo⟩ := hP
  obtain ⟨hM, d29, t2, l55, m1⟩ := hm
  have hn := ho.1
  have hT6 := p64 hn hT
  have hp2 := pp64 hn
  have h1p : 1 ≤ 2 ^ n := Nat.one_le_two_pow
  have x64 := p64 hn hx
  have x31 : x < 2147483648 := by omega
  have vi : w64 0 ≤ w64 (w32 (x : Int)) ∧ w64 (w32 (x : Int)) ≤ w64 (w32 (((2 ^ n : Nat) : Int) - 1)) := (x_in64 (by omega)).mpr (by rw [x_wn x31]; omega)
  refine Rn.run 4 (ls' := [_, _, _, _, _, _, _, _]) (st' := [_, _, _]) rfl ?_
  refine Rn.call rfl rfl rfl rfl rfl (c163 hn hM.1) ?_
  refine Rn.run 1 (ls' := [_, _, _, _, _, _, _, _]) (st' := [_, _, _]) rfl ?_
  refine Rn.call rfl rfl rfl rfl rfl (c131) ?_
  refine Rn.eqB rfl (fun e11 => absurd e11 (by exact fun h => h (vi))) (fun e11 => ?_)
  refine Rn.run 1 (ls' := [_, _, _, _, _, _, _, _]) (st' := [_]) rfl ?_
  refine Rn.call rfl rfl rfl rfl rfl (c138) ?_
  refine Rn.neB rfl (fun e18 => ?_) (fun e18 => absurd e18 (by exact fun h => h (z_in' (m := 6) hr (by decide))))
  refine Rn.run 3 (ls' := [_, _, _, _, _, _, _, _]) (st' := [_, _]) rfl ?_
  refine Rn.ald rfl ⟨by decide, rfl⟩ (0) rfl (by decide) ?_
  rw [hM.1]
  refine Rn.eq0 rfl (fun e29 => ?_) (fun e29 => absurd e29 (by rw [h0]; decide))
  refine Rn.run 1 (ls' := [_, _, _, _, _, _, _, _]) (st' := [_]) rfl ?_
  exact Rn.ret rfl rfl rfl rfl rfl rfl
theorem k196_s2 {ex : xO} {d : Nat} {c : Nat → Nat → Int} {b : Bool} {n D T Mo : Nat} {kd bo wo L : Nat → Nat} (hP : pS n kd bo wo D T Mo L) (hm : mS c n kd bo wo D T Mo L) {x r : Nat} (hr : r < 6) (hx : x < 2 ^ n) (h0 : n ≠ 0) (ht : x &&& T ≠ 0) : An ex (d + 20) 196 8 [xA 54, xI (x : Int), xI (r : Int)] (hp c b) (xI (-4), hp (c) b) := by
  obtain ⟨ho, h40, hT, h9, hMo⟩ := hP
  obtain ⟨hM, d29, t2, l55, m1⟩ := hm
  have hn := ho.1
  have hT6 := p64 hn hT
  have hp2 := pp64 hn
  have h1p : 1 ≤ 2 ^ n := Nat.one_le_two_pow
  have x64 := p64 hn hx
  have x31 : x < 2147483648 := by omega
  have vi : w64 0 ≤ w64 (w32 (x : Int)) ∧ w64 (w32 (x : Int)) ≤ w64 (w32 (((2 ^ n : Nat) : Int) - 1)) := (x_in64 (by omega)).mpr (by rw [x_wn x31]; omega)
  have et : (w32 ((x &&& T : Nat) : Int) = 0) ↔ x &&& T = 0 := y_eq0 (Nat.lt_trans (and_64 x64) (by decide))
  refine Rn.run 4 (ls' := [_, _, _, _, _, _, _, _]) (st' := [_, _, _]) rfl ?_
  refine Rn.call rfl rfl rfl rfl rfl (c163 hn hM.1) ?_
  refine Rn.run 1 (ls' := [_, _, _, _, _, _, _, _]) (st' := [_, _, _]) rfl ?_
  refine Rn.call rfl rfl rfl rfl rfl (c131) ?_
  refine Rn.eqB rfl (fun e11 => absurd e11 (by exact fun h => h (vi))) (fun e11 => ?_)
  refine Rn.run 1 (ls' := [_, _, _, _, _, _, _, _]) (st' := [_]) rfl ?_
  refine Rn.call rfl rfl rfl rfl rfl (c138) ?_
  refine Rn.neB rfl (fun e18 => ?_) (fun e18 => absurd e18 (by exact fun h => h (z_in' (m := 6) hr (by decide))))
  refine Rn.run 3 (ls' := [_, _, _, _, _, _, _, _]) (st' := [_, _]) rfl ?_
  refine Rn.ald rfl ⟨by decide, rfl⟩ (0) rfl (by decide) ?_
  rw [hM.1]
  refine Rn.eq0 rfl (fun e29 => absurd e29 (by exact z_ne0 h0 hn)) (fun e29 => ?_)
  refine Rn.run 4 (ls' := [_, _, _, _, _, _, _, _]) (st' := [_, _, _]) rfl ?_
  refine Rn.ald rfl ⟨by decide, rfl⟩ (2) rfl (by decide) ?_
  rw [t2]
  refine Rn.run 1 (ls' := [_, _, _, _, _, _, _, _]) (st' := [_]) rfl ?_
  rw [bt_and x x64 T hT6]
  refine Rn.eq0 rfl (fun e40 => absurd e40 (by exact fun h => ht (et.mp h))) (fun e40 => ?_)
  refine Rn.run 1 (ls' := [_, _, _, _, _, _, _, _]) (st' := [_]) rfl ?_
  exact Rn.ret rfl rfl rfl rfl rfl rfl
theorem k196_n {ex : xO} {d : Nat} {c : Nat → Nat → Int} {b : Bool} {n D T Mo : Nat} {kd bo wo L : Nat → Nat} (hP : pS n kd bo wo D T Mo L) (hm : mS c n kd bo wo D T Mo L) {x r : Nat} (hr : r < 6) (hx : x < 2 ^ n) (h0 : n ≠ 0) (ht : x &&& T = 0) (hR : rs kd bo wo n (pop x) 0 x T L (fun _ => 0) none = none) : ∃ e, An ex (d + 20) 196 8 [xA 54, xI (x : Int), xI (r : Int)] (hp c b) (xI (-9), hp e b) ∧ (fun e => fr0 c e) e := by
  obtain ⟨ho, h40, hT, h9, hMo⟩ := hP
  obtain ⟨hM, d29, t2, l55, m1⟩ := hm
  have hn := ho.1
  have hT6 := p64 hn hT
  have hp2 := pp64 hn
  have h1p : 1 ≤ 2 ^ n := Nat.one_le_two_pow
  have x64 := p64 hn hx
  have x31 : x < 2147483648 := by omega
  have vi : w64 0 ≤ w64 (w32 (x : Int)) ∧ w64 (w32 (x : Int)) ≤ w64 (w32 (((2 ^ n : Nat) : Int) - 1)) := (x_in64 (by omega)).mpr (by rw [x_wn x31]; omega)
  have et : (w32 ((x &&& T : Nat) : Int) = 0) ↔ x &&& T = 0 := y_eq0 (Nat.lt_trans (and_64 x64) (by decide))
  have p6 := pop_6 x x64
  have hl : ∀ i, i < n → x.testBit i = (x.testBit i && !T.testBit i) := fun i _ => by
    have h := congrArg (fun z => z.testBit i) ht
    simp only [Nat.testBit_and, Nat.zero_testBit] at h
    cases hb : x.testBit i
    · rfl
    · rw [hb] at h; simp at h; rw [h]; rfl
  obtain ⟨e, q, f⟩ := l196 (ex := ex) (d := d + 12) (b := b) (c0 := c) ho hM t2 l55 hT6 h9 (set := x) (r := r) (N := pop x) x64 p6 (V := (-9)) (Q := fun e => fr0 c e) (pop x) 0 x (fun _ => 0) none (xup c 64 0 (-1)) xU xU (Nat.zero_add _) (fun j hj => absurd hj (Nat.not_lt_zero j)) hT h9 hl (fun a z g1 g2 g3 => xup_n _ _ (by omega)) (fun j hj => absurd hj (Nat.not_lt_zero j)) (xup_s _ _ _ _) (fun q hq => by cases hq) (fun q hq => by cases hq) (fun c2 u6 u7 f2 p2 m2 a2 => by
    have hR' : rs kd bo wo n (pop x) 0 x (osd kd bo wo T L (fun _ => 0) 0).1 (osd kd bo wo T L (fun _ => 0) 0).2 (fun _ => 0) none = _ := hR
    rw [hR'] at m2 a2 ⊢
    refine ⟨c2, ?_, f2⟩
    refine Rn.run 1 (ls' := [_, _, _, _, _, _, _, _]) (st' := [_]) rfl ?_
    refine Rn.lt0 rfl (fun e66 => ?_) (fun e66 => absurd e66 (by decide))
    refine Rn.run 1 (ls' := [_, _, _, _, _, _, _, _]) (st' := [_]) rfl ?_
    refine Rn.ge0 rfl (fun e201 => absurd e201 (by decide)) (fun e201 => ?_)
    refine Rn.run 1 (ls' := [_, _, _, _, _, _, _, _]) (st' := [_]) rfl ?_
    exact Rn.ret rfl rfl rfl rfl rfl rfl)
  refine ⟨e, ?_, f⟩
  refine Rn.run 4 (ls' := [_, _, _, _, _, _, _, _]) (st' := [_, _, _]) rfl ?_
  refine Rn.call rfl rfl rfl rfl rfl (c163 hn hM.1) ?_
  refine Rn.run 1 (ls' := [_, _, _, _, _, _, _, _]) (st' := [_, _, _]) rfl ?_
  refine Rn.call rfl rfl rfl rfl rfl (c131) ?_
  refine Rn.eqB rfl (fun e11 => absurd e11 (by exact fun h => h (vi))) (fun e11 => ?_)
  refine Rn.run 1 (ls' := [_, _, _, _, _, _, _, _]) (st' := [_]) rfl ?_
  refine Rn.call rfl rfl rfl rfl rfl (c138) ?_
  refine Rn.neB rfl (fun e18 => ?_) (fun e18 => absurd e18 (by exact fun h => h (z_in' (m := 6) hr (by decide))))
  refine Rn.run 3 (ls' := [_, _, _, _, _, _, _, _]) (st' := [_, _]) rfl ?_
  refine Rn.ald rfl ⟨by decide, rfl⟩ (0) rfl (by decide) ?_
  rw [hM.1]
  refine Rn.eq0 rfl (fun e29 => absurd e29 (by exact z_ne0 h0 hn)) (fun e29 => ?_)
  refine Rn.run 4 (ls' := [_, _, _, _, _, _, _, _]) (st' := [_, _, _]) rfl ?_
  refine Rn.ald rfl ⟨by decide, rfl⟩ (2) rfl (by decide) ?_
  rw [t2]
  refine Rn.run 1 (ls' := [_, _, _, _, _, _, _, _]) (st' := [_]) rfl ?_
  rw [bt_and x x64 T hT6]
  refine Rn.eq0 rfl (fun e40 => ?_) (fun e40 => absurd e40 (by exact fun h => h (et.mpr ht)))
  refine Rn.run 1 (ls' := [_, _, _, _, _, _, _, _]) (st' := [_]) rfl ?_
  refine Rn.call rfl rfl rfl rfl rfl (c133 x64) ?_
  refine Rn.run 9 (ls' := [_, _, _, _, _, _, _, _]) (st' := [_, _, _]) rfl ?_
  refine Rn.ast rfl ⟨by decide, rfl⟩ (0) rfl (by decide) ?_
  exact q
theorem k196_o {ex : xO} {d : Nat} {c : Nat → Nat → Int} {b : Bool} {n D T Mo : Nat} {kd bo wo L : Nat → Nat} (hP : pS n kd bo wo D T Mo L) (hm : mS c n kd bo wo D T Mo L) {x r : Nat} (hr : r < 6) (hx : x < 2 ^ n) (h0 : n ≠ 0) (ht : x &&& T = 0) {w : Nat × (Nat → Nat)} (hR : rs kd bo wo n (pop x) 0 x T L (fun _ => 0) none = some w) : ∃ e, An ex (d + 20) 196 8 [xA 54, xI (x : Int), xI (r : Int)] (hp c b) (xI ((w.1 : Nat) : Int), hp e b) ∧ (fun e => ∃ c2, fr0 c c2 ∧ e = xfl3 (xup c2 56 r (pop x : Nat)) 57 (40 * r) (40 * r + 40) (fun y => if y - 40 * r < pop x then ((w.2 (y - 40 * r) : Nat) : Int) else 0)) e := by
  obtain ⟨ho, h40, hT, h9, hMo⟩ := hP
  obtain ⟨hM, d29, t2, l55, m1⟩ := hm
  have hn := ho.1
  have hT6 := p64 hn hT
  have hp2 := pp64 hn
  have h1p : 1 ≤ 2 ^ n := Nat.one_le_two_pow
  have x64 := p64 hn hx
  have x31 : x < 2147483648 := by omega
  have vi : w64 0 ≤ w64 (w32 (x : Int)) ∧ w64 (w32 (x : Int)) ≤ w64 (w32 (((2 ^ n : Nat) : Int) - 1)) := (x_in64 (by omega)).mpr (by rw [x_wn x31]; omega)
  have et : (w32 ((x &&& T : Nat) : Int) = 0) ↔ x &&& T = 0 := y_eq0 (Nat.lt_trans (and_64 x64) (by decide))
  have p6 := pop_6 x x64
  have hl : ∀ i, i < n → x.testBit i = (x.testBit i && !T.testBit i) := fun i _ => by
    have h := congrArg (fun z => z.testBit i) ht
    simp only [Nat.testBit_and, Nat.zero_testBit] at h
    cases hb : x.testBit i
    · rfl
    · rw [hb] at h; simp at h; rw [h]; rfl
  obtain ⟨e, q, f⟩ := l196 (ex := ex) (d := d + 12) (b := b) (c0 := c) ho hM t2 l55 hT6 h9 (set := x) (r := r) (N := pop x) x64 p6 (V := ((w.1 : Nat) : Int)) (Q := fun e => ∃ c2, fr0 c c2 ∧ e = xfl3 (xup c2 56 r (pop x : Nat)) 57 (40 * r) (40 * r + 40) (fun y => if y - 40 * r < pop x then ((w.2 (y - 40 * r) : Nat) : Int) else 0)) (pop x) 0 x (fun _ => 0) none (xup c 64 0 (-1)) xU xU (Nat.zero_add _) (fun j hj => absurd hj (Nat.not_lt_zero j)) hT h9 hl (fun a z g1 g2 g3 => xup_n _ _ (by omega)) (fun j hj => absurd hj (Nat.not_lt_zero j)) (xup_s _ _ _ _) (fun q hq => by cases hq) (fun q hq => by cases hq) (fun c2 u6 u7 f2 p2 m2 a2 => by
    have hR' : rs kd bo wo n (pop x) 0 x (osd kd bo wo T L (fun _ => 0) 0).1 (osd kd bo wo T L (fun _ => 0) 0).2 (fun _ => 0) none = _ := hR
    rw [hR'] at m2 a2 ⊢
    have w72 := a2 w rfl
    have w0 : 0 ≤ w32 ((w.1 : Nat) : Int) := by rw [x_wn (by omega)]; omega
    refine ⟨_, ?_, c2, f2, rfl⟩
    refine Rn.run 1 (ls' := [_, _, _, _, _, _, _, _]) (st' := [_]) rfl ?_
    refine Rn.lt0 rfl (fun e66 => ?_) (fun e66 => absurd e66 (by decide))
    refine Rn.run 1 (ls' := [_, _, _, _, _, _, _, _]) (st' := [_]) rfl ?_
    refine Rn.ge0 rfl (fun e201 => ?_) (fun e201 => absurd e201 (by exact fun h => h w0))
    refine Rn.run 3 (ls' := [_, _, _, _, _, _, _, _]) (st' := [_, _, _]) rfl ?_
    refine Rn.call rfl rfl rfl rfl rfl (c195 hr p6 (m2 w rfl)) ?_
    refine Rn.run 1 (ls' := [_, _, _, _, _, _, _, _]) (st' := [_]) rfl ?_
    exact Rn.ret rfl rfl rfl rfl rfl rfl)
  refine ⟨e, ?_, f⟩
  refine Rn.run 4 (ls' := [_, _, _, _, _, _, _, _]) (st' := [_, _, _]) rfl ?_
  refine Rn.call rfl rfl rfl rfl rfl (c163 hn hM.1) ?_
  refine Rn.run 1 (ls' := [_, _, _, _, _, _, _, _]) (st' := [_, _, _]) rfl ?_
  refine Rn.call rfl rfl rfl rfl rfl (c131) ?_
  refine Rn.eqB rfl (fun e11 => absurd e11 (by exact fun h => h (vi))) (fun e11 => ?_)
  refine Rn.run 1 (ls' := [_, _, _, _, _, _, _, _]) (st' := [_]) rfl ?_
  refine Rn.call rfl rfl rfl rfl rfl (c138) ?_
  refine Rn.neB rfl (fun e18 => ?_) (fun e18 => absurd e18 (by exact fun h => h (z_in' (m := 6) hr (by decide))))
  refine Rn.run 3 (ls' := [_, _, _, _, _, _, _, _]) (st' := [_, _]) rfl ?_
  refine Rn.ald rfl ⟨by decide, rfl⟩ (0) rfl (by decide) ?_
  rw [hM.1]
  refine Rn.eq0 rfl (fun e29 => absurd e29 (by exact z_ne0 h0 hn)) (fun e29 => ?_)
  refine Rn.run 4 (ls' := [_, _, _, _, _, _, _, _]) (st' := [_, _, _]) rfl ?_
  refine Rn.ald rfl ⟨by decide, rfl⟩ (2) rfl (by decide) ?_
  rw [t2]
  refine Rn.run 1 (ls' := [_, _, _, _, _, _, _, _]) (st' := [_]) rfl ?_
  rw [bt_and x x64 T hT6]
  refine Rn.eq0 rfl (fun e40 => ?_) (fun e40 => absurd e40 (by exact fun h => h (et.mpr ht)))
  refine Rn.run 1 (ls' := [_, _, _, _, _, _, _, _]) (st' := [_]) rfl ?_
  refine Rn.call rfl rfl rfl rfl rfl (c133 x64) ?_
  refine Rn.run 9 (ls' := [_, _, _, _, _, _, _, _]) (st' := [_, _, _]) rfl ?_
  refine Rn.ast rfl ⟨by decide, rfl⟩ (0) rfl (by decide) ?_
  exact q
theorem g_round {ex : xO} (a1 a2 : Int) (h1 : w32 a1 = a1) (h2 : w32 a2 = a2) : AgI ex 80 4 196 8 [xI a1, xI a2] := by
  intro d c b hI
  obtain ⟨n, kd, bo, wo, D, T, Mo, L, hP, hc, hm⟩ := Inv_St hI
  have hg := gid_in b
  by_cases q2 : 0 ≤ a2 ∧ a2 < 6
  · obtain ⟨r, hr, rfl⟩ : ∃ j : Nat, j < 6 ∧ a2 = (j : Int) := ⟨a2.toNat, by omega, by omega⟩
    by_cases q1 : 0 ≤ a1 ∧ a1 < ((2 ^ n : Nat) : Int)
    · obtain ⟨x, hx, rfl⟩ : ∃ j : Nat, j < 2 ^ n ∧ a1 = (j : Int) := ⟨a1.toNat, by omega, by omega⟩
      by_cases h0 : n = 0
      · exact Ag_same hI (-4) (k80_s1 hP hc hr hx h0) (k196_s1 hP hm hr hx h0)
      · by_cases ht : x &&& T = 0
        · cases hR : rs kd bo wo n (pop x) 0 x T L (fun _ => 0) none with
          | none =>
            obtain ⟨e1, r1, f1⟩ := k80_n (ex := ex) (d := d) (b := b) hP hc hr hx h0 ht hR
            obtain ⟨e2, r2, f2⟩ := k196_n (ex := ex) (d := d) (b := b) (c := e1) hP (mS_fr (fun z => f1 55 z (by omega)) hm) hr hx h0 ht hR
            exact ⟨_, _, e1, b, e2, b, r1, r2, rfl, Inv_scr (fun a z h => by rw [f2 a z (fun q => h (by unfold scr; omega)) (fun q => h (by unfold scr; omega)) (fun q => h (by unfold scr; omega))]; exact f1 a z (fun q => h (by unfold scr; omega))) hI⟩
          | some w =>
            obtain ⟨w72, e1, r1, y0, yk, f1⟩ := k80_o (ex := ex) (d := d) (b := b) hP hc hr hx h0 ht hR
            obtain ⟨e2, r2, c3, f3, rfl⟩ := k196_o (ex := ex) (d := d) (b := b) (c := e1) hP (mS_fr (fun z => f1 55 z (by omega) (by omega) (by omega)) hm) hr hx h0 ht hR
            have p6 := pop_6 x (p64 hP.1.1 hx)
            refine ⟨_, _, e1, b, _, b, r1, r2, rfl, Inv_row2 hI hr (N := pop x) (by omega) ?_ ?_ (fun k hk => ?_) (fun a z g1 g2 g3 g4 g5 => ?_)⟩
            · rw [xfl3_out _ _ (by omega), xup_n _ _ (by omega), f3 _ _ (by omega) (by omega) (by omega)]; exact y0
            · rw [xfl3_out _ _ (by omega), xup_s]
            · rw [xfl3_out _ _ (by omega), xup_n _ _ (by omega), f3 _ _ (by omega) (by omega) (by omega), yk k hk, xfl3_in _ _ (by omega)]
              show _ = (if 40 * r + k - 40 * r < pop x then ((w.2 (40 * r + k - 40 * r) : Nat) : Int) else 0)
              rw [Nat.add_sub_cancel_left]
            · rw [xfl3_out _ _ (by omega), xup_n _ _ (by omega), f3 a z (fun q => g1 (by unfold scr; omega)) (fun q => g1 (by unfold scr; omega)) (fun q => g1 (by unfold scr; omega))]
              exact f1 a z (fun q => g1 (by unfold scr; omega)) g2 g3
        · exact Ag_same hI (-4) (k80_s2 hP hc hr hx h0 ht) (k196_s2 hP hm hr hx h0 ht)
    · refine Ag_same hI (-1) ?_ (k196_b1 hP hm h1 q1)
      by_cases q0 : a1 < 0
      · exact k80_b2 hr h1 q0
      · obtain ⟨x, rfl⟩ : ∃ x : Nat, a1 = (x : Nat) := ⟨a1.toNat, by omega⟩
        have x31 : x < 2147483648 := by unfold w32 at h1; omega
        exact k80_b3 hP hc hr x31 (by omega)
  · refine Ag_same hI (-1) (k80_b1 h2 q2) ?_
    by_cases q1 : 0 ≤ a1 ∧ a1 < ((2 ^ n : Nat) : Int)
    · obtain ⟨x, hx, rfl⟩ : ∃ j : Nat, j < 2 ^ n ∧ a1 = (j : Int) := ⟨a1.toNat, by omega, by omega⟩
      exact k196_b2 hP hm hx h2 q2
    · exact k196_b1 hP hm h1 q1
