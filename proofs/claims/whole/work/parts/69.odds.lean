-- odds, mid
theorem sumN_le {f : Nat → Nat} {K : Nat} : ∀ {N : Nat}, (∀ x, x < N → f x ≤ K) → sumN f N ≤ K * N := by
  intro N
  induction N with
  | zero => intro _; exact Nat.le_refl 0
  | succ N ih =>
    intro h
    have h1 := ih (fun x hx => h x (by omega))
    have h2 := h N (by omega)
    rw [sumN_s, Nat.mul_succ]
    omega
theorem pop_6 : ∀ s, s < 64 → pop s ≤ 6 := by decide +kernel
theorem xit_acc (f : Nat → Nat) : ∀ m i a, xit (fun x a => a + f x) m i a = a + xit (fun x a => a + f x) m i 0 := by
  intro m
  induction m with
  | zero => intro i a; rfl
  | succ m ih => intro i a; rw [xit, ih, xit, ih (i + 1) (0 + f i)]; omega
theorem pw12 {q k : Nat} (hq : q ≤ 12) (hk : k ≤ 6) : q ^ k ≤ 2985984 := Nat.le_trans (Nat.pow_le_pow_left hq k) (Nat.le_trans (Nat.pow_le_pow_right (n := 12) (by decide) hk) (by decide))
theorem mst_w {kd bo wo : Nat → Nat} {n p : Nat} (hp : p ≤ 12) (u : Nat → Bool) : ∀ m i (t : (Nat × (Nat → Nat)) × Nat), (xit (mst kd bo wo n p u) m i t).2 ≤ t.2 * 12 ^ m := by
  intro m
  induction m with
  | zero => intro i t; show t.2 ≤ t.2 * 1; rw [Nat.mul_one]; exact Nat.le_refl _
  | succ m ih =>
    intro i t
    refine Nat.le_trans (ih (i + 1) _) ?_
    rw [Nat.pow_succ, Nat.mul_comm (12 ^ m), ← Nat.mul_assoc]
    refine Nat.mul_le_mul_right _ ?_
    show t.2 * _ ≤ t.2 * 12
    refine Nat.mul_le_mul_left _ ?_
    split
    · split <;> omega
    · split <;> omega
theorem cst_9 {kd bo wo : Nat → Nat} {n : Nat} (ho : gok n kd bo wo) (u : Nat → Bool) : ∀ m i (t : Nat × (Nat → Nat)), i + m = n → l9 t.2 → l9 (xit (cst kd bo wo n u) m i t).2 := by
  intro m
  induction m with
  | zero => intro i t _ h; exact h
  | succ m ih =>
    intro i t hi h
    refine ih (i + 1) _ (by omega) ?_
    have h3 := ho.2 i (by omega)
    unfold cst
    split
    · exact tl_9 h3.2.2 h3.2.1 h
    · exact h
theorem mul3 {a b c : Nat} (ha : a ≤ 2985984) (hb : b ≤ 2985984) (hc : c ≤ 72) : a * b * c ≤ 641959232274432 := by
  have h1 := Nat.mul_le_mul ha hb
  have h2 := Nat.mul_le_mul h1 hc
  exact Nat.le_trans h2 (by decide)
theorem fC_le {kd bo wo : Nat → Nat} {n T p : Nat} {L : Nat → Nat} {V : (Nat → Nat) → Nat} (ho : gok n kd bo wo) (hp : p ≤ 12) (h9 : l9 L) (hV : ∀ L, l9 L → V L ≤ 72) : sumN (fC kd bo wo n T p L V) (2 ^ n) < 9223372036854775808 := by
  have hn := ho.1
  have hp2 := pp64 hn
  have h := sumN_le (f := fC kd bo wo n T p L V) (K := 641959232274432) (N := 2 ^ n) (fun x hx => by
    have hx6 := p64 hn hx
    have a1 := pop_6 x hx6
    have a2 := pop_6 (unt n T) (unt_64 T hn)
    unfold fC
    split
    · exact mul3 (pw12 hp a1) (pw12 (by omega) (by omega)) (hV _ (cst_9 ho _ n 0 (T, L) (Nat.zero_add n) h9))
    · exact Nat.zero_le _)
  have h2 := Nat.mul_le_mul_left 641959232274432 hp2
  generalize sumN (fC kd bo wo n T p L V) (2 ^ n) = q at *
  omega
theorem fM_le {kd bo wo : Nat → Nat} {n T p : Nat} {L : Nat → Nat} {V : (Nat → Nat) → Nat} (ho : gok n kd bo wo) (hp : p ≤ 12) (h9 : l9 L) (hV : ∀ L, l9 L → V L ≤ 72) : sumN (fM kd bo wo n T p L V) (2 ^ n) < 9223372036854775808 := by
  have hn := ho.1
  have hp2 := pp64 hn
  have h := sumN_le (f := fM kd bo wo n T p L V) (K := 214990848) (N := 2 ^ n) (fun x hx => by
    have a1 := mst_w (kd := kd) (bo := bo) (wo := wo) (n := n) hp (fun j => x.testBit j) n 0 ((T, L), 1)
    have a2 : 1 * 12 ^ n ≤ 2985984 := by rw [Nat.one_mul]; exact pw12 (by decide) hn
    have a3 := hV _ (mst_9 (p := p) ho (fun j => x.testBit j) n 0 ((T, L), 1) (Nat.zero_add n) h9)
    have h2 := Nat.mul_le_mul (Nat.le_trans a1 a2) a3
    exact Nat.le_trans h2 (by decide))
  have h2 := Nat.mul_le_mul_left 214990848 hp2
  generalize sumN (fM kd bo wo n T p L V) (2 ^ n) = q at *
  omega
theorem pop_sub {x n T : Nat} (hn : n ≤ 6) (hx : x < 2 ^ n) (hs : x ^^^ (x &&& unt n T) = 0) : pop x ≤ pop (unt n T) := by
  rw [pop_tb (by omega) hx, pop_unt T hn]
  exact (kw_val (p := 0) n ((sub_unt hx).mp hs)).1
def Vo (v j : Nat) (L : Nat → Nat) : Nat := if v ≤ L j then 1 else 0
theorem Vo_72 (v j : Nat) : ∀ L, l9 L → Vo v j L ≤ 72 := by
  intro L _
  unfold Vo
  split <;> omega
theorem l90 {ex : xO} {d : Nat} {c : Nat → Nat → Int} {b : Bool} {n D T Mo : Nat} {kd bo wo L : Nat → Nat} (hP : pS n kd bo wo D T Mo L) (hc : cS c b n kd bo wo D T Mo L) {p : Nat} (hp12 : p ≤ 12) {j v : Nat} (hj : j < 8) (hv : v ≤ 9) {o : xV × xH} : ∀ (m x a : Nat), x + m = 2 ^ n → Rn ex xt90 (d + 10) 67 [xA 0, xI (j : Int), xI (v : Int), xI (p : Int), xI ((unt n T : Nat) : Int), xL ((xit (fun x a => a + fC kd bo wo n T p L (Vo v j) x) m x a) : Nat), xU, xI ((2 ^ n) : Nat)] [] (hp c b) o → Rn ex xt90 (d + 10) 67 [xA 0, xI (j : Int), xI (v : Int), xI (p : Int), xI ((unt n T : Nat) : Int), xL (a : Nat), xU, xI (x : Nat)] [] (hp c b) o := by
  obtain ⟨ho, h40, hT, h9, hMo⟩ := hP
  obtain ⟨hC, d7, t9, hL, m10⟩ := hc
  have hn := ho.1
  have hT6 := p64 hn hT
  have hp2 := pp64 hn
  intro m
  induction m with
  | zero =>
    intro x a hm kk
    obtain rfl : x = 2 ^ n := by omega
    exact kk
  | succ m ih =>
    intro x a hm kk
    have x64 : x < 64 := by omega
    have xn : x < 2 ^ n := by omega
    have in1 : ¬ w32 (((2 ^ n : Nat) : Int) - 1) < w32 (x : Int) := fun h => absurd ((z_all hn (by omega)).mp h) (by omega)
    have u64 := unt_64 T hn
    have es : (w32 ((x ^^^ (x &&& unt n T) : Nat) : Int) = 0) ↔ x ^^^ (x &&& unt n T) = 0 := y_eq0 (Nat.lt_trans (Nat.xor_lt_two_pow (n := 6) x64 (and_64 x64)) (by decide))
    have q := ih (x + 1) (a + fC kd bo wo n T p L (Vo v j) x) (by omega) kk
    by_cases hs : x ^^^ (x &&& unt n T) = 0
    · have hle := pop_sub hn xn hs
      obtain ⟨Y, rY, pY, nY⟩ := c128 (ex := ex) (d := d + 3) (b := b) ⟨ho, h40, hT, h9, hMo⟩ ⟨hC, d7, t9, hL, m10⟩ x64
      have yl := nY j hj
      have ev : (w32 (((xit (cst kd bo wo n (fun i => x.testBit i)) n 0 (T, L)).2 j : Nat) : Int) < w32 (v : Int)) ↔ (xit (cst kd bo wo n (fun i => x.testBit i)) n 0 (T, L)).2 j < v := y_lt (n := (xit (cst kd bo wo n (fun i => x.testBit i)) n 0 (T, L)).2 j) (i := v) (by omega) (by omega)
      by_cases hl : v ≤ (xit (cst kd bo wo n (fun i => x.testBit i)) n 0 (T, L)).2 j
      · rw [show fC kd bo wo n T p L (Vo v j) x = p ^ pop x * (12 - p) ^ (pop (unt n T) - pop x) from (if_pos hs).trans (by rw [show Vo v j (xit (cst kd bo wo n (fun i => x.testBit i)) n 0 (T, L)).2 = 1 from if_pos hl, Nat.mul_one])] at q
        refine Rn.run 2 (ls' := [_, _, _, _, _, _, _, _]) (st' := [_, _]) rfl ?_
        refine Rn.getR rfl ⟨by decide, rfl, rfl⟩ (j := gid b) (rfl) ?_
        refine Rn.callV rfl (x_sv (xS_g b)) rfl rfl rfl (c17 hn hC.1) ?_
        refine Rn.gt2 rfl (fun e76 => absurd e76 (by exact in1)) (fun e76 => ?_)
        refine Rn.run 5 (ls' := [_, _, _, _, _, _, _, _]) (st' := [_]) rfl ?_
        rw [bt_andn x x64 _ u64]
        refine Rn.ne0 rfl (fun e86 => absurd e86 (by exact fun h => h (es.mpr hs))) (fun e86 => ?_)
        refine Rn.run 2 (ls' := [_, _, _, _, _, _, _, _]) (st' := [_, _]) rfl ?_
        refine Rn.call rfl rfl rfl rfl rfl (rY) ?_
        refine Rn.run 1 (ls' := [_, _, _, _, _, _, _, _]) (st' := [_, _]) rfl ?_
        refine Rn.call rfl rfl rfl rfl rfl (c0 hj) ?_
        rw [pY j hj]
        refine Rn.run 1 (ls' := [_, _, _, _, _, _, _, _]) (st' := [_, _]) rfl ?_
        refine Rn.lt2 rfl (fun e100 => absurd e100 (by exact fun h => absurd (ev.mp h) (Nat.not_lt.mpr hl))) (fun e100 => ?_)
        refine Rn.run 4 (ls' := [_, _, _, _, _, _, _, _]) (st' := [_, _, _, _]) rfl ?_
        refine Rn.call rfl rfl rfl rfl rfl (c129 x64 u64 hp12 hle) ?_
        refine Rn.run 4 (ls' := [_, _, _, _, _, _, _, _]) (st' := []) rfl ?_
        exact q
      · rw [show fC kd bo wo n T p L (Vo v j) x = 0 from (if_pos hs).trans (by rw [show Vo v j (xit (cst kd bo wo n (fun i => x.testBit i)) n 0 (T, L)).2 = 0 from if_neg hl, Nat.mul_zero]), Nat.add_zero] at q
        refine Rn.run 2 (ls' := [_, _, _, _, _, _, _, _]) (st' := [_, _]) rfl ?_
        refine Rn.getR rfl ⟨by decide, rfl, rfl⟩ (j := gid b) (rfl) ?_
        refine Rn.callV rfl (x_sv (xS_g b)) rfl rfl rfl (c17 hn hC.1) ?_
        refine Rn.gt2 rfl (fun e76 => absurd e76 (by exact in1)) (fun e76 => ?_)
        refine Rn.run 5 (ls' := [_, _, _, _, _, _, _, _]) (st' := [_]) rfl ?_
        rw [bt_andn x x64 _ u64]
        refine Rn.ne0 rfl (fun e86 => absurd e86 (by exact fun h => h (es.mpr hs))) (fun e86 => ?_)
        refine Rn.run 2 (ls' := [_, _, _, _, _, _, _, _]) (st' := [_, _]) rfl ?_
        refine Rn.call rfl rfl rfl rfl rfl (rY) ?_
        refine Rn.run 1 (ls' := [_, _, _, _, _, _, _, _]) (st' := [_, _]) rfl ?_
        refine Rn.call rfl rfl rfl rfl rfl (c0 hj) ?_
        rw [pY j hj]
        refine Rn.run 1 (ls' := [_, _, _, _, _, _, _, _]) (st' := [_, _]) rfl ?_
        refine Rn.lt2 rfl (fun e100 => ?_) (fun e100 => absurd e100 (by exact fun h => h (ev.mpr (Nat.not_le.mp hl))))
        refine Rn.run 2 (ls' := [_, _, _, _, _, _, _, _]) (st' := []) rfl ?_
        exact q
    · rw [show fC kd bo wo n T p L (Vo v j) x = 0 from if_neg hs, Nat.add_zero] at q
      refine Rn.run 2 (ls' := [_, _, _, _, _, _, _, _]) (st' := [_, _]) rfl ?_
      refine Rn.getR rfl ⟨by decide, rfl, rfl⟩ (j := gid b) (rfl) ?_
      refine Rn.callV rfl (x_sv (xS_g b)) rfl rfl rfl (c17 hn hC.1) ?_
      refine Rn.gt2 rfl (fun e76 => absurd e76 (by exact in1)) (fun e76 => ?_)
      refine Rn.run 5 (ls' := [_, _, _, _, _, _, _, _]) (st' := [_]) rfl ?_
      rw [bt_andn x x64 _ u64]
      refine Rn.ne0 rfl (fun e86 => ?_) (fun e86 => absurd e86 (by exact fun h => h (fun z => hs (es.mp z))))
      refine Rn.run 2 (ls' := [_, _, _, _, _, _, _, _]) (st' := []) rfl ?_
      exact q
theorem l91 {ex : xO} {d : Nat} {c : Nat → Nat → Int} {b : Bool} {n D T Mo : Nat} {kd bo wo L : Nat → Nat} (hP : pS n kd bo wo D T Mo L) (hc : cS c b n kd bo wo D T Mo L) {p : Nat} (hp12 : p ≤ 12) {o : xV × xH} : ∀ (m x a : Nat), x + m = 2 ^ n → Rn ex xt91 (d + 10) 47 [xA 0, xI (p : Int), xI ((unt n T : Nat) : Int), xL ((xit (fun x a => a + fC kd bo wo n T p L (s8) x) m x a) : Nat), xU, xI ((2 ^ n) : Nat)] [] (hp c b) o → Rn ex xt91 (d + 10) 47 [xA 0, xI (p : Int), xI ((unt n T : Nat) : Int), xL (a : Nat), xU, xI (x : Nat)] [] (hp c b) o := by
  obtain ⟨ho, h40, hT, h9, hMo⟩ := hP
  obtain ⟨hC, d7, t9, hL, m10⟩ := hc
  have hn := ho.1
  have hT6 := p64 hn hT
  have hp2 := pp64 hn
  intro m
  induction m with
  | zero =>
    intro x a hm kk
    obtain rfl : x = 2 ^ n := by omega
    exact kk
  | succ m ih =>
    intro x a hm kk
    have x64 : x < 64 := by omega
    have xn : x < 2 ^ n := by omega
    have in1 : ¬ w32 (((2 ^ n : Nat) : Int) - 1) < w32 (x : Int) := fun h => absurd ((z_all hn (by omega)).mp h) (by omega)
    have u64 := unt_64 T hn
    have es : (w32 ((x ^^^ (x &&& unt n T) : Nat) : Int) = 0) ↔ x ^^^ (x &&& unt n T) = 0 := y_eq0 (Nat.lt_trans (Nat.xor_lt_two_pow (n := 6) x64 (and_64 x64)) (by decide))
    have q := ih (x + 1) (a + fC kd bo wo n T p L (s8) x) (by omega) kk
    by_cases hs : x ^^^ (x &&& unt n T) = 0
    · have hle := pop_sub hn xn hs
      obtain ⟨Y, rY, pY, nY⟩ := c128 (ex := ex) (d := d + 3) (b := b) ⟨ho, h40, hT, h9, hMo⟩ ⟨hC, d7, t9, hL, m10⟩ x64
      have s31 : s8 (xit (cst kd bo wo n (fun i => x.testBit i)) n 0 (T, L)).2 < 2147483648 := Nat.lt_of_le_of_lt (s8_le nY) (by decide)
      rw [show fC kd bo wo n T p L (s8) x = p ^ pop x * (12 - p) ^ (pop (unt n T) - pop x) * s8 (xit (cst kd bo wo n (fun i => x.testBit i)) n 0 (T, L)).2 from if_pos hs] at q
      refine Rn.run 2 (ls' := [_, _, _, _, _, _]) (st' := [_, _]) rfl ?_
      refine Rn.getR rfl ⟨by decide, rfl, rfl⟩ (j := gid b) (rfl) ?_
      refine Rn.callV rfl (x_sv (xS_g b)) rfl rfl rfl (c17 hn hC.1) ?_
      refine Rn.gt2 rfl (fun e56 => absurd e56 (by exact in1)) (fun e56 => ?_)
      refine Rn.run 5 (ls' := [_, _, _, _, _, _]) (st' := [_]) rfl ?_
      rw [bt_andn x x64 _ u64]
      refine Rn.ne0 rfl (fun e65 => absurd e65 (by exact fun h => h (es.mpr hs))) (fun e65 => ?_)
      refine Rn.run 4 (ls' := [_, _, _, _, _, _]) (st' := [_, _, _, _]) rfl ?_
      refine Rn.call rfl rfl rfl rfl rfl (c129 x64 u64 hp12 hle) ?_
      refine Rn.run 2 (ls' := [_, _, _, _, _, _]) (st' := [_, _, _, _]) rfl ?_
      refine Rn.call rfl rfl rfl rfl rfl (rY) ?_
      refine Rn.call rfl rfl rfl rfl rfl (c2 pY) ?_
      refine Rn.run 1 (ls' := [_, _, _, _, _, _]) (st' := [_, _, _]) rfl ?_
      rw [x_wn s31]
      refine Rn.run 5 (ls' := [_, _, _, _, _, _]) (st' := []) rfl ?_
      exact q
    · rw [show fC kd bo wo n T p L (s8) x = 0 from if_neg hs, Nat.add_zero] at q
      refine Rn.run 2 (ls' := [_, _, _, _, _, _]) (st' := [_, _]) rfl ?_
      refine Rn.getR rfl ⟨by decide, rfl, rfl⟩ (j := gid b) (rfl) ?_
      refine Rn.callV rfl (x_sv (xS_g b)) rfl rfl rfl (c17 hn hC.1) ?_
      refine Rn.gt2 rfl (fun e56 => absurd e56 (by exact in1)) (fun e56 => ?_)
      refine Rn.run 5 (ls' := [_, _, _, _, _, _]) (st' := [_]) rfl ?_
      rw [bt_andn x x64 _ u64]
      refine Rn.ne0 rfl (fun e65 => ?_) (fun e65 => absurd e65 (by exact fun h => h (fun z => hs (es.mp z))))
      refine Rn.run 2 (ls' := [_, _, _, _, _, _]) (st' := []) rfl ?_
      exact q
theorem l218 {ex : xO} {d : Nat} {c : Nat → Nat → Int} {b : Bool} {n D T Mo : Nat} {kd bo wo L : Nat → Nat} (hP : pS n kd bo wo D T Mo L) (hm : mS c n kd bo wo D T Mo L) {p : Nat} (hp12 : p ≤ 12) {j v : Nat} (hj : j < 8) (hv : v ≤ 9) {Q : (Nat → Nat → Int) → Prop} : ∀ (m x a : Nat) (c' : Nat → Nat → Int) (u1 u2 : xV), x + m = 2 ^ n → (∀ a k, a ≠ 63 → c' a k = c a k) → (∀ c2 u1 u2, (∀ a k, a ≠ 63 → c2 a k = c a k) → ∃ e, Rn ex xt218 (d + 10) 51 [xA 54, xI (j : Int), xI (v : Int), xI (p : Int), xL ((xit (fun x a => a + fM kd bo wo n T p L (Vo v j) x) m x a) : Nat), xU, xI ((2 ^ n) : Nat), u1, u2] [] (hp c2 b) (xI 1, hp e b) ∧ Q e) → ∃ e, Rn ex xt218 (d + 10) 51 [xA 54, xI (j : Int), xI (v : Int), xI (p : Int), xL (a : Nat), xU, xI (x : Nat), u1, u2] [] (hp c' b) (xI 1, hp e b) ∧ Q e := by
  obtain ⟨ho, h40, hT, h9, hMo⟩ := hP
  obtain ⟨hM, d29, t2, l55, m1⟩ := hm
  have hn := ho.1
  have hT6 := p64 hn hT
  have hp2 := pp64 hn
  have p31 : p < 2147483648 := by omega
  intro m
  induction m with
  | zero =>
    intro x a c' u1 u2 hm fr kk
    obtain rfl : x = 2 ^ n := by omega
    exact kk c' u1 u2 fr
  | succ m ih =>
    intro x a c' u1 u2 hm fr kk
    have x64 : x < 64 := by omega
    have in1 : ¬ w32 (((2 ^ n : Nat) : Int) - 1) < w32 (x : Int) := fun h => absurd ((z_all hn (by omega)).mp h) (by omega)
    have hm' : mS c' n kd bo wo D T Mo L := mS_fr (fun k => fr 55 k (by decide)) ⟨hM, d29, t2, l55, m1⟩
    have hM' := hm'.1
    have rc := c216 (ex := ex) (d := d + 5) (b := b) ⟨ho, h40, hT, h9, hMo⟩ hm' x64 hp12
    have n9 := mst_9 (p := p) ho (fun j => x.testBit j) n 0 ((T, L), 1) (Nat.zero_add n) h9
    obtain ⟨e, q, f⟩ := ih (x + 1) (a + fM kd bo wo n T p L (Vo v j) x) (lf c' (xit (mst kd bo wo n p (fun j => x.testBit j)) n 0 ((T, L), 1)).1.2) (xL ((xit (mst kd bo wo n p (fun j => x.testBit j)) n 0 ((T, L), 1)).2 : Nat)) xU (by omega) (fun a k ha => by rw [lf_out _ _ ha]; exact fr a k ha) kk
    refine ⟨e, ?_, f⟩
    have yl := n9 j hj
    have ev : (w32 (((xit (mst kd bo wo n p (fun j => x.testBit j)) n 0 ((T, L), 1)).1.2 j : Nat) : Int) < w32 (v : Int)) ↔ (xit (mst kd bo wo n p (fun j => x.testBit j)) n 0 ((T, L), 1)).1.2 j < v := y_lt (n := (xit (mst kd bo wo n p (fun j => x.testBit j)) n 0 ((T, L), 1)).1.2 j) (i := v) (Nat.lt_of_le_of_lt hv (by decide)) (Nat.lt_of_le_of_lt yl (by decide))
    have j31 : j < 2147483648 := by omega
    by_cases hl : v ≤ (xit (mst kd bo wo n p (fun j => x.testBit j)) n 0 ((T, L), 1)).1.2 j
    · rw [show fM kd bo wo n T p L (Vo v j) x = (xit (mst kd bo wo n p (fun j => x.testBit j)) n 0 ((T, L), 1)).2 from (congrArg (fun z => (xit (mst kd bo wo n p (fun j => x.testBit j)) n 0 ((T, L), 1)).2 * z) (if_pos hl)).trans (Nat.mul_one _)] at q
      refine Rn.run 2 (ls' := [_, _, _, _, _, _, _, _, _]) (st' := [_, _]) rfl ?_
      refine Rn.call rfl rfl rfl rfl rfl (c163 hn hM'.1) ?_
      refine Rn.gt2 rfl (fun e57 => absurd e57 (by exact in1)) (fun e57 => ?_)
      refine Rn.run 3 (ls' := [_, _, _, _, _, _, _, _, _]) (st' := [_, _, _]) rfl ?_
      refine Rn.call rfl rfl rfl rfl rfl (rc) ?_
      refine Rn.run 5 (ls' := [_, _, _, _, _, _, _, _, _]) (st' := [_, _, _]) rfl ?_
      refine Rn.ald rfl ⟨by decide, rfl⟩ (j) (x_wn j31) hj ?_
      rw [lf_in _ _ hj]
      refine Rn.run 1 (ls' := [_, _, _, _, _, _, _, _, _]) (st' := [_, _, _]) rfl ?_
      refine Rn.lt2 rfl (fun e78 => absurd e78 (by exact fun h => absurd (ev.mp h) (Nat.not_lt.mpr hl))) (fun e78 => ?_)
      refine Rn.run 6 (ls' := [_, _, _, _, _, _, _, _, _]) (st' := []) rfl ?_
      exact q
    · rw [show fM kd bo wo n T p L (Vo v j) x = 0 from (congrArg (fun z => (xit (mst kd bo wo n p (fun j => x.testBit j)) n 0 ((T, L), 1)).2 * z) (if_neg hl)).trans (Nat.mul_zero _)] at q
      refine Rn.run 2 (ls' := [_, _, _, _, _, _, _, _, _]) (st' := [_, _]) rfl ?_
      refine Rn.call rfl rfl rfl rfl rfl (c163 hn hM'.1) ?_
      refine Rn.gt2 rfl (fun e57 => absurd e57 (by exact in1)) (fun e57 => ?_)
      refine Rn.run 3 (ls' := [_, _, _, _, _, _, _, _, _]) (st' := [_, _, _]) rfl ?_
      refine Rn.call rfl rfl rfl rfl rfl (rc) ?_
      refine Rn.run 5 (ls' := [_, _, _, _, _, _, _, _, _]) (st' := [_, _, _]) rfl ?_
      refine Rn.ald rfl ⟨by decide, rfl⟩ (j) (x_wn j31) hj ?_
      rw [lf_in _ _ hj]
      refine Rn.run 1 (ls' := [_, _, _, _, _, _, _, _, _]) (st' := [_, _, _]) rfl ?_
      refine Rn.lt2 rfl (fun e78 => ?_) (fun e78 => absurd e78 (by exact fun h => h (ev.mpr (Nat.not_le.mp hl))))
      refine Rn.run 5 (ls' := [_, _, _, _, _, _, _, _, _]) (st' := []) rfl ?_
      exact q
theorem l219 {ex : xO} {d : Nat} {c : Nat → Nat → Int} {b : Bool} {n D T Mo : Nat} {kd bo wo L : Nat → Nat} (hP : pS n kd bo wo D T Mo L) (hm : mS c n kd bo wo D T Mo L) {p : Nat} (hp12 : p ≤ 12) {Q : (Nat → Nat → Int) → Prop} : ∀ (m x a : Nat) (c' : Nat → Nat → Int) (u1 u2 : xV), x + m = 2 ^ n → (∀ a k, a ≠ 63 → c' a k = c a k) → (∀ c2 u1 u2, (∀ a k, a ≠ 63 → c2 a k = c a k) → ∃ e, Rn ex xt219 (d + 10) 31 [xA 54, xI (p : Int), xL ((xit (fun x a => a + fM kd bo wo n T p L (s8) x) m x a) : Nat), xU, xI ((2 ^ n) : Nat), u1, u2] [] (hp c2 b) (xI 1, hp e b) ∧ Q e) → ∃ e, Rn ex xt219 (d + 10) 31 [xA 54, xI (p : Int), xL (a : Nat), xU, xI (x : Nat), u1, u2] [] (hp c' b) (xI 1, hp e b) ∧ Q e := by
  obtain ⟨ho, h40, hT, h9, hMo⟩ := hP
  obtain ⟨hM, d29, t2, l55, m1⟩ := hm
  have hn := ho.1
  have hT6 := p64 hn hT
  have hp2 := pp64 hn
  have p31 : p < 2147483648 := by omega
  intro m
  induction m with
  | zero =>
    intro x a c' u1 u2 hm fr kk
    obtain rfl : x = 2 ^ n := by omega
    exact kk c' u1 u2 fr
  | succ m ih =>
    intro x a c' u1 u2 hm fr kk
    have x64 : x < 64 := by omega
    have in1 : ¬ w32 (((2 ^ n : Nat) : Int) - 1) < w32 (x : Int) := fun h => absurd ((z_all hn (by omega)).mp h) (by omega)
    have hm' : mS c' n kd bo wo D T Mo L := mS_fr (fun k => fr 55 k (by decide)) ⟨hM, d29, t2, l55, m1⟩
    have hM' := hm'.1
    have rc := c216 (ex := ex) (d := d + 5) (b := b) ⟨ho, h40, hT, h9, hMo⟩ hm' x64 hp12
    have n9 := mst_9 (p := p) ho (fun j => x.testBit j) n 0 ((T, L), 1) (Nat.zero_add n) h9
    obtain ⟨e, q, f⟩ := ih (x + 1) (a + fM kd bo wo n T p L (s8) x) (lf c' (xit (mst kd bo wo n p (fun j => x.testBit j)) n 0 ((T, L), 1)).1.2) (xL ((xit (mst kd bo wo n p (fun j => x.testBit j)) n 0 ((T, L), 1)).2 : Nat)) xU (by omega) (fun a k ha => by rw [lf_out _ _ ha]; exact fr a k ha) kk
    refine ⟨e, ?_, f⟩
    have s31 : s8 (xit (mst kd bo wo n p (fun j => x.testBit j)) n 0 ((T, L), 1)).1.2 < 2147483648 := Nat.lt_of_le_of_lt (s8_le n9) (by decide)
    refine Rn.run 2 (ls' := [_, _, _, _, _, _, _]) (st' := [_, _]) rfl ?_
    refine Rn.call rfl rfl rfl rfl rfl (c163 hn hM'.1) ?_
    refine Rn.gt2 rfl (fun e37 => absurd e37 (by exact in1)) (fun e37 => ?_)
    refine Rn.run 3 (ls' := [_, _, _, _, _, _, _]) (st' := [_, _, _]) rfl ?_
    refine Rn.call rfl rfl rfl rfl rfl (rc) ?_
    refine Rn.run 4 (ls' := [_, _, _, _, _, _, _]) (st' := [_, _, _]) rfl ?_
    refine Rn.call rfl rfl rfl rfl rfl (c170 (fun j hj => lf_in _ _ hj)) ?_
    refine Rn.run 1 (ls' := [_, _, _, _, _, _, _]) (st' := [_, _, _]) rfl ?_
    rw [x_wn s31]
    refine Rn.run 5 (ls' := [_, _, _, _, _, _, _]) (st' := []) rfl ?_
    exact q
theorem k90_b1 {ex : xO} {d : Nat} {c : Nat → Nat → Int} {b : Bool}  {a1 a2 a3 : Int} (h1 : w32 a1 = a1) (q1 : ¬ (0 ≤ a1 ∧ a1 < 8)) : An ex (d + 20) 90 8 [xA 0, xI a1, xI a2, xI a3] (hp c b) (xI (-1), hp (c) b) := by
  refine Rn.run 2 (ls' := [_, _, _, _, _, _, _, _]) (st' := [_, _]) rfl ?_
  refine Rn.call rfl rfl rfl rfl rfl (c100) ?_
  refine Rn.eqB rfl (fun e6 => ?_) (fun e6 => absurd e6 (by exact (z_no (m := 8) h1 (by omega) q1)))
  refine Rn.run 1 (ls' := [_, _, _, _, _, _, _, _]) (st' := [_]) rfl ?_
  exact Rn.ret rfl rfl rfl rfl rfl rfl
theorem k90_b2 {ex : xO} {d : Nat} {c : Nat → Nat → Int} {b : Bool}  {j : Nat} {a2 a3 : Int} (hj : j < 8) (h2 : w32 a2 = a2) (q2 : ¬ (0 ≤ a2 ∧ a2 < 10)) : An ex (d + 20) 90 8 [xA 0, xI (j : Int), xI a2, xI a3] (hp c b) (xI (-1), hp (c) b) := by
  refine Rn.run 2 (ls' := [_, _, _, _, _, _, _, _]) (st' := [_, _]) rfl ?_
  refine Rn.call rfl rfl rfl rfl rfl (c100) ?_
  refine Rn.eqB rfl (fun e6 => absurd e6 (by exact fun h => h (z_in (m := 8) hj (by omega)))) (fun e6 => ?_)
  refine Rn.run 2 (ls' := [_, _, _, _, _, _, _, _]) (st' := [_, _]) rfl ?_
  refine Rn.call rfl rfl rfl rfl rfl (c100) ?_
  refine Rn.eqB rfl (fun e15 => ?_) (fun e15 => absurd e15 (by exact (z_no (m := 10) h2 (by omega) q2)))
  refine Rn.run 1 (ls' := [_, _, _, _, _, _, _, _]) (st' := [_]) rfl ?_
  exact Rn.ret rfl rfl rfl rfl rfl rfl
theorem k90_b3 {ex : xO} {d : Nat} {c : Nat → Nat → Int} {b : Bool}  {j v : Nat} {a3 : Int} (hj : j < 8) (hv : v ≤ 9) (h3 : w32 a3 = a3) (q3 : ¬ (0 ≤ a3 ∧ a3 < 13)) : An ex (d + 20) 90 8 [xA 0, xI (j : Int), xI (v : Int), xI a3] (hp c b) (xI (-1), hp (c) b) := by
  have v10 : v < 10 := by omega
  refine Rn.run 2 (ls' := [_, _, _, _, _, _, _, _]) (st' := [_, _]) rfl ?_
  refine Rn.call rfl rfl rfl rfl rfl (c100) ?_
  refine Rn.eqB rfl (fun e6 => absurd e6 (by exact fun h => h (z_in (m := 8) hj (by omega)))) (fun e6 => ?_)
  refine Rn.run 2 (ls' := [_, _, _, _, _, _, _, _]) (st' := [_, _]) rfl ?_
  refine Rn.call rfl rfl rfl rfl rfl (c100) ?_
  refine Rn.eqB rfl (fun e15 => absurd e15 (by exact fun h => h (z_in (m := 10) v10 (by omega)))) (fun e15 => ?_)
  refine Rn.run 2 (ls' := [_, _, _, _, _, _, _, _]) (st' := [_, _]) rfl ?_
  refine Rn.call rfl rfl rfl rfl rfl (c100) ?_
  refine Rn.neB rfl (fun e24 => absurd e24 (by exact (z_no (m := 13) h3 (by omega) q3))) (fun e24 => ?_)
  refine Rn.run 1 (ls' := [_, _, _, _, _, _, _, _]) (st' := [_]) rfl ?_
  exact Rn.ret rfl rfl rfl rfl rfl rfl
theorem k90_st {ex : xO} {d : Nat} {c : Nat → Nat → Int} {b : Bool} {n D T Mo : Nat} {kd bo wo L : Nat → Nat} (hP : pS n kd bo wo D T Mo L) (hc : cS c b n kd bo wo D T Mo L) {j v p : Nat} (hj : j < 8) (hv : v ≤ 9) (hp12 : p ≤ 12) (h0 : n = 0) : An ex (d + 20) 90 8 [xA 0, xI (j : Int), xI (v : Int), xI (p : Int)] (hp c b) (xI (-4), hp (c) b) := by
  obtain ⟨ho, h40, hT, h9, hMo⟩ := hP
  obtain ⟨hC, d7, t9, hL, m10⟩ := hc
  have hn := ho.1
  have hT6 := p64 hn hT
  have v10 : v < 10 := by omega
  have p13 : p < 13 := by omega
  refine Rn.run 2 (ls' := [_, _, _, _, _, _, _, _]) (st' := [_, _]) rfl ?_
  refine Rn.call rfl rfl rfl rfl rfl (c100) ?_
  refine Rn.eqB rfl (fun e6 => absurd e6 (by exact fun h => h (z_in (m := 8) hj (by omega)))) (fun e6 => ?_)
  refine Rn.run 2 (ls' := [_, _, _, _, _, _, _, _]) (st' := [_, _]) rfl ?_
  refine Rn.call rfl rfl rfl rfl rfl (c100) ?_
  refine Rn.eqB rfl (fun e15 => absurd e15 (by exact fun h => h (z_in (m := 10) v10 (by omega)))) (fun e15 => ?_)
  refine Rn.run 2 (ls' := [_, _, _, _, _, _, _, _]) (st' := [_, _]) rfl ?_
  refine Rn.call rfl rfl rfl rfl rfl (c100) ?_
  refine Rn.neB rfl (fun e24 => ?_) (fun e24 => absurd e24 (by exact fun h => h (z_in (m := 13) p13 (by omega))))
  refine Rn.run 1 (ls' := [_, _, _, _, _, _, _, _]) (st' := [_]) rfl ?_
  refine Rn.getR rfl ⟨by decide, rfl, rfl⟩ (j := gid b) (rfl) ?_
  refine Rn.getI rfl (xS_g b) ?_
  rw [hC.1]
  refine Rn.ne0 rfl (fun e36 => absurd e36 (by rw [h0]; decide)) (fun e36 => ?_)
  refine Rn.run 1 (ls' := [_, _, _, _, _, _, _, _]) (st' := [_]) rfl ?_
  exact Rn.ret rfl rfl rfl rfl rfl rfl
theorem k90_ok {ex : xO} {d : Nat} {c : Nat → Nat → Int} {b : Bool} {n D T Mo : Nat} {kd bo wo L : Nat → Nat} (hP : pS n kd bo wo D T Mo L) (hc : cS c b n kd bo wo D T Mo L) {j v p : Nat} (hj : j < 8) (hv : v ≤ 9) (hp12 : p ≤ 12) (h0 : n ≠ 0) : An ex (d + 20) 90 8 [xA 0, xI (j : Int), xI (v : Int), xI (p : Int)] (hp c b) (xI 1, hp (xup (xup c 0 11 ((sumN (fC kd bo wo n T p L (Vo v j)) (2 ^ n) / Nat.gcd (sumN (fC kd bo wo n T p L (Vo v j)) (2 ^ n)) (12 ^ pop (unt n T)) : Nat) : Int)) 0 12 ((12 ^ pop (unt n T) / Nat.gcd (sumN (fC kd bo wo n T p L (Vo v j)) (2 ^ n)) (12 ^ pop (unt n T)) : Nat) : Int)) b) := by
  obtain ⟨ho, h40, hT, h9, hMo⟩ := hP
  obtain ⟨hC, d7, t9, hL, m10⟩ := hc
  have hn := ho.1
  have hT6 := p64 hn hT
  have v10 : v < 10 := by omega
  have p13 : p < 13 := by omega
  have hp2 := pp64 hn
  have hall := (z_all hn hp2).mpr (Nat.le_refl (2 ^ n))
  have u64 := unt_64 T hn
  have u6 := pop_6 _ u64
  have hU := fC_le (T := T) ho hp12 h9 (Vo_72 v j)
  have hl0 : 0 < 12 ^ pop (unt n T) := Nat.pow_pos (by decide)
  have hl2 : 12 ^ pop (unt n T) < 4194304 := Nat.lt_of_le_of_lt (pw12 (by decide) u6) (by decide)
  have u100 : pop (unt n T) ≤ 100 := by omega
  refine Rn.run 2 (ls' := [_, _, _, _, _, _, _, _]) (st' := [_, _]) rfl ?_
  refine Rn.call rfl rfl rfl rfl rfl (c100) ?_
  refine Rn.eqB rfl (fun e6 => absurd e6 (by exact fun h => h (z_in (m := 8) hj (by omega)))) (fun e6 => ?_)
  refine Rn.run 2 (ls' := [_, _, _, _, _, _, _, _]) (st' := [_, _]) rfl ?_
  refine Rn.call rfl rfl rfl rfl rfl (c100) ?_
  refine Rn.eqB rfl (fun e15 => absurd e15 (by exact fun h => h (z_in (m := 10) v10 (by omega)))) (fun e15 => ?_)
  refine Rn.run 2 (ls' := [_, _, _, _, _, _, _, _]) (st' := [_, _]) rfl ?_
  refine Rn.call rfl rfl rfl rfl rfl (c100) ?_
  refine Rn.neB rfl (fun e24 => ?_) (fun e24 => absurd e24 (by exact fun h => h (z_in (m := 13) p13 (by omega))))
  refine Rn.run 1 (ls' := [_, _, _, _, _, _, _, _]) (st' := [_]) rfl ?_
  refine Rn.getR rfl ⟨by decide, rfl, rfl⟩ (j := gid b) (rfl) ?_
  refine Rn.getI rfl (xS_g b) ?_
  rw [hC.1]
  refine Rn.ne0 rfl (fun e36 => ?_) (fun e36 => absurd e36 (by exact fun h => h (z_ne0 h0 hn)))
  refine Rn.run 1 (ls' := [_, _, _, _, _, _, _, _]) (st' := [_]) rfl ?_
  refine Rn.getR rfl ⟨by decide, rfl, rfl⟩ (j := gid b) (rfl) ?_
  refine Rn.callV rfl (x_sv (xS_g b)) rfl rfl rfl (c17 hn hC.1) ?_
  refine Rn.run 2 (ls' := [_, _, _, _, _, _, _, _]) (st' := [_, _]) rfl ?_
  refine Rn.call rfl rfl rfl rfl rfl (c11 d7 h40) ?_
  rw [t9]
  refine Rn.run 3 (ls' := [_, _, _, _, _, _, _, _]) (st' := [_]) rfl ?_
  rw [bt_unt hn hT6]
  refine Rn.run 5 (ls' := [_, _, _, _, _, _, _, _]) (st' := []) rfl ?_
  refine l90 (d := d + 10) ⟨ho, h40, hT, h9, hMo⟩ ⟨hC, d7, t9, hL, m10⟩ hp12 hj hv (2 ^ n) 0 0 (Nat.zero_add _) ?_
  rw [show xit (fun x a => a + fC kd bo wo n T p L (Vo v j) x) (2 ^ n) 0 0 = sumN (fC kd bo wo n T p L (Vo v j)) (2 ^ n) from rfl]
  refine Rn.run 2 (ls' := [_, _, _, _, _, _, _, _]) (st' := [_, _]) rfl ?_
  refine Rn.getR rfl ⟨by decide, rfl, rfl⟩ (j := gid b) (rfl) ?_
  refine Rn.callV rfl (x_sv (xS_g b)) rfl rfl rfl (c17 hn hC.1) ?_
  refine Rn.gt2 rfl (fun e76 => ?_) (fun e76 => absurd e76 (by exact fun h => h hall))
  refine Rn.run 4 (ls' := [_, _, _, _, _, _, _, _]) (st' := [_, _, _, _]) rfl ?_
  refine Rn.call rfl rfl rfl rfl rfl (c235 u64) ?_
  refine Rn.call rfl rfl rfl rfl rfl (c105 (q := 12) u100) ?_
  refine Rn.call rfl rfl rfl rfl rfl (c103 hU hl0 hl2) ?_
  refine Rn.run 1 (ls' := [_, _, _, _, _, _, _, _]) (st' := [_]) rfl ?_
  exact Rn.ret rfl rfl rfl rfl rfl rfl
theorem k91_b1 {ex : xO} {d : Nat} {c : Nat → Nat → Int} {b : Bool}  {a1 : Int} (h1 : w32 a1 = a1) (q1 : ¬ (0 ≤ a1 ∧ a1 < 13)) : An ex (d + 20) 91 6 [xA 0, xI a1] (hp c b) (xI (-1), hp (c) b) := by
  refine Rn.run 2 (ls' := [_, _, _, _, _, _]) (st' := [_, _]) rfl ?_
  refine Rn.call rfl rfl rfl rfl rfl (c100) ?_
  refine Rn.neB rfl (fun e6 => absurd e6 (by exact (z_no (m := 13) h1 (by omega) q1))) (fun e6 => ?_)
  refine Rn.run 1 (ls' := [_, _, _, _, _, _]) (st' := [_]) rfl ?_
  exact Rn.ret rfl rfl rfl rfl rfl rfl
theorem k91_st {ex : xO} {d : Nat} {c : Nat → Nat → Int} {b : Bool} {n D T Mo : Nat} {kd bo wo L : Nat → Nat} (hP : pS n kd bo wo D T Mo L) (hc : cS c b n kd bo wo D T Mo L) {p : Nat} (hp12 : p ≤ 12) (h0 : n = 0) : An ex (d + 20) 91 6 [xA 0, xI (p : Int)] (hp c b) (xI (-4), hp (c) b) := by
  obtain ⟨ho, h40, hT, h9, hMo⟩ := hP
  obtain ⟨hC, d7, t9, hL, m10⟩ := hc
  have hn := ho.1
  have hT6 := p64 hn hT
  have p13 : p < 13 := by omega
  refine Rn.run 2 (ls' := [_, _, _, _, _, _]) (st' := [_, _]) rfl ?_
  refine Rn.call rfl rfl rfl rfl rfl (c100) ?_
  refine Rn.neB rfl (fun e6 => ?_) (fun e6 => absurd e6 (by exact fun h => h (z_in (m := 13) p13 (by omega))))
  refine Rn.run 1 (ls' := [_, _, _, _, _, _]) (st' := [_]) rfl ?_
  refine Rn.getR rfl ⟨by decide, rfl, rfl⟩ (j := gid b) (rfl) ?_
  refine Rn.getI rfl (xS_g b) ?_
  rw [hC.1]
  refine Rn.ne0 rfl (fun e18 => absurd e18 (by rw [h0]; decide)) (fun e18 => ?_)
  refine Rn.run 1 (ls' := [_, _, _, _, _, _]) (st' := [_]) rfl ?_
  exact Rn.ret rfl rfl rfl rfl rfl rfl
theorem k91_ok {ex : xO} {d : Nat} {c : Nat → Nat → Int} {b : Bool} {n D T Mo : Nat} {kd bo wo L : Nat → Nat} (hP : pS n kd bo wo D T Mo L) (hc : cS c b n kd bo wo D T Mo L) {p : Nat} (hp12 : p ≤ 12) (h0 : n ≠ 0) : An ex (d + 20) 91 6 [xA 0, xI (p : Int)] (hp c b) (xI 1, hp (xup (xup c 0 11 ((sumN (fC kd bo wo n T p L (s8)) (2 ^ n) / Nat.gcd (sumN (fC kd bo wo n T p L (s8)) (2 ^ n)) (12 ^ pop (unt n T)) : Nat) : Int)) 0 12 ((12 ^ pop (unt n T) / Nat.gcd (sumN (fC kd bo wo n T p L (s8)) (2 ^ n)) (12 ^ pop (unt n T)) : Nat) : Int)) b) := by
  obtain ⟨ho, h40, hT, h9, hMo⟩ := hP
  obtain ⟨hC, d7, t9, hL, m10⟩ := hc
  have hn := ho.1
  have hT6 := p64 hn hT
  have p13 : p < 13 := by omega
  have hp2 := pp64 hn
  have hall := (z_all hn hp2).mpr (Nat.le_refl (2 ^ n))
  have u64 := unt_64 T hn
  have u6 := pop_6 _ u64
  have hU := fC_le (T := T) ho hp12 h9 (fun L h => s8_le h)
  have hl0 : 0 < 12 ^ pop (unt n T) := Nat.pow_pos (by decide)
  have hl2 : 12 ^ pop (unt n T) < 4194304 := Nat.lt_of_le_of_lt (pw12 (by decide) u6) (by decide)
  have u100 : pop (unt n T) ≤ 100 := by omega
  refine Rn.run 2 (ls' := [_, _, _, _, _, _]) (st' := [_, _]) rfl ?_
  refine Rn.call rfl rfl rfl rfl rfl (c100) ?_
  refine Rn.neB rfl (fun e6 => ?_) (fun e6 => absurd e6 (by exact fun h => h (z_in (m := 13) p13 (by omega))))
  refine Rn.run 1 (ls' := [_, _, _, _, _, _]) (st' := [_]) rfl ?_
  refine Rn.getR rfl ⟨by decide, rfl, rfl⟩ (j := gid b) (rfl) ?_
  refine Rn.getI rfl (xS_g b) ?_
  rw [hC.1]
  refine Rn.ne0 rfl (fun e18 => ?_) (fun e18 => absurd e18 (by exact fun h => h (z_ne0 h0 hn)))
  refine Rn.run 1 (ls' := [_, _, _, _, _, _]) (st' := [_]) rfl ?_
  refine Rn.getR rfl ⟨by decide, rfl, rfl⟩ (j := gid b) (rfl) ?_
  refine Rn.callV rfl (x_sv (xS_g b)) rfl rfl rfl (c17 hn hC.1) ?_
  refine Rn.run 2 (ls' := [_, _, _, _, _, _]) (st' := [_, _]) rfl ?_
  refine Rn.call rfl rfl rfl rfl rfl (c11 d7 h40) ?_
  rw [t9]
  refine Rn.run 3 (ls' := [_, _, _, _, _, _]) (st' := [_]) rfl ?_
  rw [bt_unt hn hT6]
  refine Rn.run 5 (ls' := [_, _, _, _, _, _]) (st' := []) rfl ?_
  refine l91 (d := d + 10) ⟨ho, h40, hT, h9, hMo⟩ ⟨hC, d7, t9, hL, m10⟩ hp12  (2 ^ n) 0 0 (Nat.zero_add _) ?_
  rw [show xit (fun x a => a + fC kd bo wo n T p L (s8) x) (2 ^ n) 0 0 = sumN (fC kd bo wo n T p L (s8)) (2 ^ n) from rfl]
  refine Rn.run 2 (ls' := [_, _, _, _, _, _]) (st' := [_, _]) rfl ?_
  refine Rn.getR rfl ⟨by decide, rfl, rfl⟩ (j := gid b) (rfl) ?_
  refine Rn.callV rfl (x_sv (xS_g b)) rfl rfl rfl (c17 hn hC.1) ?_
  refine Rn.gt2 rfl (fun e56 => ?_) (fun e56 => absurd e56 (by exact fun h => h hall))
  refine Rn.run 4 (ls' := [_, _, _, _, _, _]) (st' := [_, _, _, _]) rfl ?_
  refine Rn.call rfl rfl rfl rfl rfl (c235 u64) ?_
  refine Rn.call rfl rfl rfl rfl rfl (c105 (q := 12) u100) ?_
  refine Rn.call rfl rfl rfl rfl rfl (c103 hU hl0 hl2) ?_
  refine Rn.run 1 (ls' := [_, _, _, _, _, _]) (st' := [_]) rfl ?_
  exact Rn.ret rfl rfl rfl rfl rfl rfl
theorem k218_b1 {ex : xO} {d : Nat} {c : Nat → Nat → Int} {b : Bool}  {a1 a2 a3 : Int} (h1 : w32 a1 = a1) (q1 : ¬ (0 ≤ a1 ∧ a1 < 8)) : An ex (d + 20) 218 9 [xA 54, xI a1, xI a2, xI a3] (hp c b) (xI (-1), hp (c) b) := by
  refine Rn.run 1 (ls' := [_, _, _, _, _, _, _, _, _]) (st' := [_]) rfl ?_
  refine Rn.call rfl rfl rfl rfl rfl (c141) ?_
  refine Rn.eqB rfl (fun e4 => ?_) (fun e4 => absurd e4 (by exact (z_no' (m := 8) h1 q1)))
  refine Rn.run 1 (ls' := [_, _, _, _, _, _, _, _, _]) (st' := [_]) rfl ?_
  exact Rn.ret rfl rfl rfl rfl rfl rfl
theorem k218_b2 {ex : xO} {d : Nat} {c : Nat → Nat → Int} {b : Bool}  {j : Nat} {a2 a3 : Int} (hj : j < 8) (h2 : w32 a2 = a2) (q2 : ¬ (0 ≤ a2 ∧ a2 < 10)) : An ex (d + 20) 218 9 [xA 54, xI (j : Int), xI a2, xI a3] (hp c b) (xI (-1), hp (c) b) := by
  refine Rn.run 1 (ls' := [_, _, _, _, _, _, _, _, _]) (st' := [_]) rfl ?_
  refine Rn.call rfl rfl rfl rfl rfl (c141) ?_
  refine Rn.eqB rfl (fun e4 => absurd e4 (by exact fun h => h (z_in' (m := 8) hj (by omega)))) (fun e4 => ?_)
  refine Rn.run 4 (ls' := [_, _, _, _, _, _, _, _, _]) (st' := [_, _, _]) rfl ?_
  refine Rn.call rfl rfl rfl rfl rfl (c131) ?_
  refine Rn.eqB rfl (fun e16 => ?_) (fun e16 => absurd e16 (by exact (z_no9 (m := 9) h2 (by decide) q2)))
  refine Rn.run 1 (ls' := [_, _, _, _, _, _, _, _, _]) (st' := [_]) rfl ?_
  exact Rn.ret rfl rfl rfl rfl rfl rfl
theorem k218_b3 {ex : xO} {d : Nat} {c : Nat → Nat → Int} {b : Bool}  {j v : Nat} {a3 : Int} (hj : j < 8) (hv : v ≤ 9) (h3 : w32 a3 = a3) (q3 : ¬ (0 ≤ a3 ∧ a3 < 13)) : An ex (d + 20) 218 9 [xA 54, xI (j : Int), xI (v : Int), xI a3] (hp c b) (xI (-1), hp (c) b) := by
  refine Rn.run 1 (ls' := [_, _, _, _, _, _, _, _, _]) (st' := [_]) rfl ?_
  refine Rn.call rfl rfl rfl rfl rfl (c141) ?_
  refine Rn.eqB rfl (fun e4 => absurd e4 (by exact fun h => h (z_in' (m := 8) hj (by omega)))) (fun e4 => ?_)
  refine Rn.run 4 (ls' := [_, _, _, _, _, _, _, _, _]) (st' := [_, _, _]) rfl ?_
  refine Rn.call rfl rfl rfl rfl rfl (c131) ?_
  refine Rn.eqB rfl (fun e16 => absurd e16 (by exact fun h => h (z_in9 (m := 9) hv (by decide)))) (fun e16 => ?_)
  refine Rn.run 4 (ls' := [_, _, _, _, _, _, _, _, _]) (st' := [_, _, _]) rfl ?_
  refine Rn.call rfl rfl rfl rfl rfl (c131) ?_
  refine Rn.neB rfl (fun e28 => absurd e28 (by exact (z_no9 (m := 12) h3 (by decide) q3))) (fun e28 => ?_)
  refine Rn.run 1 (ls' := [_, _, _, _, _, _, _, _, _]) (st' := [_]) rfl ?_
  exact Rn.ret rfl rfl rfl rfl rfl rfl
theorem k218_st {ex : xO} {d : Nat} {c : Nat → Nat → Int} {b : Bool} {n D T Mo : Nat} {kd bo wo L : Nat → Nat} (hP : pS n kd bo wo D T Mo L) (hm : mS c n kd bo wo D T Mo L) {j v p : Nat} (hj : j < 8) (hv : v ≤ 9) (hp12 : p ≤ 12) (h0 : n = 0) : An ex (d + 20) 218 9 [xA 54, xI (j : Int), xI (v : Int), xI (p : Int)] (hp c b) (xI (-4), hp (c) b) := by
  obtain ⟨ho, h40, hT, h9, hMo⟩ := hP
  obtain ⟨hM, d29, t2, l55, m1⟩ := hm
  have hn := ho.1
  have hT6 := p64 hn hT
  refine Rn.run 1 (ls' := [_, _, _, _, _, _, _, _, _]) (st' := [_]) rfl ?_
  refine Rn.call rfl rfl rfl rfl rfl (c141) ?_
  refine Rn.eqB rfl (fun e4 => absurd e4 (by exact fun h => h (z_in' (m := 8) hj (by omega)))) (fun e4 => ?_)
  refine Rn.run 4 (ls' := [_, _, _, _, _, _, _, _, _]) (st' := [_, _, _]) rfl ?_
  refine Rn.call rfl rfl rfl rfl rfl (c131) ?_
  refine Rn.eqB rfl (fun e16 => absurd e16 (by exact fun h => h (z_in9 (m := 9) hv (by decide)))) (fun e16 => ?_)
  refine Rn.run 4 (ls' := [_, _, _, _, _, _, _, _, _]) (st' := [_, _, _]) rfl ?_
  refine Rn.call rfl rfl rfl rfl rfl (c131) ?_
  refine Rn.neB rfl (fun e28 => ?_) (fun e28 => absurd e28 (by exact fun h => h (z_in9 (m := 12) hp12 (by decide))))
  refine Rn.run 3 (ls' := [_, _, _, _, _, _, _, _, _]) (st' := [_, _]) rfl ?_
  refine Rn.ald rfl ⟨by decide, rfl⟩ (0) rfl (by decide) ?_
  rw [hM.1]
  refine Rn.ne0 rfl (fun e39 => absurd e39 (by rw [h0]; decide)) (fun e39 => ?_)
  refine Rn.run 1 (ls' := [_, _, _, _, _, _, _, _, _]) (st' := [_]) rfl ?_
  exact Rn.ret rfl rfl rfl rfl rfl rfl
theorem k219_b1 {ex : xO} {d : Nat} {c : Nat → Nat → Int} {b : Bool}  {a1 : Int} (h1 : w32 a1 = a1) (q1 : ¬ (0 ≤ a1 ∧ a1 < 13)) : An ex (d + 20) 219 7 [xA 54, xI a1] (hp c b) (xI (-1), hp (c) b) := by
  refine Rn.run 4 (ls' := [_, _, _, _, _, _, _]) (st' := [_, _, _]) rfl ?_
  refine Rn.call rfl rfl rfl rfl rfl (c131) ?_
  refine Rn.neB rfl (fun e9 => absurd e9 (by exact (z_no9 (m := 12) h1 (by decide) q1))) (fun e9 => ?_)
  refine Rn.run 1 (ls' := [_, _, _, _, _, _, _]) (st' := [_]) rfl ?_
  exact Rn.ret rfl rfl rfl rfl rfl rfl
theorem k219_st {ex : xO} {d : Nat} {c : Nat → Nat → Int} {b : Bool} {n D T Mo : Nat} {kd bo wo L : Nat → Nat} (hP : pS n kd bo wo D T Mo L) (hm : mS c n kd bo wo D T Mo L) {p : Nat} (hp12 : p ≤ 12) (h0 : n = 0) : An ex (d + 20) 219 7 [xA 54, xI (p : Int)] (hp c b) (xI (-4), hp (c) b) := by
  obtain ⟨ho, h40, hT, h9, hMo⟩ := hP
  obtain ⟨hM, d29, t2, l55, m1⟩ := hm
  have hn := ho.1
  have hT6 := p64 hn hT
  refine Rn.run 4 (ls' := [_, _, _, _, _, _, _]) (st' := [_, _, _]) rfl ?_
  refine Rn.call rfl rfl rfl rfl rfl (c131) ?_
  refine Rn.neB rfl (fun e9 => ?_) (fun e9 => absurd e9 (by exact fun h => h (z_in9 (m := 12) hp12 (by decide))))
  refine Rn.run 3 (ls' := [_, _, _, _, _, _, _]) (st' := [_, _]) rfl ?_
  refine Rn.ald rfl ⟨by decide, rfl⟩ (0) rfl (by decide) ?_
  rw [hM.1]
  refine Rn.ne0 rfl (fun e20 => absurd e20 (by rw [h0]; decide)) (fun e20 => ?_)
  refine Rn.run 1 (ls' := [_, _, _, _, _, _, _]) (st' := [_]) rfl ?_
  exact Rn.ret rfl rfl rfl rfl rfl rfl
theorem k218_ok {ex : xO} {d : Nat} {c : Nat → Nat → Int} {b : Bool} {n D T Mo : Nat} {kd bo wo L : Nat → Nat} (hP : pS n kd bo wo D T Mo L) (hm : mS c n kd bo wo D T Mo L) {j v p : Nat} (hj : j < 8) (hv : v ≤ 9) (hp12 : p ≤ 12) (h0 : n ≠ 0) : ∃ e, An ex (d + 20) 218 9 [xA 54, xI (j : Int), xI (v : Int), xI (p : Int)] (hp c b) (xI 1, hp e b) ∧ (fun e => ∃ e0 : Nat → Nat → Int, (∀ a k, a ≠ 63 → e0 a k = c a k) ∧ e = xup (xup e0 54 8 ((sumN (fM kd bo wo n T p L (Vo v j)) (2 ^ n) / Nat.gcd (sumN (fM kd bo wo n T p L (Vo v j)) (2 ^ n)) (12 ^ n) : Nat) : Int)) 54 9 ((12 ^ n / Nat.gcd (sumN (fM kd bo wo n T p L (Vo v j)) (2 ^ n)) (12 ^ n) : Nat) : Int)) e := by
  obtain ⟨ho, h40, hT, h9, hMo⟩ := hP
  obtain ⟨hM, d29, t2, l55, m1⟩ := hm
  have hn := ho.1
  have hT6 := p64 hn hT
  have hp2 := pp64 hn
  have hall := (z_all hn hp2).mpr (Nat.le_refl (2 ^ n))
  have hU := fM_le (T := T) ho hp12 h9 (Vo_72 v j)
  have hl0 : 0 < 12 ^ n := Nat.pow_pos (by decide)
  have hl2 : 12 ^ n < 9223372036854775808 := Nat.lt_of_le_of_lt (pw12 (by decide) hn) (by decide)
  obtain ⟨e, q, f⟩ := l218 (ex := ex) (d := d + 10) (b := b) (c := c) (Q := fun e => ∃ e0 : Nat → Nat → Int, (∀ a k, a ≠ 63 → e0 a k = c a k) ∧ e = xup (xup e0 54 8 ((sumN (fM kd bo wo n T p L (Vo v j)) (2 ^ n) / Nat.gcd (sumN (fM kd bo wo n T p L (Vo v j)) (2 ^ n)) (12 ^ n) : Nat) : Int)) 54 9 ((12 ^ n / Nat.gcd (sumN (fM kd bo wo n T p L (Vo v j)) (2 ^ n)) (12 ^ n) : Nat) : Int)) ⟨ho, h40, hT, h9, hMo⟩ ⟨hM, d29, t2, l55, m1⟩ hp12 hj hv (2 ^ n) 0 0 c xU xU (Nat.zero_add _) (fun _ _ _ => rfl) (fun c2 u1 u2 fr => by
    have hM1 : mG c2 n kd bo wo := mG_fr hn (fun k _ => fr 55 k (by decide)) hM
    refine ⟨_, ?_, c2, fr, rfl⟩
    rw [show xit (fun x a => a + fM kd bo wo n T p L (Vo v j) x) (2 ^ n) 0 0 = sumN (fM kd bo wo n T p L (Vo v j)) (2 ^ n) from rfl]
    refine Rn.run 2 (ls' := [_, _, _, _, _, _, _, _, _]) (st' := [_, _]) rfl ?_
    refine Rn.call rfl rfl rfl rfl rfl (c163 hn hM1.1) ?_
    refine Rn.gt2 rfl (fun e57 => ?_) (fun e57 => absurd e57 (by exact fun h => h hall))
    refine Rn.run 3 (ls' := [_, _, _, _, _, _, _, _, _]) (st' := [_, _, _]) rfl ?_
    refine Rn.call rfl rfl rfl rfl rfl (c217 ho hM1) ?_
    refine Rn.call rfl rfl rfl rfl rfl (c136 hU hl0 hl2) ?_
    exact Rn.ret rfl rfl rfl rfl rfl rfl)
  refine ⟨e, ?_, f⟩
  refine Rn.run 1 (ls' := [_, _, _, _, _, _, _, _, _]) (st' := [_]) rfl ?_
  refine Rn.call rfl rfl rfl rfl rfl (c141) ?_
  refine Rn.eqB rfl (fun e4 => absurd e4 (by exact fun h => h (z_in' (m := 8) hj (by omega)))) (fun e4 => ?_)
  refine Rn.run 4 (ls' := [_, _, _, _, _, _, _, _, _]) (st' := [_, _, _]) rfl ?_
  refine Rn.call rfl rfl rfl rfl rfl (c131) ?_
  refine Rn.eqB rfl (fun e16 => absurd e16 (by exact fun h => h (z_in9 (m := 9) hv (by decide)))) (fun e16 => ?_)
  refine Rn.run 4 (ls' := [_, _, _, _, _, _, _, _, _]) (st' := [_, _, _]) rfl ?_
  refine Rn.call rfl rfl rfl rfl rfl (c131) ?_
  refine Rn.neB rfl (fun e28 => ?_) (fun e28 => absurd e28 (by exact fun h => h (z_in9 (m := 12) hp12 (by decide))))
  refine Rn.run 3 (ls' := [_, _, _, _, _, _, _, _, _]) (st' := [_, _]) rfl ?_
  refine Rn.ald rfl ⟨by decide, rfl⟩ (0) rfl (by decide) ?_
  rw [hM.1]
  refine Rn.ne0 rfl (fun e39 => ?_) (fun e39 => absurd e39 (by exact fun h => h (z_ne0 h0 hn)))
  refine Rn.run 4 (ls' := [_, _, _, _, _, _, _, _, _]) (st' := []) rfl ?_
  exact q
theorem k219_ok {ex : xO} {d : Nat} {c : Nat → Nat → Int} {b : Bool} {n D T Mo : Nat} {kd bo wo L : Nat → Nat} (hP : pS n kd bo wo D T Mo L) (hm : mS c n kd bo wo D T Mo L) {p : Nat} (hp12 : p ≤ 12) (h0 : n ≠ 0) : ∃ e, An ex (d + 20) 219 7 [xA 54, xI (p : Int)] (hp c b) (xI 1, hp e b) ∧ (fun e => ∃ e0 : Nat → Nat → Int, (∀ a k, a ≠ 63 → e0 a k = c a k) ∧ e = xup (xup e0 54 8 ((sumN (fM kd bo wo n T p L (s8)) (2 ^ n) / Nat.gcd (sumN (fM kd bo wo n T p L (s8)) (2 ^ n)) (12 ^ n) : Nat) : Int)) 54 9 ((12 ^ n / Nat.gcd (sumN (fM kd bo wo n T p L (s8)) (2 ^ n)) (12 ^ n) : Nat) : Int)) e := by
  obtain ⟨ho, h40, hT, h9, hMo⟩ := hP
  obtain ⟨hM, d29, t2, l55, m1⟩ := hm
  have hn := ho.1
  have hT6 := p64 hn hT
  have hp2 := pp64 hn
  have hall := (z_all hn hp2).mpr (Nat.le_refl (2 ^ n))
  have hU := fM_le (T := T) ho hp12 h9 (fun L h => s8_le h)
  have hl0 : 0 < 12 ^ n := Nat.pow_pos (by decide)
  have hl2 : 12 ^ n < 9223372036854775808 := Nat.lt_of_le_of_lt (pw12 (by decide) hn) (by decide)
  obtain ⟨e, q, f⟩ := l219 (ex := ex) (d := d + 10) (b := b) (c := c) (Q := fun e => ∃ e0 : Nat → Nat → Int, (∀ a k, a ≠ 63 → e0 a k = c a k) ∧ e = xup (xup e0 54 8 ((sumN (fM kd bo wo n T p L (s8)) (2 ^ n) / Nat.gcd (sumN (fM kd bo wo n T p L (s8)) (2 ^ n)) (12 ^ n) : Nat) : Int)) 54 9 ((12 ^ n / Nat.gcd (sumN (fM kd bo wo n T p L (s8)) (2 ^ n)) (12 ^ n) : Nat) : Int)) ⟨ho, h40, hT, h9, hMo⟩ ⟨hM, d29, t2, l55, m1⟩ hp12  (2 ^ n) 0 0 c xU xU (Nat.zero_add _) (fun _ _ _ => rfl) (fun c2 u1 u2 fr => by
    have hM1 : mG c2 n kd bo wo := mG_fr hn (fun k _ => fr 55 k (by decide)) hM
    refine ⟨_, ?_, c2, fr, rfl⟩
    rw [show xit (fun x a => a + fM kd bo wo n T p L (s8) x) (2 ^ n) 0 0 = sumN (fM kd bo wo n T p L (s8)) (2 ^ n) from rfl]
    refine Rn.run 2 (ls' := [_, _, _, _, _, _, _]) (st' := [_, _]) rfl ?_
    refine Rn.call rfl rfl rfl rfl rfl (c163 hn hM1.1) ?_
    refine Rn.gt2 rfl (fun e37 => ?_) (fun e37 => absurd e37 (by exact fun h => h hall))
    refine Rn.run 3 (ls' := [_, _, _, _, _, _, _]) (st' := [_, _, _]) rfl ?_
    refine Rn.call rfl rfl rfl rfl rfl (c217 ho hM1) ?_
    refine Rn.call rfl rfl rfl rfl rfl (c136 hU hl0 hl2) ?_
    exact Rn.ret rfl rfl rfl rfl rfl rfl)
  refine ⟨e, ?_, f⟩
  refine Rn.run 4 (ls' := [_, _, _, _, _, _, _]) (st' := [_, _, _]) rfl ?_
  refine Rn.call rfl rfl rfl rfl rfl (c131) ?_
  refine Rn.neB rfl (fun e9 => ?_) (fun e9 => absurd e9 (by exact fun h => h (z_in9 (m := 12) hp12 (by decide))))
  refine Rn.run 3 (ls' := [_, _, _, _, _, _, _]) (st' := [_, _]) rfl ?_
  refine Rn.ald rfl ⟨by decide, rfl⟩ (0) rfl (by decide) ?_
  rw [hM.1]
  refine Rn.ne0 rfl (fun e20 => ?_) (fun e20 => absurd e20 (by exact fun h => h (z_ne0 h0 hn)))
  refine Rn.run 4 (ls' := [_, _, _, _, _, _, _]) (st' := []) rfl ?_
  exact q
theorem g_mid {ex : xO} (a1 : Int) (h1 : w32 a1 = a1) : AgI ex 91 6 219 7 [xI a1] := by
  intro d c b hI
  obtain ⟨n, kd, bo, wo, D, T, Mo, L, hP, hc, hm⟩ := Inv_St hI
  by_cases q1 : 0 ≤ a1 ∧ a1 < 13
  · obtain ⟨p, hp12, rfl⟩ : ∃ j : Nat, j ≤ 12 ∧ a1 = (j : Int) := ⟨a1.toNat, by omega, by omega⟩
    by_cases h0 : n = 0
    · exact Ag_same hI (-4) (k91_st hP hc hp12 h0) (k219_st hP hm hp12 h0)
    · obtain ⟨e, q, e0, fr, rfl⟩ := k219_ok (ex := ex) (d := d) (b := b) hP (mS_fr (c' := xup (xup c 0 11 ((sumN (fC kd bo wo n T p L (s8)) (2 ^ n) / Nat.gcd (sumN (fC kd bo wo n T p L (s8)) (2 ^ n)) (12 ^ pop (unt n T)) : Nat) : Int)) 0 12 ((12 ^ pop (unt n T) / Nat.gcd (sumN (fC kd bo wo n T p L (s8)) (2 ^ n)) (12 ^ pop (unt n T)) : Nat) : Int)) (fun k => by rw [xup_n _ _ (by omega), xup_n _ _ (by omega)]) hm) hp12 h0
      obtain ⟨l1, l2⟩ := low_same (kd := kd) (bo := bo) (wo := wo) (T := T) (p := p) hP.1.1 hp12 (L := L) (V := s8)
      refine ⟨_, _, _, b, _, b, k91_ok hP hc hp12 h0, q, rfl, Inv_ask3 hI (fun a k h1 h2 h3 => ?_) ?_ ?_ ?_⟩
      · rw [xup_n _ _ (by omega), xup_n _ _ (by omega), fr a k (fun z => h1 (by unfold scr; omega)), xup_n _ _ (by omega), xup_n _ _ (by omega)]
      · rw [xup_n _ _ (by omega), xup_n _ _ (by omega), fr 0 10 (by decide), xup_n _ _ (by omega), xup_n _ _ (by omega), xup_n _ _ (by omega), xup_n _ _ (by omega), fr 54 7 (by decide), xup_n _ _ (by omega), xup_n _ _ (by omega)]
        exact hI.2.2.2.1.1
      · rw [xup_n _ _ (by omega), xup_n _ _ (by omega), fr 0 11 (by decide), xup_n _ _ (by omega), xup_s, xup_n _ _ (by omega), xup_s, l1]
      · rw [xup_n _ _ (by omega), xup_n _ _ (by omega), fr 0 12 (by decide), xup_s, xup_s, l2]
  · exact Ag_same hI (-1) (k91_b1 h1 q1) (k219_b1 h1 q1)
theorem g_odds {ex : xO} (a1 a2 a3 : Int) (h1 : w32 a1 = a1) (h2 : w32 a2 = a2) (h3 : w32 a3 = a3) : AgI ex 90 8 218 9 [xI a1, xI a2, xI a3] := by
  intro d c b hI
  obtain ⟨n, kd, bo, wo, D, T, Mo, L, hP, hc, hm⟩ := Inv_St hI
  by_cases q1 : 0 ≤ a1 ∧ a1 < 8
  case neg => exact Ag_same hI (-1) (k90_b1 h1 q1) (k218_b1 h1 q1)
  obtain ⟨j, hj, rfl⟩ : ∃ j : Nat, j < 8 ∧ a1 = (j : Int) := ⟨a1.toNat, by omega, by omega⟩
  by_cases q2 : 0 ≤ a2 ∧ a2 < 10
  case neg => exact Ag_same hI (-1) (k90_b2 hj h2 q2) (k218_b2 hj h2 q2)
  obtain ⟨v, hv, rfl⟩ : ∃ j : Nat, j ≤ 9 ∧ a2 = (j : Int) := ⟨a2.toNat, by omega, by omega⟩
  by_cases q3 : 0 ≤ a3 ∧ a3 < 13
  · obtain ⟨p, hp12, rfl⟩ : ∃ j : Nat, j ≤ 12 ∧ a3 = (j : Int) := ⟨a3.toNat, by omega, by omega⟩
    by_cases h0 : n = 0
    · exact Ag_same hI (-4) (k90_st hP hc hj hv hp12 h0) (k218_st hP hm hj hv hp12 h0)
    · obtain ⟨e, q, e0, fr, rfl⟩ := k218_ok (ex := ex) (d := d) (b := b) hP (mS_fr (c' := xup (xup c 0 11 ((sumN (fC kd bo wo n T p L (Vo v j)) (2 ^ n) / Nat.gcd (sumN (fC kd bo wo n T p L (Vo v j)) (2 ^ n)) (12 ^ pop (unt n T)) : Nat) : Int)) 0 12 ((12 ^ pop (unt n T) / Nat.gcd (sumN (fC kd bo wo n T p L (Vo v j)) (2 ^ n)) (12 ^ pop (unt n T)) : Nat) : Int)) (fun k => by rw [xup_n _ _ (by omega), xup_n _ _ (by omega)]) hm) hj hv hp12 h0
      obtain ⟨l1, l2⟩ := low_same (kd := kd) (bo := bo) (wo := wo) (T := T) (p := p) hP.1.1 hp12 (L := L) (V := Vo v j)
      refine ⟨_, _, _, b, _, b, k90_ok hP hc hj hv hp12 h0, q, rfl, Inv_ask3 hI (fun a k h1 h2 h3 => ?_) ?_ ?_ ?_⟩
      · rw [xup_n _ _ (by omega), xup_n _ _ (by omega), fr a k (fun z => h1 (by unfold scr; omega)), xup_n _ _ (by omega), xup_n _ _ (by omega)]
      · rw [xup_n _ _ (by omega), xup_n _ _ (by omega), fr 0 10 (by decide), xup_n _ _ (by omega), xup_n _ _ (by omega), xup_n _ _ (by omega), xup_n _ _ (by omega), fr 54 7 (by decide), xup_n _ _ (by omega), xup_n _ _ (by omega)]
        exact hI.2.2.2.1.1
      · rw [xup_n _ _ (by omega), xup_n _ _ (by omega), fr 0 11 (by decide), xup_n _ _ (by omega), xup_s, xup_n _ _ (by omega), xup_s, l1]
      · rw [xup_n _ _ (by omega), xup_n _ _ (by omega), fr 0 12 (by decide), xup_s, xup_s, l2]
  · exact Ag_same hI (-1) (k90_b3 hj hv h3 q3) (k218_b3 hj hv h3 q3)
