-- chances: contracts
theorem pow_xit (q : Nat) : ∀ m i a, xit (fun _ a => a * q) m i a = a * q ^ m := by
  intro m
  induction m with
  | zero => intro i a; show a = a * 1; rw [Nat.mul_one]
  | succ m ih => intro i a; rw [xit, ih, Nat.pow_succ, Nat.mul_assoc, Nat.mul_comm q]
theorem l105 {ex : xO} {d : Nat} {h : xH} {q k : Nat} (hk : k ≤ 100) : ∀ (m i a : Nat), i + m = k → Rn ex xt105 d 5 [xL (q : Int), xU, xI (k : Int), xL (a : Int), xU, xI (i : Int)] [] h (xL ((xit (fun _ a => a * q) m i a : Nat) : Int), h) := by
  intro m
  induction m with
  | zero =>
    intro i a hm
    refine Rn.run 2 (ls' := [_, _, _, _, _, _]) (st' := [_, _]) rfl ?_
    refine Rn.ge2 rfl (fun e8 => ?_) (fun e8 => absurd e8 (by exact fun h => h ((y_ge (by omega) (by omega)).mpr (by omega))))
    refine Rn.run 1 (ls' := [_, _, _, _, _, _]) (st' := [_]) rfl ?_
    exact Rn.ret rfl rfl rfl rfl rfl rfl
  | succ m ih =>
    intro i a hm
    refine Rn.run 2 (ls' := [_, _, _, _, _, _]) (st' := [_, _]) rfl ?_
    refine Rn.ge2 rfl (fun e8 => absurd e8 (by exact fun h => absurd ((y_ge (by omega) (by omega)).mp h) (by omega))) (fun e8 => ?_)
    refine Rn.run 6 (ls' := [_, _, _, _, _, _]) (st' := []) rfl ?_
    exact ih (i + 1) (a * q) (by omega)
theorem c105 {ex : xO} {d : Nat} {h : xH} {q k : Nat} (hk : k ≤ 100) : An ex d 105 6 [xL (q : Int), xI (k : Int)] h (xL ((q ^ k : Nat) : Int), h) := by
  refine Rn.run 4 (ls' := [_, _, _, _, _, _]) (st' := []) rfl ?_
  have r := l105 (ex := ex) (d := d) (h := h) (q := q) hk k 0 1 (Nat.zero_add k)
  rw [pow_xit, Nat.one_mul] at r
  exact r
theorem x_12p {p : Nat} (h : p ≤ 12) : w32 ((12 : Int) - (p : Int)) = ((12 - p : Nat) : Int) := by
  rw [x_w _ (by omega) (by omega)]
  omega
theorem pop_8 (s : Nat) : pop s ≤ 8 := by
  have e : pop s = cnt (fun i => s.testBit i) 8 := rfl
  rw [e]
  exact cnt_le _ _
theorem c129 {ex : xO} {d : Nat} {h : xH} {x y p : Nat} (hx : x < 64) (hy : y < 64) (hp : p ≤ 12) (hle : pop x ≤ pop y) : An ex (d + 1) 129 4 [xI (x : Int), xI (y : Int), xI (p : Int)] h (xL ((p ^ pop x * (12 - p) ^ (pop y - pop x) : Nat) : Int), h) := by
  have p8 := pop_8 x
  have q8 := pop_8 y
  have es : ((pop y : Nat) : Int) - ((pop x : Nat) : Int) = ((pop y - pop x : Nat) : Int) := by omega
  have p31 : p < 2147483648 := by omega
  refine Rn.run 1 (ls' := [_, _, _, _]) (st' := [_]) rfl ?_
  refine Rn.call rfl rfl rfl rfl rfl (c235 hx) ?_
  refine Rn.run 3 (ls' := [_, _, _, _]) (st' := [_]) rfl ?_
  rw [x_wn p31]
  refine Rn.run 1 (ls' := [_, _, _, _]) (st' := [_, _]) rfl ?_
  refine Rn.call rfl rfl rfl rfl rfl (c105 (q := p) (k := pop x) (by omega)) ?_
  refine Rn.run 4 (ls' := [_, _, _, _]) (st' := [_, _]) rfl ?_
  rw [x_12p hp]
  refine Rn.run 1 (ls' := [_, _, _, _]) (st' := [_, _, _]) rfl ?_
  refine Rn.call rfl rfl rfl rfl rfl (c235 hy) ?_
  refine Rn.run 2 (ls' := [_, _, _, _]) (st' := [_, _, _]) rfl ?_
  rw [es]
  refine Rn.call rfl rfl rfl rfl rfl (c105 (q := 12 - p) (k := pop y - pop x) (by omega)) ?_
  refine Rn.run 1 (ls' := [_, _, _, _]) (st' := [_]) rfl ?_
  exact Rn.ret rfl rfl rfl rfl rfl rfl
theorem l128 {ex : xO} {d : Nat} {c : Nat → Nat → Int} {b : Bool} {n : Nat} {kd bo wo : Nat → Nat} (ho : gok n kd bo wo) (hC : cG c b n kd bo wo) {x : Nat} (hx : x < 64) : ∀ (m i s : Nat) (X : Int) (L : Nat → Nat), i + m = n → s < 64 → pk X L → l9 L → ∃ Y, Rn ex xt128 (d + 6) 19 [xA 0, xI (x : Int), xI X, xI (s : Int), xI (i : Int)] [] (hp c b) (xI Y, hp c b) ∧ pk Y (xit (cst kd bo wo n (fun i => x.testBit i)) m i (s, L)).2 ∧ l9 (xit (cst kd bo wo n (fun i => x.testBit i)) m i (s, L)).2 := by
  have hn := ho.1
  intro m
  induction m with
  | zero =>
    intro i s X L hm hs hX h9
    refine ⟨X, ?_, hX, h9⟩
    refine Rn.run 2 (ls' := [_, _, _, _, _]) (st' := [_, _]) rfl ?_
    refine Rn.getR rfl ⟨by decide, rfl, rfl⟩ (j := gid b) (rfl) ?_
    refine Rn.getI rfl (xS_g b) ?_
    rw [hC.1]
    refine Rn.ge2 rfl (fun e28 => ?_) (fun e28 => absurd e28 (by exact fun h => h ((y_ge (by omega) (by omega)).mpr (by omega))))
    refine Rn.run 1 (ls' := [_, _, _, _, _]) (st' := [_]) rfl ?_
    exact Rn.ret rfl rfl rfl rfl rfl rfl
  | succ m ih =>
    intro i s X L hm hs hX h9
    have hi : i < n := by omega
    have i6 : i < 6 := by omega
    have h3 := ho.2 i hi
    have eb := bt_has x hx i i6
    have i31 : ¬ w32 (n : Int) ≤ w32 (i : Int) := fun h => absurd ((y_ge (by omega) (by omega)).mp h) (by omega)
    by_cases hb : x.testBit i = true
    · rw [if_pos hb] at eb
      by_cases hk : can kd n s i = true
      · have e1 : cst kd bo wo n (fun i => x.testBit i) i (s, L) = (s ||| 2 ^ i, tl kd bo wo i L) := if_pos ⟨hb, hk⟩
        obtain ⟨Y, q, f⟩ := ih (i + 1) (s ||| 2 ^ i) (xwith X (bo i) (ans (kd i) (wo i) (L (bo i)))) (tl kd bo wo i L) (by omega) (or64 hs i6) (pk_tl hX h9 h3.2.2 h3.2.1) (tl_9 h3.2.2 h3.2.1 h9)
        rw [← e1] at f
        refine ⟨Y, ?_, f⟩
        refine Rn.run 2 (ls' := [_, _, _, _, _]) (st' := [_, _]) rfl ?_
        refine Rn.getR rfl ⟨by decide, rfl, rfl⟩ (j := gid b) (rfl) ?_
        refine Rn.getI rfl (xS_g b) ?_
        rw [hC.1]
        refine Rn.ge2 rfl (fun e28 => absurd e28 (by exact i31)) (fun e28 => ?_)
        refine Rn.run 5 (ls' := [_, _, _, _, _]) (st' := [_]) rfl ?_
        rw [eb]
        refine Rn.run 1 (ls' := [_, _, _, _, _]) (st' := [_, _]) rfl ?_
        refine Rn.ne2 rfl (fun e38 => absurd e38 (by exact fun h => h rfl)) (fun e38 => ?_)
        refine Rn.run 1 (ls' := [_, _, _, _, _]) (st' := [_]) rfl ?_
        refine Rn.getR rfl ⟨by decide, rfl, rfl⟩ (j := gid b) (rfl) ?_
        refine Rn.run 2 (ls' := [_, _, _, _, _]) (st' := [_, _, _]) rfl ?_
        refine Rn.callV rfl (x_sv (xS_g b)) rfl rfl rfl (c21 ho hC hi hs) ?_
        refine Rn.eqB rfl (fun e51 => absurd e51 (by exact fun h => h hk)) (fun e51 => ?_)
        refine Rn.run 1 (ls' := [_, _, _, _, _]) (st' := [_]) rfl ?_
        refine Rn.getR rfl ⟨by decide, rfl, rfl⟩ (j := gid b) (rfl) ?_
        refine Rn.run 2 (ls' := [_, _, _, _, _]) (st' := [_, _, _]) rfl ?_
        refine Rn.callV rfl (x_sv (xS_g b)) rfl rfl rfl (c25 ho hC hi hX h9) ?_
        refine Rn.run 6 (ls' := [_, _, _, _, _]) (st' := [_]) rfl ?_
        rw [bt_add hs i6]
        refine Rn.run 3 (ls' := [_, _, _, _, _]) (st' := []) rfl ?_
        exact q
      · have e1 : cst kd bo wo n (fun i => x.testBit i) i (s, L) = (s, L) := if_neg (fun z => hk z.2)
        obtain ⟨Y, q, f⟩ := ih (i + 1) s X L (by omega) hs hX h9
        refine ⟨Y, ?_, by rw [xit, e1]; exact f⟩
        refine Rn.run 2 (ls' := [_, _, _, _, _]) (st' := [_, _]) rfl ?_
        refine Rn.getR rfl ⟨by decide, rfl, rfl⟩ (j := gid b) (rfl) ?_
        refine Rn.getI rfl (xS_g b) ?_
        rw [hC.1]
        refine Rn.ge2 rfl (fun e28 => absurd e28 (by exact i31)) (fun e28 => ?_)
        refine Rn.run 5 (ls' := [_, _, _, _, _]) (st' := [_]) rfl ?_
        rw [eb]
        refine Rn.run 1 (ls' := [_, _, _, _, _]) (st' := [_, _]) rfl ?_
        refine Rn.ne2 rfl (fun e38 => absurd e38 (by exact fun h => h rfl)) (fun e38 => ?_)
        refine Rn.run 1 (ls' := [_, _, _, _, _]) (st' := [_]) rfl ?_
        refine Rn.getR rfl ⟨by decide, rfl, rfl⟩ (j := gid b) (rfl) ?_
        refine Rn.run 2 (ls' := [_, _, _, _, _]) (st' := [_, _, _]) rfl ?_
        refine Rn.callV rfl (x_sv (xS_g b)) rfl rfl rfl (c21 ho hC hi hs) ?_
        refine Rn.eqB rfl (fun e51 => ?_) (fun e51 => absurd e51 (by exact hk))
        refine Rn.run 2 (ls' := [_, _, _, _, _]) (st' := []) rfl ?_
        exact q
    · rw [if_neg hb] at eb
      have e1 : cst kd bo wo n (fun i => x.testBit i) i (s, L) = (s, L) := if_neg (fun z => hb z.1)
      obtain ⟨Y, q, f⟩ := ih (i + 1) s X L (by omega) hs hX h9
      refine ⟨Y, ?_, by rw [xit, e1]; exact f⟩
      refine Rn.run 2 (ls' := [_, _, _, _, _]) (st' := [_, _]) rfl ?_
      refine Rn.getR rfl ⟨by decide, rfl, rfl⟩ (j := gid b) (rfl) ?_
      refine Rn.getI rfl (xS_g b) ?_
      rw [hC.1]
      refine Rn.ge2 rfl (fun e28 => absurd e28 (by exact i31)) (fun e28 => ?_)
      refine Rn.run 5 (ls' := [_, _, _, _, _]) (st' := [_]) rfl ?_
      rw [eb]
      refine Rn.run 1 (ls' := [_, _, _, _, _]) (st' := [_, _]) rfl ?_
      refine Rn.ne2 rfl (fun e38 => ?_) (fun e38 => absurd e38 (by exact fun h => h (by decide)))
      refine Rn.run 2 (ls' := [_, _, _, _, _]) (st' := []) rfl ?_
      exact q
theorem c128 {ex : xO} {d : Nat} {c : Nat → Nat → Int} {b : Bool} {n D T Mo : Nat} {kd bo wo L : Nat → Nat} (hP : pS n kd bo wo D T Mo L) (hc : cS c b n kd bo wo D T Mo L) {x : Nat} (hx : x < 64) : ∃ Y, An ex (d + 6) 128 5 [xA 0, xI (x : Int)] (hp c b) (xI Y, hp c b) ∧ pk Y (xit (cst kd bo wo n (fun i => x.testBit i)) n 0 (T, L)).2 ∧ l9 (xit (cst kd bo wo n (fun i => x.testBit i)) n 0 (T, L)).2 := by
  obtain ⟨ho, h40, hT, h9, hMo⟩ := hP
  obtain ⟨hC, d7, t9, hL, m10⟩ := hc
  have hn := ho.1
  have hT6 := p64 hn hT
  obtain ⟨Y, q, f⟩ := l128 (ex := ex) (d := d) ho hC hx n 0 T (c 8 D) L (Nat.zero_add n) hT6 hL h9
  refine ⟨Y, ?_, f⟩
  refine Rn.run 2 (ls' := [_, _, _, _, _]) (st' := [_]) rfl ?_
  refine Rn.call rfl rfl rfl rfl rfl (c10 d7 h40) ?_
  refine Rn.run 3 (ls' := [_, _, _, _, _]) (st' := [_]) rfl ?_
  refine Rn.call rfl rfl rfl rfl rfl (c11 d7 h40) ?_
  rw [t9]
  refine Rn.run 3 (ls' := [_, _, _, _, _]) (st' := []) rfl ?_
  exact q
theorem lf_up {c : Nat → Nat → Int} {L : Nat → Nat} {j v : Nat} (hj : j < 8) : xup (lf c L) 63 j ((v : Nat) : Int) = lf c (fun i => if i = j then v else L i) := by
  refine xfl3_ext (fun a k h => ?_) (fun k h1 h2 => ?_)
  · rw [xup_n _ _ (by omega)]
    exact xfl3_out _ _ (by omega)
  · show xup (lf c L) 63 j (v : Int) 63 k = (((if k = j then v else L k) : Nat) : Int)
    by_cases e : k = j
    · rw [e, xup_s, if_pos rfl]
    · rw [xup_n _ _ (by omega), if_neg e]
      exact lf_in _ _ h2
theorem l216 {ex : xO} {d : Nat} {c : Nat → Nat → Int} {b : Bool} {n : Nat} {kd bo wo : Nat → Nat} (ho : gok n kd bo wo) (hM : mG c n kd bo wo) {x p : Nat} (hx : x < 64) (hp12 : p ≤ 12) : ∀ (m i s w : Nat) (L : Nat → Nat) (u : xV), i + m = n → s < 2 ^ n → l9 L → Rn ex xt216 (d + 4) 17 [xA 54, xI (x : Int), xI (p : Int), xI (s : Int), xL (w : Int), xU, xI (i : Int), u] [] (hp (lf c L) b) (xL (((xit (mst kd bo wo n p (fun j => x.testBit j)) m i ((s, L), w)).2 : Nat) : Int), hp (lf c (xit (mst kd bo wo n p (fun j => x.testBit j)) m i ((s, L), w)).1.2) b) := by
  have hn := ho.1
  have p31 : p < 2147483648 := by omega
  intro m
  induction m with
  | zero =>
    intro i s w L u hm hs h9
    refine Rn.run 4 (ls' := [_, _, _, _, _, _, _, _]) (st' := [_, _, _]) rfl ?_
    refine Rn.ald rfl ⟨by decide, rfl⟩ (0) rfl (by decide) ?_
    rw [lf_out _ _ (by decide), hM.1]
    refine Rn.ge2 rfl (fun e25 => ?_) (fun e25 => absurd e25 (by exact fun h => h ((y_ge (by omega) (by omega)).mpr (by omega))))
    refine Rn.run 1 (ls' := [_, _, _, _, _, _, _, _]) (st' := [_]) rfl ?_
    exact Rn.ret rfl rfl rfl rfl rfl rfl
  | succ m ih =>
    intro i s w L u hm hs h9
    have hi : i < n := by omega
    have i6 : i < 6 := by omega
    have i17 : 17 + i < 2147483648 := by omega
    have i20 : 17 + i < 1720 := by omega
    have h3 := ho.2 i hi
    have b8 : bo i < 8 := by omega
    have b31 : bo i < 2147483648 := by omega
    have l9b := h9 _ b8
    have s6 := p64 hn hs
    have i31 : ¬ w32 (n : Int) ≤ w32 (i : Int) := fun h => absurd ((y_ge (by omega) (by omega)).mp h) (by omega)
    by_cases hk : can kd n s i = true
    · by_cases hb : x.testBit i = true
      · have e1 : mst kd bo wo n p (fun j => x.testBit j) i ((s, L), w) = ((s ||| 2 ^ i, tl kd bo wo i L), w * p) := by
          unfold mst cst
          rw [if_pos ⟨hb, hk⟩, if_pos hk, if_pos hb]
        rw [xit, e1]
        have q := ih (i + 1) (s ||| 2 ^ i) (w * p) (tl kd bo wo i L) (xI ((bo i : Nat) : Int)) (by omega) (orlt hs hi) (tl_9 h3.2.2 h3.2.1 h9)
        refine Rn.run 4 (ls' := [_, _, _, _, _, _, _, _]) (st' := [_, _, _]) rfl ?_
        refine Rn.ald rfl ⟨by decide, rfl⟩ (0) rfl (by decide) ?_
        rw [lf_out _ _ (by decide), hM.1]
        refine Rn.ge2 rfl (fun e25 => absurd e25 (by exact i31)) (fun e25 => ?_)
        refine Rn.run 3 (ls' := [_, _, _, _, _, _, _, _]) (st' := [_, _, _]) rfl ?_
        refine Rn.call rfl rfl rfl rfl rfl (c165 ho (mG_lf hM) hi hs) ?_
        refine Rn.eqB rfl (fun e35 => absurd e35 (by exact fun h => h hk)) (fun e35 => ?_)
        refine Rn.run 3 (ls' := [_, _, _, _, _, _, _, _]) (st' := [_, _, _]) rfl ?_
        refine Rn.call rfl rfl rfl rfl rfl (c132 hx i6) ?_
        refine Rn.eqB rfl (fun e46 => absurd e46 (by exact fun h => h hb)) (fun e46 => ?_)
        refine Rn.run 2 (ls' := [_, _, _, _, _, _, _, _]) (st' := [_, _]) rfl ?_
        rw [x_wn p31]
        refine Rn.run 5 (ls' := [_, _, _, _, _, _, _, _]) (st' := [_, _]) rfl ?_
        refine Rn.call rfl rfl rfl rfl rfl (c132 hx i6) ?_
        refine Rn.eqB rfl (fun e68 => absurd e68 (by exact fun h => h hb)) (fun e68 => ?_)
        refine Rn.run 5 (ls' := [_, _, _, _, _, _, _, _]) (st' := [_, _]) rfl ?_
        refine Rn.ald rfl ⟨by decide, rfl⟩ (17 + i) (x_wn i17) i20 ?_
        rw [lf_out _ _ (by decide), (hM.2 i hi).2.1]
        refine Rn.run 9 (ls' := [_, _, _, _, _, _, _, _]) (st' := [_, _, _, _, _, _]) rfl ?_
        refine Rn.ald rfl ⟨by decide, rfl⟩ (bo i) (x_wn b31) b8 ?_
        rw [lf_in _ _ b8]
        refine Rn.call rfl rfl rfl rfl rfl (c162 ho (mG_lf hM) hi l9b) ?_
        refine Rn.ast rfl ⟨by decide, rfl⟩ (bo i) (x_wn b31) b8 ?_
        rw [lf_up b8]
        refine Rn.run 5 (ls' := [_, _, _, _, _, _, _, _]) (st' := [_]) rfl ?_
        rw [bt_add s6 i6]
        refine Rn.run 4 (ls' := [_, _, _, _, _, _, _, _]) (st' := []) rfl ?_
        exact q
      · have e1 : mst kd bo wo n p (fun j => x.testBit j) i ((s, L), w) = ((s, L), w * (12 - p)) := by
          unfold mst cst
          rw [if_neg (fun z => hb z.1), if_pos hk, if_neg hb]
        rw [xit, e1]
        have q := ih (i + 1) s (w * (12 - p)) L u (by omega) hs h9
        refine Rn.run 4 (ls' := [_, _, _, _, _, _, _, _]) (st' := [_, _, _]) rfl ?_
        refine Rn.ald rfl ⟨by decide, rfl⟩ (0) rfl (by decide) ?_
        rw [lf_out _ _ (by decide), hM.1]
        refine Rn.ge2 rfl (fun e25 => absurd e25 (by exact i31)) (fun e25 => ?_)
        refine Rn.run 3 (ls' := [_, _, _, _, _, _, _, _]) (st' := [_, _, _]) rfl ?_
        refine Rn.call rfl rfl rfl rfl rfl (c165 ho (mG_lf hM) hi hs) ?_
        refine Rn.eqB rfl (fun e35 => absurd e35 (by exact fun h => h hk)) (fun e35 => ?_)
        refine Rn.run 3 (ls' := [_, _, _, _, _, _, _, _]) (st' := [_, _, _]) rfl ?_
        refine Rn.call rfl rfl rfl rfl rfl (c132 hx i6) ?_
        refine Rn.eqB rfl (fun e46 => ?_) (fun e46 => absurd e46 (by exact hb))
        refine Rn.run 4 (ls' := [_, _, _, _, _, _, _, _]) (st' := [_, _]) rfl ?_
        rw [x_12p hp12]
        refine Rn.run 4 (ls' := [_, _, _, _, _, _, _, _]) (st' := [_, _]) rfl ?_
        refine Rn.call rfl rfl rfl rfl rfl (c132 hx i6) ?_
        refine Rn.eqB rfl (fun e68 => ?_) (fun e68 => absurd e68 (by exact hb))
        refine Rn.run 2 (ls' := [_, _, _, _, _, _, _, _]) (st' := []) rfl ?_
        exact q
    · by_cases hb : x.testBit i = true
      · have e1 : mst kd bo wo n p (fun j => x.testBit j) i ((s, L), w) = ((s, L), w * 0) := by
          unfold mst cst
          rw [if_neg (fun z => hk z.2), if_neg hk, if_pos hb]
        rw [xit, e1]
        have q := ih (i + 1) s (w * 0) L u (by omega) hs h9
        refine Rn.run 4 (ls' := [_, _, _, _, _, _, _, _]) (st' := [_, _, _]) rfl ?_
        refine Rn.ald rfl ⟨by decide, rfl⟩ (0) rfl (by decide) ?_
        rw [lf_out _ _ (by decide), hM.1]
        refine Rn.ge2 rfl (fun e25 => absurd e25 (by exact i31)) (fun e25 => ?_)
        refine Rn.run 3 (ls' := [_, _, _, _, _, _, _, _]) (st' := [_, _, _]) rfl ?_
        refine Rn.call rfl rfl rfl rfl rfl (c165 ho (mG_lf hM) hi hs) ?_
        refine Rn.eqB rfl (fun e35 => ?_) (fun e35 => absurd e35 (by exact hk))
        refine Rn.run 3 (ls' := [_, _, _, _, _, _, _, _]) (st' := [_, _, _]) rfl ?_
        refine Rn.call rfl rfl rfl rfl rfl (c132 hx i6) ?_
        refine Rn.eqB rfl (fun e121 => absurd e121 (by exact fun h => h hb)) (fun e121 => ?_)
        refine Rn.run 6 (ls' := [_, _, _, _, _, _, _, _]) (st' := []) rfl ?_
        exact q
      · have e1 : mst kd bo wo n p (fun j => x.testBit j) i ((s, L), w) = ((s, L), w * 12) := by
          unfold mst cst
          rw [if_neg (fun z => hk z.2), if_neg hk, if_neg hb]
        rw [xit, e1]
        have q := ih (i + 1) s (w * 12) L u (by omega) hs h9
        refine Rn.run 4 (ls' := [_, _, _, _, _, _, _, _]) (st' := [_, _, _]) rfl ?_
        refine Rn.ald rfl ⟨by decide, rfl⟩ (0) rfl (by decide) ?_
        rw [lf_out _ _ (by decide), hM.1]
        refine Rn.ge2 rfl (fun e25 => absurd e25 (by exact i31)) (fun e25 => ?_)
        refine Rn.run 3 (ls' := [_, _, _, _, _, _, _, _]) (st' := [_, _, _]) rfl ?_
        refine Rn.call rfl rfl rfl rfl rfl (c165 ho (mG_lf hM) hi hs) ?_
        refine Rn.eqB rfl (fun e35 => ?_) (fun e35 => absurd e35 (by exact hk))
        refine Rn.run 3 (ls' := [_, _, _, _, _, _, _, _]) (st' := [_, _, _]) rfl ?_
        refine Rn.call rfl rfl rfl rfl rfl (c132 hx i6) ?_
        refine Rn.eqB rfl (fun e121 => ?_) (fun e121 => absurd e121 (by exact hb))
        refine Rn.run 5 (ls' := [_, _, _, _, _, _, _, _]) (st' := []) rfl ?_
        exact q
theorem c216 {ex : xO} {d : Nat} {c : Nat → Nat → Int} {b : Bool} {n D T Mo : Nat} {kd bo wo L : Nat → Nat} (hP : pS n kd bo wo D T Mo L) (hm : mS c n kd bo wo D T Mo L) {x p : Nat} (hx : x < 64) (hp12 : p ≤ 12) : An ex (d + 4) 216 8 [xA 54, xI (x : Int), xI (p : Int)] (hp c b) (xL (((xit (mst kd bo wo n p (fun j => x.testBit j)) n 0 ((T, L), 1)).2 : Nat) : Int), hp (lf c (xit (mst kd bo wo n p (fun j => x.testBit j)) n 0 ((T, L), 1)).1.2) b) := by
  obtain ⟨ho, h40, hT, h9, hMo⟩ := hP
  obtain ⟨hM, d29, t2, l55, m1⟩ := hm
  have hn := ho.1
  have hT6 := p64 hn hT
  refine Rn.run 1 (ls' := [_, _, _, _, _, _, _, _]) (st' := [_]) rfl ?_
  refine Rn.call rfl rfl rfl rfl rfl (c168 l55) ?_
  refine Rn.run 3 (ls' := [_, _, _, _, _, _, _, _]) (st' := [_, _]) rfl ?_
  refine Rn.ald rfl ⟨by decide, rfl⟩ (2) rfl (by decide) ?_
  rw [lf_out _ _ (by decide), t2]
  refine Rn.run 5 (ls' := [_, _, _, _, _, _, _, _]) (st' := []) rfl ?_
  exact l216 ho hM hx hp12 n 0 T 1 L _ (Nat.zero_add n) hT h9
theorem mst_9 {kd bo wo : Nat → Nat} {n p : Nat} (ho : gok n kd bo wo) (u : Nat → Bool) : ∀ m i (t : (Nat × (Nat → Nat)) × Nat), i + m = n → l9 t.1.2 → l9 (xit (mst kd bo wo n p u) m i t).1.2 := by
  intro m
  induction m with
  | zero => intro i t _ h; exact h
  | succ m ih =>
    intro i t hi h
    refine ih (i + 1) _ (by omega) ?_
    have h3 := ho.2 i (by omega)
    show l9 (cst kd bo wo n u i t.1).2
    unfold cst
    split
    · exact tl_9 h3.2.2 h3.2.1 h
    · exact h
theorem l217 {ex : xO} {d : Nat} {c : Nat → Nat → Int} {b : Bool} {n : Nat} {kd bo wo : Nat → Nat} (ho : gok n kd bo wo) (hM : mG c n kd bo wo) : ∀ (m i : Nat) (a : Nat), i + m = n → Rn ex xt217 d 4 [xA 54, xL (a : Int), xU, xI (i : Int)] [] (hp c b) (xL ((xit (fun _ a => a * 12) m i a : Nat) : Int), hp c b) := by
  intro m
  induction m with
  | zero =>
    intro i a hm
    have hn := ho.1
    refine Rn.run 4 (ls' := [_, _, _, _]) (st' := [_, _, _]) rfl ?_
    refine Rn.ald rfl ⟨by decide, rfl⟩ (0) rfl (by decide) ?_
    rw [hM.1]
    refine Rn.ge2 rfl (fun e11 => ?_) (fun e11 => absurd e11 (by exact fun h => h ((y_ge (by omega) (by omega)).mpr (by omega))))
    refine Rn.run 1 (ls' := [_, _, _, _]) (st' := [_]) rfl ?_
    exact Rn.ret rfl rfl rfl rfl rfl rfl
  | succ m ih =>
    intro i a hm
    have hn := ho.1
    refine Rn.run 4 (ls' := [_, _, _, _]) (st' := [_, _, _]) rfl ?_
    refine Rn.ald rfl ⟨by decide, rfl⟩ (0) rfl (by decide) ?_
    rw [hM.1]
    refine Rn.ge2 rfl (fun e11 => absurd e11 (by exact fun h => absurd ((y_ge (by omega) (by omega)).mp h) (by omega))) (fun e11 => ?_)
    refine Rn.run 6 (ls' := [_, _, _, _]) (st' := []) rfl ?_
    exact ih (i + 1) (a * 12) (by omega)
theorem c217 {ex : xO} {d : Nat} {c : Nat → Nat → Int} {b : Bool} {n : Nat} {kd bo wo : Nat → Nat} (ho : gok n kd bo wo) (hM : mG c n kd bo wo) : An ex d 217 4 [xA 54] (hp c b) (xL ((12 ^ n : Nat) : Int), hp c b) := by
  refine Rn.run 4 (ls' := [_, _, _, _]) (st' := []) rfl ?_
  have r := l217 (ex := ex) (d := d) (b := b) ho hM n 0 1 (Nat.zero_add n)
  rw [pow_xit, Nat.one_mul] at r
  exact r
