-- lots: the invariant, the method
theorem Inv_lots {c c1 c2 : Nat → Nat → Int} {b : Bool} {n D T Mo : Nat} {kd bo wo L : Nat → Nat} {tr : Nat → Nat × Nat × (Nat → Nat)} {N : Nat} (hI : Inv c b) (hc : cS c b n kd bo wo D T Mo L) (hN : D + N ≤ 40) (hpk : ∀ k, k ≤ N → pS n kd bo wo (D + k) (tr k).1 (tr k).2.1 (tr k).2.2) (h1 : CP c c1 D tr N) (h2 : MP c1 c2 n kd bo wo D tr N) : Inv c2 b := by
  obtain ⟨i1, i2, i3, i4, n', hG, ⟨D', d1, d2, d3, d4, d5, d6, d7⟩, hK⟩ := hI
  obtain ⟨hC, e7, -, -, -⟩ := hc
  obtain ⟨x1, x2, x3⟩ := h1
  obtain ⟨⟨hM, f29, f2, fl, f1⟩, y2, y3⟩ := h2
  have hg := gid_in b
  obtain rfl : D' = D := by omega
  obtain rfl : n' = n := by have h1 := hG.2.2.1; have h2 := hC.1; omega
  have s7 : ¬ scr 7 ∧ ¬ scr 8 ∧ ¬ scr 9 ∧ ¬ scr 10 ∧ ¬ scr 55 := by unfold scr; omega
  have key : ∀ a k, ¬ scr a → ¬ (a = 7 ∧ k = 0) → ¬ (8 ≤ a ∧ a ≤ 10 ∧ D' < k) → ¬ (a = 55 ∧ ((1 ≤ k ∧ k ≤ 10) ∨ k = 29 ∨ (30 + 10 * D' ≤ k ∧ k < 30 + 10 * (D' + N)))) → c2 a k = c a k := by
    intro a k h1 h2 h3 h4
    rw [y3 a k h1 h4, x3 a k h2 h3]
  have cl : ∀ a k, 7 ≤ a ∧ a ≤ 10 → c2 a k = c1 a k := fun a k ha => y3 a k (by unfold scr; omega) (by omega)
  have pw : ((2 ^ n' : Nat) : Int) = (2 : Int) ^ n' := by push_cast; rfl
  refine ⟨iRow_fr (fun a z h => key a z (by unfold scr; omega) (by omega) (by omega) (by omega)) i1, iTxt_fr (fun a z h => key a z (by unfold scr; omega) (by omega) (by omega) (by omega)) i2, iFnd_fr (fun a z h => key a z (by unfold scr; omega) (by omega) (by omega) (by omega)) i3, iAsk_fr (fun a z h => key a z (by unfold scr; omega) (by omega) (by omega) (by omega)) i4, n', iGrn_fr2 (fun a z h => key a z (by unfold scr; omega) (by omega) (by omega) (by omega)) hG, ⟨D' + N, hN, ?_, ?_, ?_, ?_, ?_, ?_⟩, fun j hj => iKpt_fr2 hj hG.1 (fun a z h => key a z (by unfold scr; omega) (by omega) (by omega) (by omega)) (hK j hj)⟩
  · rw [cl 7 0 (by omega)]; exact x1
  · exact f29
  · intro y hy
    obtain ⟨-, -, z3⟩ := x2 N (Nat.le_refl N)
    obtain ⟨-, -, -, h9, -⟩ := hpk N (Nat.le_refl N)
    rw [cl 8 _ (by omega), Nat.zero_add, fl y hy]
    have := h9 y hy
    exact ⟨z3 y hy, by omega, by omega⟩
  · obtain ⟨z1, -, -⟩ := x2 N (Nat.le_refl N)
    obtain ⟨-, -, hT, -, -⟩ := hpk N (Nat.le_refl N)
    rw [cl 9 _ (by omega), Nat.zero_add, f2, z1]
    exact ⟨rfl, by omega, by omega⟩
  · obtain ⟨-, z2, -⟩ := x2 N (Nat.le_refl N)
    obtain ⟨-, -, -, -, hMo⟩ := hpk N (Nat.le_refl N)
    rw [cl 10 _ (by omega), Nat.zero_add, f1, z2]
    exact ⟨rfl, by omega, by omega⟩
  · intro j hj
    by_cases e : j < D'
    · obtain ⟨p1, p2, p3⟩ := d7 j e
      refine ⟨fun y hy => ?_, ?_, ?_⟩
      · rw [key 8 j s7.2.1 (by omega) (by omega) (by omega), key 55 _ s7.2.2.2.2 (by omega) (by omega) (by omega)]; exact p1 y hy
      · rw [key 9 j s7.2.2.1 (by omega) (by omega) (by omega), key 55 _ s7.2.2.2.2 (by omega) (by omega) (by omega)]; exact p2
      · rw [key 10 j s7.2.2.2.1 (by omega) (by omega) (by omega), key 55 _ s7.2.2.2.2 (by omega) (by omega) (by omega)]; exact p3
    · obtain ⟨i, rfl⟩ : ∃ i, j = D' + i := ⟨j - D', by omega⟩
      obtain ⟨z1, z2, z3⟩ := x2 i (by omega)
      obtain ⟨w1, w2, w3⟩ := y2 i (by omega)
      obtain ⟨-, -, hT, h9, hMo⟩ := hpk i (by omega)
      rw [Nat.zero_add]
      refine ⟨fun y hy => ?_, ?_, ?_⟩
      · rw [cl 8 _ (by omega), w3 y hy]
        have := h9 y hy
        exact ⟨z3 y hy, by omega, by omega⟩
      · rw [cl 9 _ (by omega), w2, z1]
        exact ⟨rfl, by omega, by omega⟩
      · rw [cl 10 _ (by omega), w1, z2]
        exact ⟨rfl, by omega, by omega⟩
theorem z_sd {sd : Nat} (h : sd ≤ 2147483646) : w32 (xcmp (w32 (sd : Int)) 2147483646) ≤ 0 := by
  refine Int.not_lt.mp (fun q => ?_)
  have := x_cmpgt.mp q
  rw [x_wn (by omega), x_64 (by omega), show w64 2147483646 = 2147483646 from rfl] at this
  omega
theorem z_ns {a : Int} (ha : w32 a = a) (h : 2147483646 < a) : ¬ w32 (xcmp (w32 a) 2147483646) ≤ 0 := by
  refine Int.not_le.mpr (x_cmpgt.mpr ?_)
  have h2 : w32 a < 2147483648 := by unfold w32; omega
  rw [ha] at h2 ⊢
  unfold w64
  omega
theorem z_in1 {k M : Nat} (h1 : 1 ≤ k) (h2 : k ≤ M) (hM : M < 2147483648) : w64 1 ≤ w64 (w32 (k : Int)) ∧ w64 (w32 (k : Int)) ≤ w64 (M : Int) := by
  rw [x_wn (by omega), x_64 (by omega), x_64 (by omega), show w64 1 = 1 from rfl]
  omega
theorem z_no1 {a : Int} {M : Nat} (ha : w32 a = a) (hM : M < 2147483648) (h : ¬ (1 ≤ a ∧ a ≤ (M : Int))) : ¬ (w64 1 ≤ w64 (w32 a) ∧ w64 (w32 a) ≤ w64 (M : Int)) := by
  have h2 : -2147483648 ≤ w32 a ∧ w32 a < 2147483648 := by unfold w32; omega
  rw [x_64 (by omega), show w64 1 = 1 from rfl]
  rw [ha] at h2 ⊢
  rw [show w64 a = a by unfold w64; omega]
  exact h
theorem k92_b1 {ex : xO} {d : Nat} {c : Nat → Nat → Int} {b : Bool}  {a1 a2 : Int} (h1 : w32 a1 = a1) (q1 : ¬ (1 ≤ a1 ∧ a1 ≤ 20)) : An ex (d + 20) 92 6 [xA 0, xI a1, xI a2] (hp c b) (xI (-1), hp (c) b) := by
  refine Rn.run 2 (ls' := [_, _, _, _, _, _]) (st' := [_, _]) rfl ?_
  refine Rn.lt2 rfl (fun e2 => ?_) (fun e2 => ?_)
  · refine Rn.run 1 (ls' := [_, _, _, _, _, _]) (st' := [_]) rfl ?_
    exact Rn.ret rfl rfl rfl rfl rfl rfl
  · refine Rn.run 2 (ls' := [_, _, _, _, _, _]) (st' := [_, _]) rfl ?_
    refine Rn.gt2 rfl (fun e8 => ?_) (fun e8 => absurd e8 (by exact fun h => q1 (by rw [h1] at e2 h; exact ⟨Int.not_lt.mp e2, Int.not_lt.mp h⟩)))
    refine Rn.run 1 (ls' := [_, _, _, _, _, _]) (st' := [_]) rfl ?_
    exact Rn.ret rfl rfl rfl rfl rfl rfl
theorem k92_b2 {ex : xO} {d : Nat} {c : Nat → Nat → Int} {b : Bool}  {N : Nat} {a2 : Int} (hN1 : 1 ≤ N) (hN2 : N ≤ 20) (h2 : w32 a2 = a2) (q2 : ¬ (1 ≤ a2 ∧ a2 ≤ 2147483646)) : An ex (d + 20) 92 6 [xA 0, xI (N : Int), xI a2] (hp c b) (xI (-1), hp (c) b) := by
  have N31 : N < 2147483648 := by omega
  refine Rn.run 2 (ls' := [_, _, _, _, _, _]) (st' := [_, _]) rfl ?_
  refine Rn.lt2 rfl (fun e2 => absurd e2 (by exact fun h => absurd ((y_lt (n := N) (i := 1) (by decide) N31).mp h) (Nat.not_lt.mpr hN1))) (fun e2 => ?_)
  refine Rn.run 2 (ls' := [_, _, _, _, _, _]) (st' := [_, _]) rfl ?_
  refine Rn.gt2 rfl (fun e8 => absurd e8 (by exact fun h => absurd ((y_lt (n := 20) (i := N) N31 (by decide)).mp h) (Nat.not_lt.mpr hN2))) (fun e8 => ?_)
  refine Rn.run 2 (ls' := [_, _, _, _, _, _]) (st' := [_, _]) rfl ?_
  refine Rn.lt2 rfl (fun e13 => ?_) (fun e13 => ?_)
  · refine Rn.run 1 (ls' := [_, _, _, _, _, _]) (st' := [_]) rfl ?_
    exact Rn.ret rfl rfl rfl rfl rfl rfl
  · refine Rn.run 4 (ls' := [_, _, _, _, _, _]) (st' := [_]) rfl ?_
    refine Rn.le0 rfl (fun e22 => absurd e22 (by rw [h2] at e13; exact z_ns h2 (Int.not_le.mp (fun z => q2 ⟨Int.not_lt.mp e13, z⟩)))) (fun e22 => ?_)
    refine Rn.run 1 (ls' := [_, _, _, _, _, _]) (st' := [_]) rfl ?_
    exact Rn.ret rfl rfl rfl rfl rfl rfl
theorem k92_st {ex : xO} {d : Nat} {c : Nat → Nat → Int} {b : Bool} {n D T Mo : Nat} {kd bo wo L : Nat → Nat} (hP : pS n kd bo wo D T Mo L) (hc : cS c b n kd bo wo D T Mo L) {N sd : Nat} (hN1 : 1 ≤ N) (hN2 : N ≤ 20) (hs1 : 1 ≤ sd) (hs2 : sd ≤ 2147483646) (h0 : n = 0) : An ex (d + 20) 92 6 [xA 0, xI (N : Int), xI (sd : Int)] (hp c b) (xI (-4), hp (c) b) := by
  obtain ⟨ho, h40, hT, h9, hMo⟩ := hP
  obtain ⟨hC, d7, t9, hL, m10⟩ := hc
  have hn := ho.1
  have hT6 := p64 hn hT
  have N31 : N < 2147483648 := by omega
  have s31 : sd < 2147483648 := by omega
  have zs := z_sd hs2
  refine Rn.run 2 (ls' := [_, _, _, _, _, _]) (st' := [_, _]) rfl ?_
  refine Rn.lt2 rfl (fun e2 => absurd e2 (by exact fun h => absurd ((y_lt (n := N) (i := 1) (by decide) N31).mp h) (Nat.not_lt.mpr hN1))) (fun e2 => ?_)
  refine Rn.run 2 (ls' := [_, _, _, _, _, _]) (st' := [_, _]) rfl ?_
  refine Rn.gt2 rfl (fun e8 => absurd e8 (by exact fun h => absurd ((y_lt (n := 20) (i := N) N31 (by decide)).mp h) (Nat.not_lt.mpr hN2))) (fun e8 => ?_)
  refine Rn.run 2 (ls' := [_, _, _, _, _, _]) (st' := [_, _]) rfl ?_
  refine Rn.lt2 rfl (fun e13 => absurd e13 (by exact fun h => absurd ((y_lt (n := sd) (i := 1) (by decide) s31).mp h) (Nat.not_lt.mpr hs1))) (fun e13 => ?_)
  refine Rn.run 4 (ls' := [_, _, _, _, _, _]) (st' := [_]) rfl ?_
  refine Rn.le0 rfl (fun e22 => ?_) (fun e22 => absurd e22 (by exact fun h => h zs))
  refine Rn.run 1 (ls' := [_, _, _, _, _, _]) (st' := [_]) rfl ?_
  refine Rn.getR rfl ⟨by decide, rfl, rfl⟩ (j := gid b) (rfl) ?_
  refine Rn.getI rfl (xS_g b) ?_
  rw [hC.1]
  refine Rn.ne0 rfl (fun e34 => absurd e34 (by rw [h0]; decide)) (fun e34 => ?_)
  refine Rn.run 1 (ls' := [_, _, _, _, _, _]) (st' := [_]) rfl ?_
  exact Rn.ret rfl rfl rfl rfl rfl rfl
theorem k92_fu {ex : xO} {d : Nat} {c : Nat → Nat → Int} {b : Bool} {n D T Mo : Nat} {kd bo wo L : Nat → Nat} (hP : pS n kd bo wo D T Mo L) (hc : cS c b n kd bo wo D T Mo L) {N sd : Nat} (hN1 : 1 ≤ N) (hN2 : N ≤ 20) (hs1 : 1 ≤ sd) (hs2 : sd ≤ 2147483646) (h0 : n ≠ 0) (hf : ¬ D + N ≤ 40) : An ex (d + 20) 92 6 [xA 0, xI (N : Int), xI (sd : Int)] (hp c b) (xI (-2), hp (c) b) := by
  obtain ⟨ho, h40, hT, h9, hMo⟩ := hP
  obtain ⟨hC, d7, t9, hL, m10⟩ := hc
  have hn := ho.1
  have hT6 := p64 hn hT
  have N31 : N < 2147483648 := by omega
  have s31 : sd < 2147483648 := by omega
  have zs := z_sd hs2
  have N100 : N ≤ 100 := by omega
  refine Rn.run 2 (ls' := [_, _, _, _, _, _]) (st' := [_, _]) rfl ?_
  refine Rn.lt2 rfl (fun e2 => absurd e2 (by exact fun h => absurd ((y_lt (n := N) (i := 1) (by decide) N31).mp h) (Nat.not_lt.mpr hN1))) (fun e2 => ?_)
  refine Rn.run 2 (ls' := [_, _, _, _, _, _]) (st' := [_, _]) rfl ?_
  refine Rn.gt2 rfl (fun e8 => absurd e8 (by exact fun h => absurd ((y_lt (n := 20) (i := N) N31 (by decide)).mp h) (Nat.not_lt.mpr hN2))) (fun e8 => ?_)
  refine Rn.run 2 (ls' := [_, _, _, _, _, _]) (st' := [_, _]) rfl ?_
  refine Rn.lt2 rfl (fun e13 => absurd e13 (by exact fun h => absurd ((y_lt (n := sd) (i := 1) (by decide) s31).mp h) (Nat.not_lt.mpr hs1))) (fun e13 => ?_)
  refine Rn.run 4 (ls' := [_, _, _, _, _, _]) (st' := [_]) rfl ?_
  refine Rn.le0 rfl (fun e22 => ?_) (fun e22 => absurd e22 (by exact fun h => h zs))
  refine Rn.run 1 (ls' := [_, _, _, _, _, _]) (st' := [_]) rfl ?_
  refine Rn.getR rfl ⟨by decide, rfl, rfl⟩ (j := gid b) (rfl) ?_
  refine Rn.getI rfl (xS_g b) ?_
  rw [hC.1]
  refine Rn.ne0 rfl (fun e34 => ?_) (fun e34 => absurd e34 (by exact fun h => h (z_ne0 h0 hn)))
  refine Rn.run 3 (ls' := [_, _, _, _, _, _]) (st' := [_, _]) rfl ?_
  refine Rn.call rfl rfl rfl rfl rfl (c8 (m := N) d7 h40 N100) ?_
  refine Rn.neB rfl (fun e48 => absurd e48 (by exact hf)) (fun e48 => ?_)
  refine Rn.run 1 (ls' := [_, _, _, _, _, _]) (st' := [_]) rfl ?_
  exact Rn.ret rfl rfl rfl rfl rfl rfl
theorem k92_ok {ex : xO} {d : Nat} {c : Nat → Nat → Int} {b : Bool} {n D T Mo : Nat} {kd bo wo L : Nat → Nat} (hP : pS n kd bo wo D T Mo L) (hc : cS c b n kd bo wo D T Mo L) {N sd : Nat} (hN1 : 1 ≤ N) (hN2 : N ≤ 20) (hs1 : 1 ≤ sd) (hs2 : sd ≤ 2147483646) (h0 : n ≠ 0) (hf : D + N ≤ 40) : ∃ e, An ex (d + 20) 92 6 [xA 0, xI (N : Int), xI (sd : Int)] (hp c b) (xI ((s8 (lsq n kd bo wo sd (T, Mo, L) N).2.2 : Nat) : Int), hp e b) ∧ CP c e D (lsq n kd bo wo sd (T, Mo, L)) N := by
  obtain ⟨ho, h40, hT, h9, hMo⟩ := hP
  obtain ⟨hC, d7, t9, hL, m10⟩ := hc
  have hn := ho.1
  have hT6 := p64 hn hT
  have N31 : N < 2147483648 := by omega
  have s31 : sd < 2147483648 := by omega
  have zs := z_sd hs2
  have N100 : N ≤ 100 := by omega
  obtain ⟨e, q, f⟩ := l92 (ex := ex) (d := d + 10) (b := b) (sd := sd) ⟨ho, h40, hT, h9, hMo⟩ ⟨hC, d7, t9, hL, m10⟩ (by omega) h0 hf N 0 c (Nat.zero_add N) ⟨d7, fun i hi => by have e0 : i = 0 := Nat.le_zero.mp hi; subst e0; exact ⟨t9, m10, hL⟩, fun _ _ _ _ => rfl⟩
  refine ⟨e, ?_, f⟩
  refine Rn.run 2 (ls' := [_, _, _, _, _, _]) (st' := [_, _]) rfl ?_
  refine Rn.lt2 rfl (fun e2 => absurd e2 (by exact fun h => absurd ((y_lt (n := N) (i := 1) (by decide) N31).mp h) (Nat.not_lt.mpr hN1))) (fun e2 => ?_)
  refine Rn.run 2 (ls' := [_, _, _, _, _, _]) (st' := [_, _]) rfl ?_
  refine Rn.gt2 rfl (fun e8 => absurd e8 (by exact fun h => absurd ((y_lt (n := 20) (i := N) N31 (by decide)).mp h) (Nat.not_lt.mpr hN2))) (fun e8 => ?_)
  refine Rn.run 2 (ls' := [_, _, _, _, _, _]) (st' := [_, _]) rfl ?_
  refine Rn.lt2 rfl (fun e13 => absurd e13 (by exact fun h => absurd ((y_lt (n := sd) (i := 1) (by decide) s31).mp h) (Nat.not_lt.mpr hs1))) (fun e13 => ?_)
  refine Rn.run 4 (ls' := [_, _, _, _, _, _]) (st' := [_]) rfl ?_
  refine Rn.le0 rfl (fun e22 => ?_) (fun e22 => absurd e22 (by exact fun h => h zs))
  refine Rn.run 1 (ls' := [_, _, _, _, _, _]) (st' := [_]) rfl ?_
  refine Rn.getR rfl ⟨by decide, rfl, rfl⟩ (j := gid b) (rfl) ?_
  refine Rn.getI rfl (xS_g b) ?_
  rw [hC.1]
  refine Rn.ne0 rfl (fun e34 => ?_) (fun e34 => absurd e34 (by exact fun h => h (z_ne0 h0 hn)))
  refine Rn.run 3 (ls' := [_, _, _, _, _, _]) (st' := [_, _]) rfl ?_
  refine Rn.call rfl rfl rfl rfl rfl (c8 (m := N) d7 h40 N100) ?_
  refine Rn.neB rfl (fun e48 => ?_) (fun e48 => absurd e48 (by exact fun h => h hf))
  refine Rn.run 2 (ls' := [_, _, _, _, _, _]) (st' := [_]) rfl ?_
  rw [x_wn s31]
  refine Rn.run 3 (ls' := [_, _, _, _, _, _]) (st' := []) rfl ?_
  exact q
theorem k220_b1 {ex : xO} {d : Nat} {c : Nat → Nat → Int} {b : Bool}  {a1 a2 : Int} (h1 : w32 a1 = a1) (q1 : ¬ (1 ≤ a1 ∧ a1 ≤ 20)) : An ex (d + 20) 220 9 [xA 54, xI a1, xI a2] (hp c b) (xI (-1), hp (c) b) := by
  refine Rn.run 4 (ls' := [_, _, _, _, _, _, _, _, _]) (st' := [_, _, _]) rfl ?_
  refine Rn.call rfl rfl rfl rfl rfl (c131) ?_
  refine Rn.eqB rfl (fun e9 => ?_) (fun e9 => absurd e9 (by exact (z_no1 (M := 20) h1 (by decide) q1)))
  refine Rn.run 1 (ls' := [_, _, _, _, _, _, _, _, _]) (st' := [_]) rfl ?_
  exact Rn.ret rfl rfl rfl rfl rfl rfl
theorem k220_b2 {ex : xO} {d : Nat} {c : Nat → Nat → Int} {b : Bool}  {N : Nat} {a2 : Int} (hN1 : 1 ≤ N) (hN2 : N ≤ 20) (h2 : w32 a2 = a2) (q2 : ¬ (1 ≤ a2 ∧ a2 ≤ 2147483646)) : An ex (d + 20) 220 9 [xA 54, xI (N : Int), xI a2] (hp c b) (xI (-1), hp (c) b) := by
  refine Rn.run 4 (ls' := [_, _, _, _, _, _, _, _, _]) (st' := [_, _, _]) rfl ?_
  refine Rn.call rfl rfl rfl rfl rfl (c131) ?_
  refine Rn.eqB rfl (fun e9 => absurd e9 (by exact fun h => h (z_in1 (M := 20) hN1 hN2 (by decide)))) (fun e9 => ?_)
  refine Rn.run 4 (ls' := [_, _, _, _, _, _, _, _, _]) (st' := [_, _, _]) rfl ?_
  refine Rn.call rfl rfl rfl rfl rfl (c131) ?_
  refine Rn.neB rfl (fun e21 => absurd e21 (by exact (z_no1 (M := 2147483646) h2 (by decide) q2))) (fun e21 => ?_)
  refine Rn.run 1 (ls' := [_, _, _, _, _, _, _, _, _]) (st' := [_]) rfl ?_
  exact Rn.ret rfl rfl rfl rfl rfl rfl
theorem k220_st {ex : xO} {d : Nat} {c : Nat → Nat → Int} {b : Bool} {n D T Mo : Nat} {kd bo wo L : Nat → Nat} (hP : pS n kd bo wo D T Mo L) (hm : mS c n kd bo wo D T Mo L) {N sd : Nat} (hN1 : 1 ≤ N) (hN2 : N ≤ 20) (hs1 : 1 ≤ sd) (hs2 : sd ≤ 2147483646) (h0 : n = 0) : An ex (d + 20) 220 9 [xA 54, xI (N : Int), xI (sd : Int)] (hp c b) (xI (-4), hp (c) b) := by
  obtain ⟨ho, h40, hT, h9, hMo⟩ := hP
  obtain ⟨hM, d29, t2, l55, m1⟩ := hm
  have hn := ho.1
  have hT6 := p64 hn hT
  have N31 : N < 2147483648 := by omega
  have s31 : sd < 2147483648 := by omega
  have D31 : D + N < 2147483648 := by omega
  refine Rn.run 4 (ls' := [_, _, _, _, _, _, _, _, _]) (st' := [_, _, _]) rfl ?_
  refine Rn.call rfl rfl rfl rfl rfl (c131) ?_
  refine Rn.eqB rfl (fun e9 => absurd e9 (by exact fun h => h (z_in1 (M := 20) hN1 hN2 (by decide)))) (fun e9 => ?_)
  refine Rn.run 4 (ls' := [_, _, _, _, _, _, _, _, _]) (st' := [_, _, _]) rfl ?_
  refine Rn.call rfl rfl rfl rfl rfl (c131) ?_
  refine Rn.neB rfl (fun e21 => ?_) (fun e21 => absurd e21 (by exact fun h => h (z_in1 (M := 2147483646) hs1 hs2 (by decide))))
  refine Rn.run 3 (ls' := [_, _, _, _, _, _, _, _, _]) (st' := [_, _]) rfl ?_
  refine Rn.ald rfl ⟨by decide, rfl⟩ (0) rfl (by decide) ?_
  rw [hM.1]
  refine Rn.ne0 rfl (fun e32 => absurd e32 (by rw [h0]; decide)) (fun e32 => ?_)
  refine Rn.run 1 (ls' := [_, _, _, _, _, _, _, _, _]) (st' := [_]) rfl ?_
  exact Rn.ret rfl rfl rfl rfl rfl rfl
theorem k220_fu {ex : xO} {d : Nat} {c : Nat → Nat → Int} {b : Bool} {n D T Mo : Nat} {kd bo wo L : Nat → Nat} (hP : pS n kd bo wo D T Mo L) (hm : mS c n kd bo wo D T Mo L) {N sd : Nat} (hN1 : 1 ≤ N) (hN2 : N ≤ 20) (hs1 : 1 ≤ sd) (hs2 : sd ≤ 2147483646) (h0 : n ≠ 0) (hf : ¬ D + N ≤ 40) : An ex (d + 20) 220 9 [xA 54, xI (N : Int), xI (sd : Int)] (hp c b) (xI (-2), hp (c) b) := by
  obtain ⟨ho, h40, hT, h9, hMo⟩ := hP
  obtain ⟨hM, d29, t2, l55, m1⟩ := hm
  have hn := ho.1
  have hT6 := p64 hn hT
  have N31 : N < 2147483648 := by omega
  have s31 : sd < 2147483648 := by omega
  have D31 : D + N < 2147483648 := by omega
  refine Rn.run 4 (ls' := [_, _, _, _, _, _, _, _, _]) (st' := [_, _, _]) rfl ?_
  refine Rn.call rfl rfl rfl rfl rfl (c131) ?_
  refine Rn.eqB rfl (fun e9 => absurd e9 (by exact fun h => h (z_in1 (M := 20) hN1 hN2 (by decide)))) (fun e9 => ?_)
  refine Rn.run 4 (ls' := [_, _, _, _, _, _, _, _, _]) (st' := [_, _, _]) rfl ?_
  refine Rn.call rfl rfl rfl rfl rfl (c131) ?_
  refine Rn.neB rfl (fun e21 => ?_) (fun e21 => absurd e21 (by exact fun h => h (z_in1 (M := 2147483646) hs1 hs2 (by decide))))
  refine Rn.run 3 (ls' := [_, _, _, _, _, _, _, _, _]) (st' := [_, _]) rfl ?_
  refine Rn.ald rfl ⟨by decide, rfl⟩ (0) rfl (by decide) ?_
  rw [hM.1]
  refine Rn.ne0 rfl (fun e32 => ?_) (fun e32 => absurd e32 (by exact fun h => h (z_ne0 h0 hn)))
  refine Rn.run 3 (ls' := [_, _, _, _, _, _, _, _, _]) (st' := [_, _]) rfl ?_
  refine Rn.ald rfl ⟨by decide, rfl⟩ (29) rfl (by decide) ?_
  rw [d29]
  refine Rn.run 3 (ls' := [_, _, _, _, _, _, _, _, _]) (st' := [_, _]) rfl ?_
  refine Rn.le2 rfl (fun e49 => absurd e49 (by exact fun h => hf ((y_ge (n := D + N) (i := 40) (by decide) D31).mp h))) (fun e49 => ?_)
  refine Rn.run 1 (ls' := [_, _, _, _, _, _, _, _, _]) (st' := [_]) rfl ?_
  exact Rn.ret rfl rfl rfl rfl rfl rfl
theorem k220_ok {ex : xO} {d : Nat} {c : Nat → Nat → Int} {b : Bool} {n D T Mo : Nat} {kd bo wo L : Nat → Nat} (hP : pS n kd bo wo D T Mo L) (hm : mS c n kd bo wo D T Mo L) {N sd : Nat} (hN1 : 1 ≤ N) (hN2 : N ≤ 20) (hs1 : 1 ≤ sd) (hs2 : sd ≤ 2147483646) (h0 : n ≠ 0) (hf : D + N ≤ 40) : ∃ e, An ex (d + 20) 220 9 [xA 54, xI (N : Int), xI (sd : Int)] (hp c b) (xI ((s8 (lsq n kd bo wo sd (T, Mo, L) N).2.2 : Nat) : Int), hp e b) ∧ MP c e n kd bo wo D (lsq n kd bo wo sd (T, Mo, L)) N := by
  obtain ⟨ho, h40, hT, h9, hMo⟩ := hP
  obtain ⟨hM, d29, t2, l55, m1⟩ := hm
  have hn := ho.1
  have hT6 := p64 hn hT
  have N31 : N < 2147483648 := by omega
  have s31 : sd < 2147483648 := by omega
  have D31 : D + N < 2147483648 := by omega
  obtain ⟨e, q, f⟩ := l220 (ex := ex) (d := d + 10) (b := b) (c := c) (sd := sd) ⟨ho, h40, hT, h9, hMo⟩ (by omega) h0 hf N 0 c xU xU xU (Nat.zero_add N) ⟨⟨hM, d29, t2, l55, m1⟩, fun i hi => absurd hi (Nat.not_lt_zero i), fun _ _ _ _ => rfl⟩
  refine ⟨e, ?_, f⟩
  refine Rn.run 4 (ls' := [_, _, _, _, _, _, _, _, _]) (st' := [_, _, _]) rfl ?_
  refine Rn.call rfl rfl rfl rfl rfl (c131) ?_
  refine Rn.eqB rfl (fun e9 => absurd e9 (by exact fun h => h (z_in1 (M := 20) hN1 hN2 (by decide)))) (fun e9 => ?_)
  refine Rn.run 4 (ls' := [_, _, _, _, _, _, _, _, _]) (st' := [_, _, _]) rfl ?_
  refine Rn.call rfl rfl rfl rfl rfl (c131) ?_
  refine Rn.neB rfl (fun e21 => ?_) (fun e21 => absurd e21 (by exact fun h => h (z_in1 (M := 2147483646) hs1 hs2 (by decide))))
  refine Rn.run 3 (ls' := [_, _, _, _, _, _, _, _, _]) (st' := [_, _]) rfl ?_
  refine Rn.ald rfl ⟨by decide, rfl⟩ (0) rfl (by decide) ?_
  rw [hM.1]
  refine Rn.ne0 rfl (fun e32 => ?_) (fun e32 => absurd e32 (by exact fun h => h (z_ne0 h0 hn)))
  refine Rn.run 3 (ls' := [_, _, _, _, _, _, _, _, _]) (st' := [_, _]) rfl ?_
  refine Rn.ald rfl ⟨by decide, rfl⟩ (29) rfl (by decide) ?_
  rw [d29]
  refine Rn.run 3 (ls' := [_, _, _, _, _, _, _, _, _]) (st' := [_, _]) rfl ?_
  refine Rn.le2 rfl (fun e49 => ?_) (fun e49 => absurd e49 (by exact fun h => h ((y_ge (n := D + N) (i := 40) (by decide) D31).mpr hf)))
  refine Rn.run 2 (ls' := [_, _, _, _, _, _, _, _, _]) (st' := [_]) rfl ?_
  rw [x_wn s31]
  refine Rn.run 3 (ls' := [_, _, _, _, _, _, _, _, _]) (st' := []) rfl ?_
  exact q
theorem g_lots {ex : xO} (a1 a2 : Int) (h1 : w32 a1 = a1) (h2 : w32 a2 = a2) : AgI ex 92 6 220 9 [xI a1, xI a2] := by
  intro d c b hI
  obtain ⟨n, kd, bo, wo, D, T, Mo, L, hP, hc, hm⟩ := Inv_St hI
  by_cases q1 : 1 ≤ a1 ∧ a1 ≤ 20
  · obtain ⟨N, ⟨hN1, hN2⟩, rfl⟩ : ∃ j : Nat, (1 ≤ j ∧ j ≤ 20) ∧ a1 = (j : Int) := ⟨a1.toNat, by omega, by omega⟩
    by_cases q2 : 1 ≤ a2 ∧ a2 ≤ 2147483646
    · obtain ⟨sd, ⟨hs1, hs2⟩, rfl⟩ : ∃ j : Nat, (1 ≤ j ∧ j ≤ 2147483646) ∧ a2 = (j : Int) := ⟨a2.toNat, by omega, by omega⟩
      by_cases h0 : n = 0
      · exact Ag_same hI (-4) (k92_st hP hc hN1 hN2 hs1 hs2 h0) (k220_st hP hm hN1 hN2 hs1 hs2 h0)
      · by_cases hf : D + N ≤ 40
        · obtain ⟨c1, r1, f1⟩ := k92_ok (ex := ex) (d := d) (b := b) hP hc hN1 hN2 hs1 hs2 h0 hf
          obtain ⟨c2, r2, f2⟩ := k220_ok (ex := ex) (d := d) (b := b) hP (mS_fr (fun k => f1.2.2 55 k (by omega) (by omega)) hm) hN1 hN2 hs1 hs2 h0 hf
          exact ⟨_, _, c1, b, c2, b, r1, r2, rfl, Inv_lots hI hc hf (fun k hk => lsq_P sd h0 hP k (by omega)) f1 f2⟩
        · exact Ag_same hI (-2) (k92_fu hP hc hN1 hN2 hs1 hs2 h0 hf) (k220_fu hP hm hN1 hN2 hs1 hs2 h0 hf)
    · exact Ag_same hI (-1) (k92_b2 hN1 hN2 h2 q2) (k220_b2 hN1 hN2 h2 q2)
  · exact Ag_same hI (-1) (k92_b1 h1 q1) (k220_b1 h1 q1)
