-- lots: the model
def MP (c c' : Nat → Nat → Int) (n : Nat) (kd bo wo : Nat → Nat) (D : Nat) (tr : Nat → Nat × Nat × (Nat → Nat)) (k : Nat) : Prop := mS c' n kd bo wo (D + k) (tr k).1 (tr k).2.1 (tr k).2.2 ∧ (∀ i, i < k → c' 55 (30 + 10 * (D + i)) = ((tr i).2.1 : Nat) ∧ c' 55 (30 + 10 * (D + i) + 1) = ((tr i).1 : Nat) ∧ ∀ j, j < 8 → c' 55 (30 + 10 * (D + i) + 2 + j) = ((tr i).2.2 j : Nat)) ∧ ∀ a z, ¬ scr a → ¬ (a = 55 ∧ ((1 ≤ z ∧ z ≤ 10) ∨ z = 29 ∨ (30 + 10 * D ≤ z ∧ z < 30 + 10 * (D + k)))) → c' a z = c a z
theorem MP_s {c c' c2 : Nat → Nat → Int} {n D k : Nat} {kd bo wo : Nat → Nat} {tr : Nat → Nat × Nat × (Nat → Nat)} (h : MP c c' n kd bo wo D tr k) (hd : mDeed c' c2 n kd bo wo (D + k) (tr k).1 (tr k).2.1 (tr k).2.2 (tr (k + 1)).1 (tr (k + 1)).2.1 (tr (k + 1)).2.2) : MP c c2 n kd bo wo D tr (k + 1) := by
  obtain ⟨h1, h2, h3⟩ := h
  obtain ⟨g1, g2, g3, g4, g5⟩ := hd
  have s5 : ¬ scr 55 := by unfold scr; omega
  refine ⟨g1, fun i hi => ?_, fun a z q1 q2 => by rw [g5 a z q1 (by omega)]; exact h3 a z q1 (by omega)⟩
  by_cases e : i = k
  · subst e
    exact ⟨g2, g3, g4⟩
  · obtain ⟨p1, p2, p3⟩ := h2 i (by omega)
    refine ⟨by rw [g5 55 _ s5 (by omega)]; exact p1, by rw [g5 55 _ s5 (by omega)]; exact p2, fun j hj => by rw [g5 55 _ s5 (by omega)]; exact p3 j hj⟩
theorem mDeed_id {c : Nat → Nat → Int} {n D T Mo : Nat} {kd bo wo L : Nat → Nat} (h : mDeed c (mnd c D T Mo L) n kd bo wo D T Mo L T Mo L) : mDeed c (mnd c D T Mo L) n kd bo wo D T Mo L T Mo L := h
theorem x_wayL {x : Nat} (h : x < 2147483648) : Int.tmod (w64 (Int.tdiv (w64 (x : Int)) (w64 8))) (w64 8) = ((x / 8 % 8 : Nat) : Int) := by
  rw [show Int.tdiv (w64 (x : Int)) (w64 8) = ((x / 8 : Nat) : Int) from x_qu64 (b := 8) (by omega) (by decide)]
  exact x_rm64 (a := x / 8) (b := 8) (by omega) (by decide)
theorem x_bghL {x : Nat} (h : x < 2147483648) : Int.tmod (w64 (Int.tdiv (w64 (x : Int)) (w64 64))) (w64 8) = ((x / 64 % 8 : Nat) : Int) := by
  rw [show Int.tdiv (w64 (x : Int)) (w64 64) = ((x / 64 : Nat) : Int) from x_qu64 (b := 64) (by omega) (by decide)]
  exact x_rm64 (a := x / 64) (b := 8) (by omega) (by decide)
theorem l220 {ex : xO} {d : Nat} {c : Nat → Nat → Int} {b : Bool} {n D T Mo : Nat} {kd bo wo L : Nat → Nat} (hP : pS n kd bo wo D T Mo L) {N sd : Nat} (hsd : sd < 2147483647) (h0 : n ≠ 0) (hN : D + N ≤ 40) : ∀ (m k : Nat) (c' : Nat → Nat → Int) (u6 u7 u8 : xV), k + m = N → MP c c' n kd bo wo D (lsq n kd bo wo sd (T, Mo, L)) k → ∃ e, Rn ex xt220 (d + 10) 61 [xA 54, xI (N : Int), xI (sd : Int), xL ((lq sd k : Nat) : Int), xU, xI (k : Int), u6, u7, u8] [] (hp c' b) (xI ((s8 (lsq n kd bo wo sd (T, Mo, L) N).2.2 : Nat) : Int), hp e b) ∧ MP c e n kd bo wo D (lsq n kd bo wo sd (T, Mo, L)) N := by
  have hn := hP.1.1
  have ho := hP.1
  intro m
  induction m with
  | zero =>
    intro k c' u6 u7 u8 hm hp
    obtain rfl : k = N := by omega
    have k31 : k < 2147483648 := by omega
    refine ⟨lf c' (lsq n kd bo wo sd (T, Mo, L) k).2.2, ?_, ⟨mS_fr (fun z => lf_out _ _ (by decide)) hp.1, fun i hi => ?_, fun a z h1 h2 => ?_⟩⟩
    · refine Rn.run 2 (ls' := [_, _, _, _, _, _, _, _, _]) (st' := [_, _]) rfl ?_
      refine Rn.ge2 rfl (fun e64 => ?_) (fun e64 => absurd e64 (by exact fun h => h ((y_ge k31 k31).mpr (Nat.le_refl _))))
      refine Rn.run 1 (ls' := [_, _, _, _, _, _, _, _, _]) (st' := [_]) rfl ?_
      refine Rn.call rfl rfl rfl rfl rfl (c171 hp.1.2.2.2.1) ?_
      exact Rn.ret rfl rfl rfl rfl rfl rfl
    · obtain ⟨p1, p2, p3⟩ := hp.2.1 i hi
      exact ⟨by rw [lf_out _ _ (by decide)]; exact p1, by rw [lf_out _ _ (by decide)]; exact p2, fun j hj => by rw [lf_out _ _ (by decide)]; exact p3 j hj⟩
    · rw [lf_out _ _ (fun e => h1 (by unfold scr; omega))]
      exact hp.2.2 a z h1 h2
  | succ m ih =>
    intro k c' u6 u7 u8 hm hp
    have hP' := lsq_P sd h0 hP k (by omega)
    have hPn := lsq_P sd h0 hP (k + 1) (by omega)
    have x1 := lq_lt hsd (k + 1)
    have x0 := lq_lt hsd k
    have x31 : lq sd (k + 1) < 2147483648 := by omega
    have x63 : lq sd (k + 1) < 9223372036854775808 := by omega
    have n63 : n < 9223372036854775808 := by omega
    have k31 : ¬ w32 (N : Int) ≤ w32 (k : Int) := fun h => absurd ((y_ge (by omega) (by omega)).mp h) (by omega)
    have ex1 : Int.tmod (w64 ((lq sd k : Nat) * 48271 : Int)) (w64 2147483647) = ((lq sd (k + 1) : Nat) : Int) := x_rm64 (a := lq sd k * 48271) (b := 2147483647) (by omega) (by decide)
    have hi : lq sd (k + 1) % n < n := Nat.mod_lt _ (by omega)
    have hb8 : lq sd (k + 1) / 64 % 8 < 8 := Nat.mod_lt _ (by decide)
    have hb31 : 3 + lq sd (k + 1) / 64 % 8 < 2147483648 := by omega
    have hb17 : 3 + lq sd (k + 1) / 64 % 8 < 1720 := by omega
    have hw8 : lq sd (k + 1) / 8 % 8 < 8 := Nat.mod_lt _ (by decide)
    have g4 : (w32 4 ≤ w32 ((lq sd (k + 1) / 8 % 8 : Nat) : Int)) ↔ 4 ≤ lq sd (k + 1) / 8 % 8 := y_ge (n := 4) (by omega) (by omega)
    have g6 : (w32 6 ≤ w32 ((lq sd (k + 1) / 8 % 8 : Nat) : Int)) ↔ 6 ≤ lq sd (k + 1) / 8 % 8 := y_ge (n := 6) (by omega) (by omega)
    have g7 : (w32 ((lq sd (k + 1) / 8 % 8 : Nat) : Int) = w32 6) ↔ lq sd (k + 1) / 8 % 8 = 6 := y_eq (i := 6) (by omega) (by omega)
    have wn : w32 (n : Int) = n := x_wn (by omega)
    have n64z : w64 (n : Int) ≠ 0 := x_nz h0 n63
    have Dk : D + k < 40 := by omega
    have m0 := mS_mnd hn hp.1
    have hPm : pS n kd bo wo (D + k + 1) (lsq n kd bo wo sd (T, Mo, L) k).1 (lsq n kd bo wo sd (T, Mo, L) k).2.1 (lsq n kd bo wo sd (T, Mo, L) k).2.2 := ⟨ho, by omega, hP'.2.2.1, hP'.2.2.2.1, by have := hP'.2.2.2.2; omega⟩
    have s0 := m0.1
    have hM' := hp.1.1
    have hMm := s0.1
    have est : (lsq n kd bo wo sd (T, Mo, L)) (k + 1) = lst n kd bo wo (lq sd (k + 1)) ((lsq n kd bo wo sd (T, Mo, L) k).1, (lsq n kd bo wo sd (T, Mo, L) k).2.1, (lsq n kd bo wo sd (T, Mo, L) k).2.2) := rfl
    by_cases hw4 : lq sd (k + 1) / 8 % 8 < 4
    · have e1 : (lsq n kd bo wo sd (T, Mo, L)) (k + 1) = ((lsq n kd bo wo sd (T, Mo, L) k).1, (lsq n kd bo wo sd (T, Mo, L) k).2.1 + 1, mo kd bo n (lsq n kd bo wo sd (T, Mo, L) k).1 1 (lsq n kd bo wo sd (T, Mo, L) k).2.2) := est.trans (if_pos hw4)
      obtain ⟨c2, r2, s2, f2⟩ := c180 (ex := ex) (d := d + 4) (b := b) hPm s0
      obtain ⟨e, q, f⟩ := ih (k + 1) c2 (xI ((lq sd (k + 1) / 8 % 8 : Nat) : Int)) (xI ((lq sd (k + 1) / 64 % 8 : Nat) : Int)) (xI ((lq sd (k + 1) % n : Nat) : Int)) (by omega) (MP_s hp (by rw [e1]; exact mDeed_tr m0 s2 f2))
      refine ⟨e, ?_, f⟩
      refine Rn.run 2 (ls' := [_, _, _, _, _, _, _, _, _]) (st' := [_, _]) rfl ?_
      refine Rn.ge2 rfl (fun e64 => absurd e64 (by exact k31)) (fun e64 => ?_)
      refine Rn.run 4 (ls' := [_, _, _, _, _, _, _, _, _]) (st' := [_, _]) rfl ?_
      refine Rn.lrem rfl (by decide) ?_
      rw [ex1]
      refine Rn.run 6 (ls' := [_, _, _, _, _, _, _, _, _]) (st' := [_]) rfl ?_
      rw [x_wayL x31]
      refine Rn.run 1 (ls' := [_, _, _, _, _, _, _, _, _]) (st' := [_]) rfl ?_
      refine Rn.run 6 (ls' := [_, _, _, _, _, _, _, _, _]) (st' := [_]) rfl ?_
      rw [x_bghL x31]
      refine Rn.run 1 (ls' := [_, _, _, _, _, _, _, _, _]) (st' := [_]) rfl ?_
      refine Rn.run 5 (ls' := [_, _, _, _, _, _, _, _, _]) (st' := [_, _, _]) rfl ?_
      refine Rn.ald rfl ⟨by decide, rfl⟩ (0) rfl (by decide) ?_
      rw [hM'.1]
      refine Rn.run 1 (ls' := [_, _, _, _, _, _, _, _, _]) (st' := [_, _]) rfl ?_
      rw [wn]
      refine Rn.lrem rfl n64z ?_
      rw [x_rm64 x63 n63]
      refine Rn.run 1 (ls' := [_, _, _, _, _, _, _, _, _]) (st' := [_]) rfl ?_
      refine Rn.run 2 (ls' := [_, _, _, _, _, _, _, _, _]) (st' := [_]) rfl ?_
      refine Rn.call rfl rfl rfl rfl rfl (c179 (D := D + k) hP' hp.1 Dk) ?_
      refine Rn.run 2 (ls' := [_, _, _, _, _, _, _, _, _]) (st' := [_, _]) rfl ?_
      refine Rn.ge2 rfl (fun e120 => absurd e120 (by exact fun h => absurd (g4.mp h) (Nat.not_le.mpr hw4))) (fun e120 => ?_)
      refine Rn.run 1 (ls' := [_, _, _, _, _, _, _, _, _]) (st' := [_]) rfl ?_
      refine Rn.call rfl rfl rfl rfl rfl (r2) ?_
      refine Rn.run 3 (ls' := [_, _, _, _, _, _, _, _, _]) (st' := []) rfl ?_
      exact q
    · by_cases hw6 : lq sd (k + 1) / 8 % 8 < 6
      · by_cases hk : can kd n (lsq n kd bo wo sd (T, Mo, L) k).1 (lq sd (k + 1) % n) = true
        · have e1 : (lsq n kd bo wo sd (T, Mo, L)) (k + 1) = ((lsq n kd bo wo sd (T, Mo, L) k).1 ||| 2 ^ (lq sd (k + 1) % n), (lsq n kd bo wo sd (T, Mo, L) k).2.1, tl kd bo wo (lq sd (k + 1) % n) (lsq n kd bo wo sd (T, Mo, L) k).2.2) := est.trans ((if_neg hw4).trans ((if_pos hw6).trans (if_pos hk)))
          obtain ⟨c2, r2, s2, f2⟩ := c182 (ex := ex) (d := d + 4) (b := b) hPm s0 hi
          obtain ⟨e, q, f⟩ := ih (k + 1) c2 (xI ((lq sd (k + 1) / 8 % 8 : Nat) : Int)) (xI ((lq sd (k + 1) / 64 % 8 : Nat) : Int)) (xI ((lq sd (k + 1) % n : Nat) : Int)) (by omega) (MP_s hp (by rw [e1]; exact mDeed_tr m0 s2 f2))
          refine ⟨e, ?_, f⟩
          refine Rn.run 2 (ls' := [_, _, _, _, _, _, _, _, _]) (st' := [_, _]) rfl ?_
          refine Rn.ge2 rfl (fun e64 => absurd e64 (by exact k31)) (fun e64 => ?_)
          refine Rn.run 4 (ls' := [_, _, _, _, _, _, _, _, _]) (st' := [_, _]) rfl ?_
          refine Rn.lrem rfl (by decide) ?_
          rw [ex1]
          refine Rn.run 6 (ls' := [_, _, _, _, _, _, _, _, _]) (st' := [_]) rfl ?_
          rw [x_wayL x31]
          refine Rn.run 1 (ls' := [_, _, _, _, _, _, _, _, _]) (st' := [_]) rfl ?_
          refine Rn.run 6 (ls' := [_, _, _, _, _, _, _, _, _]) (st' := [_]) rfl ?_
          rw [x_bghL x31]
          refine Rn.run 1 (ls' := [_, _, _, _, _, _, _, _, _]) (st' := [_]) rfl ?_
          refine Rn.run 5 (ls' := [_, _, _, _, _, _, _, _, _]) (st' := [_, _, _]) rfl ?_
          refine Rn.ald rfl ⟨by decide, rfl⟩ (0) rfl (by decide) ?_
          rw [hM'.1]
          refine Rn.run 1 (ls' := [_, _, _, _, _, _, _, _, _]) (st' := [_, _]) rfl ?_
          rw [wn]
          refine Rn.lrem rfl n64z ?_
          rw [x_rm64 x63 n63]
          refine Rn.run 1 (ls' := [_, _, _, _, _, _, _, _, _]) (st' := [_]) rfl ?_
          refine Rn.run 2 (ls' := [_, _, _, _, _, _, _, _, _]) (st' := [_]) rfl ?_
          refine Rn.call rfl rfl rfl rfl rfl (c179 (D := D + k) hP' hp.1 Dk) ?_
          refine Rn.run 2 (ls' := [_, _, _, _, _, _, _, _, _]) (st' := [_, _]) rfl ?_
          refine Rn.ge2 rfl (fun e120 => ?_) (fun e120 => absurd e120 (by exact fun h => h (g4.mpr (Nat.not_lt.mp hw4))))
          refine Rn.run 2 (ls' := [_, _, _, _, _, _, _, _, _]) (st' := [_, _]) rfl ?_
          refine Rn.ge2 rfl (fun e134 => absurd e134 (by exact fun h => absurd (g6.mp h) (Nat.not_le.mpr hw6))) (fun e134 => ?_)
          refine Rn.run 5 (ls' := [_, _, _, _, _, _, _, _, _]) (st' := [_, _, _, _]) rfl ?_
          refine Rn.ald rfl ⟨by decide, rfl⟩ (2) rfl (by decide) ?_
          rw [s0.2.2.1]
          refine Rn.call rfl rfl rfl rfl rfl (c165 ho hMm hi hP'.2.2.1) ?_
          refine Rn.eqB rfl (fun e149 => absurd e149 (by exact fun h => h hk)) (fun e149 => ?_)
          refine Rn.run 2 (ls' := [_, _, _, _, _, _, _, _, _]) (st' := [_, _]) rfl ?_
          refine Rn.call rfl rfl rfl rfl rfl (r2) ?_
          refine Rn.run 3 (ls' := [_, _, _, _, _, _, _, _, _]) (st' := []) rfl ?_
          exact q
        · have e1 : (lsq n kd bo wo sd (T, Mo, L)) (k + 1) = (lsq n kd bo wo sd (T, Mo, L)) k := est.trans ((if_neg hw4).trans ((if_pos hw6).trans (if_neg hk)))
          obtain ⟨e, q, f⟩ := ih (k + 1) _ (xI ((lq sd (k + 1) / 8 % 8 : Nat) : Int)) (xI ((lq sd (k + 1) / 64 % 8 : Nat) : Int)) (xI ((lq sd (k + 1) % n : Nat) : Int)) (by omega) (MP_s hp (by rw [e1]; exact m0))
          refine ⟨e, ?_, f⟩
          refine Rn.run 2 (ls' := [_, _, _, _, _, _, _, _, _]) (st' := [_, _]) rfl ?_
          refine Rn.ge2 rfl (fun e64 => absurd e64 (by exact k31)) (fun e64 => ?_)
          refine Rn.run 4 (ls' := [_, _, _, _, _, _, _, _, _]) (st' := [_, _]) rfl ?_
          refine Rn.lrem rfl (by decide) ?_
          rw [ex1]
          refine Rn.run 6 (ls' := [_, _, _, _, _, _, _, _, _]) (st' := [_]) rfl ?_
          rw [x_wayL x31]
          refine Rn.run 1 (ls' := [_, _, _, _, _, _, _, _, _]) (st' := [_]) rfl ?_
          refine Rn.run 6 (ls' := [_, _, _, _, _, _, _, _, _]) (st' := [_]) rfl ?_
          rw [x_bghL x31]
          refine Rn.run 1 (ls' := [_, _, _, _, _, _, _, _, _]) (st' := [_]) rfl ?_
          refine Rn.run 5 (ls' := [_, _, _, _, _, _, _, _, _]) (st' := [_, _, _]) rfl ?_
          refine Rn.ald rfl ⟨by decide, rfl⟩ (0) rfl (by decide) ?_
          rw [hM'.1]
          refine Rn.run 1 (ls' := [_, _, _, _, _, _, _, _, _]) (st' := [_, _]) rfl ?_
          rw [wn]
          refine Rn.lrem rfl n64z ?_
          rw [x_rm64 x63 n63]
          refine Rn.run 1 (ls' := [_, _, _, _, _, _, _, _, _]) (st' := [_]) rfl ?_
          refine Rn.run 2 (ls' := [_, _, _, _, _, _, _, _, _]) (st' := [_]) rfl ?_
          refine Rn.call rfl rfl rfl rfl rfl (c179 (D := D + k) hP' hp.1 Dk) ?_
          refine Rn.run 2 (ls' := [_, _, _, _, _, _, _, _, _]) (st' := [_, _]) rfl ?_
          refine Rn.ge2 rfl (fun e120 => ?_) (fun e120 => absurd e120 (by exact fun h => h (g4.mpr (Nat.not_lt.mp hw4))))
          refine Rn.run 2 (ls' := [_, _, _, _, _, _, _, _, _]) (st' := [_, _]) rfl ?_
          refine Rn.ge2 rfl (fun e134 => absurd e134 (by exact fun h => absurd (g6.mp h) (Nat.not_le.mpr hw6))) (fun e134 => ?_)
          refine Rn.run 5 (ls' := [_, _, _, _, _, _, _, _, _]) (st' := [_, _, _, _]) rfl ?_
          refine Rn.ald rfl ⟨by decide, rfl⟩ (2) rfl (by decide) ?_
          rw [s0.2.2.1]
          refine Rn.call rfl rfl rfl rfl rfl (c165 ho hMm hi hP'.2.2.1) ?_
          refine Rn.eqB rfl (fun e149 => ?_) (fun e149 => absurd e149 (by exact hk))
          refine Rn.run 2 (ls' := [_, _, _, _, _, _, _, _, _]) (st' := []) rfl ?_
          exact q
      · by_cases hw7 : lq sd (k + 1) / 8 % 8 = 6
        · have e1 : (lsq n kd bo wo sd (T, Mo, L)) (k + 1) = ((lsq n kd bo wo sd (T, Mo, L) k).1, (lsq n kd bo wo sd (T, Mo, L) k).2.1, lset (lsq n kd bo wo sd (T, Mo, L) k).2.2 (lq sd (k + 1) / 64 % 8) (wtr ((lsq n kd bo wo sd (T, Mo, L) k).2.2 (lq sd (k + 1) / 64 % 8)) 2)) := est.trans ((if_neg hw4).trans ((if_neg hw6).trans (if_pos hw7)))
          obtain ⟨e, q, f⟩ := ih (k + 1) _ (xI ((lq sd (k + 1) / 8 % 8 : Nat) : Int)) (xI ((lq sd (k + 1) / 64 % 8 : Nat) : Int)) (xI ((lq sd (k + 1) % n : Nat) : Int)) (by omega) (MP_s hp (by rw [e1]; exact mDeed_tr m0 (mS_lset hn hb8 s0) (fun a z h1 h2 => xup_n _ _ (by omega))))
          refine ⟨e, ?_, f⟩
          refine Rn.run 2 (ls' := [_, _, _, _, _, _, _, _, _]) (st' := [_, _]) rfl ?_
          refine Rn.ge2 rfl (fun e64 => absurd e64 (by exact k31)) (fun e64 => ?_)
          refine Rn.run 4 (ls' := [_, _, _, _, _, _, _, _, _]) (st' := [_, _]) rfl ?_
          refine Rn.lrem rfl (by decide) ?_
          rw [ex1]
          refine Rn.run 6 (ls' := [_, _, _, _, _, _, _, _, _]) (st' := [_]) rfl ?_
          rw [x_wayL x31]
          refine Rn.run 1 (ls' := [_, _, _, _, _, _, _, _, _]) (st' := [_]) rfl ?_
          refine Rn.run 6 (ls' := [_, _, _, _, _, _, _, _, _]) (st' := [_]) rfl ?_
          rw [x_bghL x31]
          refine Rn.run 1 (ls' := [_, _, _, _, _, _, _, _, _]) (st' := [_]) rfl ?_
          refine Rn.run 5 (ls' := [_, _, _, _, _, _, _, _, _]) (st' := [_, _, _]) rfl ?_
          refine Rn.ald rfl ⟨by decide, rfl⟩ (0) rfl (by decide) ?_
          rw [hM'.1]
          refine Rn.run 1 (ls' := [_, _, _, _, _, _, _, _, _]) (st' := [_, _]) rfl ?_
          rw [wn]
          refine Rn.lrem rfl n64z ?_
          rw [x_rm64 x63 n63]
          refine Rn.run 1 (ls' := [_, _, _, _, _, _, _, _, _]) (st' := [_]) rfl ?_
          refine Rn.run 2 (ls' := [_, _, _, _, _, _, _, _, _]) (st' := [_]) rfl ?_
          refine Rn.call rfl rfl rfl rfl rfl (c179 (D := D + k) hP' hp.1 Dk) ?_
          refine Rn.run 2 (ls' := [_, _, _, _, _, _, _, _, _]) (st' := [_, _]) rfl ?_
          refine Rn.ge2 rfl (fun e120 => ?_) (fun e120 => absurd e120 (by exact fun h => h (g4.mpr (Nat.not_lt.mp hw4))))
          refine Rn.run 2 (ls' := [_, _, _, _, _, _, _, _, _]) (st' := [_, _]) rfl ?_
          refine Rn.ge2 rfl (fun e134 => ?_) (fun e134 => absurd e134 (by exact fun h => h (g6.mpr (Nat.not_lt.mp hw6))))
          refine Rn.run 2 (ls' := [_, _, _, _, _, _, _, _, _]) (st' := [_, _]) rfl ?_
          refine Rn.ne2 rfl (fun e165 => absurd e165 (by exact fun h => h (g7.mpr hw7))) (fun e165 => ?_)
          refine Rn.run 3 (ls' := [_, _, _, _, _, _, _, _, _]) (st' := [_, _, _]) rfl ?_
          refine Rn.call rfl rfl rfl rfl rfl (c184 hPm s0 hb8 (by decide)) ?_
          refine Rn.run 3 (ls' := [_, _, _, _, _, _, _, _, _]) (st' := []) rfl ?_
          exact q
        · have e1 : (lsq n kd bo wo sd (T, Mo, L)) (k + 1) = ((lsq n kd bo wo sd (T, Mo, L) k).1, (lsq n kd bo wo sd (T, Mo, L) k).2.1, lset (lsq n kd bo wo sd (T, Mo, L) k).2.2 (lq sd (k + 1) / 64 % 8) 0) := est.trans ((if_neg hw4).trans ((if_neg hw6).trans (if_neg hw7)))
          obtain ⟨e, q, f⟩ := ih (k + 1) _ (xI ((lq sd (k + 1) / 8 % 8 : Nat) : Int)) (xI ((lq sd (k + 1) / 64 % 8 : Nat) : Int)) (xI ((lq sd (k + 1) % n : Nat) : Int)) (by omega) (MP_s hp (by rw [e1]; exact mDeed_tr m0 (mS_lset (v := 0) hn hb8 s0) (fun a z h1 h2 => xup_n _ _ (by omega))))
          refine ⟨e, ?_, f⟩
          refine Rn.run 2 (ls' := [_, _, _, _, _, _, _, _, _]) (st' := [_, _]) rfl ?_
          refine Rn.ge2 rfl (fun e64 => absurd e64 (by exact k31)) (fun e64 => ?_)
          refine Rn.run 4 (ls' := [_, _, _, _, _, _, _, _, _]) (st' := [_, _]) rfl ?_
          refine Rn.lrem rfl (by decide) ?_
          rw [ex1]
          refine Rn.run 6 (ls' := [_, _, _, _, _, _, _, _, _]) (st' := [_]) rfl ?_
          rw [x_wayL x31]
          refine Rn.run 1 (ls' := [_, _, _, _, _, _, _, _, _]) (st' := [_]) rfl ?_
          refine Rn.run 6 (ls' := [_, _, _, _, _, _, _, _, _]) (st' := [_]) rfl ?_
          rw [x_bghL x31]
          refine Rn.run 1 (ls' := [_, _, _, _, _, _, _, _, _]) (st' := [_]) rfl ?_
          refine Rn.run 5 (ls' := [_, _, _, _, _, _, _, _, _]) (st' := [_, _, _]) rfl ?_
          refine Rn.ald rfl ⟨by decide, rfl⟩ (0) rfl (by decide) ?_
          rw [hM'.1]
          refine Rn.run 1 (ls' := [_, _, _, _, _, _, _, _, _]) (st' := [_, _]) rfl ?_
          rw [wn]
          refine Rn.lrem rfl n64z ?_
          rw [x_rm64 x63 n63]
          refine Rn.run 1 (ls' := [_, _, _, _, _, _, _, _, _]) (st' := [_]) rfl ?_
          refine Rn.run 2 (ls' := [_, _, _, _, _, _, _, _, _]) (st' := [_]) rfl ?_
          refine Rn.call rfl rfl rfl rfl rfl (c179 (D := D + k) hP' hp.1 Dk) ?_
          refine Rn.run 2 (ls' := [_, _, _, _, _, _, _, _, _]) (st' := [_, _]) rfl ?_
          refine Rn.ge2 rfl (fun e120 => ?_) (fun e120 => absurd e120 (by exact fun h => h (g4.mpr (Nat.not_lt.mp hw4))))
          refine Rn.run 2 (ls' := [_, _, _, _, _, _, _, _, _]) (st' := [_, _]) rfl ?_
          refine Rn.ge2 rfl (fun e134 => ?_) (fun e134 => absurd e134 (by exact fun h => h (g6.mpr (Nat.not_lt.mp hw6))))
          refine Rn.run 2 (ls' := [_, _, _, _, _, _, _, _, _]) (st' := [_, _]) rfl ?_
          refine Rn.ne2 rfl (fun e165 => ?_) (fun e165 => absurd e165 (by exact fun h => h (fun z => hw7 (g7.mp z))))
          refine Rn.run 6 (ls' := [_, _, _, _, _, _, _, _, _]) (st' := [_, _, _]) rfl ?_
          refine Rn.ast rfl ⟨by decide, rfl⟩ (3 + lq sd (k + 1) / 64 % 8) (x_wn hb31) hb17 ?_
          refine Rn.run 2 (ls' := [_, _, _, _, _, _, _, _, _]) (st' := []) rfl ?_
          exact q
