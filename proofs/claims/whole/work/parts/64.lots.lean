-- lots
theorem x_way {x : Nat} (h : x < 2147483648) : Int.tmod (w32 (Int.tdiv (w32 (x : Int)) (w32 8))) (w32 8) = ((x / 8 % 8 : Nat) : Int) := by
  rw [x_wn h, show w32 8 = 8 from rfl, Int.tdiv_eq_ediv_of_nonneg (by omega), show (x : Int) / 8 = ((x / 8 : Nat) : Int) from rfl, x_wn (by omega), Int.tmod_eq_emod_of_nonneg (by omega)]
  rfl
theorem x_bgh {x : Nat} (h : x < 2147483648) : Int.tmod (w32 (Int.tdiv (w32 (x : Int)) (w32 64))) (w32 8) = ((x / 64 % 8 : Nat) : Int) := by
  rw [x_wn h, show w32 64 = 64 from rfl, show w32 8 = 8 from rfl, Int.tdiv_eq_ediv_of_nonneg (by omega), show (x : Int) / 64 = ((x / 64 : Nat) : Int) from rfl, x_wn (by omega), Int.tmod_eq_emod_of_nonneg (by omega)]
  rfl
theorem x_ith {x n : Nat} (h : x < 2147483648) (hn : n < 2147483648) : Int.tmod (w32 (x : Int)) (w32 (n : Int)) = ((x % n : Nat) : Int) := by
  rw [x_wn h, x_wn hn, Int.tmod_eq_emod_of_nonneg (by omega)]
  rfl
def lst (n : Nat) (kd bo wo : Nat → Nat) (x : Nat) (s : Nat × Nat × (Nat → Nat)) : Nat × Nat × (Nat → Nat) := if x / 8 % 8 < 4 then (s.1, s.2.1 + 1, mo kd bo n s.1 1 s.2.2) else if x / 8 % 8 < 6 then (if can kd n s.1 (x % n) = true then (s.1 ||| 2 ^ (x % n), s.2.1, tl kd bo wo (x % n) s.2.2) else s) else if x / 8 % 8 = 6 then (s.1, s.2.1, lset s.2.2 (x / 64 % 8) (wtr (s.2.2 (x / 64 % 8)) 2)) else (s.1, s.2.1, lset s.2.2 (x / 64 % 8) 0)
def lq (s : Nat) : Nat → Nat
  | 0 => s
  | k + 1 => lq s k * 48271 % 2147483647
def lsq (n : Nat) (kd bo wo : Nat → Nat) (s : Nat) (st : Nat × Nat × (Nat → Nat)) : Nat → Nat × Nat × (Nat → Nat)
  | 0 => st
  | k + 1 => lst n kd bo wo (lq s (k + 1)) (lsq n kd bo wo s st k)
theorem lq_lt {s : Nat} (h : s < 2147483647) : ∀ k, lq s k < 2147483647
  | 0 => h
  | k + 1 => Nat.mod_lt _ (by decide)
theorem lst_P {n : Nat} {kd bo wo : Nat → Nat} {D T Mo : Nat} {L : Nat → Nat} (x : Nat) (h0 : n ≠ 0) (hD : D < 40) (hP : pS n kd bo wo D T Mo L) : pS n kd bo wo (D + 1) (lst n kd bo wo x (T, Mo, L)).1 (lst n kd bo wo x (T, Mo, L)).2.1 (lst n kd bo wo x (T, Mo, L)).2.2 := by
  obtain ⟨ho, h40, hT, h9, hMo⟩ := hP
  have hi : x % n < n := Nat.mod_lt _ (by omega)
  have h3 := ho.2 _ hi
  unfold lst
  split
  · exact ⟨ho, by omega, hT, mo_9 h9, by show Mo + 1 ≤ D + 1; omega⟩
  · split
    · split
      · exact ⟨ho, by omega, orlt hT hi, tl_9 h3.2.2 h3.2.1 h9, by show Mo ≤ D + 1; omega⟩
      · exact ⟨ho, by omega, hT, h9, by show Mo ≤ D + 1; omega⟩
    · split
      · exact ⟨ho, by omega, hT, lset_9 h9 (wtr_9 _ _), by show Mo ≤ D + 1; omega⟩
      · exact ⟨ho, by omega, hT, lset_9 h9 (by omega), by show Mo ≤ D + 1; omega⟩
theorem lsq_P {n : Nat} {kd bo wo : Nat → Nat} {D T Mo : Nat} {L : Nat → Nat} (s : Nat) (h0 : n ≠ 0) (hP : pS n kd bo wo D T Mo L) : ∀ k, D + k ≤ 40 → pS n kd bo wo (D + k) (lsq n kd bo wo s (T, Mo, L) k).1 (lsq n kd bo wo s (T, Mo, L) k).2.1 (lsq n kd bo wo s (T, Mo, L) k).2.2
  | 0, _ => hP
  | k + 1, h => lst_P (D := D + k) (lq s (k + 1)) h0 (by omega) (lsq_P s h0 hP k (by omega))
theorem c123 {ex : xO} {d : Nat} {c : Nat → Nat → Int} {b : Bool} {n D T Mo : Nat} {kd bo wo L : Nat → Nat} (hP : pS n kd bo wo D T Mo L) (hc : cS c b n kd bo wo D T Mo L) {x : Nat} (hx : x < 2147483647) (h0 : n ≠ 0) (hD : D < 40) : ∃ X, An ex (d + 8) 123 5 [xA 0, xI (x : Int)] (hp c b) (xU, hp (cadd c D X ((lst n kd bo wo x (T, Mo, L)).1 : Nat) ((lst n kd bo wo x (T, Mo, L)).2.1 : Nat)) b) ∧ pk X (lst n kd bo wo x (T, Mo, L)).2.2 := by
  obtain ⟨ho, h40, hT, h9, hMo⟩ := hP
  obtain ⟨hC, d7, t9, hL, m10⟩ := hc
  have hn := ho.1
  have hT6 := p64 hn hT
  have x31 : x < 2147483648 := by omega
  have n31 : n < 2147483648 := by omega
  have hi : x % n < n := Nat.mod_lt _ (by omega)
  have hb8 : x / 64 % 8 < 8 := Nat.mod_lt _ (by decide)
  have hw8 : x / 8 % 8 < 8 := Nat.mod_lt _ (by decide)
  have h3 := ho.2 _ hi
  have g4 : (w32 4 ≤ w32 ((x / 8 % 8 : Nat) : Int)) ↔ 4 ≤ x / 8 % 8 := y_ge (n := 4) (by omega) (by omega)
  have g6 : (w32 6 ≤ w32 ((x / 8 % 8 : Nat) : Int)) ↔ 6 ≤ x / 8 % 8 := y_ge (n := 6) (by omega) (by omega)
  have g7 : (w32 ((x / 8 % 8 : Nat) : Int) = w32 6) ↔ x / 8 % 8 = 6 := y_eq (i := 6) (by omega) (by omega)
  by_cases hw4 : x / 8 % 8 < 4
  · refine ⟨xit (fbl kd bo n T 1 L) 8 0 0, ?_, ?_⟩
    · rw [show lst n kd bo wo x (T, Mo, L) = (T, Mo + 1, mo kd bo n T 1 L) from if_pos hw4]
      refine Rn.run 5 (ls' := [_, _, _, _, _]) (st' := [_]) rfl ?_
      rw [x_way x31]
      refine Rn.run 6 (ls' := [_, _, _, _, _]) (st' := [_]) rfl ?_
      rw [x_bgh x31]
      refine Rn.run 3 (ls' := [_, _, _, _, _]) (st' := [_, _]) rfl ?_
      refine Rn.ge2 rfl (fun e18 => absurd e18 (by exact fun h => absurd (g4.mp h) (Nat.not_le.mpr hw4))) (fun e18 => ?_)
      refine Rn.run 1 (ls' := [_, _, _, _, _]) (st' := [_]) rfl ?_
      refine Rn.call rfl rfl rfl rfl rfl (c118 ⟨ho, h40, hT, h9, hMo⟩ ⟨hC, d7, t9, hL, m10⟩ hD) ?_
      refine Rn.run 1 (ls' := [_, _, _, _, _]) (st' := []) rfl ?_
      exact Rn.ret rfl rfl rfl rfl rfl rfl
    · rw [show lst n kd bo wo x (T, Mo, L) = (T, Mo + 1, mo kd bo n T 1 L) from if_pos hw4]
      exact fbl_pk h9
  · by_cases hw6 : x / 8 % 8 < 6
    · by_cases hk : can kd n T (x % n) = true
      · have e : lst n kd bo wo x (T, Mo, L) = (T ||| 2 ^ (x % n), Mo, tl kd bo wo (x % n) L) := (if_neg hw4).trans ((if_pos hw6).trans (if_pos hk))
        refine ⟨xwith (c 8 D) (bo (x % n)) (ans (kd (x % n)) (wo (x % n)) (L (bo (x % n)))), ?_, ?_⟩
        · rw [e]
          refine Rn.run 5 (ls' := [_, _, _, _, _]) (st' := [_]) rfl ?_
          rw [x_way x31]
          refine Rn.run 6 (ls' := [_, _, _, _, _]) (st' := [_]) rfl ?_
          rw [x_bgh x31]
          refine Rn.run 3 (ls' := [_, _, _, _, _]) (st' := [_, _]) rfl ?_
          refine Rn.ge2 rfl (fun e18 => ?_) (fun e18 => absurd e18 (by exact fun h => h (g4.mpr (Nat.not_lt.mp hw4))))
          refine Rn.run 2 (ls' := [_, _, _, _, _]) (st' := [_, _]) rfl ?_
          refine Rn.ge2 rfl (fun e31 => absurd e31 (by exact fun h => absurd (g6.mp h) (Nat.not_le.mpr hw6))) (fun e31 => ?_)
          refine Rn.run 1 (ls' := [_, _, _, _, _]) (st' := [_]) rfl ?_
          refine Rn.getR rfl ⟨by decide, rfl, rfl⟩ (j := gid b) (rfl) ?_
          refine Rn.getI rfl (xS_g b) ?_
          rw [hC.1]
          refine Rn.ne0 rfl (fun e41 => ?_) (fun e41 => absurd e41 (by exact fun h => h (z_ne0 h0 hn)))
          refine Rn.run 2 (ls' := [_, _, _, _, _]) (st' := [_, _]) rfl ?_
          refine Rn.getR rfl ⟨by decide, rfl, rfl⟩ (j := gid b) (rfl) ?_
          refine Rn.getI rfl (xS_g b) ?_
          rw [hC.1]
          refine Rn.irem rfl (z_ne0 h0 hn) ?_
          rw [x_ith x31 n31]
          refine Rn.run 2 (ls' := [_, _, _, _, _]) (st' := [_]) rfl ?_
          refine Rn.getR rfl ⟨by decide, rfl, rfl⟩ (j := gid b) (rfl) ?_
          refine Rn.run 3 (ls' := [_, _, _, _, _]) (st' := [_, _, _]) rfl ?_
          refine Rn.call rfl rfl rfl rfl rfl (c11 d7 h40) ?_
          rw [t9]
          refine Rn.callV rfl (x_sv (xS_g b)) rfl rfl rfl (c21 ho hC hi hT6) ?_
          refine Rn.eqB rfl (fun e75 => absurd e75 (by exact fun h => h hk)) (fun e75 => ?_)
          refine Rn.run 2 (ls' := [_, _, _, _, _]) (st' := [_, _]) rfl ?_
          refine Rn.call rfl rfl rfl rfl rfl (c119 ⟨ho, h40, hT, h9, hMo⟩ ⟨hC, d7, t9, hL, m10⟩ hi hD) ?_
          refine Rn.run 2 (ls' := [_, _, _, _, _]) (st' := []) rfl ?_
          exact Rn.ret rfl rfl rfl rfl rfl rfl
        · rw [e]
          exact pk_tl hL h9 h3.2.2 h3.2.1
      · have e : lst n kd bo wo x (T, Mo, L) = (T, Mo, L) := (if_neg hw4).trans ((if_pos hw6).trans (if_neg hk))
        refine ⟨c 8 D, ?_, ?_⟩
        · rw [e]
          refine Rn.run 5 (ls' := [_, _, _, _, _]) (st' := [_]) rfl ?_
          rw [x_way x31]
          refine Rn.run 6 (ls' := [_, _, _, _, _]) (st' := [_]) rfl ?_
          rw [x_bgh x31]
          refine Rn.run 3 (ls' := [_, _, _, _, _]) (st' := [_, _]) rfl ?_
          refine Rn.ge2 rfl (fun e18 => ?_) (fun e18 => absurd e18 (by exact fun h => h (g4.mpr (Nat.not_lt.mp hw4))))
          refine Rn.run 2 (ls' := [_, _, _, _, _]) (st' := [_, _]) rfl ?_
          refine Rn.ge2 rfl (fun e31 => absurd e31 (by exact fun h => absurd (g6.mp h) (Nat.not_le.mpr hw6))) (fun e31 => ?_)
          refine Rn.run 1 (ls' := [_, _, _, _, _]) (st' := [_]) rfl ?_
          refine Rn.getR rfl ⟨by decide, rfl, rfl⟩ (j := gid b) (rfl) ?_
          refine Rn.getI rfl (xS_g b) ?_
          rw [hC.1]
          refine Rn.ne0 rfl (fun e41 => ?_) (fun e41 => absurd e41 (by exact fun h => h (z_ne0 h0 hn)))
          refine Rn.run 2 (ls' := [_, _, _, _, _]) (st' := [_, _]) rfl ?_
          refine Rn.getR rfl ⟨by decide, rfl, rfl⟩ (j := gid b) (rfl) ?_
          refine Rn.getI rfl (xS_g b) ?_
          rw [hC.1]
          refine Rn.irem rfl (z_ne0 h0 hn) ?_
          rw [x_ith x31 n31]
          refine Rn.run 2 (ls' := [_, _, _, _, _]) (st' := [_]) rfl ?_
          refine Rn.getR rfl ⟨by decide, rfl, rfl⟩ (j := gid b) (rfl) ?_
          refine Rn.run 3 (ls' := [_, _, _, _, _]) (st' := [_, _, _]) rfl ?_
          refine Rn.call rfl rfl rfl rfl rfl (c11 d7 h40) ?_
          rw [t9]
          refine Rn.callV rfl (x_sv (xS_g b)) rfl rfl rfl (c21 ho hC hi hT6) ?_
          refine Rn.eqB rfl (fun e75 => ?_) (fun e75 => absurd e75 (by exact hk))
          refine Rn.run 1 (ls' := [_, _, _, _, _]) (st' := [_]) rfl ?_
          refine Rn.call rfl rfl rfl rfl rfl (c122 ⟨ho, h40, hT, h9, hMo⟩ ⟨hC, d7, t9, hL, m10⟩ hD) ?_
          refine Rn.run 1 (ls' := [_, _, _, _, _]) (st' := []) rfl ?_
          exact Rn.ret rfl rfl rfl rfl rfl rfl
        · rw [e]
          exact hL
    · by_cases hw7 : x / 8 % 8 = 6
      · have e : lst n kd bo wo x (T, Mo, L) = (T, Mo, lset L (x / 64 % 8) (wtr (L (x / 64 % 8)) 2)) := (if_neg hw4).trans ((if_neg hw6).trans (if_pos hw7))
        refine ⟨xwith (c 8 D) ((x / 64 % 8 : Nat) : Int) (wtr (L (x / 64 % 8)) 2 : Nat), ?_, ?_⟩
        · rw [e]
          refine Rn.run 5 (ls' := [_, _, _, _, _]) (st' := [_]) rfl ?_
          rw [x_way x31]
          refine Rn.run 6 (ls' := [_, _, _, _, _]) (st' := [_]) rfl ?_
          rw [x_bgh x31]
          refine Rn.run 3 (ls' := [_, _, _, _, _]) (st' := [_, _]) rfl ?_
          refine Rn.ge2 rfl (fun e18 => ?_) (fun e18 => absurd e18 (by exact fun h => h (g4.mpr (Nat.not_lt.mp hw4))))
          refine Rn.run 2 (ls' := [_, _, _, _, _]) (st' := [_, _]) rfl ?_
          refine Rn.ge2 rfl (fun e31 => ?_) (fun e31 => absurd e31 (by exact fun h => h (g6.mpr (Nat.not_lt.mp hw6))))
          refine Rn.run 2 (ls' := [_, _, _, _, _]) (st' := [_, _]) rfl ?_
          refine Rn.ne2 rfl (fun e97 => absurd e97 (by exact fun h => h (g7.mpr hw7))) (fun e97 => ?_)
          refine Rn.run 3 (ls' := [_, _, _, _, _]) (st' := [_, _, _]) rfl ?_
          refine Rn.call rfl rfl rfl rfl rfl (c120 ⟨ho, h40, hT, h9, hMo⟩ ⟨hC, d7, t9, hL, m10⟩ hb8 (by decide) hD) ?_
          refine Rn.run 1 (ls' := [_, _, _, _, _]) (st' := []) rfl ?_
          exact Rn.ret rfl rfl rfl rfl rfl rfl
        · rw [e]
          exact pk_with hL hb8 (wtr_9 _ _)
      · have e : lst n kd bo wo x (T, Mo, L) = (T, Mo, lset L (x / 64 % 8) 0) := (if_neg hw4).trans ((if_neg hw6).trans (if_neg hw7))
        refine ⟨xwith (c 8 D) ((x / 64 % 8 : Nat) : Int) ((0 : Nat) : Int), ?_, ?_⟩
        · rw [e]
          refine Rn.run 5 (ls' := [_, _, _, _, _]) (st' := [_]) rfl ?_
          rw [x_way x31]
          refine Rn.run 6 (ls' := [_, _, _, _, _]) (st' := [_]) rfl ?_
          rw [x_bgh x31]
          refine Rn.run 3 (ls' := [_, _, _, _, _]) (st' := [_, _]) rfl ?_
          refine Rn.ge2 rfl (fun e18 => ?_) (fun e18 => absurd e18 (by exact fun h => h (g4.mpr (Nat.not_lt.mp hw4))))
          refine Rn.run 2 (ls' := [_, _, _, _, _]) (st' := [_, _]) rfl ?_
          refine Rn.ge2 rfl (fun e31 => ?_) (fun e31 => absurd e31 (by exact fun h => h (g6.mpr (Nat.not_lt.mp hw6))))
          refine Rn.run 2 (ls' := [_, _, _, _, _]) (st' := [_, _]) rfl ?_
          refine Rn.ne2 rfl (fun e97 => ?_) (fun e97 => absurd e97 (by exact fun h => h (fun z => hw7 (g7.mp z))))
          refine Rn.run 2 (ls' := [_, _, _, _, _]) (st' := [_, _]) rfl ?_
          refine Rn.call rfl rfl rfl rfl rfl (c121 ⟨ho, h40, hT, h9, hMo⟩ ⟨hC, d7, t9, hL, m10⟩ hb8 hD) ?_
          exact Rn.ret rfl rfl rfl rfl rfl rfl
        · rw [e]
          exact pk_with hL hb8 (by omega)
def CP (c c' : Nat → Nat → Int) (D : Nat) (tr : Nat → Nat × Nat × (Nat → Nat)) (k : Nat) : Prop := c' 7 0 = (D + k : Nat) ∧ (∀ i, i ≤ k → c' 9 (D + i) = ((tr i).1 : Nat) ∧ c' 10 (D + i) = ((tr i).2.1 : Nat) ∧ pk (c' 8 (D + i)) (tr i).2.2) ∧ ∀ a z, ¬ (a = 7 ∧ z = 0) → ¬ (8 ≤ a ∧ a ≤ 10 ∧ D < z) → c' a z = c a z
theorem CP_s {c c' : Nat → Nat → Int} {D : Nat} {tr : Nat → Nat × Nat × (Nat → Nat)} {k : Nat} {X : Int} (h : CP c c' D tr k) (hX : pk X (tr (k + 1)).2.2) : CP c (cadd c' (D + k) X ((tr (k + 1)).1 : Nat) ((tr (k + 1)).2.1 : Nat)) D tr (k + 1) := by
  obtain ⟨h1, h2, h3⟩ := h
  refine ⟨by rw [cadd_7]; rfl, fun i hi => ?_, fun a z g1 g2 => by rw [cadd_o _ _ _ _ _ (by omega)]; exact h3 a z g1 g2⟩
  by_cases e : i = k + 1
  · subst e
    exact ⟨cadd_9 c' (D + k) X _ _, cadd_10 c' (D + k) X _ _, by rw [show D + (k + 1) = D + k + 1 from rfl, cadd_8]; exact hX⟩
  · have := h2 i (by omega)
    rw [cadd_o _ _ _ _ _ (by omega), cadd_o _ _ _ _ _ (by omega), cadd_o _ _ _ _ _ (by omega)]
    exact this
theorem CP_S {c c' : Nat → Nat → Int} {b : Bool} {n D T Mo k : Nat} {kd bo wo L : Nat → Nat} {tr : Nat → Nat × Nat × (Nat → Nat)} (hc : cS c b n kd bo wo D T Mo L) (h : CP c c' D tr k) : cS c' b n kd bo wo (D + k) (tr k).1 (tr k).2.1 (tr k).2.2 := by
  have hg := gid_in b
  obtain ⟨h1, h2, h3⟩ := h
  obtain ⟨a1, a2, a3⟩ := h2 k (Nat.le_refl k)
  exact ⟨cG_fr (fun a z ha => h3 a z (by omega) (by omega)) hc.1, h1, a1, a3, a2⟩
theorem l92 {ex : xO} {d : Nat} {c : Nat → Nat → Int} {b : Bool} {n D T Mo : Nat} {kd bo wo L : Nat → Nat} (hP : pS n kd bo wo D T Mo L) (hc : cS c b n kd bo wo D T Mo L) {N sd : Nat} (hsd : sd < 2147483647) (h0 : n ≠ 0) (hN : D + N ≤ 40) : ∀ (m k : Nat) (c' : Nat → Nat → Int), k + m = N → CP c c' D (lsq n kd bo wo sd (T, Mo, L)) k → ∃ e, Rn ex xt92 (d + 10) 60 [xA 0, xI (N : Int), xI (sd : Int), xL ((lq sd k : Nat) : Int), xU, xI (k : Int)] [] (hp c' b) (xI ((s8 (lsq n kd bo wo sd (T, Mo, L) N).2.2 : Nat) : Int), hp e b) ∧ CP c e D (lsq n kd bo wo sd (T, Mo, L)) N := by
  intro m
  induction m with
  | zero =>
    intro k c' hm hp
    obtain rfl : k = N := by omega
    have hc' := CP_S hc hp
    obtain ⟨-, d7, -, hL, -⟩ := hc'
    have k31 : k < 2147483648 := by omega
    refine ⟨c', ?_, hp⟩
    refine Rn.run 2 (ls' := [_, _, _, _, _, _]) (st' := [_, _]) rfl ?_
    refine Rn.ge2 rfl (fun e63 => ?_) (fun e63 => absurd e63 (by exact fun h => h ((y_ge k31 k31).mpr (Nat.le_refl _))))
    refine Rn.run 2 (ls' := [_, _, _, _, _, _]) (st' := [_]) rfl ?_
    refine Rn.call rfl rfl rfl rfl rfl (c10 d7 hN) ?_
    refine Rn.call rfl rfl rfl rfl rfl (c2 hL) ?_
    exact Rn.ret rfl rfl rfl rfl rfl rfl
  | succ m ih =>
    intro k c' hm hp
    have hc' := CP_S hc hp
    have hP' := lsq_P sd h0 hP k (by omega)
    have x1 := lq_lt hsd (k + 1)
    have x0 := lq_lt hsd k
    obtain ⟨X, q1, hX⟩ := c123 (ex := ex) (d := d + 1) (b := b) hP' hc' x1 h0 (by omega)
    obtain ⟨e, q, f⟩ := ih (k + 1) _ (by omega) (CP_s hp hX)
    have k31 : ¬ w32 (N : Int) ≤ w32 (k : Int) := fun h => absurd ((y_ge (by omega) (by omega)).mp h) (by omega)
    have ex1 : Int.tmod (w64 ((lq sd k : Nat) * 48271 : Int)) (w64 2147483647) = ((lq sd (k + 1) : Nat) : Int) := x_rm64 (a := lq sd k * 48271) (b := 2147483647) (by omega) (by decide)
    refine ⟨e, ?_, f⟩
    refine Rn.run 2 (ls' := [_, _, _, _, _, _]) (st' := [_, _]) rfl ?_
    refine Rn.ge2 rfl (fun e63 => absurd e63 (by exact k31)) (fun e63 => ?_)
    refine Rn.run 4 (ls' := [_, _, _, _, _, _]) (st' := [_, _]) rfl ?_
    refine Rn.lrem rfl (by decide) ?_
    rw [ex1]
    refine Rn.run 4 (ls' := [_, _, _, _, _, _]) (st' := [_, _]) rfl ?_
    refine Rn.call rfl rfl rfl rfl rfl (q1) ?_
    refine Rn.run 2 (ls' := [_, _, _, _, _, _]) (st' := []) rfl ?_
    exact q
