-- leaves, bare
set_option maxRecDepth 100000 in
theorem c235b {ex : xO} {d : Nat} {h : xH} {s : Nat} (hs : s < 256) : An ex d 235 1 [xI (s : Int)] h (xI (pop s : Nat), h) := by
  refine Rn.run 41 rfl ?_
  refine Rn.ret rfl rfl rfl rfl ?_ rfl
  exact congrArg xI (bt8_cnt s hs)
theorem mo_0 {kd bo : Nat → Nat} {n s : Nat} {L : Nat → Nat} (h9 : l9 L) : ∀ j, j < 8 → mo kd bo n s 0 L j = L j := fun j hj => ltr_0 (h9 j hj)
theorem bset_256 (p : Nat → Bool) : bset p 8 < 256 := bset_lt p 8
theorem k78_b1 {ex : xO} {d : Nat} {c : Nat → Nat → Int} {b : Bool}  {a1 : Int} (h1 : w32 a1 = a1) (q1 : ¬ (0 ≤ a1 ∧ a1 < 41)) : An ex (d + 20) 78 3 [xA 0, xI a1] (hp c b) (xI (-1), hp (c) b) := by
  refine Rn.run 2 (ls' := [_, _, _]) (st' := [_, _]) rfl ?_
  refine Rn.call rfl rfl rfl rfl rfl (c100) ?_
  refine Rn.neB rfl (fun e6 => absurd e6 (by exact (z_no (m := 41) h1 (by omega) q1))) (fun e6 => ?_)
  refine Rn.run 1 (ls' := [_, _, _]) (st' := [_]) rfl ?_
  exact Rn.ret rfl rfl rfl rfl rfl rfl
theorem k78_st {ex : xO} {d : Nat} {c : Nat → Nat → Int} {b : Bool} {n D T Mo : Nat} {kd bo wo L : Nat → Nat} (hP : pS n kd bo wo D T Mo L) (hc : cS c b n kd bo wo D T Mo L) {m : Nat} (hm41 : m ≤ 40) (h0 : n = 0) : An ex (d + 20) 78 3 [xA 0, xI (m : Int)] (hp c b) (xI (-4), hp (c) b) := by
  obtain ⟨ho, h40, hT, h9, hMo⟩ := hP
  obtain ⟨hC, d7, t9, hL, m10⟩ := hc
  have hn := ho.1
  have hT6 := p64 hn hT
  refine Rn.run 2 (ls' := [_, _, _]) (st' := [_, _]) rfl ?_
  refine Rn.call rfl rfl rfl rfl rfl (c100) ?_
  refine Rn.neB rfl (fun e6 => ?_) (fun e6 => absurd e6 (by exact fun h => h (z_in (m := 41) (by omega) (by omega))))
  refine Rn.run 1 (ls' := [_, _, _]) (st' := [_]) rfl ?_
  refine Rn.getR rfl ⟨by decide, rfl, rfl⟩ (j := gid b) (rfl) ?_
  refine Rn.getI rfl (xS_g b) ?_
  rw [hC.1]
  refine Rn.ne0 rfl (fun e18 => absurd e18 (by rw [h0]; decide)) (fun e18 => ?_)
  refine Rn.run 1 (ls' := [_, _, _]) (st' := [_]) rfl ?_
  exact Rn.ret rfl rfl rfl rfl rfl rfl
theorem k78_ok {ex : xO} {d : Nat} {c : Nat → Nat → Int} {b : Bool} {n D T Mo : Nat} {kd bo wo L : Nat → Nat} (hP : pS n kd bo wo D T Mo L) (hc : cS c b n kd bo wo D T Mo L) {m : Nat} (hm41 : m ≤ 40) (h0 : n ≠ 0) : An ex (d + 20) 78 3 [xA 0, xI (m : Int)] (hp c b) (xI (s8 (mo kd bo n T m L) : Nat), hp (xup c 0 10 (cnt (fun i => decide (mo kd bo n T m L i = 0)) 8 : Nat)) b) := by
  obtain ⟨ho, h40, hT, h9, hMo⟩ := hP
  obtain ⟨hC, d7, t9, hL, m10⟩ := hc
  have hn := ho.1
  have hT6 := p64 hn hT
  refine Rn.run 2 (ls' := [_, _, _]) (st' := [_, _]) rfl ?_
  refine Rn.call rfl rfl rfl rfl rfl (c100) ?_
  refine Rn.neB rfl (fun e6 => ?_) (fun e6 => absurd e6 (by exact fun h => h (z_in (m := 41) (by omega) (by omega))))
  refine Rn.run 1 (ls' := [_, _, _]) (st' := [_]) rfl ?_
  refine Rn.getR rfl ⟨by decide, rfl, rfl⟩ (j := gid b) (rfl) ?_
  refine Rn.getI rfl (xS_g b) ?_
  rw [hC.1]
  refine Rn.ne0 rfl (fun e18 => ?_) (fun e18 => absurd e18 (by exact fun h => h (z_ne0 h0 hn)))
  refine Rn.run 1 (ls' := [_, _, _]) (st' := [_]) rfl ?_
  refine Rn.getR rfl ⟨by decide, rfl, rfl⟩ (j := gid b) (rfl) ?_
  refine Rn.run 2 (ls' := [_, _, _]) (st' := [_, _]) rfl ?_
  refine Rn.call rfl rfl rfl rfl rfl (c10 d7 h40) ?_
  refine Rn.run 2 (ls' := [_, _, _]) (st' := [_, _, _]) rfl ?_
  refine Rn.call rfl rfl rfl rfl rfl (c11 d7 h40) ?_
  rw [t9]
  refine Rn.run 1 (ls' := [_, _, _]) (st' := [_, _, _, _]) rfl ?_
  refine Rn.callV rfl (x_sv (xS_g b)) rfl rfl rfl (c26 (k := m) ho hC hT6 (by omega) hL h9) ?_
  refine Rn.run 3 (ls' := [_, _, _]) (st' := [_, _]) rfl ?_
  refine Rn.call rfl rfl rfl rfl rfl (c4 (fbl_pk h9) (mo_9 h9)) ?_
  refine Rn.call rfl rfl rfl rfl rfl (c235b (bset_256 _)) ?_
  rw [pop_bset _ (by omega)]
  refine Rn.call rfl rfl rfl rfl rfl (c102) ?_
  refine Rn.run 2 (ls' := [_, _, _]) (st' := [_]) rfl ?_
  refine Rn.call rfl rfl rfl rfl rfl (c2 (fbl_pk h9)) ?_
  exact Rn.ret rfl rfl rfl rfl rfl rfl
theorem k191_b1 {ex : xO} {d : Nat} {c : Nat → Nat → Int} {b : Bool}  {a1 : Int} (h1 : w32 a1 = a1) (q1 : ¬ (0 ≤ a1 ∧ a1 < 41)) : An ex (d + 20) 191 4 [xA 54, xI a1] (hp c b) (xI (-1), hp (c) b) := by
  refine Rn.run 4 (ls' := [_, _, _, _]) (st' := [_, _, _]) rfl ?_
  refine Rn.call rfl rfl rfl rfl rfl (c131) ?_
  refine Rn.neB rfl (fun e9 => absurd e9 (by exact (z_no9 (m := 40) h1 (by omega) q1))) (fun e9 => ?_)
  refine Rn.run 1 (ls' := [_, _, _, _]) (st' := [_]) rfl ?_
  exact Rn.ret rfl rfl rfl rfl rfl rfl
theorem k191_st {ex : xO} {d : Nat} {c : Nat → Nat → Int} {b : Bool} {n D T Mo : Nat} {kd bo wo L : Nat → Nat} (hP : pS n kd bo wo D T Mo L) (hm : mS c n kd bo wo D T Mo L) {m : Nat} (hm41 : m ≤ 40) (h0 : n = 0) : An ex (d + 20) 191 4 [xA 54, xI (m : Int)] (hp c b) (xI (-4), hp (c) b) := by
  obtain ⟨ho, h40, hT, h9, hMo⟩ := hP
  obtain ⟨hM, d29, t2, l55, m1⟩ := hm
  have hn := ho.1
  have hT6 := p64 hn hT
  refine Rn.run 4 (ls' := [_, _, _, _]) (st' := [_, _, _]) rfl ?_
  refine Rn.call rfl rfl rfl rfl rfl (c131) ?_
  refine Rn.neB rfl (fun e9 => ?_) (fun e9 => absurd e9 (by exact fun h => h (z_in9 (m := 40) (by omega) (by omega))))
  refine Rn.run 3 (ls' := [_, _, _, _]) (st' := [_, _]) rfl ?_
  refine Rn.ald rfl ⟨by decide, rfl⟩ (0) rfl (by decide) ?_
  rw [hM.1]
  refine Rn.ne0 rfl (fun e20 => absurd e20 (by rw [h0]; decide)) (fun e20 => ?_)
  refine Rn.run 1 (ls' := [_, _, _, _]) (st' := [_]) rfl ?_
  exact Rn.ret rfl rfl rfl rfl rfl rfl
theorem l191a {ex : xO} {d : Nat} {c : Nat → Nat → Int} {b : Bool} {n : Nat} {kd bo wo : Nat → Nat} (ho : gok n kd bo wo) (hM : mG c n kd bo wo) {T : Nat} {L : Nat → Nat} (t2 : c 55 2 = (T : Nat)) (hT6 : T < 64) (h9 : l9 L) {k : Nat} (hk40 : k ≤ 40) {u : xV} {o : xV × xH} : ∀ (m i : Nat), i + m = k → Rn ex xt191 (d + 5) 32 [xA 54, xI (k : Int), xI (k : Int), u] [] (hp (lf c (mo kd bo n T k L)) b) o → Rn ex xt191 (d + 5) 32 [xA 54, xI (k : Int), xI (i : Int), u] [] (hp (lf c (mo kd bo n T i L)) b) o := by
  intro m
  induction m with
  | zero =>
    intro i hm kk
    obtain rfl : i = k := by omega
    exact kk
  | succ m ih =>
    intro i hm kk
    refine Rn.run 2 (ls' := [_, _, _, _]) (st' := [_, _]) rfl ?_
    refine Rn.ge2 rfl (fun e34 => absurd e34 (by exact fun h => absurd ((y_ge (by omega) (by omega)).mp h) (by omega))) (fun e34 => ?_)
    refine Rn.run 4 (ls' := [_, _, _, _]) (st' := [_, _, _]) rfl ?_
    refine Rn.ald rfl ⟨by decide, rfl⟩ (2) rfl (by decide) ?_
    rw [lf_out _ _ (by decide), t2]
    refine Rn.call rfl rfl rfl rfl rfl (c169 ho (mG_lf hM) hT6 (mo_9 h9) (fun j hj => lf_in _ _ hj)) ?_
    refine Rn.run 2 (ls' := [_, _, _, _]) (st' := []) rfl ?_
    rw [lf_lf, mo_s]
    exact ih (i + 1) (by omega) kk
theorem l191b {ex : xO} {d : Nat} {c : Nat → Nat → Int} {b : Bool} {L : Nat → Nat} {k : Nat} (h9 : l9 L) (hl : ∀ j, j < 8 → c 63 j = (L j : Nat)) {o : xV × xH} : ∀ (m i : Nat) (s : Nat), i + m = 8 → Rn ex xt191 d 57 [xA 54, xI (k : Int), xI (((xit (fun i a => a + (if decide (L i = 0) = true then 1 else 0)) m i s) : Nat) : Int), xI ((8 : Nat) : Int)] [] (hp c b) o → Rn ex xt191 d 57 [xA 54, xI (k : Int), xI ((s : Nat) : Int), xI ((i : Nat) : Int)] [] (hp c b) o := by
  intro m
  induction m with
  | zero =>
    intro i s hm kk
    obtain rfl : i = 8 := by omega
    exact kk
  | succ m ih =>
    intro i s hm kk
    refine Rn.run 2 (ls' := [_, _, _, _]) (st' := [_, _]) rfl ?_
    refine Rn.ge2 rfl (fun e60 => absurd e60 (by exact fun h => absurd ((y_ge (n := 8) (by omega) (by omega)).mp h) (by omega))) (fun e60 => ?_)
    refine Rn.run 4 (ls' := [_, _, _, _]) (st' := [_, _, _]) rfl ?_
    refine Rn.ald rfl ⟨by decide, rfl⟩ (i) (x_wn (n := i) (by omega)) (by omega) ?_
    rw [hl i (by omega)]
    have h9i := h9 i (by omega)
    refine Rn.ne0 rfl (fun e70 => ?_) (fun e70 => ?_)
    · refine Rn.run 5 (ls' := [_, _, _, _]) (st' := []) rfl ?_
      refine Rn.ls ?_ (ih (i + 1) (s + (if decide (L i = 0) = true then 1 else 0)) (by omega) kk)
      first | (rw [show (if decide (L i = 0) = true then 1 else 0) = 1 from if_pos (decide_eq_true ((y_eq0 (by omega)).mp (Classical.not_not.mp e70)))]; first | done | rfl) | (rw [show (if decide (L i = 0) = true then 1 else 0) = 0 from if_neg (fun q => e70 ((y_eq0 (by omega)).mpr (of_decide_eq_true q)))]; first | done | rfl)
    · refine Rn.run 6 (ls' := [_, _, _, _]) (st' := []) rfl ?_
      refine Rn.ls ?_ (ih (i + 1) (s + (if decide (L i = 0) = true then 1 else 0)) (by omega) kk)
      first | (rw [show (if decide (L i = 0) = true then 1 else 0) = 1 from if_pos (decide_eq_true ((y_eq0 (by omega)).mp (Classical.not_not.mp e70)))]; first | done | rfl) | (rw [show (if decide (L i = 0) = true then 1 else 0) = 0 from if_neg (fun q => e70 ((y_eq0 (by omega)).mpr (of_decide_eq_true q)))]; first | done | rfl)
theorem k191_ok {ex : xO} {d : Nat} {c : Nat → Nat → Int} {b : Bool} {n D T Mo : Nat} {kd bo wo L : Nat → Nat} (hP : pS n kd bo wo D T Mo L) (hm : mS c n kd bo wo D T Mo L) {m : Nat} (hm41 : m ≤ 40) (h0 : n ≠ 0) : An ex (d + 20) 191 4 [xA 54, xI (m : Int)] (hp c b) (xI (s8 (mo kd bo n T m L) : Nat), hp (xup (lf c (mo kd bo n T m L)) 54 7 (cnt (fun i => decide (mo kd bo n T m L i = 0)) 8 : Nat)) b) := by
  obtain ⟨ho, h40, hT, h9, hMo⟩ := hP
  obtain ⟨hM, d29, t2, l55, m1⟩ := hm
  have hn := ho.1
  have hT6 := p64 hn hT
  have m31 : m < 2147483648 := by omega
  refine Rn.run 4 (ls' := [_, _, _, _]) (st' := [_, _, _]) rfl ?_
  refine Rn.call rfl rfl rfl rfl rfl (c131) ?_
  refine Rn.neB rfl (fun e9 => ?_) (fun e9 => absurd e9 (by exact fun h => h (z_in9 (m := 40) (by omega) (by omega))))
  refine Rn.run 3 (ls' := [_, _, _, _]) (st' := [_, _]) rfl ?_
  refine Rn.ald rfl ⟨by decide, rfl⟩ (0) rfl (by decide) ?_
  rw [hM.1]
  refine Rn.ne0 rfl (fun e20 => ?_) (fun e20 => absurd e20 (by exact fun h => h (z_ne0 h0 hn)))
  refine Rn.run 1 (ls' := [_, _, _, _]) (st' := [_]) rfl ?_
  refine Rn.call rfl rfl rfl rfl rfl (c168 l55) ?_
  refine Rn.run 2 (ls' := [_, _, _, _]) (st' := []) rfl ?_
  rw [lf_congr (fun j hj => (mo_0 (kd := kd) (bo := bo) (n := n) (s := T) h9 j hj).symm)]
  refine l191a ho hM t2 hT6 h9 hm41 m 0 (Nat.zero_add m) ?_
  refine Rn.run 2 (ls' := [_, _, _, _]) (st' := [_, _]) rfl ?_
  refine Rn.ge2 rfl (fun e34 => ?_) (fun e34 => absurd e34 (by exact fun h => h ((y_ge m31 m31).mpr (Nat.le_refl _))))
  refine Rn.run 4 (ls' := [_, _, _, _]) (st' := []) rfl ?_
  refine l191b (mo_9 h9) (fun j hj => lf_in _ _ hj) 8 0 0 rfl ?_
  refine Rn.run 2 (ls' := [_, _, _, _]) (st' := [_, _]) rfl ?_
  refine Rn.ge2 rfl (fun e60 => ?_) (fun e60 => absurd e60 (by decide))
  refine Rn.run 4 (ls' := [_, _, _, _]) (st' := [_]) rfl ?_
  refine Rn.call rfl rfl rfl rfl rfl (c170 (fun j hj => by rw [xup_n _ _ (by omega)]; exact lf_in _ _ hj)) ?_
  exact Rn.ret rfl rfl rfl rfl rfl rfl
theorem g_leaves {ex : xO} (a1 : Int) (h1 : w32 a1 = a1) : AgI ex 78 3 191 4 [xI a1] := by
  intro d c b hI
  obtain ⟨n, kd, bo, wo, D, T, Mo, L, hP, hc, hm⟩ := Inv_St hI
  by_cases q1 : 0 ≤ a1 ∧ a1 < 41
  · obtain ⟨m, hm41, rfl⟩ : ∃ j : Nat, j ≤ 40 ∧ a1 = (j : Int) := ⟨a1.toNat, by omega, by omega⟩
    by_cases h0 : n = 0
    · exact Ag_same hI (-4) (k78_st hP hc hm41 h0) (k191_st hP hm hm41 h0)
    · refine Ag_ask hI _ (cnt (fun i => decide (mo kd bo n T m L i = 0)) 8 : Nat) (k78_ok hP hc hm41 h0) (k191_ok hP (mS_fr (fun k => xup_n _ _ (Or.inl (by decide))) hm) hm41 h0) (fun a k h => ?_)
      by_cases e : a = 54 ∧ k = 7
      · obtain ⟨rfl, rfl⟩ := e
        rw [xup_s, xup_s]
      · rw [xup_n _ _ (by omega), xup_n _ _ (by omega), lf_out _ _ (fun z => h (by unfold scr; omega))]
  · exact Ag_same hI (-1) (k78_b1 h1 q1) (k191_b1 h1 q1)
def fst0 (p : Nat → Bool) : Nat → Nat → Int
  | 0, _ => -9
  | m + 1, i => if p i = true then (i : Int) else fst0 p m (i + 1)
theorem l79 {ex : xO} {d : Nat} {c : Nat → Nat → Int} {b : Bool} {v q j : Nat} (hv : v ≤ 9) (hq : q ≤ 100) : ∀ (m i : Nat), i + m = 41 → Rn ex xt79 (d + 5) 55 [xA 0, xI (j : Int), xI (v : Int), xI (q : Int), xI (i : Int)] [] (hp c b) (xI (fst0 (fun i => decide (ltr q v i = 0)) m i), hp c b) := by
  intro m
  induction m with
  | zero =>
    intro i hm
    obtain rfl : i = 41 := by omega
    refine Rn.run 2 (ls' := [_, _, _, _, _]) (st' := [_, _]) rfl ?_
    refine Rn.gt2 rfl (fun e59 => ?_) (fun e59 => absurd e59 (by decide))
    refine Rn.run 1 (ls' := [_, _, _, _, _]) (st' := [_]) rfl ?_
    exact Rn.ret rfl rfl rfl rfl rfl rfl
  | succ m ih =>
    intro i hm
    have h9 := ltr_9 (h := q) (v := v) (m := i) hv
    by_cases hz : ltr q v i = 0
    · rw [show fst0 (fun i => decide (ltr q v i = 0)) (m + 1) i = (i : Int) from if_pos (decide_eq_true hz)]
      refine Rn.run 2 (ls' := [_, _, _, _, _]) (st' := [_, _]) rfl ?_
      refine Rn.gt2 rfl (fun e59 => absurd e59 (by exact fun h => absurd ((y_lt (n := 40) (by omega) (by omega)).mp h) (by omega))) (fun e59 => ?_)
      refine Rn.run 3 (ls' := [_, _, _, _, _]) (st' := [_, _, _]) rfl ?_
      refine Rn.call rfl rfl rfl rfl rfl (c5 hq hv (by omega)) ?_
      refine Rn.ne0 rfl (fun e69 => absurd e69 (by rw [hz]; decide)) (fun e69 => ?_)
      refine Rn.run 1 (ls' := [_, _, _, _, _]) (st' := [_]) rfl ?_
      exact Rn.ret rfl rfl rfl rfl rfl rfl
    · rw [show fst0 (fun i => decide (ltr q v i = 0)) (m + 1) i = fst0 (fun i => decide (ltr q v i = 0)) m (i + 1) from if_neg (fun z => hz (of_decide_eq_true z))]
      refine Rn.run 2 (ls' := [_, _, _, _, _]) (st' := [_, _]) rfl ?_
      refine Rn.gt2 rfl (fun e59 => absurd e59 (by exact fun h => absurd ((y_lt (n := 40) (by omega) (by omega)).mp h) (by omega))) (fun e59 => ?_)
      refine Rn.run 3 (ls' := [_, _, _, _, _]) (st' := [_, _, _]) rfl ?_
      refine Rn.call rfl rfl rfl rfl rfl (c5 hq hv (by omega)) ?_
      refine Rn.ne0 rfl (fun e69 => ?_) (fun e69 => absurd e69 (by exact fun h => h (fun z => hz ((y_eq0 (by omega)).mp z))))
      refine Rn.run 2 (ls' := [_, _, _, _, _]) (st' := []) rfl ?_
      exact ih (i + 1) (by omega)
theorem l192 {ex : xO} {d : Nat} {c : Nat → Nat → Int} {b : Bool} {n : Nat} {kd bo wo : Nat → Nat} (ho : gok n kd bo wo) (hM : mG c n kd bo wo) {T j : Nat} {L : Nat → Nat} (hj : j < 8) (t2 : c 55 2 = (T : Nat)) (hT6 : T < 64) (h9 : l9 L) : ∀ (m i : Nat), i + m = 41 → ∃ c', Rn ex xt192 (d + 5) 27 [xA 54, xI (j : Int), xI (i : Int)] [] (hp (lf c (mo kd bo n T i L)) b) (xI (fst0 (fun i => decide (ltr (hnt kd bo n T j) (L j) i = 0)) m i), hp c' b) ∧ ∀ a k, a ≠ 63 → c' a k = c a k := by
  intro m
  induction m with
  | zero =>
    intro i hm
    obtain rfl : i = 41 := by omega
    refine ⟨lf c (mo kd bo n T 41 L), ?_, fun a k h => lf_out _ _ h⟩
    refine Rn.run 2 (ls' := [_, _, _]) (st' := [_, _]) rfl ?_
    refine Rn.gt2 rfl (fun e30 => ?_) (fun e30 => absurd e30 (by decide))
    refine Rn.run 1 (ls' := [_, _, _]) (st' := [_]) rfl ?_
    exact Rn.ret rfl rfl rfl rfl rfl rfl
  | succ m ih =>
    intro i hm
    have h9i := ltr_9 (h := hnt kd bo n T j) (v := L j) (m := i) (h9 j hj)
    have ev : lf c (mo kd bo n T i L) 63 j = (ltr (hnt kd bo n T j) (L j) i : Nat) := lf_in _ _ hj
    by_cases hz : ltr (hnt kd bo n T j) (L j) i = 0
    · rw [show fst0 (fun i => decide (ltr (hnt kd bo n T j) (L j) i = 0)) (m + 1) i = (i : Int) from if_pos (decide_eq_true hz)]
      refine ⟨lf c (mo kd bo n T i L), ?_, fun a k h => lf_out _ _ h⟩
      refine Rn.run 2 (ls' := [_, _, _]) (st' := [_, _]) rfl ?_
      refine Rn.gt2 rfl (fun e30 => absurd e30 (by exact fun h => absurd ((y_lt (n := 40) (by omega) (by omega)).mp h) (by omega))) (fun e30 => ?_)
      refine Rn.run 3 (ls' := [_, _, _]) (st' := [_, _]) rfl ?_
      refine Rn.ald rfl ⟨by decide, rfl⟩ (j) (x_wn (n := j) (by omega)) (by omega) ?_
      rw [ev]
      refine Rn.ne0 rfl (fun e39 => absurd e39 (by rw [hz]; decide)) (fun e39 => ?_)
      refine Rn.run 1 (ls' := [_, _, _]) (st' := [_]) rfl ?_
      exact Rn.ret rfl rfl rfl rfl rfl rfl
    · rw [show fst0 (fun i => decide (ltr (hnt kd bo n T j) (L j) i = 0)) (m + 1) i = fst0 (fun i => decide (ltr (hnt kd bo n T j) (L j) i = 0)) m (i + 1) from if_neg (fun z => hz (of_decide_eq_true z))]
      obtain ⟨c', r, f⟩ := ih (i + 1) (by omega)
      refine ⟨c', ?_, f⟩
      refine Rn.run 2 (ls' := [_, _, _]) (st' := [_, _]) rfl ?_
      refine Rn.gt2 rfl (fun e30 => absurd e30 (by exact fun h => absurd ((y_lt (n := 40) (by omega) (by omega)).mp h) (by omega))) (fun e30 => ?_)
      refine Rn.run 3 (ls' := [_, _, _]) (st' := [_, _]) rfl ?_
      refine Rn.ald rfl ⟨by decide, rfl⟩ (j) (x_wn (n := j) (by omega)) (by omega) ?_
      rw [ev]
      refine Rn.ne0 rfl (fun e39 => ?_) (fun e39 => absurd e39 (by exact fun h => h (fun z => hz ((y_eq0 (by omega)).mp z))))
      refine Rn.run 4 (ls' := [_, _, _]) (st' := [_, _, _]) rfl ?_
      refine Rn.ald rfl ⟨by decide, rfl⟩ (2) rfl (by decide) ?_
      rw [lf_out _ _ (by decide), t2]
      refine Rn.call rfl rfl rfl rfl rfl (c169 ho (mG_lf hM) hT6 (mo_9 h9) (fun j hj => lf_in _ _ hj)) ?_
      refine Rn.run 2 (ls' := [_, _, _]) (st' := []) rfl ?_
      rw [lf_lf, mo_s]
      exact r
theorem k79_b1 {ex : xO} {d : Nat} {c : Nat → Nat → Int} {b : Bool}  {a1 : Int} (h1 : w32 a1 = a1) (q1 : ¬ (0 ≤ a1 ∧ a1 < 8)) : An ex (d + 20) 79 5 [xA 0, xI a1] (hp c b) (xI (-1), hp (c) b) := by
  refine Rn.run 2 (ls' := [_, _, _, _, _]) (st' := [_, _]) rfl ?_
  refine Rn.call rfl rfl rfl rfl rfl (c100) ?_
  refine Rn.neB rfl (fun e6 => absurd e6 (by exact (z_no (m := 8) h1 (by omega) q1))) (fun e6 => ?_)
  refine Rn.run 1 (ls' := [_, _, _, _, _]) (st' := [_]) rfl ?_
  exact Rn.ret rfl rfl rfl rfl rfl rfl
theorem k79_st {ex : xO} {d : Nat} {c : Nat → Nat → Int} {b : Bool} {n D T Mo : Nat} {kd bo wo L : Nat → Nat} (hP : pS n kd bo wo D T Mo L) (hc : cS c b n kd bo wo D T Mo L) {j : Nat} (hj : j < 8) (h0 : n = 0) : An ex (d + 20) 79 5 [xA 0, xI (j : Int)] (hp c b) (xI (-4), hp (c) b) := by
  obtain ⟨ho, h40, hT, h9, hMo⟩ := hP
  obtain ⟨hC, d7, t9, hL, m10⟩ := hc
  have hn := ho.1
  have hT6 := p64 hn hT
  refine Rn.run 2 (ls' := [_, _, _, _, _]) (st' := [_, _]) rfl ?_
  refine Rn.call rfl rfl rfl rfl rfl (c100) ?_
  refine Rn.neB rfl (fun e6 => ?_) (fun e6 => absurd e6 (by exact fun h => h (z_in (m := 8) hj (by omega))))
  refine Rn.run 1 (ls' := [_, _, _, _, _]) (st' := [_]) rfl ?_
  refine Rn.getR rfl ⟨by decide, rfl, rfl⟩ (j := gid b) (rfl) ?_
  refine Rn.getI rfl (xS_g b) ?_
  rw [hC.1]
  refine Rn.ne0 rfl (fun e18 => absurd e18 (by rw [h0]; decide)) (fun e18 => ?_)
  refine Rn.run 1 (ls' := [_, _, _, _, _]) (st' := [_]) rfl ?_
  exact Rn.ret rfl rfl rfl rfl rfl rfl
theorem k79_ok {ex : xO} {d : Nat} {c : Nat → Nat → Int} {b : Bool} {n D T Mo : Nat} {kd bo wo L : Nat → Nat} (hP : pS n kd bo wo D T Mo L) (hc : cS c b n kd bo wo D T Mo L) {j : Nat} (hj : j < 8) (h0 : n ≠ 0) : An ex (d + 20) 79 5 [xA 0, xI (j : Int)] (hp c b) (xI (fst0 (fun i => decide (ltr (hnt kd bo n T j) (L j) i = 0)) 41 0), hp (c) b) := by
  obtain ⟨ho, h40, hT, h9, hMo⟩ := hP
  obtain ⟨hC, d7, t9, hL, m10⟩ := hc
  have hn := ho.1
  have hT6 := p64 hn hT
  have hq := hnt_le kd bo n T j
  refine Rn.run 2 (ls' := [_, _, _, _, _]) (st' := [_, _]) rfl ?_
  refine Rn.call rfl rfl rfl rfl rfl (c100) ?_
  refine Rn.neB rfl (fun e6 => ?_) (fun e6 => absurd e6 (by exact fun h => h (z_in (m := 8) hj (by omega))))
  refine Rn.run 1 (ls' := [_, _, _, _, _]) (st' := [_]) rfl ?_
  refine Rn.getR rfl ⟨by decide, rfl, rfl⟩ (j := gid b) (rfl) ?_
  refine Rn.getI rfl (xS_g b) ?_
  rw [hC.1]
  refine Rn.ne0 rfl (fun e18 => ?_) (fun e18 => absurd e18 (by exact fun h => h (z_ne0 h0 hn)))
  refine Rn.run 2 (ls' := [_, _, _, _, _]) (st' := [_]) rfl ?_
  refine Rn.call rfl rfl rfl rfl rfl (c10 d7 h40) ?_
  refine Rn.run 1 (ls' := [_, _, _, _, _]) (st' := [_, _]) rfl ?_
  refine Rn.call rfl rfl rfl rfl rfl (c0 hj) ?_
  rw [hL j hj]
  refine Rn.run 2 (ls' := [_, _, _, _, _]) (st' := [_]) rfl ?_
  refine Rn.getR rfl ⟨by decide, rfl, rfl⟩ (j := gid b) (rfl) ?_
  refine Rn.run 3 (ls' := [_, _, _, _, _]) (st' := [_, _, _]) rfl ?_
  refine Rn.call rfl rfl rfl rfl rfl (c11 d7 h40) ?_
  rw [t9]
  refine Rn.callV rfl (x_sv (xS_g b)) rfl rfl rfl (c23 ho hC hT6 hj) ?_
  refine Rn.run 3 (ls' := [_, _, _, _, _]) (st' := []) rfl ?_
  exact l79 (h9 j hj) (by omega) 41 0 rfl
theorem k192_b1 {ex : xO} {d : Nat} {c : Nat → Nat → Int} {b : Bool}  {a1 : Int} (h1 : w32 a1 = a1) (q1 : ¬ (0 ≤ a1 ∧ a1 < 8)) : An ex (d + 20) 192 3 [xA 54, xI a1] (hp c b) (xI (-1), hp (c) b) := by
  refine Rn.run 1 (ls' := [_, _, _]) (st' := [_]) rfl ?_
  refine Rn.call rfl rfl rfl rfl rfl (c141) ?_
  refine Rn.neB rfl (fun e4 => absurd e4 (by exact (z_no' (m := 8) h1 q1))) (fun e4 => ?_)
  refine Rn.run 1 (ls' := [_, _, _]) (st' := [_]) rfl ?_
  exact Rn.ret rfl rfl rfl rfl rfl rfl
theorem k192_st {ex : xO} {d : Nat} {c : Nat → Nat → Int} {b : Bool} {n D T Mo : Nat} {kd bo wo L : Nat → Nat} (hP : pS n kd bo wo D T Mo L) (hm : mS c n kd bo wo D T Mo L) {j : Nat} (hj : j < 8) (h0 : n = 0) : An ex (d + 20) 192 3 [xA 54, xI (j : Int)] (hp c b) (xI (-4), hp (c) b) := by
  obtain ⟨ho, h40, hT, h9, hMo⟩ := hP
  obtain ⟨hM, d29, t2, l55, m1⟩ := hm
  have hn := ho.1
  have hT6 := p64 hn hT
  refine Rn.run 1 (ls' := [_, _, _]) (st' := [_]) rfl ?_
  refine Rn.call rfl rfl rfl rfl rfl (c141) ?_
  refine Rn.neB rfl (fun e4 => ?_) (fun e4 => absurd e4 (by exact fun h => h (z_in' (m := 8) hj (by omega))))
  refine Rn.run 3 (ls' := [_, _, _]) (st' := [_, _]) rfl ?_
  refine Rn.ald rfl ⟨by decide, rfl⟩ (0) rfl (by decide) ?_
  rw [hM.1]
  refine Rn.ne0 rfl (fun e15 => absurd e15 (by rw [h0]; decide)) (fun e15 => ?_)
  refine Rn.run 1 (ls' := [_, _, _]) (st' := [_]) rfl ?_
  exact Rn.ret rfl rfl rfl rfl rfl rfl
theorem k192_ok {ex : xO} {d : Nat} {c : Nat → Nat → Int} {b : Bool} {n D T Mo : Nat} {kd bo wo L : Nat → Nat} (hP : pS n kd bo wo D T Mo L) (hm : mS c n kd bo wo D T Mo L) {j : Nat} (hj : j < 8) (h0 : n ≠ 0) : ∃ c', An ex (d + 20) 192 3 [xA 54, xI (j : Int)] (hp c b) (xI (fst0 (fun i => decide (ltr (hnt kd bo n T j) (L j) i = 0)) 41 0), hp c' b) ∧ ∀ a k, a ≠ 63 → c' a k = c a k := by
  obtain ⟨ho, h40, hT, h9, hMo⟩ := hP
  obtain ⟨hM, d29, t2, l55, m1⟩ := hm
  have hn := ho.1
  have hT6 := p64 hn hT
  obtain ⟨c', r, f⟩ := l192 (ex := ex) (d := d + 15) (b := b) ho hM hj t2 hT6 h9 41 0 rfl
  refine ⟨c', ?_, f⟩
  refine Rn.run 1 (ls' := [_, _, _]) (st' := [_]) rfl ?_
  refine Rn.call rfl rfl rfl rfl rfl (c141) ?_
  refine Rn.neB rfl (fun e4 => ?_) (fun e4 => absurd e4 (by exact fun h => h (z_in' (m := 8) hj (by omega))))
  refine Rn.run 3 (ls' := [_, _, _]) (st' := [_, _]) rfl ?_
  refine Rn.ald rfl ⟨by decide, rfl⟩ (0) rfl (by decide) ?_
  rw [hM.1]
  refine Rn.ne0 rfl (fun e15 => ?_) (fun e15 => absurd e15 (by exact fun h => h (z_ne0 h0 hn)))
  refine Rn.run 1 (ls' := [_, _, _]) (st' := [_]) rfl ?_
  refine Rn.call rfl rfl rfl rfl rfl (c168 l55) ?_
  refine Rn.run 2 (ls' := [_, _, _]) (st' := []) rfl ?_
  rw [lf_congr (fun j hj => (mo_0 (kd := kd) (bo := bo) (n := n) (s := T) h9 j hj).symm)]
  exact r
theorem g_bare {ex : xO} (a1 : Int) (h1 : w32 a1 = a1) : AgI ex 79 5 192 3 [xI a1] := by
  intro d c b hI
  obtain ⟨n, kd, bo, wo, D, T, Mo, L, hP, hc, hm⟩ := Inv_St hI
  by_cases q1 : 0 ≤ a1 ∧ a1 < 8
  · obtain ⟨j, hj, rfl⟩ : ∃ j : Nat, j < 8 ∧ a1 = (j : Int) := ⟨a1.toNat, by omega, by omega⟩
    by_cases h0 : n = 0
    · exact Ag_same hI (-4) (k79_st hP hc hj h0) (k192_st hP hm hj h0)
    · obtain ⟨c', r, f⟩ := k192_ok (ex := ex) (d := d) (b := b) hP hm hj h0
      exact Ag_scr hI _ (k79_ok hP hc hj h0) r (fun a k h => f a k (fun z => h (by unfold scr; omega)))
  · exact Ag_same hI (-1) (k79_b1 h1 q1) (k192_b1 h1 q1)
