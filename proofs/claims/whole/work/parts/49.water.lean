-- water, prune
theorem k72_b1 {ex : xO} {d : Nat} {c : Nat → Nat → Int} {b : Bool}  {a1 a2 : Int} (h1 : w32 a1 = a1) (q1 : ¬ (0 ≤ a1 ∧ a1 < 8)) : An ex (d + 20) 72 3 [xA 0, xI a1, xI a2] (hp c b) (xI (-1), hp (c) b) := by
  refine Rn.run 2 (ls' := [_, _, _]) (st' := [_, _]) rfl ?_
  refine Rn.call rfl rfl rfl rfl rfl (c100) ?_
  refine Rn.eqB rfl (fun e6 => ?_) (fun e6 => absurd e6 (by exact (z_no (m := 8) h1 (by omega) q1)))
  refine Rn.run 1 (ls' := [_, _, _]) (st' := [_]) rfl ?_
  exact Rn.ret rfl rfl rfl rfl rfl rfl
theorem k72_b2 {ex : xO} {d : Nat} {c : Nat → Nat → Int} {b : Bool}  {a2 : Int} {j : Nat} (hj : j < 8) (h2 : w32 a2 = a2) (q2 : ¬ (1 ≤ a2 ∧ a2 < 10)) : An ex (d + 20) 72 3 [xA 0, xI (j : Int), xI a2] (hp c b) (xI (-1), hp (c) b) := by
  refine Rn.run 2 (ls' := [_, _, _]) (st' := [_, _]) rfl ?_
  refine Rn.call rfl rfl rfl rfl rfl (c100) ?_
  refine Rn.eqB rfl (fun e6 => absurd e6 (by exact fun h => h (z_in (m := 8) hj (by omega)))) (fun e6 => ?_)
  refine Rn.run 2 (ls' := [_, _, _]) (st' := [_, _]) rfl ?_
  refine Rn.lt2 rfl (fun e11 => ?_) (fun e11 => ?_)
  · refine Rn.run 1 (ls' := [_, _, _]) (st' := [_]) rfl ?_
    exact Rn.ret rfl rfl rfl rfl rfl rfl
  · refine Rn.run 2 (ls' := [_, _, _]) (st' := [_, _]) rfl ?_
    refine Rn.le2 rfl (fun e17 => absurd e17 (by rw [h2] at e11; exact fun h => q2 (by have e11 : ¬ a2 < 1 := e11; rw [h2] at h; have h : a2 ≤ 9 := h; omega))) (fun e17 => ?_)
    refine Rn.run 1 (ls' := [_, _, _]) (st' := [_]) rfl ?_
    exact Rn.ret rfl rfl rfl rfl rfl rfl
theorem k72_st {ex : xO} {d : Nat} {c : Nat → Nat → Int} {b : Bool} {n D T Mo : Nat} {kd bo wo L : Nat → Nat} (hP : pS n kd bo wo D T Mo L) (hc : cS c b n kd bo wo D T Mo L) {j m : Nat} (hj : j < 8) (hm1 : 1 ≤ m) (hm9 : m ≤ 9) (h0 : n = 0) : An ex (d + 20) 72 3 [xA 0, xI (j : Int), xI (m : Int)] (hp c b) (xI (-4), hp (c) b) := by
  obtain ⟨ho, h40, hT, h9, hMo⟩ := hP
  obtain ⟨hC, d7, t9, hL, m10⟩ := hc
  have hn := ho.1
  have hT6 := p64 hn hT
  refine Rn.run 2 (ls' := [_, _, _]) (st' := [_, _]) rfl ?_
  refine Rn.call rfl rfl rfl rfl rfl (c100) ?_
  refine Rn.eqB rfl (fun e6 => absurd e6 (by exact fun h => h (z_in (m := 8) hj (by omega)))) (fun e6 => ?_)
  refine Rn.run 2 (ls' := [_, _, _]) (st' := [_, _]) rfl ?_
  refine Rn.lt2 rfl (fun e11 => absurd e11 (by rw [x_wn (by omega)]; show ¬ (m : Int) < 1; omega)) (fun e11 => ?_)
  refine Rn.run 2 (ls' := [_, _, _]) (st' := [_, _]) rfl ?_
  refine Rn.le2 rfl (fun e17 => ?_) (fun e17 => absurd e17 (by rw [x_wn (by omega)]; show ¬ ¬ (m : Int) ≤ 9; omega))
  refine Rn.run 1 (ls' := [_, _, _]) (st' := [_]) rfl ?_
  refine Rn.getR rfl ⟨by decide, rfl, rfl⟩ (j := gid b) (rfl) ?_
  refine Rn.getI rfl (xS_g b) ?_
  rw [hC.1]
  refine Rn.eq0 rfl (fun e29 => ?_) (fun e29 => absurd e29 (by rw [h0]; decide))
  refine Rn.run 1 (ls' := [_, _, _]) (st' := [_]) rfl ?_
  exact Rn.ret rfl rfl rfl rfl rfl rfl
theorem k72_s2 {ex : xO} {d : Nat} {c : Nat → Nat → Int} {b : Bool} {n D T Mo : Nat} {kd bo wo L : Nat → Nat} (hP : pS n kd bo wo D T Mo L) (hc : cS c b n kd bo wo D T Mo L) {j m : Nat} (hj : j < 8) (hm1 : 1 ≤ m) (hm9 : m ≤ 9) (h0 : n ≠ 0) (h9l : L j = 9) : An ex (d + 20) 72 3 [xA 0, xI (j : Int), xI (m : Int)] (hp c b) (xI (-4), hp (c) b) := by
  obtain ⟨ho, h40, hT, h9, hMo⟩ := hP
  obtain ⟨hC, d7, t9, hL, m10⟩ := hc
  have hn := ho.1
  have hT6 := p64 hn hT
  have h9j := h9 j hj
  refine Rn.run 2 (ls' := [_, _, _]) (st' := [_, _]) rfl ?_
  refine Rn.call rfl rfl rfl rfl rfl (c100) ?_
  refine Rn.eqB rfl (fun e6 => absurd e6 (by exact fun h => h (z_in (m := 8) hj (by omega)))) (fun e6 => ?_)
  refine Rn.run 2 (ls' := [_, _, _]) (st' := [_, _]) rfl ?_
  refine Rn.lt2 rfl (fun e11 => absurd e11 (by rw [x_wn (by omega)]; show ¬ (m : Int) < 1; omega)) (fun e11 => ?_)
  refine Rn.run 2 (ls' := [_, _, _]) (st' := [_, _]) rfl ?_
  refine Rn.le2 rfl (fun e17 => ?_) (fun e17 => absurd e17 (by rw [x_wn (by omega)]; show ¬ ¬ (m : Int) ≤ 9; omega))
  refine Rn.run 1 (ls' := [_, _, _]) (st' := [_]) rfl ?_
  refine Rn.getR rfl ⟨by decide, rfl, rfl⟩ (j := gid b) (rfl) ?_
  refine Rn.getI rfl (xS_g b) ?_
  rw [hC.1]
  refine Rn.eq0 rfl (fun e29 => absurd e29 (by exact z_ne0 h0 hn)) (fun e29 => ?_)
  refine Rn.run 2 (ls' := [_, _, _]) (st' := [_]) rfl ?_
  refine Rn.call rfl rfl rfl rfl rfl (c10 d7 h40) ?_
  refine Rn.run 1 (ls' := [_, _, _]) (st' := [_, _]) rfl ?_
  refine Rn.call rfl rfl rfl rfl rfl (c0 hj) ?_
  rw [hL j hj]
  refine Rn.run 1 (ls' := [_, _, _]) (st' := [_, _]) rfl ?_
  refine Rn.ne2 rfl (fun e45 => absurd e45 (by rw [h9l]; decide)) (fun e45 => ?_)
  refine Rn.run 1 (ls' := [_, _, _]) (st' := [_]) rfl ?_
  exact Rn.ret rfl rfl rfl rfl rfl rfl
theorem k72_fu {ex : xO} {d : Nat} {c : Nat → Nat → Int} {b : Bool} {n D T Mo : Nat} {kd bo wo L : Nat → Nat} (hP : pS n kd bo wo D T Mo L) (hc : cS c b n kd bo wo D T Mo L) {j m : Nat} (hj : j < 8) (hm1 : 1 ≤ m) (hm9 : m ≤ 9) (h0 : n ≠ 0) (h9l : L j ≠ 9) (hD : D = 40) : An ex (d + 20) 72 3 [xA 0, xI (j : Int), xI (m : Int)] (hp c b) (xI (-2), hp (c) b) := by
  obtain ⟨ho, h40, hT, h9, hMo⟩ := hP
  obtain ⟨hC, d7, t9, hL, m10⟩ := hc
  have hn := ho.1
  have hT6 := p64 hn hT
  have h9j := h9 j hj
  refine Rn.run 2 (ls' := [_, _, _]) (st' := [_, _]) rfl ?_
  refine Rn.call rfl rfl rfl rfl rfl (c100) ?_
  refine Rn.eqB rfl (fun e6 => absurd e6 (by exact fun h => h (z_in (m := 8) hj (by omega)))) (fun e6 => ?_)
  refine Rn.run 2 (ls' := [_, _, _]) (st' := [_, _]) rfl ?_
  refine Rn.lt2 rfl (fun e11 => absurd e11 (by rw [x_wn (by omega)]; show ¬ (m : Int) < 1; omega)) (fun e11 => ?_)
  refine Rn.run 2 (ls' := [_, _, _]) (st' := [_, _]) rfl ?_
  refine Rn.le2 rfl (fun e17 => ?_) (fun e17 => absurd e17 (by rw [x_wn (by omega)]; show ¬ ¬ (m : Int) ≤ 9; omega))
  refine Rn.run 1 (ls' := [_, _, _]) (st' := [_]) rfl ?_
  refine Rn.getR rfl ⟨by decide, rfl, rfl⟩ (j := gid b) (rfl) ?_
  refine Rn.getI rfl (xS_g b) ?_
  rw [hC.1]
  refine Rn.eq0 rfl (fun e29 => absurd e29 (by exact z_ne0 h0 hn)) (fun e29 => ?_)
  refine Rn.run 2 (ls' := [_, _, _]) (st' := [_]) rfl ?_
  refine Rn.call rfl rfl rfl rfl rfl (c10 d7 h40) ?_
  refine Rn.run 1 (ls' := [_, _, _]) (st' := [_, _]) rfl ?_
  refine Rn.call rfl rfl rfl rfl rfl (c0 hj) ?_
  rw [hL j hj]
  refine Rn.run 1 (ls' := [_, _, _]) (st' := [_, _]) rfl ?_
  refine Rn.ne2 rfl (fun e45 => ?_) (fun e45 => absurd e45 (by exact fun h => h (fun z => h9l ((y_eq (i := 9) (by omega) (by omega)).mp z))))
  refine Rn.run 3 (ls' := [_, _, _]) (st' := [_, _]) rfl ?_
  refine Rn.call rfl rfl rfl rfl rfl (c8 (m := 1) d7 h40 (by omega)) ?_
  refine Rn.neB rfl (fun e59 => absurd e59 (by omega)) (fun e59 => ?_)
  refine Rn.run 1 (ls' := [_, _, _]) (st' := [_]) rfl ?_
  exact Rn.ret rfl rfl rfl rfl rfl rfl
theorem k72_ok {ex : xO} {d : Nat} {c : Nat → Nat → Int} {b : Bool} {n D T Mo : Nat} {kd bo wo L : Nat → Nat} (hP : pS n kd bo wo D T Mo L) (hc : cS c b n kd bo wo D T Mo L) {j m : Nat} (hj : j < 8) (hm1 : 1 ≤ m) (hm9 : m ≤ 9) (h0 : n ≠ 0) (h9l : L j ≠ 9) (hD : D < 40) : An ex (d + 20) 72 3 [xA 0, xI (j : Int), xI (m : Int)] (hp c b) (xI (wtr (L j) m : Nat), hp (cadd c D (xwith (c 8 D) j (wtr (L j) m : Nat)) (T : Nat) (Mo : Nat)) b) := by
  obtain ⟨ho, h40, hT, h9, hMo⟩ := hP
  obtain ⟨hC, d7, t9, hL, m10⟩ := hc
  have hn := ho.1
  have hT6 := p64 hn hT
  have h9j := h9 j hj
  refine Rn.run 2 (ls' := [_, _, _]) (st' := [_, _]) rfl ?_
  refine Rn.call rfl rfl rfl rfl rfl (c100) ?_
  refine Rn.eqB rfl (fun e6 => absurd e6 (by exact fun h => h (z_in (m := 8) hj (by omega)))) (fun e6 => ?_)
  refine Rn.run 2 (ls' := [_, _, _]) (st' := [_, _]) rfl ?_
  refine Rn.lt2 rfl (fun e11 => absurd e11 (by rw [x_wn (by omega)]; show ¬ (m : Int) < 1; omega)) (fun e11 => ?_)
  refine Rn.run 2 (ls' := [_, _, _]) (st' := [_, _]) rfl ?_
  refine Rn.le2 rfl (fun e17 => ?_) (fun e17 => absurd e17 (by rw [x_wn (by omega)]; show ¬ ¬ (m : Int) ≤ 9; omega))
  refine Rn.run 1 (ls' := [_, _, _]) (st' := [_]) rfl ?_
  refine Rn.getR rfl ⟨by decide, rfl, rfl⟩ (j := gid b) (rfl) ?_
  refine Rn.getI rfl (xS_g b) ?_
  rw [hC.1]
  refine Rn.eq0 rfl (fun e29 => absurd e29 (by exact z_ne0 h0 hn)) (fun e29 => ?_)
  refine Rn.run 2 (ls' := [_, _, _]) (st' := [_]) rfl ?_
  refine Rn.call rfl rfl rfl rfl rfl (c10 d7 h40) ?_
  refine Rn.run 1 (ls' := [_, _, _]) (st' := [_, _]) rfl ?_
  refine Rn.call rfl rfl rfl rfl rfl (c0 hj) ?_
  rw [hL j hj]
  refine Rn.run 1 (ls' := [_, _, _]) (st' := [_, _]) rfl ?_
  refine Rn.ne2 rfl (fun e45 => ?_) (fun e45 => absurd e45 (by exact fun h => h (fun z => h9l ((y_eq (i := 9) (by omega) (by omega)).mp z))))
  refine Rn.run 3 (ls' := [_, _, _]) (st' := [_, _]) rfl ?_
  refine Rn.call rfl rfl rfl rfl rfl (c8 (m := 1) d7 h40 (by omega)) ?_
  refine Rn.neB rfl (fun e59 => ?_) (fun e59 => absurd e59 (by omega))
  refine Rn.run 3 (ls' := [_, _, _]) (st' := [_, _, _]) rfl ?_
  refine Rn.call rfl rfl rfl rfl rfl (c120 ⟨ho, h40, hT, h9, hMo⟩ ⟨hC, d7, t9, hL, m10⟩ hj hm9 hD) ?_
  refine Rn.run 2 (ls' := [_, _, _]) (st' := [_]) rfl ?_
  refine Rn.call rfl rfl rfl rfl rfl (c10 (cadd_7 _ _ _ _ _) (by omega)) ?_
  rw [cadd_8]
  refine Rn.run 1 (ls' := [_, _, _]) (st' := [_, _]) rfl ?_
  refine Rn.call rfl rfl rfl rfl rfl (c0 hj) ?_
  rw [pk_with hL hj (wtr_9 _ _) j hj]
  refine Rn.ret rfl rfl rfl rfl ?_ rfl
  show xI (((if j = j then wtr (L j) m else L j) : Nat) : Int) = _
  rw [if_pos rfl]
theorem k185_b1 {ex : xO} {d : Nat} {c : Nat → Nat → Int} {b : Bool}  {a1 a2 : Int} (h1 : w32 a1 = a1) (q1 : ¬ (0 ≤ a1 ∧ a1 < 8)) : An ex (d + 20) 185 3 [xA 54, xI a1, xI a2] (hp c b) (xI (-1), hp (c) b) := by
  refine Rn.run 1 (ls' := [_, _, _]) (st' := [_]) rfl ?_
  refine Rn.call rfl rfl rfl rfl rfl (c141) ?_
  refine Rn.eqB rfl (fun e4 => ?_) (fun e4 => absurd e4 (by exact (z_no' (m := 8) h1 q1)))
  refine Rn.run 1 (ls' := [_, _, _]) (st' := [_]) rfl ?_
  exact Rn.ret rfl rfl rfl rfl rfl rfl
theorem z_in19 {k : Nat} (h : 1 ≤ k) (h9 : k ≤ 9) : w64 1 ≤ w64 (w32 (k : Int)) ∧ w64 (w32 (k : Int)) ≤ w64 9 := by rw [x_wn (by omega)]; simp only [w64]; omega
theorem z_no19 {a : Int} (ha : w32 a = a) (h : ¬ (1 ≤ a ∧ a < 10)) : ¬ (w64 1 ≤ w64 (w32 a) ∧ w64 (w32 a) ≤ w64 9) := by
  have h2 : -2147483648 ≤ w32 a ∧ w32 a < 2147483648 := by unfold w32; omega
  rw [ha] at h2 ⊢
  simp only [w64]
  omega
theorem k185_b2 {ex : xO} {d : Nat} {c : Nat → Nat → Int} {b : Bool}  {a2 : Int} {j : Nat} (hj : j < 8) (h2 : w32 a2 = a2) (q2 : ¬ (1 ≤ a2 ∧ a2 < 10)) : An ex (d + 20) 185 3 [xA 54, xI (j : Int), xI a2] (hp c b) (xI (-1), hp (c) b) := by
  refine Rn.run 1 (ls' := [_, _, _]) (st' := [_]) rfl ?_
  refine Rn.call rfl rfl rfl rfl rfl (c141) ?_
  refine Rn.eqB rfl (fun e4 => absurd e4 (by exact fun h => h (z_in' (m := 8) hj (by omega)))) (fun e4 => ?_)
  refine Rn.run 4 (ls' := [_, _, _]) (st' := [_, _, _]) rfl ?_
  refine Rn.call rfl rfl rfl rfl rfl (c131) ?_
  refine Rn.neB rfl (fun e16 => absurd e16 (by exact (z_no19 h2 q2))) (fun e16 => ?_)
  refine Rn.run 1 (ls' := [_, _, _]) (st' := [_]) rfl ?_
  exact Rn.ret rfl rfl rfl rfl rfl rfl
theorem k185_st {ex : xO} {d : Nat} {c : Nat → Nat → Int} {b : Bool} {n D T Mo : Nat} {kd bo wo L : Nat → Nat} (hP : pS n kd bo wo D T Mo L) (hm : mS c n kd bo wo D T Mo L) {j m : Nat} (hj : j < 8) (hm1 : 1 ≤ m) (hm9 : m ≤ 9) (h0 : n = 0) : An ex (d + 20) 185 3 [xA 54, xI (j : Int), xI (m : Int)] (hp c b) (xI (-4), hp (c) b) := by
  obtain ⟨ho, h40, hT, h9, hMo⟩ := hP
  obtain ⟨hM, d29, t2, l55, m1⟩ := hm
  have hn := ho.1
  have hT6 := p64 hn hT
  refine Rn.run 1 (ls' := [_, _, _]) (st' := [_]) rfl ?_
  refine Rn.call rfl rfl rfl rfl rfl (c141) ?_
  refine Rn.eqB rfl (fun e4 => absurd e4 (by exact fun h => h (z_in' (m := 8) hj (by omega)))) (fun e4 => ?_)
  refine Rn.run 4 (ls' := [_, _, _]) (st' := [_, _, _]) rfl ?_
  refine Rn.call rfl rfl rfl rfl rfl (c131) ?_
  refine Rn.neB rfl (fun e16 => ?_) (fun e16 => absurd e16 (by exact fun h => h (z_in19 hm1 hm9)))
  refine Rn.run 3 (ls' := [_, _, _]) (st' := [_, _]) rfl ?_
  refine Rn.ald rfl ⟨by decide, rfl⟩ (0) rfl (by decide) ?_
  rw [hM.1]
  refine Rn.eq0 rfl (fun e27 => ?_) (fun e27 => absurd e27 (by rw [h0]; decide))
  refine Rn.run 1 (ls' := [_, _, _]) (st' := [_]) rfl ?_
  exact Rn.ret rfl rfl rfl rfl rfl rfl
theorem k185_s2 {ex : xO} {d : Nat} {c : Nat → Nat → Int} {b : Bool} {n D T Mo : Nat} {kd bo wo L : Nat → Nat} (hP : pS n kd bo wo D T Mo L) (hm : mS c n kd bo wo D T Mo L) {j m : Nat} (hj : j < 8) (hm1 : 1 ≤ m) (hm9 : m ≤ 9) (h0 : n ≠ 0) (h9l : L j = 9) : An ex (d + 20) 185 3 [xA 54, xI (j : Int), xI (m : Int)] (hp c b) (xI (-4), hp (c) b) := by
  obtain ⟨ho, h40, hT, h9, hMo⟩ := hP
  obtain ⟨hM, d29, t2, l55, m1⟩ := hm
  have hn := ho.1
  have hT6 := p64 hn hT
  have h9j := h9 j hj
  refine Rn.run 1 (ls' := [_, _, _]) (st' := [_]) rfl ?_
  refine Rn.call rfl rfl rfl rfl rfl (c141) ?_
  refine Rn.eqB rfl (fun e4 => absurd e4 (by exact fun h => h (z_in' (m := 8) hj (by omega)))) (fun e4 => ?_)
  refine Rn.run 4 (ls' := [_, _, _]) (st' := [_, _, _]) rfl ?_
  refine Rn.call rfl rfl rfl rfl rfl (c131) ?_
  refine Rn.neB rfl (fun e16 => ?_) (fun e16 => absurd e16 (by exact fun h => h (z_in19 hm1 hm9)))
  refine Rn.run 3 (ls' := [_, _, _]) (st' := [_, _]) rfl ?_
  refine Rn.ald rfl ⟨by decide, rfl⟩ (0) rfl (by decide) ?_
  rw [hM.1]
  refine Rn.eq0 rfl (fun e27 => absurd e27 (by exact z_ne0 h0 hn)) (fun e27 => ?_)
  refine Rn.run 5 (ls' := [_, _, _]) (st' := [_, _]) rfl ?_
  refine Rn.ald rfl ⟨by decide, rfl⟩ (3 + j) (x_wn (n := 3 + j) (by omega)) (by omega) ?_
  rw [l55 j hj]
  refine Rn.run 1 (ls' := [_, _, _]) (st' := [_, _]) rfl ?_
  refine Rn.ne2 rfl (fun e40 => absurd e40 (by rw [h9l]; decide)) (fun e40 => ?_)
  refine Rn.run 1 (ls' := [_, _, _]) (st' := [_]) rfl ?_
  exact Rn.ret rfl rfl rfl rfl rfl rfl
theorem k185_fu {ex : xO} {d : Nat} {c : Nat → Nat → Int} {b : Bool} {n D T Mo : Nat} {kd bo wo L : Nat → Nat} (hP : pS n kd bo wo D T Mo L) (hm : mS c n kd bo wo D T Mo L) {j m : Nat} (hj : j < 8) (hm1 : 1 ≤ m) (hm9 : m ≤ 9) (h0 : n ≠ 0) (h9l : L j ≠ 9) (hD : D = 40) : An ex (d + 20) 185 3 [xA 54, xI (j : Int), xI (m : Int)] (hp c b) (xI (-2), hp (c) b) := by
  obtain ⟨ho, h40, hT, h9, hMo⟩ := hP
  obtain ⟨hM, d29, t2, l55, m1⟩ := hm
  have hn := ho.1
  have hT6 := p64 hn hT
  have h9j := h9 j hj
  refine Rn.run 1 (ls' := [_, _, _]) (st' := [_]) rfl ?_
  refine Rn.call rfl rfl rfl rfl rfl (c141) ?_
  refine Rn.eqB rfl (fun e4 => absurd e4 (by exact fun h => h (z_in' (m := 8) hj (by omega)))) (fun e4 => ?_)
  refine Rn.run 4 (ls' := [_, _, _]) (st' := [_, _, _]) rfl ?_
  refine Rn.call rfl rfl rfl rfl rfl (c131) ?_
  refine Rn.neB rfl (fun e16 => ?_) (fun e16 => absurd e16 (by exact fun h => h (z_in19 hm1 hm9)))
  refine Rn.run 3 (ls' := [_, _, _]) (st' := [_, _]) rfl ?_
  refine Rn.ald rfl ⟨by decide, rfl⟩ (0) rfl (by decide) ?_
  rw [hM.1]
  refine Rn.eq0 rfl (fun e27 => absurd e27 (by exact z_ne0 h0 hn)) (fun e27 => ?_)
  refine Rn.run 5 (ls' := [_, _, _]) (st' := [_, _]) rfl ?_
  refine Rn.ald rfl ⟨by decide, rfl⟩ (3 + j) (x_wn (n := 3 + j) (by omega)) (by omega) ?_
  rw [l55 j hj]
  refine Rn.run 1 (ls' := [_, _, _]) (st' := [_, _]) rfl ?_
  refine Rn.ne2 rfl (fun e40 => ?_) (fun e40 => absurd e40 (by exact fun h => h (fun z => h9l ((y_eq (i := 9) (by omega) (by omega)).mp z))))
  refine Rn.run 3 (ls' := [_, _, _]) (st' := [_, _]) rfl ?_
  refine Rn.ald rfl ⟨by decide, rfl⟩ (29) rfl (by decide) ?_
  rw [d29]
  refine Rn.run 1 (ls' := [_, _, _]) (st' := [_, _]) rfl ?_
  refine Rn.ne2 rfl (fun e55 => absurd e55 (by exact fun h => h ((y_eq (i := 40) (by omega) (by omega)).mpr hD))) (fun e55 => ?_)
  refine Rn.run 1 (ls' := [_, _, _]) (st' := [_]) rfl ?_
  exact Rn.ret rfl rfl rfl rfl rfl rfl
theorem k185_ok {ex : xO} {d : Nat} {c : Nat → Nat → Int} {b : Bool} {n D T Mo : Nat} {kd bo wo L : Nat → Nat} (hP : pS n kd bo wo D T Mo L) (hm : mS c n kd bo wo D T Mo L) {j m : Nat} (hj : j < 8) (hm1 : 1 ≤ m) (hm9 : m ≤ 9) (h0 : n ≠ 0) (h9l : L j ≠ 9) (hD : D < 40) : ∃ c', An ex (d + 20) 185 3 [xA 54, xI (j : Int), xI (m : Int)] (hp c b) (xI (wtr (L j) m : Nat), hp c' b) ∧ mDeed c c' n kd bo wo D T Mo L T Mo (lset L j (wtr (L j) m)) := by
  obtain ⟨ho, h40, hT, h9, hMo⟩ := hP
  obtain ⟨hM, d29, t2, l55, m1⟩ := hm
  have hn := ho.1
  have hT6 := p64 hn hT
  have h9j := h9 j hj
  have m0 := mS_mnd (Mo := Mo) (D := D) (T := T) (L := L) (kd := kd) (bo := bo) (wo := wo) hn ⟨hM, d29, t2, l55, m1⟩
  refine ⟨xup (mnd c D T Mo L) 55 (3 + j) (wtr (L j) m : Nat), ?_, ?_⟩
  · refine Rn.run 1 (ls' := [_, _, _]) (st' := [_]) rfl ?_
    refine Rn.call rfl rfl rfl rfl rfl (c141) ?_
    refine Rn.eqB rfl (fun e4 => absurd e4 (by exact fun h => h (z_in' (m := 8) hj (by omega)))) (fun e4 => ?_)
    refine Rn.run 4 (ls' := [_, _, _]) (st' := [_, _, _]) rfl ?_
    refine Rn.call rfl rfl rfl rfl rfl (c131) ?_
    refine Rn.neB rfl (fun e16 => ?_) (fun e16 => absurd e16 (by exact fun h => h (z_in19 hm1 hm9)))
    refine Rn.run 3 (ls' := [_, _, _]) (st' := [_, _]) rfl ?_
    refine Rn.ald rfl ⟨by decide, rfl⟩ (0) rfl (by decide) ?_
    rw [hM.1]
    refine Rn.eq0 rfl (fun e27 => absurd e27 (by exact z_ne0 h0 hn)) (fun e27 => ?_)
    refine Rn.run 5 (ls' := [_, _, _]) (st' := [_, _]) rfl ?_
    refine Rn.ald rfl ⟨by decide, rfl⟩ (3 + j) (x_wn (n := 3 + j) (by omega)) (by omega) ?_
    rw [l55 j hj]
    refine Rn.run 1 (ls' := [_, _, _]) (st' := [_, _]) rfl ?_
    refine Rn.ne2 rfl (fun e40 => ?_) (fun e40 => absurd e40 (by exact fun h => h (fun z => h9l ((y_eq (i := 9) (by omega) (by omega)).mp z))))
    refine Rn.run 3 (ls' := [_, _, _]) (st' := [_, _]) rfl ?_
    refine Rn.ald rfl ⟨by decide, rfl⟩ (29) rfl (by decide) ?_
    rw [d29]
    refine Rn.run 1 (ls' := [_, _, _]) (st' := [_, _]) rfl ?_
    refine Rn.ne2 rfl (fun e55 => ?_) (fun e55 => absurd e55 (by exact fun h => h (fun z => absurd ((y_eq (i := 40) (by omega) (by omega)).mp z) (by omega))))
    refine Rn.run 1 (ls' := [_, _, _]) (st' := [_]) rfl ?_
    refine Rn.call rfl rfl rfl rfl rfl (c179 ⟨ho, h40, hT, h9, hMo⟩ ⟨hM, d29, t2, l55, m1⟩ hD) ?_
    refine Rn.run 3 (ls' := [_, _, _]) (st' := [_, _, _]) rfl ?_
    refine Rn.call rfl rfl rfl rfl rfl (c184 (D := D + 1) ⟨ho, by omega, hT, h9, by omega⟩ m0.1 hj hm9) ?_
    refine Rn.run 5 (ls' := [_, _, _]) (st' := [_, _]) rfl ?_
    refine Rn.ald rfl ⟨by decide, rfl⟩ (3 + j) (x_wn (n := 3 + j) (by omega)) (by omega) ?_
    rw [xup_s]
    exact Rn.ret rfl rfl rfl rfl rfl rfl
  · exact mDeed_tr m0 (mS_lset hn hj m0.1) (fun a k h1 h2 => xup_n _ _ (by omega))
theorem g_water {ex : xO} (a1 a2 : Int) (h1 : w32 a1 = a1) (h2 : w32 a2 = a2) : AgI ex 72 3 185 3 [xI a1, xI a2] := by
  intro d c b hI
  obtain ⟨n, kd, bo, wo, D, T, Mo, L, hP, hc, hm⟩ := Inv_St hI
  have h40 := hP.2.1
  have hMo := hP.2.2.2.2
  by_cases q1 : 0 ≤ a1 ∧ a1 < 8
  · obtain ⟨j, hj, rfl⟩ : ∃ j : Nat, j < 8 ∧ a1 = (j : Int) := ⟨a1.toNat, by omega, by omega⟩
    by_cases q2 : 1 ≤ a2 ∧ a2 < 10
    · obtain ⟨m, ⟨hm1, hm9⟩, rfl⟩ : ∃ m : Nat, (1 ≤ m ∧ m ≤ 9) ∧ a2 = (m : Int) := ⟨a2.toNat, by omega, by omega⟩
      by_cases h0 : n = 0
      · exact Ag_same hI (-4) (k72_st hP hc hj hm1 hm9 h0) (k185_st hP hm hj hm1 hm9 h0)
      · by_cases h9l : L j = 9
        · exact Ag_same hI (-4) (k72_s2 hP hc hj hm1 hm9 h0 h9l) (k185_s2 hP hm hj hm1 hm9 h0 h9l)
        · by_cases hD : D = 40
          · exact Ag_same hI (-2) (k72_fu hP hc hj hm1 hm9 h0 h9l hD) (k185_fu hP hm hj hm1 hm9 h0 h9l hD)
          · obtain ⟨c2, r2, q2⟩ := k185_ok (ex := ex) (d := d) (b := b) hP (mS_fr (c' := cadd c D (xwith (c 8 D) j (wtr (L j) m : Nat)) (T : Nat) (Mo : Nat)) (fun k => cadd_o _ _ _ _ _ (by omega)) hm) hj hm1 hm9 h0 h9l (by omega)
            exact ⟨_, _, _, b, c2, b, k72_ok hP hc hj hm1 hm9 h0 h9l (by omega), r2, rfl, Inv_deed hI hP hc hm (by omega) (pk_with hc.2.2.2.1 hj (wtr_9 _ _)) (lset_9 hP.2.2.2.1 (wtr_9 _ _)) hP.2.2.1 (by omega) q2⟩
    · exact Ag_same hI (-1) (k72_b2 hj h2 q2) (k185_b2 hj h2 q2)
  · exact Ag_same hI (-1) (k72_b1 h1 q1) (k185_b1 h1 q1)
theorem k73_b1 {ex : xO} {d : Nat} {c : Nat → Nat → Int} {b : Bool}  {a1 : Int} (h1 : w32 a1 = a1) (q1 : ¬ (0 ≤ a1 ∧ a1 < 8)) : An ex (d + 20) 73 3 [xA 0, xI a1] (hp c b) (xI (-1), hp (c) b) := by
  refine Rn.run 2 (ls' := [_, _, _]) (st' := [_, _]) rfl ?_
  refine Rn.call rfl rfl rfl rfl rfl (c100) ?_
  refine Rn.neB rfl (fun e6 => absurd e6 (by exact (z_no (m := 8) h1 (by omega) q1))) (fun e6 => ?_)
  refine Rn.run 1 (ls' := [_, _, _]) (st' := [_]) rfl ?_
  exact Rn.ret rfl rfl rfl rfl rfl rfl
theorem k73_st {ex : xO} {d : Nat} {c : Nat → Nat → Int} {b : Bool} {n D T Mo : Nat} {kd bo wo L : Nat → Nat} (hP : pS n kd bo wo D T Mo L) (hc : cS c b n kd bo wo D T Mo L) {j : Nat} (hj : j < 8) (h0 : n = 0) : An ex (d + 20) 73 3 [xA 0, xI (j : Int)] (hp c b) (xI (-4), hp (c) b) := by
  obtain ⟨ho, h40, hT, h9, hMo⟩ := hP
  obtain ⟨hC, d7, t9, hL, m10⟩ := hc
  have hn := ho.1
  have hT6 := p64 hn hT
  refine Rn.run 2 (ls' := [_, _, _]) (st' := [_, _]) rfl ?_
  refine Rn.call rfl rfl rfl rfl rfl (c100) ?_
  refine Rn.neB rfl (fun e6 => ?_) (fun e6 => absurd e6 (by exact fun h => h (z_in (m := 8) hj (by omega))))
  refine Rn.run 2 (ls' := [_, _, _]) (st' := [_]) rfl ?_
  refine Rn.call rfl rfl rfl rfl rfl (c10 d7 h40) ?_
  refine Rn.run 1 (ls' := [_, _, _]) (st' := [_, _]) rfl ?_
  refine Rn.call rfl rfl rfl rfl rfl (c0 hj) ?_
  rw [hL j hj]
  refine Rn.run 2 (ls' := [_, _, _]) (st' := [_]) rfl ?_
  refine Rn.getR rfl ⟨by decide, rfl, rfl⟩ (j := gid b) (rfl) ?_
  refine Rn.getI rfl (xS_g b) ?_
  rw [hC.1]
  refine Rn.eq0 rfl (fun e30 => ?_) (fun e30 => absurd e30 (by rw [h0]; decide))
  refine Rn.run 1 (ls' := [_, _, _]) (st' := [_]) rfl ?_
  exact Rn.ret rfl rfl rfl rfl rfl rfl
theorem k73_s2 {ex : xO} {d : Nat} {c : Nat → Nat → Int} {b : Bool} {n D T Mo : Nat} {kd bo wo L : Nat → Nat} (hP : pS n kd bo wo D T Mo L) (hc : cS c b n kd bo wo D T Mo L) {j : Nat} (hj : j < 8) (h0 : n ≠ 0) (hl0 : L j = 0) : An ex (d + 20) 73 3 [xA 0, xI (j : Int)] (hp c b) (xI (-4), hp (c) b) := by
  obtain ⟨ho, h40, hT, h9, hMo⟩ := hP
  obtain ⟨hC, d7, t9, hL, m10⟩ := hc
  have hn := ho.1
  have hT6 := p64 hn hT
  have h9j := h9 j hj
  refine Rn.run 2 (ls' := [_, _, _]) (st' := [_, _]) rfl ?_
  refine Rn.call rfl rfl rfl rfl rfl (c100) ?_
  refine Rn.neB rfl (fun e6 => ?_) (fun e6 => absurd e6 (by exact fun h => h (z_in (m := 8) hj (by omega))))
  refine Rn.run 2 (ls' := [_, _, _]) (st' := [_]) rfl ?_
  refine Rn.call rfl rfl rfl rfl rfl (c10 d7 h40) ?_
  refine Rn.run 1 (ls' := [_, _, _]) (st' := [_, _]) rfl ?_
  refine Rn.call rfl rfl rfl rfl rfl (c0 hj) ?_
  rw [hL j hj]
  refine Rn.run 2 (ls' := [_, _, _]) (st' := [_]) rfl ?_
  refine Rn.getR rfl ⟨by decide, rfl, rfl⟩ (j := gid b) (rfl) ?_
  refine Rn.getI rfl (xS_g b) ?_
  rw [hC.1]
  refine Rn.eq0 rfl (fun e30 => absurd e30 (by exact z_ne0 h0 hn)) (fun e30 => ?_)
  refine Rn.run 1 (ls' := [_, _, _]) (st' := [_]) rfl ?_
  refine Rn.ne0 rfl (fun e34 => absurd e34 (by rw [hl0]; decide)) (fun e34 => ?_)
  refine Rn.run 1 (ls' := [_, _, _]) (st' := [_]) rfl ?_
  exact Rn.ret rfl rfl rfl rfl rfl rfl
theorem k73_fu {ex : xO} {d : Nat} {c : Nat → Nat → Int} {b : Bool} {n D T Mo : Nat} {kd bo wo L : Nat → Nat} (hP : pS n kd bo wo D T Mo L) (hc : cS c b n kd bo wo D T Mo L) {j : Nat} (hj : j < 8) (h0 : n ≠ 0) (hl0 : L j ≠ 0) (hD : D = 40) : An ex (d + 20) 73 3 [xA 0, xI (j : Int)] (hp c b) (xI (-2), hp (c) b) := by
  obtain ⟨ho, h40, hT, h9, hMo⟩ := hP
  obtain ⟨hC, d7, t9, hL, m10⟩ := hc
  have hn := ho.1
  have hT6 := p64 hn hT
  have h9j := h9 j hj
  refine Rn.run 2 (ls' := [_, _, _]) (st' := [_, _]) rfl ?_
  refine Rn.call rfl rfl rfl rfl rfl (c100) ?_
  refine Rn.neB rfl (fun e6 => ?_) (fun e6 => absurd e6 (by exact fun h => h (z_in (m := 8) hj (by omega))))
  refine Rn.run 2 (ls' := [_, _, _]) (st' := [_]) rfl ?_
  refine Rn.call rfl rfl rfl rfl rfl (c10 d7 h40) ?_
  refine Rn.run 1 (ls' := [_, _, _]) (st' := [_, _]) rfl ?_
  refine Rn.call rfl rfl rfl rfl rfl (c0 hj) ?_
  rw [hL j hj]
  refine Rn.run 2 (ls' := [_, _, _]) (st' := [_]) rfl ?_
  refine Rn.getR rfl ⟨by decide, rfl, rfl⟩ (j := gid b) (rfl) ?_
  refine Rn.getI rfl (xS_g b) ?_
  rw [hC.1]
  refine Rn.eq0 rfl (fun e30 => absurd e30 (by exact z_ne0 h0 hn)) (fun e30 => ?_)
  refine Rn.run 1 (ls' := [_, _, _]) (st' := [_]) rfl ?_
  refine Rn.ne0 rfl (fun e34 => ?_) (fun e34 => absurd e34 (by exact fun h => h (fun z => hl0 ((y_eq0 (by omega)).mp z))))
  refine Rn.run 3 (ls' := [_, _, _]) (st' := [_, _]) rfl ?_
  refine Rn.call rfl rfl rfl rfl rfl (c8 (m := 1) d7 h40 (by omega)) ?_
  refine Rn.neB rfl (fun e48 => absurd e48 (by omega)) (fun e48 => ?_)
  refine Rn.run 1 (ls' := [_, _, _]) (st' := [_]) rfl ?_
  exact Rn.ret rfl rfl rfl rfl rfl rfl
theorem k73_ok {ex : xO} {d : Nat} {c : Nat → Nat → Int} {b : Bool} {n D T Mo : Nat} {kd bo wo L : Nat → Nat} (hP : pS n kd bo wo D T Mo L) (hc : cS c b n kd bo wo D T Mo L) {j : Nat} (hj : j < 8) (h0 : n ≠ 0) (hl0 : L j ≠ 0) (hD : D < 40) : An ex (d + 20) 73 3 [xA 0, xI (j : Int)] (hp c b) (xI (L j : Nat), hp (cadd c D (xwith (c 8 D) j ((0 : Nat) : Int)) (T : Nat) (Mo : Nat)) b) := by
  obtain ⟨ho, h40, hT, h9, hMo⟩ := hP
  obtain ⟨hC, d7, t9, hL, m10⟩ := hc
  have hn := ho.1
  have hT6 := p64 hn hT
  have h9j := h9 j hj
  refine Rn.run 2 (ls' := [_, _, _]) (st' := [_, _]) rfl ?_
  refine Rn.call rfl rfl rfl rfl rfl (c100) ?_
  refine Rn.neB rfl (fun e6 => ?_) (fun e6 => absurd e6 (by exact fun h => h (z_in (m := 8) hj (by omega))))
  refine Rn.run 2 (ls' := [_, _, _]) (st' := [_]) rfl ?_
  refine Rn.call rfl rfl rfl rfl rfl (c10 d7 h40) ?_
  refine Rn.run 1 (ls' := [_, _, _]) (st' := [_, _]) rfl ?_
  refine Rn.call rfl rfl rfl rfl rfl (c0 hj) ?_
  rw [hL j hj]
  refine Rn.run 2 (ls' := [_, _, _]) (st' := [_]) rfl ?_
  refine Rn.getR rfl ⟨by decide, rfl, rfl⟩ (j := gid b) (rfl) ?_
  refine Rn.getI rfl (xS_g b) ?_
  rw [hC.1]
  refine Rn.eq0 rfl (fun e30 => absurd e30 (by exact z_ne0 h0 hn)) (fun e30 => ?_)
  refine Rn.run 1 (ls' := [_, _, _]) (st' := [_]) rfl ?_
  refine Rn.ne0 rfl (fun e34 => ?_) (fun e34 => absurd e34 (by exact fun h => h (fun z => hl0 ((y_eq0 (by omega)).mp z))))
  refine Rn.run 3 (ls' := [_, _, _]) (st' := [_, _]) rfl ?_
  refine Rn.call rfl rfl rfl rfl rfl (c8 (m := 1) d7 h40 (by omega)) ?_
  refine Rn.neB rfl (fun e48 => ?_) (fun e48 => absurd e48 (by omega))
  refine Rn.run 2 (ls' := [_, _, _]) (st' := [_, _]) rfl ?_
  refine Rn.call rfl rfl rfl rfl rfl (c121 ⟨ho, h40, hT, h9, hMo⟩ ⟨hC, d7, t9, hL, m10⟩ hj hD) ?_
  refine Rn.run 1 (ls' := [_, _, _]) (st' := [_]) rfl ?_
  exact Rn.ret rfl rfl rfl rfl rfl rfl
theorem k186_b1 {ex : xO} {d : Nat} {c : Nat → Nat → Int} {b : Bool}  {a1 : Int} (h1 : w32 a1 = a1) (q1 : ¬ (0 ≤ a1 ∧ a1 < 8)) : An ex (d + 20) 186 3 [xA 54, xI a1] (hp c b) (xI (-1), hp (c) b) := by
  refine Rn.run 1 (ls' := [_, _, _]) (st' := [_]) rfl ?_
  refine Rn.call rfl rfl rfl rfl rfl (c141) ?_
  refine Rn.neB rfl (fun e4 => absurd e4 (by exact (z_no' (m := 8) h1 q1))) (fun e4 => ?_)
  refine Rn.run 1 (ls' := [_, _, _]) (st' := [_]) rfl ?_
  exact Rn.ret rfl rfl rfl rfl rfl rfl
theorem k186_st {ex : xO} {d : Nat} {c : Nat → Nat → Int} {b : Bool} {n D T Mo : Nat} {kd bo wo L : Nat → Nat} (hP : pS n kd bo wo D T Mo L) (hm : mS c n kd bo wo D T Mo L) {j : Nat} (hj : j < 8) (h0 : n = 0) : An ex (d + 20) 186 3 [xA 54, xI (j : Int)] (hp c b) (xI (-4), hp (c) b) := by
  obtain ⟨ho, h40, hT, h9, hMo⟩ := hP
  obtain ⟨hM, d29, t2, l55, m1⟩ := hm
  have hn := ho.1
  have hT6 := p64 hn hT
  refine Rn.run 1 (ls' := [_, _, _]) (st' := [_]) rfl ?_
  refine Rn.call rfl rfl rfl rfl rfl (c141) ?_
  refine Rn.neB rfl (fun e4 => ?_) (fun e4 => absurd e4 (by exact fun h => h (z_in' (m := 8) hj (by omega))))
  refine Rn.run 3 (ls' := [_, _, _]) (st' := [_, _]) rfl ?_
  refine Rn.ald rfl ⟨by decide, rfl⟩ (0) rfl (by decide) ?_
  rw [hM.1]
  refine Rn.eq0 rfl (fun e15 => ?_) (fun e15 => absurd e15 (by rw [h0]; decide))
  refine Rn.run 1 (ls' := [_, _, _]) (st' := [_]) rfl ?_
  exact Rn.ret rfl rfl rfl rfl rfl rfl
theorem k186_s2 {ex : xO} {d : Nat} {c : Nat → Nat → Int} {b : Bool} {n D T Mo : Nat} {kd bo wo L : Nat → Nat} (hP : pS n kd bo wo D T Mo L) (hm : mS c n kd bo wo D T Mo L) {j : Nat} (hj : j < 8) (h0 : n ≠ 0) (hl0 : L j = 0) : An ex (d + 20) 186 3 [xA 54, xI (j : Int)] (hp c b) (xI (-4), hp (c) b) := by
  obtain ⟨ho, h40, hT, h9, hMo⟩ := hP
  obtain ⟨hM, d29, t2, l55, m1⟩ := hm
  have hn := ho.1
  have hT6 := p64 hn hT
  have h9j := h9 j hj
  refine Rn.run 1 (ls' := [_, _, _]) (st' := [_]) rfl ?_
  refine Rn.call rfl rfl rfl rfl rfl (c141) ?_
  refine Rn.neB rfl (fun e4 => ?_) (fun e4 => absurd e4 (by exact fun h => h (z_in' (m := 8) hj (by omega))))
  refine Rn.run 3 (ls' := [_, _, _]) (st' := [_, _]) rfl ?_
  refine Rn.ald rfl ⟨by decide, rfl⟩ (0) rfl (by decide) ?_
  rw [hM.1]
  refine Rn.eq0 rfl (fun e15 => absurd e15 (by exact z_ne0 h0 hn)) (fun e15 => ?_)
  refine Rn.run 5 (ls' := [_, _, _]) (st' := [_, _]) rfl ?_
  refine Rn.ald rfl ⟨by decide, rfl⟩ (3 + j) (x_wn (n := 3 + j) (by omega)) (by omega) ?_
  rw [l55 j hj]
  refine Rn.ne0 rfl (fun e26 => absurd e26 (by rw [hl0]; decide)) (fun e26 => ?_)
  refine Rn.run 1 (ls' := [_, _, _]) (st' := [_]) rfl ?_
  exact Rn.ret rfl rfl rfl rfl rfl rfl
theorem k186_fu {ex : xO} {d : Nat} {c : Nat → Nat → Int} {b : Bool} {n D T Mo : Nat} {kd bo wo L : Nat → Nat} (hP : pS n kd bo wo D T Mo L) (hm : mS c n kd bo wo D T Mo L) {j : Nat} (hj : j < 8) (h0 : n ≠ 0) (hl0 : L j ≠ 0) (hD : D = 40) : An ex (d + 20) 186 3 [xA 54, xI (j : Int)] (hp c b) (xI (-2), hp (c) b) := by
  obtain ⟨ho, h40, hT, h9, hMo⟩ := hP
  obtain ⟨hM, d29, t2, l55, m1⟩ := hm
  have hn := ho.1
  have hT6 := p64 hn hT
  have h9j := h9 j hj
  refine Rn.run 1 (ls' := [_, _, _]) (st' := [_]) rfl ?_
  refine Rn.call rfl rfl rfl rfl rfl (c141) ?_
  refine Rn.neB rfl (fun e4 => ?_) (fun e4 => absurd e4 (by exact fun h => h (z_in' (m := 8) hj (by omega))))
  refine Rn.run 3 (ls' := [_, _, _]) (st' := [_, _]) rfl ?_
  refine Rn.ald rfl ⟨by decide, rfl⟩ (0) rfl (by decide) ?_
  rw [hM.1]
  refine Rn.eq0 rfl (fun e15 => absurd e15 (by exact z_ne0 h0 hn)) (fun e15 => ?_)
  refine Rn.run 5 (ls' := [_, _, _]) (st' := [_, _]) rfl ?_
  refine Rn.ald rfl ⟨by decide, rfl⟩ (3 + j) (x_wn (n := 3 + j) (by omega)) (by omega) ?_
  rw [l55 j hj]
  refine Rn.ne0 rfl (fun e26 => ?_) (fun e26 => absurd e26 (by exact fun h => h (fun z => hl0 ((y_eq0 (by omega)).mp z))))
  refine Rn.run 3 (ls' := [_, _, _]) (st' := [_, _]) rfl ?_
  refine Rn.ald rfl ⟨by decide, rfl⟩ (29) rfl (by decide) ?_
  rw [d29]
  refine Rn.run 1 (ls' := [_, _, _]) (st' := [_, _]) rfl ?_
  refine Rn.ne2 rfl (fun e41 => absurd e41 (by exact fun h => h ((y_eq (i := 40) (by omega) (by omega)).mpr hD))) (fun e41 => ?_)
  refine Rn.run 1 (ls' := [_, _, _]) (st' := [_]) rfl ?_
  exact Rn.ret rfl rfl rfl rfl rfl rfl
theorem k186_ok {ex : xO} {d : Nat} {c : Nat → Nat → Int} {b : Bool} {n D T Mo : Nat} {kd bo wo L : Nat → Nat} (hP : pS n kd bo wo D T Mo L) (hm : mS c n kd bo wo D T Mo L) {j : Nat} (hj : j < 8) (h0 : n ≠ 0) (hl0 : L j ≠ 0) (hD : D < 40) : ∃ c', An ex (d + 20) 186 3 [xA 54, xI (j : Int)] (hp c b) (xI (L j : Nat), hp c' b) ∧ mDeed c c' n kd bo wo D T Mo L T Mo (lset L j 0) := by
  obtain ⟨ho, h40, hT, h9, hMo⟩ := hP
  obtain ⟨hM, d29, t2, l55, m1⟩ := hm
  have hn := ho.1
  have hT6 := p64 hn hT
  have h9j := h9 j hj
  have m0 := mS_mnd (Mo := Mo) (D := D) (T := T) (L := L) (kd := kd) (bo := bo) (wo := wo) hn ⟨hM, d29, t2, l55, m1⟩
  refine ⟨xup (mnd c D T Mo L) 55 (3 + j) ((0 : Nat) : Int), ?_, ?_⟩
  · refine Rn.run 1 (ls' := [_, _, _]) (st' := [_]) rfl ?_
    refine Rn.call rfl rfl rfl rfl rfl (c141) ?_
    refine Rn.neB rfl (fun e4 => ?_) (fun e4 => absurd e4 (by exact fun h => h (z_in' (m := 8) hj (by omega))))
    refine Rn.run 3 (ls' := [_, _, _]) (st' := [_, _]) rfl ?_
    refine Rn.ald rfl ⟨by decide, rfl⟩ (0) rfl (by decide) ?_
    rw [hM.1]
    refine Rn.eq0 rfl (fun e15 => absurd e15 (by exact z_ne0 h0 hn)) (fun e15 => ?_)
    refine Rn.run 5 (ls' := [_, _, _]) (st' := [_, _]) rfl ?_
    refine Rn.ald rfl ⟨by decide, rfl⟩ (3 + j) (x_wn (n := 3 + j) (by omega)) (by omega) ?_
    rw [l55 j hj]
    refine Rn.ne0 rfl (fun e26 => ?_) (fun e26 => absurd e26 (by exact fun h => h (fun z => hl0 ((y_eq0 (by omega)).mp z))))
    refine Rn.run 3 (ls' := [_, _, _]) (st' := [_, _]) rfl ?_
    refine Rn.ald rfl ⟨by decide, rfl⟩ (29) rfl (by decide) ?_
    rw [d29]
    refine Rn.run 1 (ls' := [_, _, _]) (st' := [_, _]) rfl ?_
    refine Rn.ne2 rfl (fun e41 => ?_) (fun e41 => absurd e41 (by exact fun h => h (fun z => absurd ((y_eq (i := 40) (by omega) (by omega)).mp z) (by omega))))
    refine Rn.run 1 (ls' := [_, _, _]) (st' := [_]) rfl ?_
    refine Rn.call rfl rfl rfl rfl rfl (c179 ⟨ho, h40, hT, h9, hMo⟩ ⟨hM, d29, t2, l55, m1⟩ hD) ?_
    refine Rn.run 5 (ls' := [_, _, _]) (st' := [_, _]) rfl ?_
    refine Rn.ald rfl ⟨by decide, rfl⟩ (3 + j) (x_wn (n := 3 + j) (by omega)) (by omega) ?_
    rw [m0.1.2.2.2.1 j hj]
    refine Rn.run 7 (ls' := [_, _, _]) (st' := [_, _, _]) rfl ?_
    refine Rn.ast rfl ⟨by decide, rfl⟩ (3 + j) (x_wn (n := 3 + j) (by omega)) (by omega) ?_
    refine Rn.run 1 (ls' := [_, _, _]) (st' := [_]) rfl ?_
    exact Rn.ret rfl rfl rfl rfl rfl rfl
  · exact mDeed_tr m0 (mS_lset hn hj m0.1) (fun a k h1 h2 => xup_n _ _ (by omega))
theorem g_prune {ex : xO} (a1 : Int) (h1 : w32 a1 = a1) : AgI ex 73 3 186 3 [xI a1] := by
  intro d c b hI
  obtain ⟨n, kd, bo, wo, D, T, Mo, L, hP, hc, hm⟩ := Inv_St hI
  have h40 := hP.2.1
  have hMo := hP.2.2.2.2
  by_cases q1 : 0 ≤ a1 ∧ a1 < 8
  · obtain ⟨j, hj, rfl⟩ : ∃ j : Nat, j < 8 ∧ a1 = (j : Int) := ⟨a1.toNat, by omega, by omega⟩
    by_cases h0 : n = 0
    · exact Ag_same hI (-4) (k73_st hP hc hj h0) (k186_st hP hm hj h0)
    · by_cases hl0 : L j = 0
      · exact Ag_same hI (-4) (k73_s2 hP hc hj h0 hl0) (k186_s2 hP hm hj h0 hl0)
      · by_cases hD : D = 40
        · exact Ag_same hI (-2) (k73_fu hP hc hj h0 hl0 hD) (k186_fu hP hm hj h0 hl0 hD)
        · obtain ⟨c2, r2, q2⟩ := k186_ok (ex := ex) (d := d) (b := b) hP (mS_fr (c' := cadd c D (xwith (c 8 D) j ((0 : Nat) : Int)) (T : Nat) (Mo : Nat)) (fun k => cadd_o _ _ _ _ _ (by omega)) hm) hj h0 hl0 (by omega)
          exact ⟨_, _, _, b, c2, b, k73_ok hP hc hj h0 hl0 (by omega), r2, rfl, Inv_deed hI hP hc hm (by omega) (pk_with hc.2.2.2.1 hj (by omega)) (lset_9 hP.2.2.2.1 (by omega)) hP.2.2.1 (by omega) q2⟩
  · exact Ag_same hI (-1) (k73_b1 h1 q1) (k186_b1 h1 q1)
