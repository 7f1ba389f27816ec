-- bough, death, mark
theorem k67_b1 {ex : xO} {d : Nat} {c : Nat → Nat → Int} {b : Bool}  {a1 a2 : Int} (h1 : w32 a1 = a1) (q1 : ¬ (0 ≤ a1 ∧ a1 < 8)) : An ex (d + 20) 67 3 [xA 0, xI a1, xI a2] (hp c b) (xI (-1), hp (c) b) := by
  refine Rn.run 2 (ls' := [_, _, _]) (st' := [_, _]) rfl ?_
  refine Rn.call rfl rfl rfl rfl rfl (c100) ?_
  refine Rn.eqB rfl (fun e6 => ?_) (fun e6 => absurd e6 (by exact (z_no (m := 8) h1 (by omega) q1)))
  refine Rn.run 1 (ls' := [_, _, _]) (st' := [_]) rfl ?_
  exact Rn.ret rfl rfl rfl rfl rfl rfl
theorem k67_b2 {ex : xO} {d : Nat} {c : Nat → Nat → Int} {b : Bool}  {a2 : Int} {j : Nat} (hj : j < 8) (h2 : w32 a2 = a2) (q2 : ¬ (0 ≤ a2 ∧ a2 < 3)) : An ex (d + 20) 67 3 [xA 0, xI (j : Int), xI a2] (hp c b) (xI (-1), hp (c) b) := by
  refine Rn.run 2 (ls' := [_, _, _]) (st' := [_, _]) rfl ?_
  refine Rn.call rfl rfl rfl rfl rfl (c100) ?_
  refine Rn.eqB rfl (fun e6 => absurd e6 (by exact fun h => h (z_in (m := 8) hj (by omega)))) (fun e6 => ?_)
  refine Rn.run 2 (ls' := [_, _, _]) (st' := [_, _]) rfl ?_
  refine Rn.call rfl rfl rfl rfl rfl (c100) ?_
  refine Rn.neB rfl (fun e14 => absurd e14 (by exact (z_no (m := 3) h2 (by omega) q2))) (fun e14 => ?_)
  refine Rn.run 1 (ls' := [_, _, _]) (st' := [_]) rfl ?_
  exact Rn.ret rfl rfl rfl rfl rfl rfl
theorem k67_st {ex : xO} {d : Nat} {c : Nat → Nat → Int} {b : Bool} {n D T Mo : Nat} {kd bo wo L : Nat → Nat} (hP : pS n kd bo wo D T Mo L) (hc : cS c b n kd bo wo D T Mo L) {j k : Nat} (hj : j < 8) (hk : k < 3) (h0 : n = 0) : An ex (d + 20) 67 3 [xA 0, xI (j : Int), xI (k : Int)] (hp c b) (xI (-4), hp (c) b) := by
  obtain ⟨ho, h40, hT, h9, hMo⟩ := hP
  obtain ⟨hC, d7, t9, hL, m10⟩ := hc
  have hn := ho.1
  have hT6 := p64 hn hT
  refine Rn.run 2 (ls' := [_, _, _]) (st' := [_, _]) rfl ?_
  refine Rn.call rfl rfl rfl rfl rfl (c100) ?_
  refine Rn.eqB rfl (fun e6 => absurd e6 (by exact fun h => h (z_in (m := 8) hj (by omega)))) (fun e6 => ?_)
  refine Rn.run 2 (ls' := [_, _, _]) (st' := [_, _]) rfl ?_
  refine Rn.call rfl rfl rfl rfl rfl (c100) ?_
  refine Rn.neB rfl (fun e14 => ?_) (fun e14 => absurd e14 (by exact fun h => h (z_in (m := 3) hk (by omega))))
  refine Rn.run 1 (ls' := [_, _, _]) (st' := [_]) rfl ?_
  refine Rn.getR rfl ⟨by decide, rfl, rfl⟩ (j := gid b) (rfl) ?_
  refine Rn.getI rfl (xS_g b) ?_
  rw [hC.1]
  refine Rn.ne0 rfl (fun e26 => absurd e26 (by rw [h0]; decide)) (fun e26 => ?_)
  refine Rn.run 1 (ls' := [_, _, _]) (st' := [_]) rfl ?_
  exact Rn.ret rfl rfl rfl rfl rfl rfl
theorem k67_0 {ex : xO} {d : Nat} {c : Nat → Nat → Int} {b : Bool} {n D T Mo : Nat} {kd bo wo L : Nat → Nat} (hP : pS n kd bo wo D T Mo L) (hc : cS c b n kd bo wo D T Mo L) {j : Nat} (hj : j < 8) (hk : 0 < 3) (h0 : n ≠ 0) : An ex (d + 20) 67 3 [xA 0, xI (j : Int), xI ((0 : Nat) : Int)] (hp c b) (xI 1, hp (xup c 0 10 (L j : Nat)) b) := by
  obtain ⟨ho, h40, hT, h9, hMo⟩ := hP
  obtain ⟨hC, d7, t9, hL, m10⟩ := hc
  have hn := ho.1
  have hT6 := p64 hn hT
  refine Rn.run 2 (ls' := [_, _, _]) (st' := [_, _]) rfl ?_
  refine Rn.call rfl rfl rfl rfl rfl (c100) ?_
  refine Rn.eqB rfl (fun e6 => absurd e6 (by exact fun h => h (z_in (m := 8) hj (by omega)))) (fun e6 => ?_)
  refine Rn.run 2 (ls' := [_, _, _]) (st' := [_, _]) rfl ?_
  refine Rn.call rfl rfl rfl rfl rfl (c100) ?_
  refine Rn.neB rfl (fun e14 => ?_) (fun e14 => absurd e14 (by exact fun h => h (z_in (m := 3) hk (by omega))))
  refine Rn.run 1 (ls' := [_, _, _]) (st' := [_]) rfl ?_
  refine Rn.getR rfl ⟨by decide, rfl, rfl⟩ (j := gid b) (rfl) ?_
  refine Rn.getI rfl (xS_g b) ?_
  rw [hC.1]
  refine Rn.ne0 rfl (fun e26 => ?_) (fun e26 => absurd e26 (by exact fun h => h (z_ne0 h0 hn)))
  refine Rn.run 1 (ls' := [_, _, _]) (st' := [_]) rfl ?_
  refine Rn.ne0 rfl (fun e33 => absurd e33 (by decide)) (fun e33 => ?_)
  refine Rn.run 3 (ls' := [_, _, _]) (st' := [_, _]) rfl ?_
  refine Rn.call rfl rfl rfl rfl rfl (c10 d7 h40) ?_
  refine Rn.run 1 (ls' := [_, _, _]) (st' := [_, _, _]) rfl ?_
  refine Rn.call rfl rfl rfl rfl rfl (c0 hj) ?_
  rw [hL j hj]
  refine Rn.call rfl rfl rfl rfl rfl (c102) ?_
  exact Rn.ret rfl rfl rfl rfl rfl rfl
theorem k67_1 {ex : xO} {d : Nat} {c : Nat → Nat → Int} {b : Bool} {n D T Mo : Nat} {kd bo wo L : Nat → Nat} (hP : pS n kd bo wo D T Mo L) (hc : cS c b n kd bo wo D T Mo L) {j : Nat} (hj : j < 8) (hk : 1 < 3) (h0 : n ≠ 0) : An ex (d + 20) 67 3 [xA 0, xI (j : Int), xI ((1 : Nat) : Int)] (hp c b) (xI 1, hp (xup c 0 10 (bset (fun i => bo i == j) n : Nat)) b) := by
  obtain ⟨ho, h40, hT, h9, hMo⟩ := hP
  obtain ⟨hC, d7, t9, hL, m10⟩ := hc
  have hn := ho.1
  have hT6 := p64 hn hT
  refine Rn.run 2 (ls' := [_, _, _]) (st' := [_, _]) rfl ?_
  refine Rn.call rfl rfl rfl rfl rfl (c100) ?_
  refine Rn.eqB rfl (fun e6 => absurd e6 (by exact fun h => h (z_in (m := 8) hj (by omega)))) (fun e6 => ?_)
  refine Rn.run 2 (ls' := [_, _, _]) (st' := [_, _]) rfl ?_
  refine Rn.call rfl rfl rfl rfl rfl (c100) ?_
  refine Rn.neB rfl (fun e14 => ?_) (fun e14 => absurd e14 (by exact fun h => h (z_in (m := 3) hk (by omega))))
  refine Rn.run 1 (ls' := [_, _, _]) (st' := [_]) rfl ?_
  refine Rn.getR rfl ⟨by decide, rfl, rfl⟩ (j := gid b) (rfl) ?_
  refine Rn.getI rfl (xS_g b) ?_
  rw [hC.1]
  refine Rn.ne0 rfl (fun e26 => ?_) (fun e26 => absurd e26 (by exact fun h => h (z_ne0 h0 hn)))
  refine Rn.run 1 (ls' := [_, _, _]) (st' := [_]) rfl ?_
  refine Rn.ne0 rfl (fun e33 => ?_) (fun e33 => absurd e33 (by decide))
  refine Rn.run 3 (ls' := [_, _, _]) (st' := [_, _, _]) rfl ?_
  refine Rn.ne2 rfl (fun e55 => absurd e55 (by decide)) (fun e55 => ?_)
  refine Rn.run 1 (ls' := [_, _, _]) (st' := [_, _]) rfl ?_
  refine Rn.getR rfl ⟨by decide, rfl, rfl⟩ (j := gid b) (rfl) ?_
  refine Rn.run 1 (ls' := [_, _, _]) (st' := [_, _, _]) rfl ?_
  refine Rn.callV rfl (x_sv (xS_g b)) rfl rfl rfl (c19 ho hC hj) ?_
  refine Rn.run 1 (ls' := [_, _, _]) (st' := [_, _]) rfl ?_
  refine Rn.call rfl rfl rfl rfl rfl (c102) ?_
  exact Rn.ret rfl rfl rfl rfl rfl rfl
theorem k67_2 {ex : xO} {d : Nat} {c : Nat → Nat → Int} {b : Bool} {n D T Mo : Nat} {kd bo wo L : Nat → Nat} (hP : pS n kd bo wo D T Mo L) (hc : cS c b n kd bo wo D T Mo L) {j : Nat} (hj : j < 8) (hk : 2 < 3) (h0 : n ≠ 0) : An ex (d + 20) 67 3 [xA 0, xI (j : Int), xI ((2 : Nat) : Int)] (hp c b) (xI 1, hp (xup c 0 10 (hnt kd bo n T j : Nat)) b) := by
  obtain ⟨ho, h40, hT, h9, hMo⟩ := hP
  obtain ⟨hC, d7, t9, hL, m10⟩ := hc
  have hn := ho.1
  have hT6 := p64 hn hT
  refine Rn.run 2 (ls' := [_, _, _]) (st' := [_, _]) rfl ?_
  refine Rn.call rfl rfl rfl rfl rfl (c100) ?_
  refine Rn.eqB rfl (fun e6 => absurd e6 (by exact fun h => h (z_in (m := 8) hj (by omega)))) (fun e6 => ?_)
  refine Rn.run 2 (ls' := [_, _, _]) (st' := [_, _]) rfl ?_
  refine Rn.call rfl rfl rfl rfl rfl (c100) ?_
  refine Rn.neB rfl (fun e14 => ?_) (fun e14 => absurd e14 (by exact fun h => h (z_in (m := 3) hk (by omega))))
  refine Rn.run 1 (ls' := [_, _, _]) (st' := [_]) rfl ?_
  refine Rn.getR rfl ⟨by decide, rfl, rfl⟩ (j := gid b) (rfl) ?_
  refine Rn.getI rfl (xS_g b) ?_
  rw [hC.1]
  refine Rn.ne0 rfl (fun e26 => ?_) (fun e26 => absurd e26 (by exact fun h => h (z_ne0 h0 hn)))
  refine Rn.run 1 (ls' := [_, _, _]) (st' := [_]) rfl ?_
  refine Rn.ne0 rfl (fun e33 => ?_) (fun e33 => absurd e33 (by decide))
  refine Rn.run 3 (ls' := [_, _, _]) (st' := [_, _, _]) rfl ?_
  refine Rn.ne2 rfl (fun e55 => ?_) (fun e55 => absurd e55 (by decide))
  refine Rn.run 1 (ls' := [_, _, _]) (st' := [_, _]) rfl ?_
  refine Rn.getR rfl ⟨by decide, rfl, rfl⟩ (j := gid b) (rfl) ?_
  refine Rn.run 3 (ls' := [_, _, _]) (st' := [_, _, _, _]) rfl ?_
  refine Rn.call rfl rfl rfl rfl rfl (c11 d7 h40) ?_
  rw [t9]
  refine Rn.callV rfl (x_sv (xS_g b)) rfl rfl rfl (c23 ho hC hT6 hj) ?_
  refine Rn.call rfl rfl rfl rfl rfl (c102) ?_
  exact Rn.ret rfl rfl rfl rfl rfl rfl
theorem k173_b1 {ex : xO} {d : Nat} {c : Nat → Nat → Int} {b : Bool}  {a1 a2 : Int} (h1 : w32 a1 = a1) (q1 : ¬ (0 ≤ a1 ∧ a1 < 8)) : An ex (d + 20) 173 3 [xA 54, xI a1, xI a2] (hp c b) (xI (-1), hp (c) b) := by
  refine Rn.run 1 (ls' := [_, _, _]) (st' := [_]) rfl ?_
  refine Rn.call rfl rfl rfl rfl rfl (c141) ?_
  refine Rn.eqB rfl (fun e4 => ?_) (fun e4 => absurd e4 (by exact (z_no' (m := 8) h1 q1)))
  refine Rn.run 1 (ls' := [_, _, _]) (st' := [_]) rfl ?_
  exact Rn.ret rfl rfl rfl rfl rfl rfl
theorem k173_b2 {ex : xO} {d : Nat} {c : Nat → Nat → Int} {b : Bool}  {a2 : Int} {j : Nat} (hj : j < 8) (h2 : w32 a2 = a2) (q2 : ¬ (0 ≤ a2 ∧ a2 < 3)) : An ex (d + 20) 173 3 [xA 54, xI (j : Int), xI a2] (hp c b) (xI (-1), hp (c) b) := by
  refine Rn.run 1 (ls' := [_, _, _]) (st' := [_]) rfl ?_
  refine Rn.call rfl rfl rfl rfl rfl (c141) ?_
  refine Rn.eqB rfl (fun e4 => absurd e4 (by exact fun h => h (z_in' (m := 8) hj (by omega)))) (fun e4 => ?_)
  refine Rn.run 4 (ls' := [_, _, _]) (st' := [_, _, _]) rfl ?_
  refine Rn.call rfl rfl rfl rfl rfl (c131) ?_
  refine Rn.neB rfl (fun e16 => absurd e16 (by exact (z_no9 (m := 2) h2 (by omega) q2))) (fun e16 => ?_)
  refine Rn.run 1 (ls' := [_, _, _]) (st' := [_]) rfl ?_
  exact Rn.ret rfl rfl rfl rfl rfl rfl
theorem k173_st {ex : xO} {d : Nat} {c : Nat → Nat → Int} {b : Bool} {n D T Mo : Nat} {kd bo wo L : Nat → Nat} (hP : pS n kd bo wo D T Mo L) (hm : mS c n kd bo wo D T Mo L) {j k : Nat} (hj : j < 8) (hk : k < 3) (h0 : n = 0) : An ex (d + 20) 173 3 [xA 54, xI (j : Int), xI (k : Int)] (hp c b) (xI (-4), hp (c) b) := by
  obtain ⟨ho, h40, hT, h9, hMo⟩ := hP
  obtain ⟨hM, d29, t2, l55, m1⟩ := hm
  have hn := ho.1
  have hT6 := p64 hn hT
  refine Rn.run 1 (ls' := [_, _, _]) (st' := [_]) rfl ?_
  refine Rn.call rfl rfl rfl rfl rfl (c141) ?_
  refine Rn.eqB rfl (fun e4 => absurd e4 (by exact fun h => h (z_in' (m := 8) hj (by omega)))) (fun e4 => ?_)
  refine Rn.run 4 (ls' := [_, _, _]) (st' := [_, _, _]) rfl ?_
  refine Rn.call rfl rfl rfl rfl rfl (c131) ?_
  refine Rn.neB rfl (fun e16 => ?_) (fun e16 => absurd e16 (by exact fun h => h (z_in9 (m := 2) (by omega) (by omega))))
  refine Rn.run 3 (ls' := [_, _, _]) (st' := [_, _]) rfl ?_
  refine Rn.ald rfl ⟨by decide, rfl⟩ (0) rfl (by decide) ?_
  rw [hM.1]
  refine Rn.ne0 rfl (fun e27 => absurd e27 (by rw [h0]; decide)) (fun e27 => ?_)
  refine Rn.run 1 (ls' := [_, _, _]) (st' := [_]) rfl ?_
  exact Rn.ret rfl rfl rfl rfl rfl rfl
theorem k173_0 {ex : xO} {d : Nat} {c : Nat → Nat → Int} {b : Bool} {n D T Mo : Nat} {kd bo wo L : Nat → Nat} (hP : pS n kd bo wo D T Mo L) (hm : mS c n kd bo wo D T Mo L) {j : Nat} (hj : j < 8) (hk : 0 < 3) (h0 : n ≠ 0) : An ex (d + 20) 173 3 [xA 54, xI (j : Int), xI ((0 : Nat) : Int)] (hp c b) (xI 1, hp (xup c 54 7 (L j : Nat)) b) := by
  obtain ⟨ho, h40, hT, h9, hMo⟩ := hP
  obtain ⟨hM, d29, t2, l55, m1⟩ := hm
  have hn := ho.1
  have hT6 := p64 hn hT
  refine Rn.run 1 (ls' := [_, _, _]) (st' := [_]) rfl ?_
  refine Rn.call rfl rfl rfl rfl rfl (c141) ?_
  refine Rn.eqB rfl (fun e4 => absurd e4 (by exact fun h => h (z_in' (m := 8) hj (by omega)))) (fun e4 => ?_)
  refine Rn.run 4 (ls' := [_, _, _]) (st' := [_, _, _]) rfl ?_
  refine Rn.call rfl rfl rfl rfl rfl (c131) ?_
  refine Rn.neB rfl (fun e16 => ?_) (fun e16 => absurd e16 (by exact fun h => h (z_in9 (m := 2) (by omega) (by omega))))
  refine Rn.run 3 (ls' := [_, _, _]) (st' := [_, _]) rfl ?_
  refine Rn.ald rfl ⟨by decide, rfl⟩ (0) rfl (by decide) ?_
  rw [hM.1]
  refine Rn.ne0 rfl (fun e27 => ?_) (fun e27 => absurd e27 (by exact fun h => h (z_ne0 h0 hn)))
  refine Rn.run 2 (ls' := [_, _, _]) (st' := [_, _]) rfl ?_
  refine Rn.ne0 rfl (fun e35 => absurd e35 (by decide)) (fun e35 => ?_)
  refine Rn.run 5 (ls' := [_, _, _]) (st' := [_, _, _]) rfl ?_
  refine Rn.ald rfl ⟨by decide, rfl⟩ (3 + j) (x_wn (n := 3 + j) (by omega)) (by omega) ?_
  rw [l55 j hj]
  refine Rn.run 1 (ls' := [_, _, _]) (st' := [_, _]) rfl ?_
  refine Rn.call rfl rfl rfl rfl rfl (c135) ?_
  exact Rn.ret rfl rfl rfl rfl rfl rfl
theorem k173_1 {ex : xO} {d : Nat} {c : Nat → Nat → Int} {b : Bool} {n D T Mo : Nat} {kd bo wo L : Nat → Nat} (hP : pS n kd bo wo D T Mo L) (hm : mS c n kd bo wo D T Mo L) {j : Nat} (hj : j < 8) (hk : 1 < 3) (h0 : n ≠ 0) : An ex (d + 20) 173 3 [xA 54, xI (j : Int), xI ((1 : Nat) : Int)] (hp c b) (xI 1, hp (xup c 54 7 (bset (fun i => bo i == j) n : Nat)) b) := by
  obtain ⟨ho, h40, hT, h9, hMo⟩ := hP
  obtain ⟨hM, d29, t2, l55, m1⟩ := hm
  have hn := ho.1
  have hT6 := p64 hn hT
  refine Rn.run 1 (ls' := [_, _, _]) (st' := [_]) rfl ?_
  refine Rn.call rfl rfl rfl rfl rfl (c141) ?_
  refine Rn.eqB rfl (fun e4 => absurd e4 (by exact fun h => h (z_in' (m := 8) hj (by omega)))) (fun e4 => ?_)
  refine Rn.run 4 (ls' := [_, _, _]) (st' := [_, _, _]) rfl ?_
  refine Rn.call rfl rfl rfl rfl rfl (c131) ?_
  refine Rn.neB rfl (fun e16 => ?_) (fun e16 => absurd e16 (by exact fun h => h (z_in9 (m := 2) (by omega) (by omega))))
  refine Rn.run 3 (ls' := [_, _, _]) (st' := [_, _]) rfl ?_
  refine Rn.ald rfl ⟨by decide, rfl⟩ (0) rfl (by decide) ?_
  rw [hM.1]
  refine Rn.ne0 rfl (fun e27 => ?_) (fun e27 => absurd e27 (by exact fun h => h (z_ne0 h0 hn)))
  refine Rn.run 2 (ls' := [_, _, _]) (st' := [_, _]) rfl ?_
  refine Rn.ne0 rfl (fun e35 => ?_) (fun e35 => absurd e35 (by decide))
  refine Rn.run 2 (ls' := [_, _, _]) (st' := [_, _, _]) rfl ?_
  refine Rn.ne2 rfl (fun e51 => absurd e51 (by decide)) (fun e51 => ?_)
  refine Rn.run 2 (ls' := [_, _, _]) (st' := [_, _, _]) rfl ?_
  refine Rn.call rfl rfl rfl rfl rfl (c172 ho hM hj) ?_
  refine Rn.run 1 (ls' := [_, _, _]) (st' := [_, _]) rfl ?_
  refine Rn.call rfl rfl rfl rfl rfl (c135) ?_
  exact Rn.ret rfl rfl rfl rfl rfl rfl
theorem k173_2 {ex : xO} {d : Nat} {c : Nat → Nat → Int} {b : Bool} {n D T Mo : Nat} {kd bo wo L : Nat → Nat} (hP : pS n kd bo wo D T Mo L) (hm : mS c n kd bo wo D T Mo L) {j : Nat} (hj : j < 8) (hk : 2 < 3) (h0 : n ≠ 0) : An ex (d + 20) 173 3 [xA 54, xI (j : Int), xI ((2 : Nat) : Int)] (hp c b) (xI 1, hp (xup c 54 7 (hnt kd bo n T j : Nat)) b) := by
  obtain ⟨ho, h40, hT, h9, hMo⟩ := hP
  obtain ⟨hM, d29, t2, l55, m1⟩ := hm
  have hn := ho.1
  have hT6 := p64 hn hT
  refine Rn.run 1 (ls' := [_, _, _]) (st' := [_]) rfl ?_
  refine Rn.call rfl rfl rfl rfl rfl (c141) ?_
  refine Rn.eqB rfl (fun e4 => absurd e4 (by exact fun h => h (z_in' (m := 8) hj (by omega)))) (fun e4 => ?_)
  refine Rn.run 4 (ls' := [_, _, _]) (st' := [_, _, _]) rfl ?_
  refine Rn.call rfl rfl rfl rfl rfl (c131) ?_
  refine Rn.neB rfl (fun e16 => ?_) (fun e16 => absurd e16 (by exact fun h => h (z_in9 (m := 2) (by omega) (by omega))))
  refine Rn.run 3 (ls' := [_, _, _]) (st' := [_, _]) rfl ?_
  refine Rn.ald rfl ⟨by decide, rfl⟩ (0) rfl (by decide) ?_
  rw [hM.1]
  refine Rn.ne0 rfl (fun e27 => ?_) (fun e27 => absurd e27 (by exact fun h => h (z_ne0 h0 hn)))
  refine Rn.run 2 (ls' := [_, _, _]) (st' := [_, _]) rfl ?_
  refine Rn.ne0 rfl (fun e35 => ?_) (fun e35 => absurd e35 (by decide))
  refine Rn.run 2 (ls' := [_, _, _]) (st' := [_, _, _]) rfl ?_
  refine Rn.ne2 rfl (fun e51 => ?_) (fun e51 => absurd e51 (by decide))
  refine Rn.run 5 (ls' := [_, _, _]) (st' := [_, _, _, _, _]) rfl ?_
  refine Rn.ald rfl ⟨by decide, rfl⟩ (2) rfl (by decide) ?_
  rw [t2]
  refine Rn.call rfl rfl rfl rfl rfl (c167 ho hM hT6 hj) ?_
  refine Rn.call rfl rfl rfl rfl rfl (c135) ?_
  exact Rn.ret rfl rfl rfl rfl rfl rfl
theorem g_bough {ex : xO} (a1 a2 : Int) (h1 : w32 a1 = a1) (h2 : w32 a2 = a2) : AgI ex 67 3 173 3 [xI a1, xI a2] := by
  intro d c b hI
  obtain ⟨n, kd, bo, wo, D, T, Mo, L, hP, hc, hm⟩ := Inv_St hI
  by_cases q1 : 0 ≤ a1 ∧ a1 < 8
  · obtain ⟨j, hj, rfl⟩ : ∃ j : Nat, j < 8 ∧ a1 = (j : Int) := ⟨a1.toNat, by omega, by omega⟩
    by_cases q2 : 0 ≤ a2 ∧ a2 < 3
    · obtain ⟨k, hk, rfl⟩ : ∃ k : Nat, k < 3 ∧ a2 = (k : Int) := ⟨a2.toNat, by omega, by omega⟩
      by_cases h0 : n = 0
      · exact Ag_same hI (-4) (k67_st hP hc hj hk h0) (k173_st hP hm hj hk h0)
      · have fr : ∀ v k, xup c 0 10 v 55 k = c 55 k := fun v k => xup_n _ _ (Or.inl (by decide))
        rcases (by omega : k = 0 ∨ k = 1 ∨ k = 2) with rfl | rfl | rfl
        · exact Ag_ask hI 1 _ (k67_0 hP hc hj hk h0) (k173_0 hP (mS_fr (fr _) hm) hj hk h0) (fun _ _ _ => rfl)
        · exact Ag_ask hI 1 _ (k67_1 hP hc hj hk h0) (k173_1 hP (mS_fr (fr _) hm) hj hk h0) (fun _ _ _ => rfl)
        · exact Ag_ask hI 1 _ (k67_2 hP hc hj hk h0) (k173_2 hP (mS_fr (fr _) hm) hj hk h0) (fun _ _ _ => rfl)
    · exact Ag_same hI (-1) (k67_b2 hj h2 q2) (k173_b2 hj h2 q2)
  · exact Ag_same hI (-1) (k67_b1 h1 q1) (k173_b1 h1 q1)
def fct (kd bo wo : Nat → Nat) (n T : Nat) (L : Nat → Nat) (i w : Nat) : Nat := if w = 0 then kd i else if w = 1 then bo i else if w = 2 then wo i else if w = 3 then (if T.testBit i then 1 else 0) else if w = 4 then (if can kd n T i = true then 1 else 0) else ans (kd i) (wo i) (L (bo i))
theorem c112 {ex : xO} {d : Nat} {c : Nat → Nat → Int} {b : Bool} {n D T Mo : Nat} {kd bo wo L : Nat → Nat} (hP : pS n kd bo wo D T Mo L) (hc : cS c b n kd bo wo D T Mo L) {i : Nat} (hi : i < n) : An ex (d + 1) 112 2 [xA 0, xI (i : Int)] (hp c b) (xI (L (bo i) : Nat), hp (c) b) := by
  obtain ⟨ho, h40, hT, h9, hMo⟩ := hP
  obtain ⟨hC, d7, t9, hL, m10⟩ := hc
  have hn := ho.1
  have hT6 := p64 hn hT
  have hk := ho.2 i hi
  refine Rn.run 2 (ls' := [_, _]) (st' := [_]) rfl ?_
  refine Rn.call rfl rfl rfl rfl rfl (c10 d7 h40) ?_
  refine Rn.run 1 (ls' := [_, _]) (st' := [_, _]) rfl ?_
  refine Rn.getR rfl ⟨by decide, rfl, rfl⟩ (j := gid b) (rfl) ?_
  refine Rn.getR rfl (xS_g b) (xR_g b).2.1 ?_
  refine Rn.run 1 (ls' := [_, _]) (st' := [_, _, _]) rfl ?_
  refine Rn.ald rfl (xS_g2 b) (i) (x_wn (by omega)) (by omega) ?_
  rw [(hC.2.2 i hi).2.1]
  refine Rn.call rfl rfl rfl rfl rfl (c0 (by omega)) ?_
  rw [hL _ (by omega)]
  exact Rn.ret rfl rfl rfl rfl rfl rfl
theorem c113 {ex : xO} {d : Nat} {c : Nat → Nat → Int} {b : Bool} {n D T Mo : Nat} {kd bo wo L : Nat → Nat} (hP : pS n kd bo wo D T Mo L) (hc : cS c b n kd bo wo D T Mo L) {i w : Nat} (hi : i < n) (hw : w < 6) : An ex (d + 5) 113 3 [xA 0, xI (i : Int), xI (w : Int)] (hp c b) (xI (fct kd bo wo n T L i w : Nat), hp c b) := by
  obtain ⟨ho, h40, hT, h9, hMo⟩ := hP
  obtain ⟨hC, d7, t9, hL, m10⟩ := hc
  have hn := ho.1
  have hT6 := p64 hn hT
  have hk := ho.2 i hi
  rcases (by omega : w = 0 ∨ w = 1 ∨ w = 2 ∨ w = 3 ∨ w = 4 ∨ w = 5) with rfl | rfl | rfl | rfl | rfl | rfl
  · refine Rn.run 1 (ls' := [_, _, _]) (st' := [_]) rfl ?_
    refine Rn.run 1 rfl ?_
    refine Rn.run 1 (ls' := [_, _, _]) (st' := [_]) rfl ?_
    refine Rn.getR rfl ⟨by decide, rfl, rfl⟩ (j := gid b) (rfl) ?_
    refine Rn.getR rfl (xS_g b) (xR_g b).1 ?_
    refine Rn.run 1 (ls' := [_, _, _]) (st' := [_, _]) rfl ?_
    refine Rn.ald rfl (xS_g1 b) (i) (x_wn (by omega)) (by omega) ?_
    rw [(hC.2.2 i hi).1]
    refine Rn.ret rfl rfl rfl rfl ?_ rfl
    rfl
  · refine Rn.run 1 (ls' := [_, _, _]) (st' := [_]) rfl ?_
    refine Rn.run 1 rfl ?_
    refine Rn.run 1 (ls' := [_, _, _]) (st' := [_]) rfl ?_
    refine Rn.getR rfl ⟨by decide, rfl, rfl⟩ (j := gid b) (rfl) ?_
    refine Rn.getR rfl (xS_g b) (xR_g b).2.1 ?_
    refine Rn.run 1 (ls' := [_, _, _]) (st' := [_, _]) rfl ?_
    refine Rn.ald rfl (xS_g2 b) (i) (x_wn (by omega)) (by omega) ?_
    rw [(hC.2.2 i hi).2.1]
    refine Rn.ret rfl rfl rfl rfl ?_ rfl
    rfl
  · refine Rn.run 1 (ls' := [_, _, _]) (st' := [_]) rfl ?_
    refine Rn.run 1 rfl ?_
    refine Rn.run 1 (ls' := [_, _, _]) (st' := [_]) rfl ?_
    refine Rn.getR rfl ⟨by decide, rfl, rfl⟩ (j := gid b) (rfl) ?_
    refine Rn.getR rfl (xS_g b) (xR_g b).2.2 ?_
    refine Rn.run 1 (ls' := [_, _, _]) (st' := [_, _]) rfl ?_
    refine Rn.ald rfl (xS_g3 b) (i) (x_wn (by omega)) (by omega) ?_
    rw [(hC.2.2 i hi).2.2]
    refine Rn.ret rfl rfl rfl rfl ?_ rfl
    rfl
  · refine Rn.run 1 (ls' := [_, _, _]) (st' := [_]) rfl ?_
    refine Rn.run 1 rfl ?_
    refine Rn.run 2 (ls' := [_, _, _]) (st' := [_]) rfl ?_
    refine Rn.call rfl rfl rfl rfl rfl (c11 d7 h40) ?_
    rw [t9]
    refine Rn.run 4 (ls' := [_, _, _]) (st' := [_]) rfl ?_
    rw [bt8_has T hT6 i (by omega)]
    refine Rn.ret rfl rfl rfl rfl ?_ rfl
    rfl
  · refine Rn.run 1 (ls' := [_, _, _]) (st' := [_]) rfl ?_
    refine Rn.run 1 rfl ?_
    refine Rn.run 1 (ls' := [_, _, _]) (st' := [_]) rfl ?_
    refine Rn.getR rfl ⟨by decide, rfl, rfl⟩ (j := gid b) (rfl) ?_
    refine Rn.run 3 (ls' := [_, _, _]) (st' := [_, _, _]) rfl ?_
    refine Rn.call rfl rfl rfl rfl rfl (c11 d7 h40) ?_
    rw [t9]
    refine Rn.callV rfl (x_sv (xS_g b)) rfl rfl rfl (c21 ho hC hi hT6) ?_
    refine Rn.eqB rfl (fun e93 => ?_) (fun e93 => ?_)
    · refine Rn.run 1 (ls' := [_, _, _]) (st' := [_]) rfl ?_
      first | exact Rn.ret rfl rfl rfl rfl (congrArg (fun z : Nat => xI (z : Int)) (if_neg e93).symm) rfl | exact Rn.ret rfl rfl rfl rfl (congrArg (fun z : Nat => xI (z : Int)) (if_pos e93).symm) rfl
    · refine Rn.run 2 (ls' := [_, _, _]) (st' := [_]) rfl ?_
      first | exact Rn.ret rfl rfl rfl rfl (congrArg (fun z : Nat => xI (z : Int)) (if_neg e93).symm) rfl | exact Rn.ret rfl rfl rfl rfl (congrArg (fun z : Nat => xI (z : Int)) (if_pos e93).symm) rfl
  · refine Rn.run 1 (ls' := [_, _, _]) (st' := [_]) rfl ?_
    refine Rn.run 1 rfl ?_
    refine Rn.run 1 (ls' := [_, _, _]) (st' := [_]) rfl ?_
    refine Rn.getR rfl ⟨by decide, rfl, rfl⟩ (j := gid b) (rfl) ?_
    refine Rn.run 3 (ls' := [_, _, _]) (st' := [_, _, _, _]) rfl ?_
    refine Rn.call rfl rfl rfl rfl rfl (c112 ⟨ho, h40, hT, h9, hMo⟩ ⟨hC, d7, t9, hL, m10⟩ hi) ?_
    refine Rn.callV rfl (x_sv (xS_g b)) rfl rfl rfl (c24 ho hC hi (h9 _ (by omega))) ?_
    refine Rn.ret rfl rfl rfl rfl ?_ rfl
    rfl
theorem c174 {ex : xO} {d : Nat} {c : Nat → Nat → Int} {b : Bool} {n D T Mo : Nat} {kd bo wo L : Nat → Nat} (hP : pS n kd bo wo D T Mo L) (hm : mS c n kd bo wo D T Mo L) {i w : Nat} (hi : i < n) (hw : w < 6) : An ex (d + 5) 174 3 [xA 54, xI (i : Int), xI (w : Int)] (hp c b) (xI (fct kd bo wo n T L i w : Nat), hp c b) := by
  obtain ⟨ho, h40, hT, h9, hMo⟩ := hP
  obtain ⟨hM, d29, t2, l55, m1⟩ := hm
  have hn := ho.1
  have hT6 := p64 hn hT
  have hk := ho.2 i hi
  rcases (by omega : w = 0 ∨ w = 1 ∨ w = 2 ∨ w = 3 ∨ w = 4 ∨ w = 5) with rfl | rfl | rfl | rfl | rfl | rfl
  · refine Rn.run 1 (ls' := [_, _, _]) (st' := [_]) rfl ?_
    refine Rn.run 1 rfl ?_
    refine Rn.run 5 (ls' := [_, _, _]) (st' := [_, _]) rfl ?_
    refine Rn.ald rfl ⟨by decide, rfl⟩ (11 + i) (x_wn (n := 11 + i) (by omega)) (by omega) ?_
    rw [(hM.2 i hi).1]
    refine Rn.ret rfl rfl rfl rfl ?_ rfl
    rfl
  · refine Rn.run 1 (ls' := [_, _, _]) (st' := [_]) rfl ?_
    refine Rn.run 1 rfl ?_
    refine Rn.run 5 (ls' := [_, _, _]) (st' := [_, _]) rfl ?_
    refine Rn.ald rfl ⟨by decide, rfl⟩ (17 + i) (x_wn (n := 17 + i) (by omega)) (by omega) ?_
    rw [(hM.2 i hi).2.1]
    refine Rn.ret rfl rfl rfl rfl ?_ rfl
    rfl
  · refine Rn.run 1 (ls' := [_, _, _]) (st' := [_]) rfl ?_
    refine Rn.run 1 rfl ?_
    refine Rn.run 5 (ls' := [_, _, _]) (st' := [_, _]) rfl ?_
    refine Rn.ald rfl ⟨by decide, rfl⟩ (23 + i) (x_wn (n := 23 + i) (by omega)) (by omega) ?_
    rw [(hM.2 i hi).2.2]
    refine Rn.ret rfl rfl rfl rfl ?_ rfl
    rfl
  · refine Rn.run 1 (ls' := [_, _, _]) (st' := [_]) rfl ?_
    refine Rn.run 1 rfl ?_
    refine Rn.run 3 (ls' := [_, _, _]) (st' := [_, _]) rfl ?_
    refine Rn.ald rfl ⟨by decide, rfl⟩ (2) rfl (by decide) ?_
    rw [t2]
    refine Rn.run 4 (ls' := [_, _, _]) (st' := [_]) rfl ?_
    rw [bt8_has T hT6 i (by omega)]
    refine Rn.ret rfl rfl rfl rfl ?_ rfl
    rfl
  · refine Rn.run 1 (ls' := [_, _, _]) (st' := [_]) rfl ?_
    refine Rn.run 1 rfl ?_
    refine Rn.run 5 (ls' := [_, _, _]) (st' := [_, _, _, _]) rfl ?_
    refine Rn.ald rfl ⟨by decide, rfl⟩ (2) rfl (by decide) ?_
    rw [t2]
    refine Rn.call rfl rfl rfl rfl rfl (c165 ho hM hi hT) ?_
    refine Rn.eqB rfl (fun e88 => ?_) (fun e88 => ?_)
    · refine Rn.run 1 (ls' := [_, _, _]) (st' := [_]) rfl ?_
      first | exact Rn.ret rfl rfl rfl rfl (congrArg (fun z : Nat => xI (z : Int)) (if_neg e88).symm) rfl | exact Rn.ret rfl rfl rfl rfl (congrArg (fun z : Nat => xI (z : Int)) (if_pos e88).symm) rfl
    · refine Rn.run 2 (ls' := [_, _, _]) (st' := [_]) rfl ?_
      first | exact Rn.ret rfl rfl rfl rfl (congrArg (fun z : Nat => xI (z : Int)) (if_neg e88).symm) rfl | exact Rn.ret rfl rfl rfl rfl (congrArg (fun z : Nat => xI (z : Int)) (if_pos e88).symm) rfl
  · refine Rn.run 1 (ls' := [_, _, _]) (st' := [_]) rfl ?_
    refine Rn.run 1 rfl ?_
    refine Rn.run 10 (ls' := [_, _, _]) (st' := [_, _, _, _, _, _]) rfl ?_
    refine Rn.ald rfl ⟨by decide, rfl⟩ (17 + i) (x_wn (n := 17 + i) (by omega)) (by omega) ?_
    rw [(hM.2 i hi).2.1]
    refine Rn.run 1 (ls' := [_, _, _]) (st' := [_, _, _, _]) rfl ?_
    refine Rn.ald rfl ⟨by decide, rfl⟩ (3 + (bo i)) (x_wn (n := 3 + (bo i)) (by omega)) (by omega) ?_
    rw [l55 _ (by omega)]
    refine Rn.call rfl rfl rfl rfl rfl (c162 ho hM hi (h9 _ (by omega))) ?_
    refine Rn.ret rfl rfl rfl rfl ?_ rfl
    rfl
theorem k68_b1 {ex : xO} {d : Nat} {c : Nat → Nat → Int} {b : Bool} {n D T Mo : Nat} {kd bo wo L : Nat → Nat} (hP : pS n kd bo wo D T Mo L) (hc : cS c b n kd bo wo D T Mo L) {a1 a2 : Int} (h1 : w32 a1 = a1) (q1 : ¬ (0 ≤ a1 ∧ a1 < n)) : An ex (d + 20) 68 3 [xA 0, xI a1, xI a2] (hp c b) (xI (-1), hp (c) b) := by
  obtain ⟨ho, h40, hT, h9, hMo⟩ := hP
  obtain ⟨hC, d7, t9, hL, m10⟩ := hc
  have hn := ho.1
  have hT6 := p64 hn hT
  refine Rn.run 2 (ls' := [_, _, _]) (st' := [_, _]) rfl ?_
  refine Rn.getR rfl ⟨by decide, rfl, rfl⟩ (j := gid b) (rfl) ?_
  refine Rn.getI rfl (xS_g b) ?_
  rw [hC.1]
  refine Rn.call rfl rfl rfl rfl rfl (c100) ?_
  refine Rn.eqB rfl (fun e11 => ?_) (fun e11 => absurd e11 (by exact (z_no h1 (by omega) q1)))
  refine Rn.run 1 (ls' := [_, _, _]) (st' := [_]) rfl ?_
  exact Rn.ret rfl rfl rfl rfl rfl rfl
theorem k68_b2 {ex : xO} {d : Nat} {c : Nat → Nat → Int} {b : Bool} {n D T Mo : Nat} {kd bo wo L : Nat → Nat} (hP : pS n kd bo wo D T Mo L) (hc : cS c b n kd bo wo D T Mo L) {a2 : Int} {i : Nat} (hi : i < n) (h2 : w32 a2 = a2) (q2 : ¬ (0 ≤ a2 ∧ a2 < 6)) : An ex (d + 20) 68 3 [xA 0, xI (i : Int), xI a2] (hp c b) (xI (-1), hp (c) b) := by
  obtain ⟨ho, h40, hT, h9, hMo⟩ := hP
  obtain ⟨hC, d7, t9, hL, m10⟩ := hc
  have hn := ho.1
  have hT6 := p64 hn hT
  refine Rn.run 2 (ls' := [_, _, _]) (st' := [_, _]) rfl ?_
  refine Rn.getR rfl ⟨by decide, rfl, rfl⟩ (j := gid b) (rfl) ?_
  refine Rn.getI rfl (xS_g b) ?_
  rw [hC.1]
  refine Rn.call rfl rfl rfl rfl rfl (c100) ?_
  refine Rn.eqB rfl (fun e11 => absurd e11 (by exact fun h => h (z_in hi (by omega)))) (fun e11 => ?_)
  refine Rn.run 2 (ls' := [_, _, _]) (st' := [_, _]) rfl ?_
  refine Rn.call rfl rfl rfl rfl rfl (c100) ?_
  refine Rn.neB rfl (fun e20 => absurd e20 (by exact (z_no (m := 6) h2 (by omega) q2))) (fun e20 => ?_)
  refine Rn.run 1 (ls' := [_, _, _]) (st' := [_]) rfl ?_
  exact Rn.ret rfl rfl rfl rfl rfl rfl
theorem k68_ok {ex : xO} {d : Nat} {c : Nat → Nat → Int} {b : Bool} {n D T Mo : Nat} {kd bo wo L : Nat → Nat} (hP : pS n kd bo wo D T Mo L) (hc : cS c b n kd bo wo D T Mo L) {i w : Nat} (hi : i < n) (hw : w < 6) : An ex (d + 20) 68 3 [xA 0, xI (i : Int), xI (w : Int)] (hp c b) (xI 1, hp (xup c 0 10 (fct kd bo wo n T L i w : Nat)) b) := by
  obtain ⟨ho, h40, hT, h9, hMo⟩ := hP
  obtain ⟨hC, d7, t9, hL, m10⟩ := hc
  have hn := ho.1
  have hT6 := p64 hn hT
  refine Rn.run 2 (ls' := [_, _, _]) (st' := [_, _]) rfl ?_
  refine Rn.getR rfl ⟨by decide, rfl, rfl⟩ (j := gid b) (rfl) ?_
  refine Rn.getI rfl (xS_g b) ?_
  rw [hC.1]
  refine Rn.call rfl rfl rfl rfl rfl (c100) ?_
  refine Rn.eqB rfl (fun e11 => absurd e11 (by exact fun h => h (z_in hi (by omega)))) (fun e11 => ?_)
  refine Rn.run 2 (ls' := [_, _, _]) (st' := [_, _]) rfl ?_
  refine Rn.call rfl rfl rfl rfl rfl (c100) ?_
  refine Rn.neB rfl (fun e20 => ?_) (fun e20 => absurd e20 (by exact fun h => h (z_in (m := 6) hw (by omega))))
  refine Rn.run 4 (ls' := [_, _, _]) (st' := [_, _, _, _]) rfl ?_
  refine Rn.call rfl rfl rfl rfl rfl (c113 ⟨ho, h40, hT, h9, hMo⟩ ⟨hC, d7, t9, hL, m10⟩ hi hw) ?_
  refine Rn.call rfl rfl rfl rfl rfl (c102) ?_
  exact Rn.ret rfl rfl rfl rfl rfl rfl
theorem k175_b1 {ex : xO} {d : Nat} {c : Nat → Nat → Int} {b : Bool} {n D T Mo : Nat} {kd bo wo L : Nat → Nat} (hP : pS n kd bo wo D T Mo L) (hm : mS c n kd bo wo D T Mo L) {a1 a2 : Int} (h1 : w32 a1 = a1) (q1 : ¬ (0 ≤ a1 ∧ a1 < n)) : An ex (d + 20) 175 3 [xA 54, xI a1, xI a2] (hp c b) (xI (-1), hp (c) b) := by
  obtain ⟨ho, h40, hT, h9, hMo⟩ := hP
  obtain ⟨hM, d29, t2, l55, m1⟩ := hm
  have hn := ho.1
  have hT6 := p64 hn hT
  refine Rn.run 2 (ls' := [_, _, _]) (st' := [_, _]) rfl ?_
  refine Rn.call rfl rfl rfl rfl rfl (c140 hn hM.1) ?_
  refine Rn.eqB rfl (fun e5 => ?_) (fun e5 => absurd e5 (by exact (z_no' h1 q1)))
  refine Rn.run 1 (ls' := [_, _, _]) (st' := [_]) rfl ?_
  exact Rn.ret rfl rfl rfl rfl rfl rfl
theorem k175_b2 {ex : xO} {d : Nat} {c : Nat → Nat → Int} {b : Bool} {n D T Mo : Nat} {kd bo wo L : Nat → Nat} (hP : pS n kd bo wo D T Mo L) (hm : mS c n kd bo wo D T Mo L) {a2 : Int} {i : Nat} (hi : i < n) (h2 : w32 a2 = a2) (q2 : ¬ (0 ≤ a2 ∧ a2 < 6)) : An ex (d + 20) 175 3 [xA 54, xI (i : Int), xI a2] (hp c b) (xI (-1), hp (c) b) := by
  obtain ⟨ho, h40, hT, h9, hMo⟩ := hP
  obtain ⟨hM, d29, t2, l55, m1⟩ := hm
  have hn := ho.1
  have hT6 := p64 hn hT
  refine Rn.run 2 (ls' := [_, _, _]) (st' := [_, _]) rfl ?_
  refine Rn.call rfl rfl rfl rfl rfl (c140 hn hM.1) ?_
  refine Rn.eqB rfl (fun e5 => absurd e5 (by exact fun h => h (z_in' hi (by omega)))) (fun e5 => ?_)
  refine Rn.run 4 (ls' := [_, _, _]) (st' := [_, _, _]) rfl ?_
  refine Rn.call rfl rfl rfl rfl rfl (c131) ?_
  refine Rn.eqB rfl (fun e17 => ?_) (fun e17 => absurd e17 (by exact (z_no9 (m := 5) h2 (by omega) q2)))
  refine Rn.run 1 (ls' := [_, _, _]) (st' := [_]) rfl ?_
  exact Rn.ret rfl rfl rfl rfl rfl rfl
theorem k175_ok {ex : xO} {d : Nat} {c : Nat → Nat → Int} {b : Bool} {n D T Mo : Nat} {kd bo wo L : Nat → Nat} (hP : pS n kd bo wo D T Mo L) (hm : mS c n kd bo wo D T Mo L) {i w : Nat} (hi : i < n) (hw : w < 6) : An ex (d + 20) 175 3 [xA 54, xI (i : Int), xI (w : Int)] (hp c b) (xI 1, hp (xup c 54 7 (fct kd bo wo n T L i w : Nat)) b) := by
  obtain ⟨ho, h40, hT, h9, hMo⟩ := hP
  obtain ⟨hM, d29, t2, l55, m1⟩ := hm
  have hn := ho.1
  have hT6 := p64 hn hT
  refine Rn.run 2 (ls' := [_, _, _]) (st' := [_, _]) rfl ?_
  refine Rn.call rfl rfl rfl rfl rfl (c140 hn hM.1) ?_
  refine Rn.eqB rfl (fun e5 => absurd e5 (by exact fun h => h (z_in' hi (by omega)))) (fun e5 => ?_)
  refine Rn.run 4 (ls' := [_, _, _]) (st' := [_, _, _]) rfl ?_
  refine Rn.call rfl rfl rfl rfl rfl (c131) ?_
  refine Rn.eqB rfl (fun e17 => absurd e17 (by exact fun h => h (z_in9 (m := 5) (by omega) (by omega)))) (fun e17 => ?_)
  refine Rn.run 4 (ls' := [_, _, _]) (st' := [_, _, _, _]) rfl ?_
  refine Rn.call rfl rfl rfl rfl rfl (c174 ⟨ho, h40, hT, h9, hMo⟩ ⟨hM, d29, t2, l55, m1⟩ hi hw) ?_
  refine Rn.call rfl rfl rfl rfl rfl (c135) ?_
  refine Rn.run 1 (ls' := [_, _, _]) (st' := [_]) rfl ?_
  exact Rn.ret rfl rfl rfl rfl rfl rfl
theorem g_death {ex : xO} (a1 a2 : Int) (h1 : w32 a1 = a1) (h2 : w32 a2 = a2) : AgI ex 68 3 175 3 [xI a1, xI a2] := by
  intro d c b hI
  obtain ⟨n, kd, bo, wo, D, T, Mo, L, hP, hc, hm⟩ := Inv_St hI
  by_cases q1 : 0 ≤ a1 ∧ a1 < n
  · obtain ⟨i, hi, rfl⟩ : ∃ j : Nat, j < n ∧ a1 = (j : Int) := ⟨a1.toNat, by omega, by omega⟩
    by_cases q2 : 0 ≤ a2 ∧ a2 < 6
    · obtain ⟨k, hk, rfl⟩ : ∃ k : Nat, k < 6 ∧ a2 = (k : Int) := ⟨a2.toNat, by omega, by omega⟩
      exact Ag_ask hI 1 _ (k68_ok hP hc hi hk) (k175_ok hP (mS_fr (fun k => xup_n _ _ (Or.inl (by decide))) hm) hi hk) (fun _ _ _ => rfl)
    · exact Ag_same hI (-1) (k68_b2 hP hc hi h2 q2) (k175_b2 hP hm hi h2 q2)
  · exact Ag_same hI (-1) (k68_b1 hP hc h1 q1) (k175_b1 hP hm h1 q1)
