-- who is about: refusals
theorem k109_b1 {ex : xO} {d : Nat} {c : Nat → Nat → Int} {b : Bool} {n D T Mo : Nat} {kd bo wo L : Nat → Nat} (hP : pS n kd bo wo D T Mo L) (hc : cS c b n kd bo wo D T Mo L) {a1 a2 : Int} (h1 : w32 a1 = a1) (q1 : ¬ (0 ≤ a1 ∧ a1 < 8)) : An ex (d + 5) 109 4 [xA 0, xI a1, xI a2] (hp c b) (xI (-1), hp (c) b) := by
  obtain ⟨ho, h40, hT, h9, hMo⟩ := hP
  obtain ⟨hC, d7, t9, hL, m10⟩ := hc
  have hn := ho.1
  have hT6 := p64 hn hT
  refine Rn.run 2 (ls' := [_, _, _, _]) (st' := [_, _]) rfl ?_
  refine Rn.call rfl rfl rfl rfl rfl (c100) ?_
  refine Rn.eqB rfl (fun e6 => ?_) (fun e6 => absurd e6 (by exact (z_no (m := 8) h1 (by omega) q1)))
  refine Rn.run 1 (ls' := [_, _, _, _]) (st' := [_]) rfl ?_
  exact Rn.ret rfl rfl rfl rfl rfl rfl
theorem k109_b2 {ex : xO} {d : Nat} {c : Nat → Nat → Int} {b : Bool} {n D T Mo : Nat} {kd bo wo L : Nat → Nat} (hP : pS n kd bo wo D T Mo L) (hc : cS c b n kd bo wo D T Mo L) {a2 : Int} {j : Nat} (hj : j < 8) (h2 : w32 a2 = a2) (q2 : ¬ (0 ≤ a2 ∧ a2 < 6)) : An ex (d + 5) 109 4 [xA 0, xI (j : Int), xI a2] (hp c b) (xI (-1), hp (c) b) := by
  obtain ⟨ho, h40, hT, h9, hMo⟩ := hP
  obtain ⟨hC, d7, t9, hL, m10⟩ := hc
  have hn := ho.1
  have hT6 := p64 hn hT
  refine Rn.run 2 (ls' := [_, _, _, _]) (st' := [_, _]) rfl ?_
  refine Rn.call rfl rfl rfl rfl rfl (c100) ?_
  refine Rn.eqB rfl (fun e6 => absurd e6 (by exact fun h => h (z_in (m := 8) hj (by omega)))) (fun e6 => ?_)
  refine Rn.run 2 (ls' := [_, _, _, _]) (st' := [_, _]) rfl ?_
  refine Rn.call rfl rfl rfl rfl rfl (c100) ?_
  refine Rn.neB rfl (fun e15 => absurd e15 (by exact (z_no (m := 6) h2 (by omega) q2))) (fun e15 => ?_)
  refine Rn.run 1 (ls' := [_, _, _, _]) (st' := [_]) rfl ?_
  exact Rn.ret rfl rfl rfl rfl rfl rfl
theorem k109_st {ex : xO} {d : Nat} {c : Nat → Nat → Int} {b : Bool} {n D T Mo : Nat} {kd bo wo L : Nat → Nat} (hP : pS n kd bo wo D T Mo L) (hc : cS c b n kd bo wo D T Mo L) {j r : Nat} (hj : j < 8) (hr : r < 6) (h0 : n = 0) : An ex (d + 5) 109 4 [xA 0, xI (j : Int), xI (r : Int)] (hp c b) (xI (-4), hp (c) b) := by
  obtain ⟨ho, h40, hT, h9, hMo⟩ := hP
  obtain ⟨hC, d7, t9, hL, m10⟩ := hc
  have hn := ho.1
  have hT6 := p64 hn hT
  refine Rn.run 2 (ls' := [_, _, _, _]) (st' := [_, _]) rfl ?_
  refine Rn.call rfl rfl rfl rfl rfl (c100) ?_
  refine Rn.eqB rfl (fun e6 => absurd e6 (by exact fun h => h (z_in (m := 8) hj (by omega)))) (fun e6 => ?_)
  refine Rn.run 2 (ls' := [_, _, _, _]) (st' := [_, _]) rfl ?_
  refine Rn.call rfl rfl rfl rfl rfl (c100) ?_
  refine Rn.neB rfl (fun e15 => ?_) (fun e15 => absurd e15 (by exact fun h => h (z_in (m := 6) hr (by omega))))
  refine Rn.run 1 (ls' := [_, _, _, _]) (st' := [_]) rfl ?_
  refine Rn.getR rfl ⟨by decide, rfl, rfl⟩ (j := gid b) (rfl) ?_
  refine Rn.getI rfl (xS_g b) ?_
  rw [hC.1]
  refine Rn.ne0 rfl (fun e27 => absurd e27 (by rw [h0]; decide)) (fun e27 => ?_)
  refine Rn.run 1 (ls' := [_, _, _, _]) (st' := [_]) rfl ?_
  exact Rn.ret rfl rfl rfl rfl rfl rfl
theorem k109_no {ex : xO} {d : Nat} {c : Nat → Nat → Int} {b : Bool} {n D T Mo : Nat} {kd bo wo L : Nat → Nat} (hP : pS n kd bo wo D T Mo L) (hc : cS c b n kd bo wo D T Mo L) {j : Nat} (hj : j < 8) (h0 : n ≠ 0) {r : Nat} (hr : r < 6) (i1 : iRow c) (hm : c 56 r < 0) : An ex (d + 5) 109 4 [xA 0, xI (j : Int), xI (r : Int)] (hp c b) (xI (-3), hp (xup (xup c 0 13 1) 13 1 (c 13 1 + 1)) b) := by
  obtain ⟨ho, h40, hT, h9, hMo⟩ := hP
  obtain ⟨hC, d7, t9, hL, m10⟩ := hc
  have hn := ho.1
  have hT6 := p64 hn hT
  refine Rn.run 2 (ls' := [_, _, _, _]) (st' := [_, _]) rfl ?_
  refine Rn.call rfl rfl rfl rfl rfl (c100) ?_
  refine Rn.eqB rfl (fun e6 => absurd e6 (by exact fun h => h (z_in (m := 8) hj (by omega)))) (fun e6 => ?_)
  refine Rn.run 2 (ls' := [_, _, _, _]) (st' := [_, _]) rfl ?_
  refine Rn.call rfl rfl rfl rfl rfl (c100) ?_
  refine Rn.neB rfl (fun e15 => ?_) (fun e15 => absurd e15 (by exact fun h => h (z_in (m := 6) hr (by omega))))
  refine Rn.run 1 (ls' := [_, _, _, _]) (st' := [_]) rfl ?_
  refine Rn.getR rfl ⟨by decide, rfl, rfl⟩ (j := gid b) (rfl) ?_
  refine Rn.getI rfl (xS_g b) ?_
  rw [hC.1]
  refine Rn.ne0 rfl (fun e27 => ?_) (fun e27 => absurd e27 (by exact fun h => h (z_ne0 h0 hn)))
  refine Rn.run 2 (ls' := [_, _, _, _]) (st' := [_, _]) rfl ?_
  refine Rn.call rfl rfl rfl rfl rfl (c106_no r hr (x_wn (by omega)) (by rw [(iRow_w i1 hr).2]; exact hm)) ?_
  refine Rn.run 2 (ls' := [_, _, _, _]) (st' := [_]) rfl ?_
  refine Rn.eq0 rfl (fun e40 => absurd e40 (by decide)) (fun e40 => ?_)
  refine Rn.run 1 (ls' := [_, _, _, _]) (st' := [_]) rfl ?_
  exact Rn.ret rfl rfl rfl rfl rfl rfl
theorem k109_s1 {ex : xO} {d : Nat} {c : Nat → Nat → Int} {b : Bool} {n D T Mo : Nat} {kd bo wo L : Nat → Nat} (hP : pS n kd bo wo D T Mo L) (hc : cS c b n kd bo wo D T Mo L) {j : Nat} (hj : j < 8) (h0 : n ≠ 0) {r S : Nat} (hr : r < 6) (i1 : iRow c) (hS : c 56 r = (S : Nat)) (hz : S < 1) : An ex (d + 5) 109 4 [xA 0, xI (j : Int), xI (r : Int)] (hp c b) (xI (-3), hp (xup (xup c 0 13 5) 13 5 (c 13 5 + 1)) b) := by
  obtain ⟨ho, h40, hT, h9, hMo⟩ := hP
  obtain ⟨hC, d7, t9, hL, m10⟩ := hc
  have hn := ho.1
  have hT6 := p64 hn hT
  obtain ⟨r1, r2, r3, r4⟩ := i1 r hr
  have S40 : S ≤ 40 := by omega
  have rS : c (22 + 2 * r) 0 = (S : Nat) := by rw [r1]; exact hS
  have S31 : S < 2147483648 := by omega
  have r31 : r < 2147483648 := by omega
  have S0 : ¬ w32 (c (22 + 2 * r) 0) < 0 := by rw [rS, x_wn S31]; omega
  refine Rn.run 2 (ls' := [_, _, _, _]) (st' := [_, _]) rfl ?_
  refine Rn.call rfl rfl rfl rfl rfl (c100) ?_
  refine Rn.eqB rfl (fun e6 => absurd e6 (by exact fun h => h (z_in (m := 8) hj (by omega)))) (fun e6 => ?_)
  refine Rn.run 2 (ls' := [_, _, _, _]) (st' := [_, _]) rfl ?_
  refine Rn.call rfl rfl rfl rfl rfl (c100) ?_
  refine Rn.neB rfl (fun e15 => ?_) (fun e15 => absurd e15 (by exact fun h => h (z_in (m := 6) hr (by omega))))
  refine Rn.run 1 (ls' := [_, _, _, _]) (st' := [_]) rfl ?_
  refine Rn.getR rfl ⟨by decide, rfl, rfl⟩ (j := gid b) (rfl) ?_
  refine Rn.getI rfl (xS_g b) ?_
  rw [hC.1]
  refine Rn.ne0 rfl (fun e27 => ?_) (fun e27 => absurd e27 (by exact fun h => h (z_ne0 h0 hn)))
  refine Rn.run 2 (ls' := [_, _, _, _]) (st' := [_, _]) rfl ?_
  refine Rn.call rfl rfl rfl rfl rfl (c106_ok r hr (x_wn r31) S0) ?_
  refine Rn.run 2 (ls' := [_, _, _, _]) (st' := [_]) rfl ?_
  refine Rn.eq0 rfl (fun e40 => ?_) (fun e40 => absurd e40 (by decide))
  refine Rn.run 3 (ls' := [_, _, _, _]) (st' := [_, _]) rfl ?_
  refine Rn.aald rfl ⟨by decide, rfl, by decide, by decide⟩ (r) (x_wn (n := r) (by omega)) (by omega) (xR_row hr).1 ?_
  refine Rn.getI rfl (xS_row hr) ?_
  rw [rS]
  refine Rn.run 1 (ls' := [_, _, _, _]) (st' := [_, _]) rfl ?_
  refine Rn.lt2 rfl (fun e55 => ?_) (fun e55 => absurd e55 (by exact fun h => h ((y_lt (n := S) (i := 1) (by decide) S31).mpr hz)))
  refine Rn.run 2 (ls' := [_, _, _, _]) (st' := [_, _]) rfl ?_
  refine Rn.call rfl rfl rfl rfl rfl (c101 5 rfl (by decide)) ?_
  exact Rn.ret rfl rfl rfl rfl rfl rfl
theorem k109_s2 {ex : xO} {d : Nat} {c : Nat → Nat → Int} {b : Bool} {n D T Mo : Nat} {kd bo wo L : Nat → Nat} (hP : pS n kd bo wo D T Mo L) (hc : cS c b n kd bo wo D T Mo L) {j : Nat} (hj : j < 8) (h0 : n ≠ 0) {r S : Nat} (hr : r < 6) (i1 : iRow c) (hS : c 56 r = (S : Nat)) (hz : 1 ≤ S) (hg : 10 < S) : An ex (d + 5) 109 4 [xA 0, xI (j : Int), xI (r : Int)] (hp c b) (xI (-3), hp (xup (xup c 0 13 5) 13 5 (c 13 5 + 1)) b) := by
  obtain ⟨ho, h40, hT, h9, hMo⟩ := hP
  obtain ⟨hC, d7, t9, hL, m10⟩ := hc
  have hn := ho.1
  have hT6 := p64 hn hT
  obtain ⟨r1, r2, r3, r4⟩ := i1 r hr
  have S40 : S ≤ 40 := by omega
  have rS : c (22 + 2 * r) 0 = (S : Nat) := by rw [r1]; exact hS
  have S31 : S < 2147483648 := by omega
  have r31 : r < 2147483648 := by omega
  have S0 : ¬ w32 (c (22 + 2 * r) 0) < 0 := by rw [rS, x_wn S31]; omega
  refine Rn.run 2 (ls' := [_, _, _, _]) (st' := [_, _]) rfl ?_
  refine Rn.call rfl rfl rfl rfl rfl (c100) ?_
  refine Rn.eqB rfl (fun e6 => absurd e6 (by exact fun h => h (z_in (m := 8) hj (by omega)))) (fun e6 => ?_)
  refine Rn.run 2 (ls' := [_, _, _, _]) (st' := [_, _]) rfl ?_
  refine Rn.call rfl rfl rfl rfl rfl (c100) ?_
  refine Rn.neB rfl (fun e15 => ?_) (fun e15 => absurd e15 (by exact fun h => h (z_in (m := 6) hr (by omega))))
  refine Rn.run 1 (ls' := [_, _, _, _]) (st' := [_]) rfl ?_
  refine Rn.getR rfl ⟨by decide, rfl, rfl⟩ (j := gid b) (rfl) ?_
  refine Rn.getI rfl (xS_g b) ?_
  rw [hC.1]
  refine Rn.ne0 rfl (fun e27 => ?_) (fun e27 => absurd e27 (by exact fun h => h (z_ne0 h0 hn)))
  refine Rn.run 2 (ls' := [_, _, _, _]) (st' := [_, _]) rfl ?_
  refine Rn.call rfl rfl rfl rfl rfl (c106_ok r hr (x_wn r31) S0) ?_
  refine Rn.run 2 (ls' := [_, _, _, _]) (st' := [_]) rfl ?_
  refine Rn.eq0 rfl (fun e40 => ?_) (fun e40 => absurd e40 (by decide))
  refine Rn.run 3 (ls' := [_, _, _, _]) (st' := [_, _]) rfl ?_
  refine Rn.aald rfl ⟨by decide, rfl, by decide, by decide⟩ (r) (x_wn (n := r) (by omega)) (by omega) (xR_row hr).1 ?_
  refine Rn.getI rfl (xS_row hr) ?_
  rw [rS]
  refine Rn.run 1 (ls' := [_, _, _, _]) (st' := [_, _]) rfl ?_
  refine Rn.lt2 rfl (fun e55 => absurd e55 (by exact fun h => absurd ((y_lt (n := S) (i := 1) (by decide) S31).mp h) (Nat.not_lt.mpr hz))) (fun e55 => ?_)
  refine Rn.run 3 (ls' := [_, _, _, _]) (st' := [_, _]) rfl ?_
  refine Rn.aald rfl ⟨by decide, rfl, by decide, by decide⟩ (r) (x_wn (n := r) (by omega)) (by omega) (xR_row hr).1 ?_
  refine Rn.getI rfl (xS_row hr) ?_
  rw [rS]
  refine Rn.run 1 (ls' := [_, _, _, _]) (st' := [_, _]) rfl ?_
  refine Rn.le2 rfl (fun e69 => absurd e69 (by exact fun h => absurd ((y_ge (i := 10) (n := S) (by decide) S31).mp h) (Nat.not_le.mpr hg))) (fun e69 => ?_)
  refine Rn.run 2 (ls' := [_, _, _, _]) (st' := [_, _]) rfl ?_
  refine Rn.call rfl rfl rfl rfl rfl (c101 5 rfl (by decide)) ?_
  exact Rn.ret rfl rfl rfl rfl rfl rfl
theorem k109_un {ex : xO} {d : Nat} {c : Nat → Nat → Int} {b : Bool} {n D T Mo : Nat} {kd bo wo L : Nat → Nat} (hP : pS n kd bo wo D T Mo L) (hc : cS c b n kd bo wo D T Mo L) {j : Nat} (hj : j < 8) (h0 : n ≠ 0) {r S : Nat} (hr : r < 6) (i1 : iRow c) (hS : c 56 r = (S : Nat)) (hz : 1 ≤ S) (hg : S ≤ 10) (hf : ¬ alls (fq c r) S 0 = true) : An ex (d + 5) 109 4 [xA 0, xI (j : Int), xI (r : Int)] (hp c b) (xI (-3), hp (xup (xup c 0 13 3) 13 3 (c 13 3 + 1)) b) := by
  obtain ⟨ho, h40, hT, h9, hMo⟩ := hP
  obtain ⟨hC, d7, t9, hL, m10⟩ := hc
  have hn := ho.1
  have hT6 := p64 hn hT
  obtain ⟨r1, r2, r3, r4⟩ := i1 r hr
  have S40 : S ≤ 40 := by omega
  have rS : c (22 + 2 * r) 0 = (S : Nat) := by rw [r1]; exact hS
  have S31 : S < 2147483648 := by omega
  have r31 : r < 2147483648 := by omega
  have S0 : ¬ w32 (c (22 + 2 * r) 0) < 0 := by rw [rS, x_wn S31]; omega
  refine Rn.run 2 (ls' := [_, _, _, _]) (st' := [_, _]) rfl ?_
  refine Rn.call rfl rfl rfl rfl rfl (c100) ?_
  refine Rn.eqB rfl (fun e6 => absurd e6 (by exact fun h => h (z_in (m := 8) hj (by omega)))) (fun e6 => ?_)
  refine Rn.run 2 (ls' := [_, _, _, _]) (st' := [_, _]) rfl ?_
  refine Rn.call rfl rfl rfl rfl rfl (c100) ?_
  refine Rn.neB rfl (fun e15 => ?_) (fun e15 => absurd e15 (by exact fun h => h (z_in (m := 6) hr (by omega))))
  refine Rn.run 1 (ls' := [_, _, _, _]) (st' := [_]) rfl ?_
  refine Rn.getR rfl ⟨by decide, rfl, rfl⟩ (j := gid b) (rfl) ?_
  refine Rn.getI rfl (xS_g b) ?_
  rw [hC.1]
  refine Rn.ne0 rfl (fun e27 => ?_) (fun e27 => absurd e27 (by exact fun h => h (z_ne0 h0 hn)))
  refine Rn.run 2 (ls' := [_, _, _, _]) (st' := [_, _]) rfl ?_
  refine Rn.call rfl rfl rfl rfl rfl (c106_ok r hr (x_wn r31) S0) ?_
  refine Rn.run 2 (ls' := [_, _, _, _]) (st' := [_]) rfl ?_
  refine Rn.eq0 rfl (fun e40 => ?_) (fun e40 => absurd e40 (by decide))
  refine Rn.run 3 (ls' := [_, _, _, _]) (st' := [_, _]) rfl ?_
  refine Rn.aald rfl ⟨by decide, rfl, by decide, by decide⟩ (r) (x_wn (n := r) (by omega)) (by omega) (xR_row hr).1 ?_
  refine Rn.getI rfl (xS_row hr) ?_
  rw [rS]
  refine Rn.run 1 (ls' := [_, _, _, _]) (st' := [_, _]) rfl ?_
  refine Rn.lt2 rfl (fun e55 => absurd e55 (by exact fun h => absurd ((y_lt (n := S) (i := 1) (by decide) S31).mp h) (Nat.not_lt.mpr hz))) (fun e55 => ?_)
  refine Rn.run 3 (ls' := [_, _, _, _]) (st' := [_, _]) rfl ?_
  refine Rn.aald rfl ⟨by decide, rfl, by decide, by decide⟩ (r) (x_wn (n := r) (by omega)) (by omega) (xR_row hr).1 ?_
  refine Rn.getI rfl (xS_row hr) ?_
  rw [rS]
  refine Rn.run 1 (ls' := [_, _, _, _]) (st' := [_, _]) rfl ?_
  refine Rn.le2 rfl (fun e69 => ?_) (fun e69 => absurd e69 (by exact fun h => h ((y_ge (i := 10) (n := S) (by decide) S31).mpr hg)))
  refine Rn.run 3 (ls' := [_, _, _, _]) (st' := [_, _]) rfl ?_
  refine Rn.aald rfl ⟨by decide, rfl, by decide, by decide⟩ (r) (x_wn (n := r) (by omega)) (by omega) (xR_row hr).1 ?_
  refine Rn.callV rfl (x_sv (xS_row hr)) rfl rfl rfl (c50 hr i1 hS) ?_
  refine Rn.eqB rfl (fun e87 => ?_) (fun e87 => absurd e87 (by exact hf))
  refine Rn.run 2 (ls' := [_, _, _, _]) (st' := [_, _]) rfl ?_
  refine Rn.call rfl rfl rfl rfl rfl (c101 3 rfl (by decide)) ?_
  exact Rn.ret rfl rfl rfl rfl rfl rfl
theorem k109_ok {ex : xO} {d : Nat} {c : Nat → Nat → Int} {b : Bool} {n D T Mo : Nat} {kd bo wo L : Nat → Nat} (hP : pS n kd bo wo D T Mo L) (hc : cS c b n kd bo wo D T Mo L) {j : Nat} (hj : j < 8) (h0 : n ≠ 0) {r S : Nat} (hr : r < 6) (i1 : iRow c) (hS : c 56 r = (S : Nat)) (hz : 1 ≤ S) (hg : S ≤ 10) (hf : alls (fq c r) S 0 = true) : An ex (d + 5) 109 4 [xA 0, xI (j : Int), xI (r : Int)] (hp c b) (xI 0, hp (c) b) := by
  obtain ⟨ho, h40, hT, h9, hMo⟩ := hP
  obtain ⟨hC, d7, t9, hL, m10⟩ := hc
  have hn := ho.1
  have hT6 := p64 hn hT
  obtain ⟨r1, r2, r3, r4⟩ := i1 r hr
  have S40 : S ≤ 40 := by omega
  have rS : c (22 + 2 * r) 0 = (S : Nat) := by rw [r1]; exact hS
  have S31 : S < 2147483648 := by omega
  have r31 : r < 2147483648 := by omega
  have S0 : ¬ w32 (c (22 + 2 * r) 0) < 0 := by rw [rS, x_wn S31]; omega
  refine Rn.run 2 (ls' := [_, _, _, _]) (st' := [_, _]) rfl ?_
  refine Rn.call rfl rfl rfl rfl rfl (c100) ?_
  refine Rn.eqB rfl (fun e6 => absurd e6 (by exact fun h => h (z_in (m := 8) hj (by omega)))) (fun e6 => ?_)
  refine Rn.run 2 (ls' := [_, _, _, _]) (st' := [_, _]) rfl ?_
  refine Rn.call rfl rfl rfl rfl rfl (c100) ?_
  refine Rn.neB rfl (fun e15 => ?_) (fun e15 => absurd e15 (by exact fun h => h (z_in (m := 6) hr (by omega))))
  refine Rn.run 1 (ls' := [_, _, _, _]) (st' := [_]) rfl ?_
  refine Rn.getR rfl ⟨by decide, rfl, rfl⟩ (j := gid b) (rfl) ?_
  refine Rn.getI rfl (xS_g b) ?_
  rw [hC.1]
  refine Rn.ne0 rfl (fun e27 => ?_) (fun e27 => absurd e27 (by exact fun h => h (z_ne0 h0 hn)))
  refine Rn.run 2 (ls' := [_, _, _, _]) (st' := [_, _]) rfl ?_
  refine Rn.call rfl rfl rfl rfl rfl (c106_ok r hr (x_wn r31) S0) ?_
  refine Rn.run 2 (ls' := [_, _, _, _]) (st' := [_]) rfl ?_
  refine Rn.eq0 rfl (fun e40 => ?_) (fun e40 => absurd e40 (by decide))
  refine Rn.run 3 (ls' := [_, _, _, _]) (st' := [_, _]) rfl ?_
  refine Rn.aald rfl ⟨by decide, rfl, by decide, by decide⟩ (r) (x_wn (n := r) (by omega)) (by omega) (xR_row hr).1 ?_
  refine Rn.getI rfl (xS_row hr) ?_
  rw [rS]
  refine Rn.run 1 (ls' := [_, _, _, _]) (st' := [_, _]) rfl ?_
  refine Rn.lt2 rfl (fun e55 => absurd e55 (by exact fun h => absurd ((y_lt (n := S) (i := 1) (by decide) S31).mp h) (Nat.not_lt.mpr hz))) (fun e55 => ?_)
  refine Rn.run 3 (ls' := [_, _, _, _]) (st' := [_, _]) rfl ?_
  refine Rn.aald rfl ⟨by decide, rfl, by decide, by decide⟩ (r) (x_wn (n := r) (by omega)) (by omega) (xR_row hr).1 ?_
  refine Rn.getI rfl (xS_row hr) ?_
  rw [rS]
  refine Rn.run 1 (ls' := [_, _, _, _]) (st' := [_, _]) rfl ?_
  refine Rn.le2 rfl (fun e69 => ?_) (fun e69 => absurd e69 (by exact fun h => h ((y_ge (i := 10) (n := S) (by decide) S31).mpr hg)))
  refine Rn.run 3 (ls' := [_, _, _, _]) (st' := [_, _]) rfl ?_
  refine Rn.aald rfl ⟨by decide, rfl, by decide, by decide⟩ (r) (x_wn (n := r) (by omega)) (by omega) (xR_row hr).1 ?_
  refine Rn.callV rfl (x_sv (xS_row hr)) rfl rfl rfl (c50 hr i1 hS) ?_
  refine Rn.eqB rfl (fun e87 => absurd e87 (by exact fun h => h hf)) (fun e87 => ?_)
  refine Rn.run 2 (ls' := [_, _, _, _]) (st' := [_]) rfl ?_
  exact Rn.ret rfl rfl rfl rfl rfl rfl
theorem z_in110 {S : Nat} (h1 : 1 ≤ S) (h2 : S ≤ 10) : w64 1 ≤ w64 (w32 (S : Int)) ∧ w64 (w32 (S : Int)) ≤ w64 10 := by rw [x_wn (by omega)]; simp only [w64]; omega
theorem z_no110 {S : Nat} (h : S ≤ 40) (h2 : ¬ (1 ≤ S ∧ S ≤ 10)) : ¬ (w64 1 ≤ w64 (w32 (S : Int)) ∧ w64 (w32 (S : Int)) ≤ w64 10) := by rw [x_wn (by omega)]; simp only [w64]; omega
theorem k199_b1 {ex : xO} {d : Nat} {c : Nat → Nat → Int} {b : Bool} {n D T Mo : Nat} {kd bo wo L : Nat → Nat} (hP : pS n kd bo wo D T Mo L) (hm : mS c n kd bo wo D T Mo L) {a1 a2 : Int} (h1 : w32 a1 = a1) (q1 : ¬ (0 ≤ a1 ∧ a1 < 8)) : An ex (d + 5) 199 3 [xA 54, xI a1, xI a2] (hp c b) (xI (-1), hp (c) b) := by
  obtain ⟨ho, h40, hT, h9, hMo⟩ := hP
  obtain ⟨hM, d29, t2, l55, m1⟩ := hm
  have hn := ho.1
  have hT6 := p64 hn hT
  refine Rn.run 1 (ls' := [_, _, _]) (st' := [_]) rfl ?_
  refine Rn.call rfl rfl rfl rfl rfl (c141) ?_
  refine Rn.eqB rfl (fun e4 => ?_) (fun e4 => absurd e4 (by exact (z_no' (m := 8) h1 q1)))
  refine Rn.run 1 (ls' := [_, _, _]) (st' := [_]) rfl ?_
  exact Rn.ret rfl rfl rfl rfl rfl rfl
theorem k199_b2 {ex : xO} {d : Nat} {c : Nat → Nat → Int} {b : Bool} {n D T Mo : Nat} {kd bo wo L : Nat → Nat} (hP : pS n kd bo wo D T Mo L) (hm : mS c n kd bo wo D T Mo L) {a2 : Int} {j : Nat} (hj : j < 8) (h2 : w32 a2 = a2) (q2 : ¬ (0 ≤ a2 ∧ a2 < 6)) : An ex (d + 5) 199 3 [xA 54, xI (j : Int), xI a2] (hp c b) (xI (-1), hp (c) b) := by
  obtain ⟨ho, h40, hT, h9, hMo⟩ := hP
  obtain ⟨hM, d29, t2, l55, m1⟩ := hm
  have hn := ho.1
  have hT6 := p64 hn hT
  refine Rn.run 1 (ls' := [_, _, _]) (st' := [_]) rfl ?_
  refine Rn.call rfl rfl rfl rfl rfl (c141) ?_
  refine Rn.eqB rfl (fun e4 => absurd e4 (by exact fun h => h (z_in' (m := 8) hj (by omega)))) (fun e4 => ?_)
  refine Rn.run 1 (ls' := [_, _, _]) (st' := [_]) rfl ?_
  refine Rn.call rfl rfl rfl rfl rfl (c138) ?_
  refine Rn.neB rfl (fun e11 => absurd e11 (by exact (z_no' (m := 6) h2 q2))) (fun e11 => ?_)
  refine Rn.run 1 (ls' := [_, _, _]) (st' := [_]) rfl ?_
  exact Rn.ret rfl rfl rfl rfl rfl rfl
theorem k199_st {ex : xO} {d : Nat} {c : Nat → Nat → Int} {b : Bool} {n D T Mo : Nat} {kd bo wo L : Nat → Nat} (hP : pS n kd bo wo D T Mo L) (hm : mS c n kd bo wo D T Mo L) {j r : Nat} (hj : j < 8) (hr : r < 6) (h0 : n = 0) : An ex (d + 5) 199 3 [xA 54, xI (j : Int), xI (r : Int)] (hp c b) (xI (-4), hp (c) b) := by
  obtain ⟨ho, h40, hT, h9, hMo⟩ := hP
  obtain ⟨hM, d29, t2, l55, m1⟩ := hm
  have hn := ho.1
  have hT6 := p64 hn hT
  refine Rn.run 1 (ls' := [_, _, _]) (st' := [_]) rfl ?_
  refine Rn.call rfl rfl rfl rfl rfl (c141) ?_
  refine Rn.eqB rfl (fun e4 => absurd e4 (by exact fun h => h (z_in' (m := 8) hj (by omega)))) (fun e4 => ?_)
  refine Rn.run 1 (ls' := [_, _, _]) (st' := [_]) rfl ?_
  refine Rn.call rfl rfl rfl rfl rfl (c138) ?_
  refine Rn.neB rfl (fun e11 => ?_) (fun e11 => absurd e11 (by exact fun h => h (z_in' (m := 6) hr (by omega))))
  refine Rn.run 3 (ls' := [_, _, _]) (st' := [_, _]) rfl ?_
  refine Rn.ald rfl ⟨by decide, rfl⟩ (0) rfl (by decide) ?_
  rw [hM.1]
  refine Rn.ne0 rfl (fun e22 => absurd e22 (by rw [h0]; decide)) (fun e22 => ?_)
  refine Rn.run 1 (ls' := [_, _, _]) (st' := [_]) rfl ?_
  exact Rn.ret rfl rfl rfl rfl rfl rfl
theorem k199_no {ex : xO} {d : Nat} {c : Nat → Nat → Int} {b : Bool} {n D T Mo : Nat} {kd bo wo L : Nat → Nat} (hP : pS n kd bo wo D T Mo L) (hm : mS c n kd bo wo D T Mo L) {j : Nat} (hj : j < 8) (h0 : n ≠ 0) {r : Nat} (hr : r < 6) (i1 : iRow c) (hm1 : c 56 r < 0) : An ex (d + 5) 199 3 [xA 54, xI (j : Int), xI (r : Int)] (hp c b) (xI (-3), hp (xup (xup c 54 5 1) 60 1 (c 60 1 + 1)) b) := by
  obtain ⟨ho, h40, hT, h9, hMo⟩ := hP
  obtain ⟨hM, d29, t2, l55, m1⟩ := hm
  have hn := ho.1
  have hT6 := p64 hn hT
  refine Rn.run 1 (ls' := [_, _, _]) (st' := [_]) rfl ?_
  refine Rn.call rfl rfl rfl rfl rfl (c141) ?_
  refine Rn.eqB rfl (fun e4 => absurd e4 (by exact fun h => h (z_in' (m := 8) hj (by omega)))) (fun e4 => ?_)
  refine Rn.run 1 (ls' := [_, _, _]) (st' := [_]) rfl ?_
  refine Rn.call rfl rfl rfl rfl rfl (c138) ?_
  refine Rn.neB rfl (fun e11 => ?_) (fun e11 => absurd e11 (by exact fun h => h (z_in' (m := 6) hr (by omega))))
  refine Rn.run 3 (ls' := [_, _, _]) (st' := [_, _]) rfl ?_
  refine Rn.ald rfl ⟨by decide, rfl⟩ (0) rfl (by decide) ?_
  rw [hM.1]
  refine Rn.ne0 rfl (fun e22 => ?_) (fun e22 => absurd e22 (by exact fun h => h (z_ne0 h0 hn)))
  refine Rn.run 3 (ls' := [_, _, _]) (st' := [_, _]) rfl ?_
  refine Rn.ald rfl ⟨by decide, rfl⟩ (r) (x_wn (n := r) (by omega)) (by omega) ?_
  refine Rn.ge0 rfl (fun e34 => absurd e34 (by rw [(iRow_w i1 hr).1]; exact Int.not_le.mpr hm1)) (fun e34 => ?_)
  refine Rn.run 2 (ls' := [_, _, _]) (st' := [_, _]) rfl ?_
  refine Rn.call rfl rfl rfl rfl rfl (c134 1 rfl (by decide)) ?_
  exact Rn.ret rfl rfl rfl rfl rfl rfl
theorem k199_s1 {ex : xO} {d : Nat} {c : Nat → Nat → Int} {b : Bool} {n D T Mo : Nat} {kd bo wo L : Nat → Nat} (hP : pS n kd bo wo D T Mo L) (hm : mS c n kd bo wo D T Mo L) {j : Nat} (hj : j < 8) (h0 : n ≠ 0) {r S : Nat} (hr : r < 6) (i1 : iRow c) (hS : c 56 r = (S : Nat)) (hz : S < 1) : An ex (d + 5) 199 3 [xA 54, xI (j : Int), xI (r : Int)] (hp c b) (xI (-3), hp (xup (xup c 54 5 5) 60 5 (c 60 5 + 1)) b) := by
  obtain ⟨ho, h40, hT, h9, hMo⟩ := hP
  obtain ⟨hM, d29, t2, l55, m1⟩ := hm
  have hn := ho.1
  have hT6 := p64 hn hT
  obtain ⟨r1, r2, r3, r4⟩ := i1 r hr
  have S40 : S ≤ 40 := by omega
  have rS : c (22 + 2 * r) 0 = (S : Nat) := by rw [r1]; exact hS
  have S31 : S < 2147483648 := by omega
  have S0 : 0 ≤ w32 (S : Int) := by rw [x_wn S31]; omega
  have zz := z_no110 S40 (by omega)
  refine Rn.run 1 (ls' := [_, _, _]) (st' := [_]) rfl ?_
  refine Rn.call rfl rfl rfl rfl rfl (c141) ?_
  refine Rn.eqB rfl (fun e4 => absurd e4 (by exact fun h => h (z_in' (m := 8) hj (by omega)))) (fun e4 => ?_)
  refine Rn.run 1 (ls' := [_, _, _]) (st' := [_]) rfl ?_
  refine Rn.call rfl rfl rfl rfl rfl (c138) ?_
  refine Rn.neB rfl (fun e11 => ?_) (fun e11 => absurd e11 (by exact fun h => h (z_in' (m := 6) hr (by omega))))
  refine Rn.run 3 (ls' := [_, _, _]) (st' := [_, _]) rfl ?_
  refine Rn.ald rfl ⟨by decide, rfl⟩ (0) rfl (by decide) ?_
  rw [hM.1]
  refine Rn.ne0 rfl (fun e22 => ?_) (fun e22 => absurd e22 (by exact fun h => h (z_ne0 h0 hn)))
  refine Rn.run 3 (ls' := [_, _, _]) (st' := [_, _]) rfl ?_
  refine Rn.ald rfl ⟨by decide, rfl⟩ (r) (x_wn (n := r) (by omega)) (by omega) ?_
  rw [hS]
  refine Rn.ge0 rfl (fun e34 => ?_) (fun e34 => absurd e34 (by exact fun h => h S0))
  refine Rn.run 3 (ls' := [_, _, _]) (st' := [_, _]) rfl ?_
  refine Rn.ald rfl ⟨by decide, rfl⟩ (r) (x_wn (n := r) (by omega)) (by omega) ?_
  rw [hS]
  refine Rn.run 3 (ls' := [_, _, _]) (st' := [_, _, _]) rfl ?_
  refine Rn.call rfl rfl rfl rfl rfl (c131) ?_
  refine Rn.neB rfl (fun e57 => absurd e57 (by exact zz)) (fun e57 => ?_)
  refine Rn.run 2 (ls' := [_, _, _]) (st' := [_, _]) rfl ?_
  refine Rn.call rfl rfl rfl rfl rfl (c134 5 rfl (by decide)) ?_
  exact Rn.ret rfl rfl rfl rfl rfl rfl
theorem k199_s2 {ex : xO} {d : Nat} {c : Nat → Nat → Int} {b : Bool} {n D T Mo : Nat} {kd bo wo L : Nat → Nat} (hP : pS n kd bo wo D T Mo L) (hm : mS c n kd bo wo D T Mo L) {j : Nat} (hj : j < 8) (h0 : n ≠ 0) {r S : Nat} (hr : r < 6) (i1 : iRow c) (hS : c 56 r = (S : Nat)) (hz : 1 ≤ S) (hg : 10 < S) : An ex (d + 5) 199 3 [xA 54, xI (j : Int), xI (r : Int)] (hp c b) (xI (-3), hp (xup (xup c 54 5 5) 60 5 (c 60 5 + 1)) b) := by
  obtain ⟨ho, h40, hT, h9, hMo⟩ := hP
  obtain ⟨hM, d29, t2, l55, m1⟩ := hm
  have hn := ho.1
  have hT6 := p64 hn hT
  obtain ⟨r1, r2, r3, r4⟩ := i1 r hr
  have S40 : S ≤ 40 := by omega
  have rS : c (22 + 2 * r) 0 = (S : Nat) := by rw [r1]; exact hS
  have S31 : S < 2147483648 := by omega
  have S0 : 0 ≤ w32 (S : Int) := by rw [x_wn S31]; omega
  have zz := z_no110 S40 (by omega)
  refine Rn.run 1 (ls' := [_, _, _]) (st' := [_]) rfl ?_
  refine Rn.call rfl rfl rfl rfl rfl (c141) ?_
  refine Rn.eqB rfl (fun e4 => absurd e4 (by exact fun h => h (z_in' (m := 8) hj (by omega)))) (fun e4 => ?_)
  refine Rn.run 1 (ls' := [_, _, _]) (st' := [_]) rfl ?_
  refine Rn.call rfl rfl rfl rfl rfl (c138) ?_
  refine Rn.neB rfl (fun e11 => ?_) (fun e11 => absurd e11 (by exact fun h => h (z_in' (m := 6) hr (by omega))))
  refine Rn.run 3 (ls' := [_, _, _]) (st' := [_, _]) rfl ?_
  refine Rn.ald rfl ⟨by decide, rfl⟩ (0) rfl (by decide) ?_
  rw [hM.1]
  refine Rn.ne0 rfl (fun e22 => ?_) (fun e22 => absurd e22 (by exact fun h => h (z_ne0 h0 hn)))
  refine Rn.run 3 (ls' := [_, _, _]) (st' := [_, _]) rfl ?_
  refine Rn.ald rfl ⟨by decide, rfl⟩ (r) (x_wn (n := r) (by omega)) (by omega) ?_
  rw [hS]
  refine Rn.ge0 rfl (fun e34 => ?_) (fun e34 => absurd e34 (by exact fun h => h S0))
  refine Rn.run 3 (ls' := [_, _, _]) (st' := [_, _]) rfl ?_
  refine Rn.ald rfl ⟨by decide, rfl⟩ (r) (x_wn (n := r) (by omega)) (by omega) ?_
  rw [hS]
  refine Rn.run 3 (ls' := [_, _, _]) (st' := [_, _, _]) rfl ?_
  refine Rn.call rfl rfl rfl rfl rfl (c131) ?_
  refine Rn.neB rfl (fun e57 => absurd e57 (by exact zz)) (fun e57 => ?_)
  refine Rn.run 2 (ls' := [_, _, _]) (st' := [_, _]) rfl ?_
  refine Rn.call rfl rfl rfl rfl rfl (c134 5 rfl (by decide)) ?_
  exact Rn.ret rfl rfl rfl rfl rfl rfl
theorem k199_un {ex : xO} {d : Nat} {c : Nat → Nat → Int} {b : Bool} {n D T Mo : Nat} {kd bo wo L : Nat → Nat} (hP : pS n kd bo wo D T Mo L) (hm : mS c n kd bo wo D T Mo L) {j : Nat} (hj : j < 8) (h0 : n ≠ 0) {r S : Nat} (hr : r < 6) (i1 : iRow c) (hS : c 56 r = (S : Nat)) (hz : 1 ≤ S) (hg : S ≤ 10) (hf : ¬ alls (fq c r) S 0 = true) : An ex (d + 5) 199 3 [xA 54, xI (j : Int), xI (r : Int)] (hp c b) (xI (-3), hp (xup (xup c 54 5 3) 60 3 (c 60 3 + 1)) b) := by
  obtain ⟨ho, h40, hT, h9, hMo⟩ := hP
  obtain ⟨hM, d29, t2, l55, m1⟩ := hm
  have hn := ho.1
  have hT6 := p64 hn hT
  obtain ⟨r1, r2, r3, r4⟩ := i1 r hr
  have S40 : S ≤ 40 := by omega
  have rS : c (22 + 2 * r) 0 = (S : Nat) := by rw [r1]; exact hS
  have S31 : S < 2147483648 := by omega
  have S0 : 0 ≤ w32 (S : Int) := by rw [x_wn S31]; omega
  refine Rn.run 1 (ls' := [_, _, _]) (st' := [_]) rfl ?_
  refine Rn.call rfl rfl rfl rfl rfl (c141) ?_
  refine Rn.eqB rfl (fun e4 => absurd e4 (by exact fun h => h (z_in' (m := 8) hj (by omega)))) (fun e4 => ?_)
  refine Rn.run 1 (ls' := [_, _, _]) (st' := [_]) rfl ?_
  refine Rn.call rfl rfl rfl rfl rfl (c138) ?_
  refine Rn.neB rfl (fun e11 => ?_) (fun e11 => absurd e11 (by exact fun h => h (z_in' (m := 6) hr (by omega))))
  refine Rn.run 3 (ls' := [_, _, _]) (st' := [_, _]) rfl ?_
  refine Rn.ald rfl ⟨by decide, rfl⟩ (0) rfl (by decide) ?_
  rw [hM.1]
  refine Rn.ne0 rfl (fun e22 => ?_) (fun e22 => absurd e22 (by exact fun h => h (z_ne0 h0 hn)))
  refine Rn.run 3 (ls' := [_, _, _]) (st' := [_, _]) rfl ?_
  refine Rn.ald rfl ⟨by decide, rfl⟩ (r) (x_wn (n := r) (by omega)) (by omega) ?_
  rw [hS]
  refine Rn.ge0 rfl (fun e34 => ?_) (fun e34 => absurd e34 (by exact fun h => h S0))
  refine Rn.run 3 (ls' := [_, _, _]) (st' := [_, _]) rfl ?_
  refine Rn.ald rfl ⟨by decide, rfl⟩ (r) (x_wn (n := r) (by omega)) (by omega) ?_
  rw [hS]
  refine Rn.run 3 (ls' := [_, _, _]) (st' := [_, _, _]) rfl ?_
  refine Rn.call rfl rfl rfl rfl rfl (c131) ?_
  refine Rn.neB rfl (fun e57 => ?_) (fun e57 => absurd e57 (by exact fun h => h (z_in110 hz hg)))
  refine Rn.run 2 (ls' := [_, _, _]) (st' := [_, _]) rfl ?_
  refine Rn.call rfl rfl rfl rfl rfl (c200 hr i1 hS) ?_
  refine Rn.eqB rfl (fun e71 => ?_) (fun e71 => absurd e71 (by exact hf))
  refine Rn.run 2 (ls' := [_, _, _]) (st' := [_, _]) rfl ?_
  refine Rn.call rfl rfl rfl rfl rfl (c134 3 rfl (by decide)) ?_
  exact Rn.ret rfl rfl rfl rfl rfl rfl
theorem k199_ok {ex : xO} {d : Nat} {c : Nat → Nat → Int} {b : Bool} {n D T Mo : Nat} {kd bo wo L : Nat → Nat} (hP : pS n kd bo wo D T Mo L) (hm : mS c n kd bo wo D T Mo L) {j : Nat} (hj : j < 8) (h0 : n ≠ 0) {r S : Nat} (hr : r < 6) (i1 : iRow c) (hS : c 56 r = (S : Nat)) (hz : 1 ≤ S) (hg : S ≤ 10) (hf : alls (fq c r) S 0 = true) : An ex (d + 5) 199 3 [xA 54, xI (j : Int), xI (r : Int)] (hp c b) (xI 0, hp (c) b) := by
  obtain ⟨ho, h40, hT, h9, hMo⟩ := hP
  obtain ⟨hM, d29, t2, l55, m1⟩ := hm
  have hn := ho.1
  have hT6 := p64 hn hT
  obtain ⟨r1, r2, r3, r4⟩ := i1 r hr
  have S40 : S ≤ 40 := by omega
  have rS : c (22 + 2 * r) 0 = (S : Nat) := by rw [r1]; exact hS
  have S31 : S < 2147483648 := by omega
  have S0 : 0 ≤ w32 (S : Int) := by rw [x_wn S31]; omega
  refine Rn.run 1 (ls' := [_, _, _]) (st' := [_]) rfl ?_
  refine Rn.call rfl rfl rfl rfl rfl (c141) ?_
  refine Rn.eqB rfl (fun e4 => absurd e4 (by exact fun h => h (z_in' (m := 8) hj (by omega)))) (fun e4 => ?_)
  refine Rn.run 1 (ls' := [_, _, _]) (st' := [_]) rfl ?_
  refine Rn.call rfl rfl rfl rfl rfl (c138) ?_
  refine Rn.neB rfl (fun e11 => ?_) (fun e11 => absurd e11 (by exact fun h => h (z_in' (m := 6) hr (by omega))))
  refine Rn.run 3 (ls' := [_, _, _]) (st' := [_, _]) rfl ?_
  refine Rn.ald rfl ⟨by decide, rfl⟩ (0) rfl (by decide) ?_
  rw [hM.1]
  refine Rn.ne0 rfl (fun e22 => ?_) (fun e22 => absurd e22 (by exact fun h => h (z_ne0 h0 hn)))
  refine Rn.run 3 (ls' := [_, _, _]) (st' := [_, _]) rfl ?_
  refine Rn.ald rfl ⟨by decide, rfl⟩ (r) (x_wn (n := r) (by omega)) (by omega) ?_
  rw [hS]
  refine Rn.ge0 rfl (fun e34 => ?_) (fun e34 => absurd e34 (by exact fun h => h S0))
  refine Rn.run 3 (ls' := [_, _, _]) (st' := [_, _]) rfl ?_
  refine Rn.ald rfl ⟨by decide, rfl⟩ (r) (x_wn (n := r) (by omega)) (by omega) ?_
  rw [hS]
  refine Rn.run 3 (ls' := [_, _, _]) (st' := [_, _, _]) rfl ?_
  refine Rn.call rfl rfl rfl rfl rfl (c131) ?_
  refine Rn.neB rfl (fun e57 => ?_) (fun e57 => absurd e57 (by exact fun h => h (z_in110 hz hg)))
  refine Rn.run 2 (ls' := [_, _, _]) (st' := [_, _]) rfl ?_
  refine Rn.call rfl rfl rfl rfl rfl (c200 hr i1 hS) ?_
  refine Rn.eqB rfl (fun e71 => absurd e71 (by exact fun h => h hf)) (fun e71 => ?_)
  refine Rn.run 2 (ls' := [_, _, _]) (st' := [_]) rfl ?_
  exact Rn.ret rfl rfl rfl rfl rfl rfl
theorem k82_b1 {ex : xO} {d : Nat} {c : Nat → Nat → Int} {b : Bool} {n D T Mo : Nat} {kd bo wo L : Nat → Nat} (hP : pS n kd bo wo D T Mo L) (hc : cS c b n kd bo wo D T Mo L) {a1 a2 : Int} (h1 : w32 a1 = a1) (q1 : ¬ (0 ≤ a1 ∧ a1 < 8)) : An ex (d + 20) 82 7 [xA 0, xI a1, xI a2] (hp c b) (xI (-1), hp (c) b) := by
  obtain ⟨ho, h40, hT, h9, hMo⟩ := hP
  obtain ⟨hC, d7, t9, hL, m10⟩ := hc
  have hn := ho.1
  have hT6 := p64 hn hT
  refine Rn.run 3 (ls' := [_, _, _, _, _, _, _]) (st' := [_, _, _]) rfl ?_
  refine Rn.call rfl rfl rfl rfl rfl (k109_b1 ⟨ho, h40, hT, h9, hMo⟩ ⟨hC, d7, t9, hL, m10⟩ h1 q1) ?_
  refine Rn.run 2 (ls' := [_, _, _, _, _, _, _]) (st' := [_]) rfl ?_
  refine Rn.eq0 rfl (fun e8 => absurd e8 (by decide)) (fun e8 => ?_)
  refine Rn.run 1 (ls' := [_, _, _, _, _, _, _]) (st' := [_]) rfl ?_
  exact Rn.ret rfl rfl rfl rfl rfl rfl
theorem k202_b1 {ex : xO} {d : Nat} {c : Nat → Nat → Int} {b : Bool} {n D T Mo : Nat} {kd bo wo L : Nat → Nat} (hP : pS n kd bo wo D T Mo L) (hm : mS c n kd bo wo D T Mo L) {a1 a2 : Int} (h1 : w32 a1 = a1) (q1 : ¬ (0 ≤ a1 ∧ a1 < 8)) : An ex (d + 20) 202 7 [xA 54, xI a1, xI a2] (hp c b) (xI (-1), hp (c) b) := by
  obtain ⟨ho, h40, hT, h9, hMo⟩ := hP
  obtain ⟨hM, d29, t2, l55, m1⟩ := hm
  have hn := ho.1
  have hT6 := p64 hn hT
  refine Rn.run 3 (ls' := [_, _, _, _, _, _, _]) (st' := [_, _, _]) rfl ?_
  refine Rn.call rfl rfl rfl rfl rfl (k199_b1 ⟨ho, h40, hT, h9, hMo⟩ ⟨hM, d29, t2, l55, m1⟩ h1 q1) ?_
  refine Rn.run 2 (ls' := [_, _, _, _, _, _, _]) (st' := [_]) rfl ?_
  refine Rn.eq0 rfl (fun e8 => absurd e8 (by decide)) (fun e8 => ?_)
  refine Rn.run 1 (ls' := [_, _, _, _, _, _, _]) (st' := [_]) rfl ?_
  exact Rn.ret rfl rfl rfl rfl rfl rfl
theorem k82_b2 {ex : xO} {d : Nat} {c : Nat → Nat → Int} {b : Bool} {n D T Mo : Nat} {kd bo wo L : Nat → Nat} (hP : pS n kd bo wo D T Mo L) (hc : cS c b n kd bo wo D T Mo L) {a2 : Int} {j : Nat} (hj : j < 8) (h2 : w32 a2 = a2) (q2 : ¬ (0 ≤ a2 ∧ a2 < 6)) : An ex (d + 20) 82 7 [xA 0, xI (j : Int), xI a2] (hp c b) (xI (-1), hp (c) b) := by
  obtain ⟨ho, h40, hT, h9, hMo⟩ := hP
  obtain ⟨hC, d7, t9, hL, m10⟩ := hc
  have hn := ho.1
  have hT6 := p64 hn hT
  refine Rn.run 3 (ls' := [_, _, _, _, _, _, _]) (st' := [_, _, _]) rfl ?_
  refine Rn.call rfl rfl rfl rfl rfl (k109_b2 ⟨ho, h40, hT, h9, hMo⟩ ⟨hC, d7, t9, hL, m10⟩ hj h2 q2) ?_
  refine Rn.run 2 (ls' := [_, _, _, _, _, _, _]) (st' := [_]) rfl ?_
  refine Rn.eq0 rfl (fun e8 => absurd e8 (by decide)) (fun e8 => ?_)
  refine Rn.run 1 (ls' := [_, _, _, _, _, _, _]) (st' := [_]) rfl ?_
  exact Rn.ret rfl rfl rfl rfl rfl rfl
theorem k202_b2 {ex : xO} {d : Nat} {c : Nat → Nat → Int} {b : Bool} {n D T Mo : Nat} {kd bo wo L : Nat → Nat} (hP : pS n kd bo wo D T Mo L) (hm : mS c n kd bo wo D T Mo L) {a2 : Int} {j : Nat} (hj : j < 8) (h2 : w32 a2 = a2) (q2 : ¬ (0 ≤ a2 ∧ a2 < 6)) : An ex (d + 20) 202 7 [xA 54, xI (j : Int), xI a2] (hp c b) (xI (-1), hp (c) b) := by
  obtain ⟨ho, h40, hT, h9, hMo⟩ := hP
  obtain ⟨hM, d29, t2, l55, m1⟩ := hm
  have hn := ho.1
  have hT6 := p64 hn hT
  refine Rn.run 3 (ls' := [_, _, _, _, _, _, _]) (st' := [_, _, _]) rfl ?_
  refine Rn.call rfl rfl rfl rfl rfl (k199_b2 ⟨ho, h40, hT, h9, hMo⟩ ⟨hM, d29, t2, l55, m1⟩ hj h2 q2) ?_
  refine Rn.run 2 (ls' := [_, _, _, _, _, _, _]) (st' := [_]) rfl ?_
  refine Rn.eq0 rfl (fun e8 => absurd e8 (by decide)) (fun e8 => ?_)
  refine Rn.run 1 (ls' := [_, _, _, _, _, _, _]) (st' := [_]) rfl ?_
  exact Rn.ret rfl rfl rfl rfl rfl rfl
theorem k82_st {ex : xO} {d : Nat} {c : Nat → Nat → Int} {b : Bool} {n D T Mo : Nat} {kd bo wo L : Nat → Nat} (hP : pS n kd bo wo D T Mo L) (hc : cS c b n kd bo wo D T Mo L) {j r : Nat} (hj : j < 8) (hr : r < 6) (h0 : n = 0) : An ex (d + 20) 82 7 [xA 0, xI (j : Int), xI (r : Int)] (hp c b) (xI (-4), hp (c) b) := by
  obtain ⟨ho, h40, hT, h9, hMo⟩ := hP
  obtain ⟨hC, d7, t9, hL, m10⟩ := hc
  have hn := ho.1
  have hT6 := p64 hn hT
  refine Rn.run 3 (ls' := [_, _, _, _, _, _, _]) (st' := [_, _, _]) rfl ?_
  refine Rn.call rfl rfl rfl rfl rfl (k109_st ⟨ho, h40, hT, h9, hMo⟩ ⟨hC, d7, t9, hL, m10⟩ hj hr h0) ?_
  refine Rn.run 2 (ls' := [_, _, _, _, _, _, _]) (st' := [_]) rfl ?_
  refine Rn.eq0 rfl (fun e8 => absurd e8 (by decide)) (fun e8 => ?_)
  refine Rn.run 1 (ls' := [_, _, _, _, _, _, _]) (st' := [_]) rfl ?_
  exact Rn.ret rfl rfl rfl rfl rfl rfl
theorem k202_st {ex : xO} {d : Nat} {c : Nat → Nat → Int} {b : Bool} {n D T Mo : Nat} {kd bo wo L : Nat → Nat} (hP : pS n kd bo wo D T Mo L) (hm : mS c n kd bo wo D T Mo L) {j r : Nat} (hj : j < 8) (hr : r < 6) (h0 : n = 0) : An ex (d + 20) 202 7 [xA 54, xI (j : Int), xI (r : Int)] (hp c b) (xI (-4), hp (c) b) := by
  obtain ⟨ho, h40, hT, h9, hMo⟩ := hP
  obtain ⟨hM, d29, t2, l55, m1⟩ := hm
  have hn := ho.1
  have hT6 := p64 hn hT
  refine Rn.run 3 (ls' := [_, _, _, _, _, _, _]) (st' := [_, _, _]) rfl ?_
  refine Rn.call rfl rfl rfl rfl rfl (k199_st ⟨ho, h40, hT, h9, hMo⟩ ⟨hM, d29, t2, l55, m1⟩ hj hr h0) ?_
  refine Rn.run 2 (ls' := [_, _, _, _, _, _, _]) (st' := [_]) rfl ?_
  refine Rn.eq0 rfl (fun e8 => absurd e8 (by decide)) (fun e8 => ?_)
  refine Rn.run 1 (ls' := [_, _, _, _, _, _, _]) (st' := [_]) rfl ?_
  exact Rn.ret rfl rfl rfl rfl rfl rfl
theorem k82_no {ex : xO} {d : Nat} {c : Nat → Nat → Int} {b : Bool} {n D T Mo : Nat} {kd bo wo L : Nat → Nat} (hP : pS n kd bo wo D T Mo L) (hc : cS c b n kd bo wo D T Mo L) {j : Nat} (hj : j < 8) (h0 : n ≠ 0) {r : Nat} (hr : r < 6) (i1 : iRow c) (hm1 : c 56 r < 0) : An ex (d + 20) 82 7 [xA 0, xI (j : Int), xI (r : Int)] (hp c b) (xI (-3), hp (xup (xup c 0 13 1) 13 1 (c 13 1 + 1)) b) := by
  obtain ⟨ho, h40, hT, h9, hMo⟩ := hP
  obtain ⟨hC, d7, t9, hL, m10⟩ := hc
  have hn := ho.1
  have hT6 := p64 hn hT
  refine Rn.run 3 (ls' := [_, _, _, _, _, _, _]) (st' := [_, _, _]) rfl ?_
  refine Rn.call rfl rfl rfl rfl rfl (k109_no ⟨ho, h40, hT, h9, hMo⟩ ⟨hC, d7, t9, hL, m10⟩ hj h0 hr i1 hm1) ?_
  refine Rn.run 2 (ls' := [_, _, _, _, _, _, _]) (st' := [_]) rfl ?_
  refine Rn.eq0 rfl (fun e8 => absurd e8 (by decide)) (fun e8 => ?_)
  refine Rn.run 1 (ls' := [_, _, _, _, _, _, _]) (st' := [_]) rfl ?_
  exact Rn.ret rfl rfl rfl rfl rfl rfl
theorem k202_no {ex : xO} {d : Nat} {c : Nat → Nat → Int} {b : Bool} {n D T Mo : Nat} {kd bo wo L : Nat → Nat} (hP : pS n kd bo wo D T Mo L) (hm : mS c n kd bo wo D T Mo L) {j : Nat} (hj : j < 8) (h0 : n ≠ 0) {r : Nat} (hr : r < 6) (i1 : iRow c) (hm1 : c 56 r < 0) : An ex (d + 20) 202 7 [xA 54, xI (j : Int), xI (r : Int)] (hp c b) (xI (-3), hp (xup (xup c 54 5 1) 60 1 (c 60 1 + 1)) b) := by
  obtain ⟨ho, h40, hT, h9, hMo⟩ := hP
  obtain ⟨hM, d29, t2, l55, m1⟩ := hm
  have hn := ho.1
  have hT6 := p64 hn hT
  refine Rn.run 3 (ls' := [_, _, _, _, _, _, _]) (st' := [_, _, _]) rfl ?_
  refine Rn.call rfl rfl rfl rfl rfl (k199_no ⟨ho, h40, hT, h9, hMo⟩ ⟨hM, d29, t2, l55, m1⟩ hj h0 hr i1 hm1) ?_
  refine Rn.run 2 (ls' := [_, _, _, _, _, _, _]) (st' := [_]) rfl ?_
  refine Rn.eq0 rfl (fun e8 => absurd e8 (by decide)) (fun e8 => ?_)
  refine Rn.run 1 (ls' := [_, _, _, _, _, _, _]) (st' := [_]) rfl ?_
  exact Rn.ret rfl rfl rfl rfl rfl rfl
theorem k82_s1 {ex : xO} {d : Nat} {c : Nat → Nat → Int} {b : Bool} {n D T Mo : Nat} {kd bo wo L : Nat → Nat} (hP : pS n kd bo wo D T Mo L) (hc : cS c b n kd bo wo D T Mo L) {j : Nat} (hj : j < 8) (h0 : n ≠ 0) {r S : Nat} (hr : r < 6) (i1 : iRow c) (hS : c 56 r = (S : Nat)) (hz : S < 1) : An ex (d + 20) 82 7 [xA 0, xI (j : Int), xI (r : Int)] (hp c b) (xI (-3), hp (xup (xup c 0 13 5) 13 5 (c 13 5 + 1)) b) := by
  obtain ⟨ho, h40, hT, h9, hMo⟩ := hP
  obtain ⟨hC, d7, t9, hL, m10⟩ := hc
  have hn := ho.1
  have hT6 := p64 hn hT
  refine Rn.run 3 (ls' := [_, _, _, _, _, _, _]) (st' := [_, _, _]) rfl ?_
  refine Rn.call rfl rfl rfl rfl rfl (k109_s1 ⟨ho, h40, hT, h9, hMo⟩ ⟨hC, d7, t9, hL, m10⟩ hj h0 hr i1 hS hz) ?_
  refine Rn.run 2 (ls' := [_, _, _, _, _, _, _]) (st' := [_]) rfl ?_
  refine Rn.eq0 rfl (fun e8 => absurd e8 (by decide)) (fun e8 => ?_)
  refine Rn.run 1 (ls' := [_, _, _, _, _, _, _]) (st' := [_]) rfl ?_
  exact Rn.ret rfl rfl rfl rfl rfl rfl
theorem k202_s1 {ex : xO} {d : Nat} {c : Nat → Nat → Int} {b : Bool} {n D T Mo : Nat} {kd bo wo L : Nat → Nat} (hP : pS n kd bo wo D T Mo L) (hm : mS c n kd bo wo D T Mo L) {j : Nat} (hj : j < 8) (h0 : n ≠ 0) {r S : Nat} (hr : r < 6) (i1 : iRow c) (hS : c 56 r = (S : Nat)) (hz : S < 1) : An ex (d + 20) 202 7 [xA 54, xI (j : Int), xI (r : Int)] (hp c b) (xI (-3), hp (xup (xup c 54 5 5) 60 5 (c 60 5 + 1)) b) := by
  obtain ⟨ho, h40, hT, h9, hMo⟩ := hP
  obtain ⟨hM, d29, t2, l55, m1⟩ := hm
  have hn := ho.1
  have hT6 := p64 hn hT
  refine Rn.run 3 (ls' := [_, _, _, _, _, _, _]) (st' := [_, _, _]) rfl ?_
  refine Rn.call rfl rfl rfl rfl rfl (k199_s1 ⟨ho, h40, hT, h9, hMo⟩ ⟨hM, d29, t2, l55, m1⟩ hj h0 hr i1 hS hz) ?_
  refine Rn.run 2 (ls' := [_, _, _, _, _, _, _]) (st' := [_]) rfl ?_
  refine Rn.eq0 rfl (fun e8 => absurd e8 (by decide)) (fun e8 => ?_)
  refine Rn.run 1 (ls' := [_, _, _, _, _, _, _]) (st' := [_]) rfl ?_
  exact Rn.ret rfl rfl rfl rfl rfl rfl
theorem k82_s2 {ex : xO} {d : Nat} {c : Nat → Nat → Int} {b : Bool} {n D T Mo : Nat} {kd bo wo L : Nat → Nat} (hP : pS n kd bo wo D T Mo L) (hc : cS c b n kd bo wo D T Mo L) {j : Nat} (hj : j < 8) (h0 : n ≠ 0) {r S : Nat} (hr : r < 6) (i1 : iRow c) (hS : c 56 r = (S : Nat)) (hz : 1 ≤ S) (hg : 10 < S) : An ex (d + 20) 82 7 [xA 0, xI (j : Int), xI (r : Int)] (hp c b) (xI (-3), hp (xup (xup c 0 13 5) 13 5 (c 13 5 + 1)) b) := by
  obtain ⟨ho, h40, hT, h9, hMo⟩ := hP
  obtain ⟨hC, d7, t9, hL, m10⟩ := hc
  have hn := ho.1
  have hT6 := p64 hn hT
  refine Rn.run 3 (ls' := [_, _, _, _, _, _, _]) (st' := [_, _, _]) rfl ?_
  refine Rn.call rfl rfl rfl rfl rfl (k109_s2 ⟨ho, h40, hT, h9, hMo⟩ ⟨hC, d7, t9, hL, m10⟩ hj h0 hr i1 hS hz hg) ?_
  refine Rn.run 2 (ls' := [_, _, _, _, _, _, _]) (st' := [_]) rfl ?_
  refine Rn.eq0 rfl (fun e8 => absurd e8 (by decide)) (fun e8 => ?_)
  refine Rn.run 1 (ls' := [_, _, _, _, _, _, _]) (st' := [_]) rfl ?_
  exact Rn.ret rfl rfl rfl rfl rfl rfl
theorem k202_s2 {ex : xO} {d : Nat} {c : Nat → Nat → Int} {b : Bool} {n D T Mo : Nat} {kd bo wo L : Nat → Nat} (hP : pS n kd bo wo D T Mo L) (hm : mS c n kd bo wo D T Mo L) {j : Nat} (hj : j < 8) (h0 : n ≠ 0) {r S : Nat} (hr : r < 6) (i1 : iRow c) (hS : c 56 r = (S : Nat)) (hz : 1 ≤ S) (hg : 10 < S) : An ex (d + 20) 202 7 [xA 54, xI (j : Int), xI (r : Int)] (hp c b) (xI (-3), hp (xup (xup c 54 5 5) 60 5 (c 60 5 + 1)) b) := by
  obtain ⟨ho, h40, hT, h9, hMo⟩ := hP
  obtain ⟨hM, d29, t2, l55, m1⟩ := hm
  have hn := ho.1
  have hT6 := p64 hn hT
  refine Rn.run 3 (ls' := [_, _, _, _, _, _, _]) (st' := [_, _, _]) rfl ?_
  refine Rn.call rfl rfl rfl rfl rfl (k199_s2 ⟨ho, h40, hT, h9, hMo⟩ ⟨hM, d29, t2, l55, m1⟩ hj h0 hr i1 hS hz hg) ?_
  refine Rn.run 2 (ls' := [_, _, _, _, _, _, _]) (st' := [_]) rfl ?_
  refine Rn.eq0 rfl (fun e8 => absurd e8 (by decide)) (fun e8 => ?_)
  refine Rn.run 1 (ls' := [_, _, _, _, _, _, _]) (st' := [_]) rfl ?_
  exact Rn.ret rfl rfl rfl rfl rfl rfl
theorem k82_un {ex : xO} {d : Nat} {c : Nat → Nat → Int} {b : Bool} {n D T Mo : Nat} {kd bo wo L : Nat → Nat} (hP : pS n kd bo wo D T Mo L) (hc : cS c b n kd bo wo D T Mo L) {j : Nat} (hj : j < 8) (h0 : n ≠ 0) {r S : Nat} (hr : r < 6) (i1 : iRow c) (hS : c 56 r = (S : Nat)) (hz : 1 ≤ S) (hg : S ≤ 10) (hf : ¬ alls (fq c r) S 0 = true) : An ex (d + 20) 82 7 [xA 0, xI (j : Int), xI (r : Int)] (hp c b) (xI (-3), hp (xup (xup c 0 13 3) 13 3 (c 13 3 + 1)) b) := by
  obtain ⟨ho, h40, hT, h9, hMo⟩ := hP
  obtain ⟨hC, d7, t9, hL, m10⟩ := hc
  have hn := ho.1
  have hT6 := p64 hn hT
  refine Rn.run 3 (ls' := [_, _, _, _, _, _, _]) (st' := [_, _, _]) rfl ?_
  refine Rn.call rfl rfl rfl rfl rfl (k109_un ⟨ho, h40, hT, h9, hMo⟩ ⟨hC, d7, t9, hL, m10⟩ hj h0 hr i1 hS hz hg hf) ?_
  refine Rn.run 2 (ls' := [_, _, _, _, _, _, _]) (st' := [_]) rfl ?_
  refine Rn.eq0 rfl (fun e8 => absurd e8 (by decide)) (fun e8 => ?_)
  refine Rn.run 1 (ls' := [_, _, _, _, _, _, _]) (st' := [_]) rfl ?_
  exact Rn.ret rfl rfl rfl rfl rfl rfl
theorem k202_un {ex : xO} {d : Nat} {c : Nat → Nat → Int} {b : Bool} {n D T Mo : Nat} {kd bo wo L : Nat → Nat} (hP : pS n kd bo wo D T Mo L) (hm : mS c n kd bo wo D T Mo L) {j : Nat} (hj : j < 8) (h0 : n ≠ 0) {r S : Nat} (hr : r < 6) (i1 : iRow c) (hS : c 56 r = (S : Nat)) (hz : 1 ≤ S) (hg : S ≤ 10) (hf : ¬ alls (fq c r) S 0 = true) : An ex (d + 20) 202 7 [xA 54, xI (j : Int), xI (r : Int)] (hp c b) (xI (-3), hp (xup (xup c 54 5 3) 60 3 (c 60 3 + 1)) b) := by
  obtain ⟨ho, h40, hT, h9, hMo⟩ := hP
  obtain ⟨hM, d29, t2, l55, m1⟩ := hm
  have hn := ho.1
  have hT6 := p64 hn hT
  refine Rn.run 3 (ls' := [_, _, _, _, _, _, _]) (st' := [_, _, _]) rfl ?_
  refine Rn.call rfl rfl rfl rfl rfl (k199_un ⟨ho, h40, hT, h9, hMo⟩ ⟨hM, d29, t2, l55, m1⟩ hj h0 hr i1 hS hz hg hf) ?_
  refine Rn.run 2 (ls' := [_, _, _, _, _, _, _]) (st' := [_]) rfl ?_
  refine Rn.eq0 rfl (fun e8 => absurd e8 (by decide)) (fun e8 => ?_)
  refine Rn.run 1 (ls' := [_, _, _, _, _, _, _]) (st' := [_]) rfl ?_
  exact Rn.ret rfl rfl rfl rfl rfl rfl
theorem gr_about {ex : xO} (a1 a2 : Int) (h1 : w32 a1 = a1) (h2 : w32 a2 = a2) {d : Nat} {c : Nat → Nat → Int} {b : Bool} (hI : Inv c b) {n D T Mo : Nat} {kd bo wo L : Nat → Nat} (hP : pS n kd bo wo D T Mo L) (hc : cS c b n kd bo wo D T Mo L) (hm : mS c n kd bo wo D T Mo L) : (∃ v1 v2 c1 b1 c2 b2, An ex (d + 20) 82 7 [xA 0, xI a1, xI a2] (hp c b) (xI v1, hp c1 b1) ∧ An ex (d + 20) 202 7 [xA 54, xI a1, xI a2] (hp c1 b1) (xI v2, hp c2 b2) ∧ w32 v1 = w32 v2 ∧ Inv c2 b2) ∨ (n ≠ 0 ∧ ∃ j r S : Nat, j < 8 ∧ r < 6 ∧ a1 = (j : Int) ∧ a2 = (r : Int) ∧ c 56 r = (S : Nat) ∧ 1 ≤ S ∧ S ≤ 10 ∧ alls (fq c r) S 0 = true) := by
  by_cases q1 : 0 ≤ a1 ∧ a1 < 8
  · obtain ⟨j, hj, rfl⟩ : ∃ j : Nat, j < 8 ∧ a1 = (j : Int) := ⟨a1.toNat, by omega, by omega⟩
    by_cases q2 : 0 ≤ a2 ∧ a2 < 6
    · obtain ⟨r, hr, rfl⟩ : ∃ j : Nat, j < 6 ∧ a2 = (j : Int) := ⟨a2.toNat, by omega, by omega⟩
      by_cases h0 : n = 0
      · exact Or.inl (Ag_same hI (-4) (k82_st hP hc hj hr h0) (k202_st hP hm hj hr h0))
      · by_cases q3 : c 56 r < 0
        · exact Or.inl (Ag_find2 hI 1 (by decide) (k82_no hP hc hj h0 hr hI.1 q3) (fun c' hq => k202_no hP (mS_fr (fun k => hq 55 k (by decide) (by decide)) hm) hj h0 hr (iRow_fr (fun a k ha => hq a k (by omega) (by omega)) hI.1) (by rw [hq 56 r (by decide) (by decide)]; exact q3)))
        · obtain ⟨S, hS⟩ : ∃ S : Nat, c 56 r = (S : Nat) := ⟨(c 56 r).toNat, by omega⟩
          have hS' : ∀ c' : Nat → Nat → Int, (∀ a k, a ≠ 0 → a ≠ 13 → c' a k = c a k) → c' 56 r = (S : Nat) := fun c' hq => by rw [hq 56 r (by decide) (by decide)]; exact hS
          have hA' : ∀ c' : Nat → Nat → Int, (∀ a k, a ≠ 0 → a ≠ 13 → c' a k = c a k) → fq c' r = fq c r := fun c' hq => by funext k; unfold fq; rw [hq 57 _ (by decide) (by decide)]
          by_cases hz : 1 ≤ S
          · by_cases hg : S ≤ 10
            · by_cases hf : alls (fq c r) S 0 = true
              · exact Or.inr ⟨h0, j, r, S, hj, hr, rfl, rfl, hS, hz, hg, hf⟩
              · exact Or.inl (Ag_find2 hI 3 (by decide) (k82_un hP hc hj h0 hr hI.1 hS hz hg hf) (fun c' hq => k202_un hP (mS_fr (fun k => hq 55 k (by decide) (by decide)) hm) hj h0 hr (iRow_fr (fun a k ha => hq a k (by omega) (by omega)) hI.1) (hS' c' hq) hz hg (by rw [hA' c' hq]; exact hf)))
            · exact Or.inl (Ag_find2 hI 5 (by decide) (k82_s2 hP hc hj h0 hr hI.1 hS hz (by omega)) (fun c' hq => k202_s2 hP (mS_fr (fun k => hq 55 k (by decide) (by decide)) hm) hj h0 hr (iRow_fr (fun a k ha => hq a k (by omega) (by omega)) hI.1) (hS' c' hq) hz (by omega)))
          · exact Or.inl (Ag_find2 hI 5 (by decide) (k82_s1 hP hc hj h0 hr hI.1 hS (by omega)) (fun c' hq => k202_s1 hP (mS_fr (fun k => hq 55 k (by decide) (by decide)) hm) hj h0 hr (iRow_fr (fun a k ha => hq a k (by omega) (by omega)) hI.1) (hS' c' hq) (by omega)))
    · exact Or.inl (Ag_same hI (-1) (k82_b2 hP hc hj h2 q2) (k202_b2 hP hm hj h2 q2))
  · exact Or.inl (Ag_same hI (-1) (k82_b1 hP hc h1 q1) (k202_b1 hP hm h1 q1))
theorem k83_b1 {ex : xO} {d : Nat} {c : Nat → Nat → Int} {b : Bool} {n D T Mo : Nat} {kd bo wo L : Nat → Nat} (hP : pS n kd bo wo D T Mo L) (hc : cS c b n kd bo wo D T Mo L) {a1 a2 : Int} (h1 : w32 a1 = a1) (q1 : ¬ (0 ≤ a1 ∧ a1 < 8)) : An ex (d + 20) 83 7 [xA 0, xI a1, xI a2] (hp c b) (xI (-1), hp (c) b) := by
  obtain ⟨ho, h40, hT, h9, hMo⟩ := hP
  obtain ⟨hC, d7, t9, hL, m10⟩ := hc
  have hn := ho.1
  have hT6 := p64 hn hT
  refine Rn.run 3 (ls' := [_, _, _, _, _, _, _]) (st' := [_, _, _]) rfl ?_
  refine Rn.call rfl rfl rfl rfl rfl (k109_b1 ⟨ho, h40, hT, h9, hMo⟩ ⟨hC, d7, t9, hL, m10⟩ h1 q1) ?_
  refine Rn.run 2 (ls' := [_, _, _, _, _, _, _]) (st' := [_]) rfl ?_
  refine Rn.eq0 rfl (fun e8 => absurd e8 (by decide)) (fun e8 => ?_)
  refine Rn.run 1 (ls' := [_, _, _, _, _, _, _]) (st' := [_]) rfl ?_
  exact Rn.ret rfl rfl rfl rfl rfl rfl
theorem k203_b1 {ex : xO} {d : Nat} {c : Nat → Nat → Int} {b : Bool} {n D T Mo : Nat} {kd bo wo L : Nat → Nat} (hP : pS n kd bo wo D T Mo L) (hm : mS c n kd bo wo D T Mo L) {a1 a2 : Int} (h1 : w32 a1 = a1) (q1 : ¬ (0 ≤ a1 ∧ a1 < 8)) : An ex (d + 20) 203 7 [xA 54, xI a1, xI a2] (hp c b) (xI (-1), hp (c) b) := by
  obtain ⟨ho, h40, hT, h9, hMo⟩ := hP
  obtain ⟨hM, d29, t2, l55, m1⟩ := hm
  have hn := ho.1
  have hT6 := p64 hn hT
  refine Rn.run 3 (ls' := [_, _, _, _, _, _, _]) (st' := [_, _, _]) rfl ?_
  refine Rn.call rfl rfl rfl rfl rfl (k199_b1 ⟨ho, h40, hT, h9, hMo⟩ ⟨hM, d29, t2, l55, m1⟩ h1 q1) ?_
  refine Rn.run 2 (ls' := [_, _, _, _, _, _, _]) (st' := [_]) rfl ?_
  refine Rn.eq0 rfl (fun e8 => absurd e8 (by decide)) (fun e8 => ?_)
  refine Rn.run 1 (ls' := [_, _, _, _, _, _, _]) (st' := [_]) rfl ?_
  exact Rn.ret rfl rfl rfl rfl rfl rfl
theorem k83_b2 {ex : xO} {d : Nat} {c : Nat → Nat → Int} {b : Bool} {n D T Mo : Nat} {kd bo wo L : Nat → Nat} (hP : pS n kd bo wo D T Mo L) (hc : cS c b n kd bo wo D T Mo L) {a2 : Int} {j : Nat} (hj : j < 8) (h2 : w32 a2 = a2) (q2 : ¬ (0 ≤ a2 ∧ a2 < 6)) : An ex (d + 20) 83 7 [xA 0, xI (j : Int), xI a2] (hp c b) (xI (-1), hp (c) b) := by
  obtain ⟨ho, h40, hT, h9, hMo⟩ := hP
  obtain ⟨hC, d7, t9, hL, m10⟩ := hc
  have hn := ho.1
  have hT6 := p64 hn hT
  refine Rn.run 3 (ls' := [_, _, _, _, _, _, _]) (st' := [_, _, _]) rfl ?_
  refine Rn.call rfl rfl rfl rfl rfl (k109_b2 ⟨ho, h40, hT, h9, hMo⟩ ⟨hC, d7, t9, hL, m10⟩ hj h2 q2) ?_
  refine Rn.run 2 (ls' := [_, _, _, _, _, _, _]) (st' := [_]) rfl ?_
  refine Rn.eq0 rfl (fun e8 => absurd e8 (by decide)) (fun e8 => ?_)
  refine Rn.run 1 (ls' := [_, _, _, _, _, _, _]) (st' := [_]) rfl ?_
  exact Rn.ret rfl rfl rfl rfl rfl rfl
theorem k203_b2 {ex : xO} {d : Nat} {c : Nat → Nat → Int} {b : Bool} {n D T Mo : Nat} {kd bo wo L : Nat → Nat} (hP : pS n kd bo wo D T Mo L) (hm : mS c n kd bo wo D T Mo L) {a2 : Int} {j : Nat} (hj : j < 8) (h2 : w32 a2 = a2) (q2 : ¬ (0 ≤ a2 ∧ a2 < 6)) : An ex (d + 20) 203 7 [xA 54, xI (j : Int), xI a2] (hp c b) (xI (-1), hp (c) b) := by
  obtain ⟨ho, h40, hT, h9, hMo⟩ := hP
  obtain ⟨hM, d29, t2, l55, m1⟩ := hm
  have hn := ho.1
  have hT6 := p64 hn hT
  refine Rn.run 3 (ls' := [_, _, _, _, _, _, _]) (st' := [_, _, _]) rfl ?_
  refine Rn.call rfl rfl rfl rfl rfl (k199_b2 ⟨ho, h40, hT, h9, hMo⟩ ⟨hM, d29, t2, l55, m1⟩ hj h2 q2) ?_
  refine Rn.run 2 (ls' := [_, _, _, _, _, _, _]) (st' := [_]) rfl ?_
  refine Rn.eq0 rfl (fun e8 => absurd e8 (by decide)) (fun e8 => ?_)
  refine Rn.run 1 (ls' := [_, _, _, _, _, _, _]) (st' := [_]) rfl ?_
  exact Rn.ret rfl rfl rfl rfl rfl rfl
theorem k83_st {ex : xO} {d : Nat} {c : Nat → Nat → Int} {b : Bool} {n D T Mo : Nat} {kd bo wo L : Nat → Nat} (hP : pS n kd bo wo D T Mo L) (hc : cS c b n kd bo wo D T Mo L) {j r : Nat} (hj : j < 8) (hr : r < 6) (h0 : n = 0) : An ex (d + 20) 83 7 [xA 0, xI (j : Int), xI (r : Int)] (hp c b) (xI (-4), hp (c) b) := by
  obtain ⟨ho, h40, hT, h9, hMo⟩ := hP
  obtain ⟨hC, d7, t9, hL, m10⟩ := hc
  have hn := ho.1
  have hT6 := p64 hn hT
  refine Rn.run 3 (ls' := [_, _, _, _, _, _, _]) (st' := [_, _, _]) rfl ?_
  refine Rn.call rfl rfl rfl rfl rfl (k109_st ⟨ho, h40, hT, h9, hMo⟩ ⟨hC, d7, t9, hL, m10⟩ hj hr h0) ?_
  refine Rn.run 2 (ls' := [_, _, _, _, _, _, _]) (st' := [_]) rfl ?_
  refine Rn.eq0 rfl (fun e8 => absurd e8 (by decide)) (fun e8 => ?_)
  refine Rn.run 1 (ls' := [_, _, _, _, _, _, _]) (st' := [_]) rfl ?_
  exact Rn.ret rfl rfl rfl rfl rfl rfl
theorem k203_st {ex : xO} {d : Nat} {c : Nat → Nat → Int} {b : Bool} {n D T Mo : Nat} {kd bo wo L : Nat → Nat} (hP : pS n kd bo wo D T Mo L) (hm : mS c n kd bo wo D T Mo L) {j r : Nat} (hj : j < 8) (hr : r < 6) (h0 : n = 0) : An ex (d + 20) 203 7 [xA 54, xI (j : Int), xI (r : Int)] (hp c b) (xI (-4), hp (c) b) := by
  obtain ⟨ho, h40, hT, h9, hMo⟩ := hP
  obtain ⟨hM, d29, t2, l55, m1⟩ := hm
  have hn := ho.1
  have hT6 := p64 hn hT
  refine Rn.run 3 (ls' := [_, _, _, _, _, _, _]) (st' := [_, _, _]) rfl ?_
  refine Rn.call rfl rfl rfl rfl rfl (k199_st ⟨ho, h40, hT, h9, hMo⟩ ⟨hM, d29, t2, l55, m1⟩ hj hr h0) ?_
  refine Rn.run 2 (ls' := [_, _, _, _, _, _, _]) (st' := [_]) rfl ?_
  refine Rn.eq0 rfl (fun e8 => absurd e8 (by decide)) (fun e8 => ?_)
  refine Rn.run 1 (ls' := [_, _, _, _, _, _, _]) (st' := [_]) rfl ?_
  exact Rn.ret rfl rfl rfl rfl rfl rfl
theorem k83_no {ex : xO} {d : Nat} {c : Nat → Nat → Int} {b : Bool} {n D T Mo : Nat} {kd bo wo L : Nat → Nat} (hP : pS n kd bo wo D T Mo L) (hc : cS c b n kd bo wo D T Mo L) {j : Nat} (hj : j < 8) (h0 : n ≠ 0) {r : Nat} (hr : r < 6) (i1 : iRow c) (hm1 : c 56 r < 0) : An ex (d + 20) 83 7 [xA 0, xI (j : Int), xI (r : Int)] (hp c b) (xI (-3), hp (xup (xup c 0 13 1) 13 1 (c 13 1 + 1)) b) := by
  obtain ⟨ho, h40, hT, h9, hMo⟩ := hP
  obtain ⟨hC, d7, t9, hL, m10⟩ := hc
  have hn := ho.1
  have hT6 := p64 hn hT
  refine Rn.run 3 (ls' := [_, _, _, _, _, _, _]) (st' := [_, _, _]) rfl ?_
  refine Rn.call rfl rfl rfl rfl rfl (k109_no ⟨ho, h40, hT, h9, hMo⟩ ⟨hC, d7, t9, hL, m10⟩ hj h0 hr i1 hm1) ?_
  refine Rn.run 2 (ls' := [_, _, _, _, _, _, _]) (st' := [_]) rfl ?_
  refine Rn.eq0 rfl (fun e8 => absurd e8 (by decide)) (fun e8 => ?_)
  refine Rn.run 1 (ls' := [_, _, _, _, _, _, _]) (st' := [_]) rfl ?_
  exact Rn.ret rfl rfl rfl rfl rfl rfl
theorem k203_no {ex : xO} {d : Nat} {c : Nat → Nat → Int} {b : Bool} {n D T Mo : Nat} {kd bo wo L : Nat → Nat} (hP : pS n kd bo wo D T Mo L) (hm : mS c n kd bo wo D T Mo L) {j : Nat} (hj : j < 8) (h0 : n ≠ 0) {r : Nat} (hr : r < 6) (i1 : iRow c) (hm1 : c 56 r < 0) : An ex (d + 20) 203 7 [xA 54, xI (j : Int), xI (r : Int)] (hp c b) (xI (-3), hp (xup (xup c 54 5 1) 60 1 (c 60 1 + 1)) b) := by
  obtain ⟨ho, h40, hT, h9, hMo⟩ := hP
  obtain ⟨hM, d29, t2, l55, m1⟩ := hm
  have hn := ho.1
  have hT6 := p64 hn hT
  refine Rn.run 3 (ls' := [_, _, _, _, _, _, _]) (st' := [_, _, _]) rfl ?_
  refine Rn.call rfl rfl rfl rfl rfl (k199_no ⟨ho, h40, hT, h9, hMo⟩ ⟨hM, d29, t2, l55, m1⟩ hj h0 hr i1 hm1) ?_
  refine Rn.run 2 (ls' := [_, _, _, _, _, _, _]) (st' := [_]) rfl ?_
  refine Rn.eq0 rfl (fun e8 => absurd e8 (by decide)) (fun e8 => ?_)
  refine Rn.run 1 (ls' := [_, _, _, _, _, _, _]) (st' := [_]) rfl ?_
  exact Rn.ret rfl rfl rfl rfl rfl rfl
theorem k83_s1 {ex : xO} {d : Nat} {c : Nat → Nat → Int} {b : Bool} {n D T Mo : Nat} {kd bo wo L : Nat → Nat} (hP : pS n kd bo wo D T Mo L) (hc : cS c b n kd bo wo D T Mo L) {j : Nat} (hj : j < 8) (h0 : n ≠ 0) {r S : Nat} (hr : r < 6) (i1 : iRow c) (hS : c 56 r = (S : Nat)) (hz : S < 1) : An ex (d + 20) 83 7 [xA 0, xI (j : Int), xI (r : Int)] (hp c b) (xI (-3), hp (xup (xup c 0 13 5) 13 5 (c 13 5 + 1)) b) := by
  obtain ⟨ho, h40, hT, h9, hMo⟩ := hP
  obtain ⟨hC, d7, t9, hL, m10⟩ := hc
  have hn := ho.1
  have hT6 := p64 hn hT
  refine Rn.run 3 (ls' := [_, _, _, _, _, _, _]) (st' := [_, _, _]) rfl ?_
  refine Rn.call rfl rfl rfl rfl rfl (k109_s1 ⟨ho, h40, hT, h9, hMo⟩ ⟨hC, d7, t9, hL, m10⟩ hj h0 hr i1 hS hz) ?_
  refine Rn.run 2 (ls' := [_, _, _, _, _, _, _]) (st' := [_]) rfl ?_
  refine Rn.eq0 rfl (fun e8 => absurd e8 (by decide)) (fun e8 => ?_)
  refine Rn.run 1 (ls' := [_, _, _, _, _, _, _]) (st' := [_]) rfl ?_
  exact Rn.ret rfl rfl rfl rfl rfl rfl
theorem k203_s1 {ex : xO} {d : Nat} {c : Nat → Nat → Int} {b : Bool} {n D T Mo : Nat} {kd bo wo L : Nat → Nat} (hP : pS n kd bo wo D T Mo L) (hm : mS c n kd bo wo D T Mo L) {j : Nat} (hj : j < 8) (h0 : n ≠ 0) {r S : Nat} (hr : r < 6) (i1 : iRow c) (hS : c 56 r = (S : Nat)) (hz : S < 1) : An ex (d + 20) 203 7 [xA 54, xI (j : Int), xI (r : Int)] (hp c b) (xI (-3), hp (xup (xup c 54 5 5) 60 5 (c 60 5 + 1)) b) := by
  obtain ⟨ho, h40, hT, h9, hMo⟩ := hP
  obtain ⟨hM, d29, t2, l55, m1⟩ := hm
  have hn := ho.1
  have hT6 := p64 hn hT
  refine Rn.run 3 (ls' := [_, _, _, _, _, _, _]) (st' := [_, _, _]) rfl ?_
  refine Rn.call rfl rfl rfl rfl rfl (k199_s1 ⟨ho, h40, hT, h9, hMo⟩ ⟨hM, d29, t2, l55, m1⟩ hj h0 hr i1 hS hz) ?_
  refine Rn.run 2 (ls' := [_, _, _, _, _, _, _]) (st' := [_]) rfl ?_
  refine Rn.eq0 rfl (fun e8 => absurd e8 (by decide)) (fun e8 => ?_)
  refine Rn.run 1 (ls' := [_, _, _, _, _, _, _]) (st' := [_]) rfl ?_
  exact Rn.ret rfl rfl rfl rfl rfl rfl
theorem k83_s2 {ex : xO} {d : Nat} {c : Nat → Nat → Int} {b : Bool} {n D T Mo : Nat} {kd bo wo L : Nat → Nat} (hP : pS n kd bo wo D T Mo L) (hc : cS c b n kd bo wo D T Mo L) {j : Nat} (hj : j < 8) (h0 : n ≠ 0) {r S : Nat} (hr : r < 6) (i1 : iRow c) (hS : c 56 r = (S : Nat)) (hz : 1 ≤ S) (hg : 10 < S) : An ex (d + 20) 83 7 [xA 0, xI (j : Int), xI (r : Int)] (hp c b) (xI (-3), hp (xup (xup c 0 13 5) 13 5 (c 13 5 + 1)) b) := by
  obtain ⟨ho, h40, hT, h9, hMo⟩ := hP
  obtain ⟨hC, d7, t9, hL, m10⟩ := hc
  have hn := ho.1
  have hT6 := p64 hn hT
  refine Rn.run 3 (ls' := [_, _, _, _, _, _, _]) (st' := [_, _, _]) rfl ?_
  refine Rn.call rfl rfl rfl rfl rfl (k109_s2 ⟨ho, h40, hT, h9, hMo⟩ ⟨hC, d7, t9, hL, m10⟩ hj h0 hr i1 hS hz hg) ?_
  refine Rn.run 2 (ls' := [_, _, _, _, _, _, _]) (st' := [_]) rfl ?_
  refine Rn.eq0 rfl (fun e8 => absurd e8 (by decide)) (fun e8 => ?_)
  refine Rn.run 1 (ls' := [_, _, _, _, _, _, _]) (st' := [_]) rfl ?_
  exact Rn.ret rfl rfl rfl rfl rfl rfl
theorem k203_s2 {ex : xO} {d : Nat} {c : Nat → Nat → Int} {b : Bool} {n D T Mo : Nat} {kd bo wo L : Nat → Nat} (hP : pS n kd bo wo D T Mo L) (hm : mS c n kd bo wo D T Mo L) {j : Nat} (hj : j < 8) (h0 : n ≠ 0) {r S : Nat} (hr : r < 6) (i1 : iRow c) (hS : c 56 r = (S : Nat)) (hz : 1 ≤ S) (hg : 10 < S) : An ex (d + 20) 203 7 [xA 54, xI (j : Int), xI (r : Int)] (hp c b) (xI (-3), hp (xup (xup c 54 5 5) 60 5 (c 60 5 + 1)) b) := by
  obtain ⟨ho, h40, hT, h9, hMo⟩ := hP
  obtain ⟨hM, d29, t2, l55, m1⟩ := hm
  have hn := ho.1
  have hT6 := p64 hn hT
  refine Rn.run 3 (ls' := [_, _, _, _, _, _, _]) (st' := [_, _, _]) rfl ?_
  refine Rn.call rfl rfl rfl rfl rfl (k199_s2 ⟨ho, h40, hT, h9, hMo⟩ ⟨hM, d29, t2, l55, m1⟩ hj h0 hr i1 hS hz hg) ?_
  refine Rn.run 2 (ls' := [_, _, _, _, _, _, _]) (st' := [_]) rfl ?_
  refine Rn.eq0 rfl (fun e8 => absurd e8 (by decide)) (fun e8 => ?_)
  refine Rn.run 1 (ls' := [_, _, _, _, _, _, _]) (st' := [_]) rfl ?_
  exact Rn.ret rfl rfl rfl rfl rfl rfl
theorem k83_un {ex : xO} {d : Nat} {c : Nat → Nat → Int} {b : Bool} {n D T Mo : Nat} {kd bo wo L : Nat → Nat} (hP : pS n kd bo wo D T Mo L) (hc : cS c b n kd bo wo D T Mo L) {j : Nat} (hj : j < 8) (h0 : n ≠ 0) {r S : Nat} (hr : r < 6) (i1 : iRow c) (hS : c 56 r = (S : Nat)) (hz : 1 ≤ S) (hg : S ≤ 10) (hf : ¬ alls (fq c r) S 0 = true) : An ex (d + 20) 83 7 [xA 0, xI (j : Int), xI (r : Int)] (hp c b) (xI (-3), hp (xup (xup c 0 13 3) 13 3 (c 13 3 + 1)) b) := by
  obtain ⟨ho, h40, hT, h9, hMo⟩ := hP
  obtain ⟨hC, d7, t9, hL, m10⟩ := hc
  have hn := ho.1
  have hT6 := p64 hn hT
  refine Rn.run 3 (ls' := [_, _, _, _, _, _, _]) (st' := [_, _, _]) rfl ?_
  refine Rn.call rfl rfl rfl rfl rfl (k109_un ⟨ho, h40, hT, h9, hMo⟩ ⟨hC, d7, t9, hL, m10⟩ hj h0 hr i1 hS hz hg hf) ?_
  refine Rn.run 2 (ls' := [_, _, _, _, _, _, _]) (st' := [_]) rfl ?_
  refine Rn.eq0 rfl (fun e8 => absurd e8 (by decide)) (fun e8 => ?_)
  refine Rn.run 1 (ls' := [_, _, _, _, _, _, _]) (st' := [_]) rfl ?_
  exact Rn.ret rfl rfl rfl rfl rfl rfl
theorem k203_un {ex : xO} {d : Nat} {c : Nat → Nat → Int} {b : Bool} {n D T Mo : Nat} {kd bo wo L : Nat → Nat} (hP : pS n kd bo wo D T Mo L) (hm : mS c n kd bo wo D T Mo L) {j : Nat} (hj : j < 8) (h0 : n ≠ 0) {r S : Nat} (hr : r < 6) (i1 : iRow c) (hS : c 56 r = (S : Nat)) (hz : 1 ≤ S) (hg : S ≤ 10) (hf : ¬ alls (fq c r) S 0 = true) : An ex (d + 20) 203 7 [xA 54, xI (j : Int), xI (r : Int)] (hp c b) (xI (-3), hp (xup (xup c 54 5 3) 60 3 (c 60 3 + 1)) b) := by
  obtain ⟨ho, h40, hT, h9, hMo⟩ := hP
  obtain ⟨hM, d29, t2, l55, m1⟩ := hm
  have hn := ho.1
  have hT6 := p64 hn hT
  refine Rn.run 3 (ls' := [_, _, _, _, _, _, _]) (st' := [_, _, _]) rfl ?_
  refine Rn.call rfl rfl rfl rfl rfl (k199_un ⟨ho, h40, hT, h9, hMo⟩ ⟨hM, d29, t2, l55, m1⟩ hj h0 hr i1 hS hz hg hf) ?_
  refine Rn.run 2 (ls' := [_, _, _, _, _, _, _]) (st' := [_]) rfl ?_
  refine Rn.eq0 rfl (fun e8 => absurd e8 (by decide)) (fun e8 => ?_)
  refine Rn.run 1 (ls' := [_, _, _, _, _, _, _]) (st' := [_]) rfl ?_
  exact Rn.ret rfl rfl rfl rfl rfl rfl
theorem gr_sure {ex : xO} (a1 a2 : Int) (h1 : w32 a1 = a1) (h2 : w32 a2 = a2) {d : Nat} {c : Nat → Nat → Int} {b : Bool} (hI : Inv c b) {n D T Mo : Nat} {kd bo wo L : Nat → Nat} (hP : pS n kd bo wo D T Mo L) (hc : cS c b n kd bo wo D T Mo L) (hm : mS c n kd bo wo D T Mo L) : (∃ v1 v2 c1 b1 c2 b2, An ex (d + 20) 83 7 [xA 0, xI a1, xI a2] (hp c b) (xI v1, hp c1 b1) ∧ An ex (d + 20) 203 7 [xA 54, xI a1, xI a2] (hp c1 b1) (xI v2, hp c2 b2) ∧ w32 v1 = w32 v2 ∧ Inv c2 b2) ∨ (n ≠ 0 ∧ ∃ j r S : Nat, j < 8 ∧ r < 6 ∧ a1 = (j : Int) ∧ a2 = (r : Int) ∧ c 56 r = (S : Nat) ∧ 1 ≤ S ∧ S ≤ 10 ∧ alls (fq c r) S 0 = true) := by
  by_cases q1 : 0 ≤ a1 ∧ a1 < 8
  · obtain ⟨j, hj, rfl⟩ : ∃ j : Nat, j < 8 ∧ a1 = (j : Int) := ⟨a1.toNat, by omega, by omega⟩
    by_cases q2 : 0 ≤ a2 ∧ a2 < 6
    · obtain ⟨r, hr, rfl⟩ : ∃ j : Nat, j < 6 ∧ a2 = (j : Int) := ⟨a2.toNat, by omega, by omega⟩
      by_cases h0 : n = 0
      · exact Or.inl (Ag_same hI (-4) (k83_st hP hc hj hr h0) (k203_st hP hm hj hr h0))
      · by_cases q3 : c 56 r < 0
        · exact Or.inl (Ag_find2 hI 1 (by decide) (k83_no hP hc hj h0 hr hI.1 q3) (fun c' hq => k203_no hP (mS_fr (fun k => hq 55 k (by decide) (by decide)) hm) hj h0 hr (iRow_fr (fun a k ha => hq a k (by omega) (by omega)) hI.1) (by rw [hq 56 r (by decide) (by decide)]; exact q3)))
        · obtain ⟨S, hS⟩ : ∃ S : Nat, c 56 r = (S : Nat) := ⟨(c 56 r).toNat, by omega⟩
          have hS' : ∀ c' : Nat → Nat → Int, (∀ a k, a ≠ 0 → a ≠ 13 → c' a k = c a k) → c' 56 r = (S : Nat) := fun c' hq => by rw [hq 56 r (by decide) (by decide)]; exact hS
          have hA' : ∀ c' : Nat → Nat → Int, (∀ a k, a ≠ 0 → a ≠ 13 → c' a k = c a k) → fq c' r = fq c r := fun c' hq => by funext k; unfold fq; rw [hq 57 _ (by decide) (by decide)]
          by_cases hz : 1 ≤ S
          · by_cases hg : S ≤ 10
            · by_cases hf : alls (fq c r) S 0 = true
              · exact Or.inr ⟨h0, j, r, S, hj, hr, rfl, rfl, hS, hz, hg, hf⟩
              · exact Or.inl (Ag_find2 hI 3 (by decide) (k83_un hP hc hj h0 hr hI.1 hS hz hg hf) (fun c' hq => k203_un hP (mS_fr (fun k => hq 55 k (by decide) (by decide)) hm) hj h0 hr (iRow_fr (fun a k ha => hq a k (by omega) (by omega)) hI.1) (hS' c' hq) hz hg (by rw [hA' c' hq]; exact hf)))
            · exact Or.inl (Ag_find2 hI 5 (by decide) (k83_s2 hP hc hj h0 hr hI.1 hS hz (by omega)) (fun c' hq => k203_s2 hP (mS_fr (fun k => hq 55 k (by decide) (by decide)) hm) hj h0 hr (iRow_fr (fun a k ha => hq a k (by omega) (by omega)) hI.1) (hS' c' hq) hz (by omega)))
          · exact Or.inl (Ag_find2 hI 5 (by decide) (k83_s1 hP hc hj h0 hr hI.1 hS (by omega)) (fun c' hq => k203_s1 hP (mS_fr (fun k => hq 55 k (by decide) (by decide)) hm) hj h0 hr (iRow_fr (fun a k ha => hq a k (by omega) (by omega)) hI.1) (hS' c' hq) (by omega)))
    · exact Or.inl (Ag_same hI (-1) (k83_b2 hP hc hj h2 q2) (k203_b2 hP hm hj h2 q2))
  · exact Or.inl (Ag_same hI (-1) (k83_b1 hP hc h1 q1) (k203_b1 hP hm h1 q1))
theorem k84_b1 {ex : xO} {d : Nat} {c : Nat → Nat → Int} {b : Bool} {n D T Mo : Nat} {kd bo wo L : Nat → Nat} (hP : pS n kd bo wo D T Mo L) (hc : cS c b n kd bo wo D T Mo L) {a1 a2 : Int} (h1 : w32 a1 = a1) (q1 : ¬ (0 ≤ a1 ∧ a1 < 8)) : An ex (d + 20) 84 8 [xA 0, xI a1, xI a2] (hp c b) (xI (-1), hp (c) b) := by
  obtain ⟨ho, h40, hT, h9, hMo⟩ := hP
  obtain ⟨hC, d7, t9, hL, m10⟩ := hc
  have hn := ho.1
  have hT6 := p64 hn hT
  refine Rn.run 3 (ls' := [_, _, _, _, _, _, _, _]) (st' := [_, _, _]) rfl ?_
  refine Rn.call rfl rfl rfl rfl rfl (k109_b1 ⟨ho, h40, hT, h9, hMo⟩ ⟨hC, d7, t9, hL, m10⟩ h1 q1) ?_
  refine Rn.run 2 (ls' := [_, _, _, _, _, _, _, _]) (st' := [_]) rfl ?_
  refine Rn.eq0 rfl (fun e8 => absurd e8 (by decide)) (fun e8 => ?_)
  refine Rn.run 1 (ls' := [_, _, _, _, _, _, _, _]) (st' := [_]) rfl ?_
  exact Rn.ret rfl rfl rfl rfl rfl rfl
theorem k204_b1 {ex : xO} {d : Nat} {c : Nat → Nat → Int} {b : Bool} {n D T Mo : Nat} {kd bo wo L : Nat → Nat} (hP : pS n kd bo wo D T Mo L) (hm : mS c n kd bo wo D T Mo L) {a1 a2 : Int} (h1 : w32 a1 = a1) (q1 : ¬ (0 ≤ a1 ∧ a1 < 8)) : An ex (d + 20) 204 12 [xA 54, xI a1, xI a2] (hp c b) (xI (-1), hp (c) b) := by
  obtain ⟨ho, h40, hT, h9, hMo⟩ := hP
  obtain ⟨hM, d29, t2, l55, m1⟩ := hm
  have hn := ho.1
  have hT6 := p64 hn hT
  refine Rn.run 3 (ls' := [_, _, _, _, _, _, _, _, _, _, _, _]) (st' := [_, _, _]) rfl ?_
  refine Rn.call rfl rfl rfl rfl rfl (k199_b1 ⟨ho, h40, hT, h9, hMo⟩ ⟨hM, d29, t2, l55, m1⟩ h1 q1) ?_
  refine Rn.run 2 (ls' := [_, _, _, _, _, _, _, _, _, _, _, _]) (st' := [_]) rfl ?_
  refine Rn.eq0 rfl (fun e8 => absurd e8 (by decide)) (fun e8 => ?_)
  refine Rn.run 1 (ls' := [_, _, _, _, _, _, _, _, _, _, _, _]) (st' := [_]) rfl ?_
  exact Rn.ret rfl rfl rfl rfl rfl rfl
theorem k84_b2 {ex : xO} {d : Nat} {c : Nat → Nat → Int} {b : Bool} {n D T Mo : Nat} {kd bo wo L : Nat → Nat} (hP : pS n kd bo wo D T Mo L) (hc : cS c b n kd bo wo D T Mo L) {a2 : Int} {j : Nat} (hj : j < 8) (h2 : w32 a2 = a2) (q2 : ¬ (0 ≤ a2 ∧ a2 < 6)) : An ex (d + 20) 84 8 [xA 0, xI (j : Int), xI a2] (hp c b) (xI (-1), hp (c) b) := by
  obtain ⟨ho, h40, hT, h9, hMo⟩ := hP
  obtain ⟨hC, d7, t9, hL, m10⟩ := hc
  have hn := ho.1
  have hT6 := p64 hn hT
  refine Rn.run 3 (ls' := [_, _, _, _, _, _, _, _]) (st' := [_, _, _]) rfl ?_
  refine Rn.call rfl rfl rfl rfl rfl (k109_b2 ⟨ho, h40, hT, h9, hMo⟩ ⟨hC, d7, t9, hL, m10⟩ hj h2 q2) ?_
  refine Rn.run 2 (ls' := [_, _, _, _, _, _, _, _]) (st' := [_]) rfl ?_
  refine Rn.eq0 rfl (fun e8 => absurd e8 (by decide)) (fun e8 => ?_)
  refine Rn.run 1 (ls' := [_, _, _, _, _, _, _, _]) (st' := [_]) rfl ?_
  exact Rn.ret rfl rfl rfl rfl rfl rfl
theorem k204_b2 {ex : xO} {d : Nat} {c : Nat → Nat → Int} {b : Bool} {n D T Mo : Nat} {kd bo wo L : Nat → Nat} (hP : pS n kd bo wo D T Mo L) (hm : mS c n kd bo wo D T Mo L) {a2 : Int} {j : Nat} (hj : j < 8) (h2 : w32 a2 = a2) (q2 : ¬ (0 ≤ a2 ∧ a2 < 6)) : An ex (d + 20) 204 12 [xA 54, xI (j : Int), xI a2] (hp c b) (xI (-1), hp (c) b) := by
  obtain ⟨ho, h40, hT, h9, hMo⟩ := hP
  obtain ⟨hM, d29, t2, l55, m1⟩ := hm
  have hn := ho.1
  have hT6 := p64 hn hT
  refine Rn.run 3 (ls' := [_, _, _, _, _, _, _, _, _, _, _, _]) (st' := [_, _, _]) rfl ?_
  refine Rn.call rfl rfl rfl rfl rfl (k199_b2 ⟨ho, h40, hT, h9, hMo⟩ ⟨hM, d29, t2, l55, m1⟩ hj h2 q2) ?_
  refine Rn.run 2 (ls' := [_, _, _, _, _, _, _, _, _, _, _, _]) (st' := [_]) rfl ?_
  refine Rn.eq0 rfl (fun e8 => absurd e8 (by decide)) (fun e8 => ?_)
  refine Rn.run 1 (ls' := [_, _, _, _, _, _, _, _, _, _, _, _]) (st' := [_]) rfl ?_
  exact Rn.ret rfl rfl rfl rfl rfl rfl
theorem k84_st {ex : xO} {d : Nat} {c : Nat → Nat → Int} {b : Bool} {n D T Mo : Nat} {kd bo wo L : Nat → Nat} (hP : pS n kd bo wo D T Mo L) (hc : cS c b n kd bo wo D T Mo L) {j r : Nat} (hj : j < 8) (hr : r < 6) (h0 : n = 0) : An ex (d + 20) 84 8 [xA 0, xI (j : Int), xI (r : Int)] (hp c b) (xI (-4), hp (c) b) := by
  obtain ⟨ho, h40, hT, h9, hMo⟩ := hP
  obtain ⟨hC, d7, t9, hL, m10⟩ := hc
  have hn := ho.1
  have hT6 := p64 hn hT
  refine Rn.run 3 (ls' := [_, _, _, _, _, _, _, _]) (st' := [_, _, _]) rfl ?_
  refine Rn.call rfl rfl rfl rfl rfl (k109_st ⟨ho, h40, hT, h9, hMo⟩ ⟨hC, d7, t9, hL, m10⟩ hj hr h0) ?_
  refine Rn.run 2 (ls' := [_, _, _, _, _, _, _, _]) (st' := [_]) rfl ?_
  refine Rn.eq0 rfl (fun e8 => absurd e8 (by decide)) (fun e8 => ?_)
  refine Rn.run 1 (ls' := [_, _, _, _, _, _, _, _]) (st' := [_]) rfl ?_
  exact Rn.ret rfl rfl rfl rfl rfl rfl
theorem k204_st {ex : xO} {d : Nat} {c : Nat → Nat → Int} {b : Bool} {n D T Mo : Nat} {kd bo wo L : Nat → Nat} (hP : pS n kd bo wo D T Mo L) (hm : mS c n kd bo wo D T Mo L) {j r : Nat} (hj : j < 8) (hr : r < 6) (h0 : n = 0) : An ex (d + 20) 204 12 [xA 54, xI (j : Int), xI (r : Int)] (hp c b) (xI (-4), hp (c) b) := by
  obtain ⟨ho, h40, hT, h9, hMo⟩ := hP
  obtain ⟨hM, d29, t2, l55, m1⟩ := hm
  have hn := ho.1
  have hT6 := p64 hn hT
  refine Rn.run 3 (ls' := [_, _, _, _, _, _, _, _, _, _, _, _]) (st' := [_, _, _]) rfl ?_
  refine Rn.call rfl rfl rfl rfl rfl (k199_st ⟨ho, h40, hT, h9, hMo⟩ ⟨hM, d29, t2, l55, m1⟩ hj hr h0) ?_
  refine Rn.run 2 (ls' := [_, _, _, _, _, _, _, _, _, _, _, _]) (st' := [_]) rfl ?_
  refine Rn.eq0 rfl (fun e8 => absurd e8 (by decide)) (fun e8 => ?_)
  refine Rn.run 1 (ls' := [_, _, _, _, _, _, _, _, _, _, _, _]) (st' := [_]) rfl ?_
  exact Rn.ret rfl rfl rfl rfl rfl rfl
theorem k84_no {ex : xO} {d : Nat} {c : Nat → Nat → Int} {b : Bool} {n D T Mo : Nat} {kd bo wo L : Nat → Nat} (hP : pS n kd bo wo D T Mo L) (hc : cS c b n kd bo wo D T Mo L) {j : Nat} (hj : j < 8) (h0 : n ≠ 0) {r : Nat} (hr : r < 6) (i1 : iRow c) (hm1 : c 56 r < 0) : An ex (d + 20) 84 8 [xA 0, xI (j : Int), xI (r : Int)] (hp c b) (xI (-3), hp (xup (xup c 0 13 1) 13 1 (c 13 1 + 1)) b) := by
  obtain ⟨ho, h40, hT, h9, hMo⟩ := hP
  obtain ⟨hC, d7, t9, hL, m10⟩ := hc
  have hn := ho.1
  have hT6 := p64 hn hT
  refine Rn.run 3 (ls' := [_, _, _, _, _, _, _, _]) (st' := [_, _, _]) rfl ?_
  refine Rn.call rfl rfl rfl rfl rfl (k109_no ⟨ho, h40, hT, h9, hMo⟩ ⟨hC, d7, t9, hL, m10⟩ hj h0 hr i1 hm1) ?_
  refine Rn.run 2 (ls' := [_, _, _, _, _, _, _, _]) (st' := [_]) rfl ?_
  refine Rn.eq0 rfl (fun e8 => absurd e8 (by decide)) (fun e8 => ?_)
  refine Rn.run 1 (ls' := [_, _, _, _, _, _, _, _]) (st' := [_]) rfl ?_
  exact Rn.ret rfl rfl rfl rfl rfl rfl
theorem k204_no {ex : xO} {d : Nat} {c : Nat → Nat → Int} {b : Bool} {n D T Mo : Nat} {kd bo wo L : Nat → Nat} (hP : pS n kd bo wo D T Mo L) (hm : mS c n kd bo wo D T Mo L) {j : Nat} (hj : j < 8) (h0 : n ≠ 0) {r : Nat} (hr : r < 6) (i1 : iRow c) (hm1 : c 56 r < 0) : An ex (d + 20) 204 12 [xA 54, xI (j : Int), xI (r : Int)] (hp c b) (xI (-3), hp (xup (xup c 54 5 1) 60 1 (c 60 1 + 1)) b) := by
  obtain ⟨ho, h40, hT, h9, hMo⟩ := hP
  obtain ⟨hM, d29, t2, l55, m1⟩ := hm
  have hn := ho.1
  have hT6 := p64 hn hT
  refine Rn.run 3 (ls' := [_, _, _, _, _, _, _, _, _, _, _, _]) (st' := [_, _, _]) rfl ?_
  refine Rn.call rfl rfl rfl rfl rfl (k199_no ⟨ho, h40, hT, h9, hMo⟩ ⟨hM, d29, t2, l55, m1⟩ hj h0 hr i1 hm1) ?_
  refine Rn.run 2 (ls' := [_, _, _, _, _, _, _, _, _, _, _, _]) (st' := [_]) rfl ?_
  refine Rn.eq0 rfl (fun e8 => absurd e8 (by decide)) (fun e8 => ?_)
  refine Rn.run 1 (ls' := [_, _, _, _, _, _, _, _, _, _, _, _]) (st' := [_]) rfl ?_
  exact Rn.ret rfl rfl rfl rfl rfl rfl
theorem k84_s1 {ex : xO} {d : Nat} {c : Nat → Nat → Int} {b : Bool} {n D T Mo : Nat} {kd bo wo L : Nat → Nat} (hP : pS n kd bo wo D T Mo L) (hc : cS c b n kd bo wo D T Mo L) {j : Nat} (hj : j < 8) (h0 : n ≠ 0) {r S : Nat} (hr : r < 6) (i1 : iRow c) (hS : c 56 r = (S : Nat)) (hz : S < 1) : An ex (d + 20) 84 8 [xA 0, xI (j : Int), xI (r : Int)] (hp c b) (xI (-3), hp (xup (xup c 0 13 5) 13 5 (c 13 5 + 1)) b) := by
  obtain ⟨ho, h40, hT, h9, hMo⟩ := hP
  obtain ⟨hC, d7, t9, hL, m10⟩ := hc
  have hn := ho.1
  have hT6 := p64 hn hT
  refine Rn.run 3 (ls' := [_, _, _, _, _, _, _, _]) (st' := [_, _, _]) rfl ?_
  refine Rn.call rfl rfl rfl rfl rfl (k109_s1 ⟨ho, h40, hT, h9, hMo⟩ ⟨hC, d7, t9, hL, m10⟩ hj h0 hr i1 hS hz) ?_
  refine Rn.run 2 (ls' := [_, _, _, _, _, _, _, _]) (st' := [_]) rfl ?_
  refine Rn.eq0 rfl (fun e8 => absurd e8 (by decide)) (fun e8 => ?_)
  refine Rn.run 1 (ls' := [_, _, _, _, _, _, _, _]) (st' := [_]) rfl ?_
  exact Rn.ret rfl rfl rfl rfl rfl rfl
theorem k204_s1 {ex : xO} {d : Nat} {c : Nat → Nat → Int} {b : Bool} {n D T Mo : Nat} {kd bo wo L : Nat → Nat} (hP : pS n kd bo wo D T Mo L) (hm : mS c n kd bo wo D T Mo L) {j : Nat} (hj : j < 8) (h0 : n ≠ 0) {r S : Nat} (hr : r < 6) (i1 : iRow c) (hS : c 56 r = (S : Nat)) (hz : S < 1) : An ex (d + 20) 204 12 [xA 54, xI (j : Int), xI (r : Int)] (hp c b) (xI (-3), hp (xup (xup c 54 5 5) 60 5 (c 60 5 + 1)) b) := by
  obtain ⟨ho, h40, hT, h9, hMo⟩ := hP
  obtain ⟨hM, d29, t2, l55, m1⟩ := hm
  have hn := ho.1
  have hT6 := p64 hn hT
  refine Rn.run 3 (ls' := [_, _, _, _, _, _, _, _, _, _, _, _]) (st' := [_, _, _]) rfl ?_
  refine Rn.call rfl rfl rfl rfl rfl (k199_s1 ⟨ho, h40, hT, h9, hMo⟩ ⟨hM, d29, t2, l55, m1⟩ hj h0 hr i1 hS hz) ?_
  refine Rn.run 2 (ls' := [_, _, _, _, _, _, _, _, _, _, _, _]) (st' := [_]) rfl ?_
  refine Rn.eq0 rfl (fun e8 => absurd e8 (by decide)) (fun e8 => ?_)
  refine Rn.run 1 (ls' := [_, _, _, _, _, _, _, _, _, _, _, _]) (st' := [_]) rfl ?_
  exact Rn.ret rfl rfl rfl rfl rfl rfl
theorem k84_s2 {ex : xO} {d : Nat} {c : Nat → Nat → Int} {b : Bool} {n D T Mo : Nat} {kd bo wo L : Nat → Nat} (hP : pS n kd bo wo D T Mo L) (hc : cS c b n kd bo wo D T Mo L) {j : Nat} (hj : j < 8) (h0 : n ≠ 0) {r S : Nat} (hr : r < 6) (i1 : iRow c) (hS : c 56 r = (S : Nat)) (hz : 1 ≤ S) (hg : 10 < S) : An ex (d + 20) 84 8 [xA 0, xI (j : Int), xI (r : Int)] (hp c b) (xI (-3), hp (xup (xup c 0 13 5) 13 5 (c 13 5 + 1)) b) := by
  obtain ⟨ho, h40, hT, h9, hMo⟩ := hP
  obtain ⟨hC, d7, t9, hL, m10⟩ := hc
  have hn := ho.1
  have hT6 := p64 hn hT
  refine Rn.run 3 (ls' := [_, _, _, _, _, _, _, _]) (st' := [_, _, _]) rfl ?_
  refine Rn.call rfl rfl rfl rfl rfl (k109_s2 ⟨ho, h40, hT, h9, hMo⟩ ⟨hC, d7, t9, hL, m10⟩ hj h0 hr i1 hS hz hg) ?_
  refine Rn.run 2 (ls' := [_, _, _, _, _, _, _, _]) (st' := [_]) rfl ?_
  refine Rn.eq0 rfl (fun e8 => absurd e8 (by decide)) (fun e8 => ?_)
  refine Rn.run 1 (ls' := [_, _, _, _, _, _, _, _]) (st' := [_]) rfl ?_
  exact Rn.ret rfl rfl rfl rfl rfl rfl
theorem k204_s2 {ex : xO} {d : Nat} {c : Nat → Nat → Int} {b : Bool} {n D T Mo : Nat} {kd bo wo L : Nat → Nat} (hP : pS n kd bo wo D T Mo L) (hm : mS c n kd bo wo D T Mo L) {j : Nat} (hj : j < 8) (h0 : n ≠ 0) {r S : Nat} (hr : r < 6) (i1 : iRow c) (hS : c 56 r = (S : Nat)) (hz : 1 ≤ S) (hg : 10 < S) : An ex (d + 20) 204 12 [xA 54, xI (j : Int), xI (r : Int)] (hp c b) (xI (-3), hp (xup (xup c 54 5 5) 60 5 (c 60 5 + 1)) b) := by
  obtain ⟨ho, h40, hT, h9, hMo⟩ := hP
  obtain ⟨hM, d29, t2, l55, m1⟩ := hm
  have hn := ho.1
  have hT6 := p64 hn hT
  refine Rn.run 3 (ls' := [_, _, _, _, _, _, _, _, _, _, _, _]) (st' := [_, _, _]) rfl ?_
  refine Rn.call rfl rfl rfl rfl rfl (k199_s2 ⟨ho, h40, hT, h9, hMo⟩ ⟨hM, d29, t2, l55, m1⟩ hj h0 hr i1 hS hz hg) ?_
  refine Rn.run 2 (ls' := [_, _, _, _, _, _, _, _, _, _, _, _]) (st' := [_]) rfl ?_
  refine Rn.eq0 rfl (fun e8 => absurd e8 (by decide)) (fun e8 => ?_)
  refine Rn.run 1 (ls' := [_, _, _, _, _, _, _, _, _, _, _, _]) (st' := [_]) rfl ?_
  exact Rn.ret rfl rfl rfl rfl rfl rfl
theorem k84_un {ex : xO} {d : Nat} {c : Nat → Nat → Int} {b : Bool} {n D T Mo : Nat} {kd bo wo L : Nat → Nat} (hP : pS n kd bo wo D T Mo L) (hc : cS c b n kd bo wo D T Mo L) {j : Nat} (hj : j < 8) (h0 : n ≠ 0) {r S : Nat} (hr : r < 6) (i1 : iRow c) (hS : c 56 r = (S : Nat)) (hz : 1 ≤ S) (hg : S ≤ 10) (hf : ¬ alls (fq c r) S 0 = true) : An ex (d + 20) 84 8 [xA 0, xI (j : Int), xI (r : Int)] (hp c b) (xI (-3), hp (xup (xup c 0 13 3) 13 3 (c 13 3 + 1)) b) := by
  obtain ⟨ho, h40, hT, h9, hMo⟩ := hP
  obtain ⟨hC, d7, t9, hL, m10⟩ := hc
  have hn := ho.1
  have hT6 := p64 hn hT
  refine Rn.run 3 (ls' := [_, _, _, _, _, _, _, _]) (st' := [_, _, _]) rfl ?_
  refine Rn.call rfl rfl rfl rfl rfl (k109_un ⟨ho, h40, hT, h9, hMo⟩ ⟨hC, d7, t9, hL, m10⟩ hj h0 hr i1 hS hz hg hf) ?_
  refine Rn.run 2 (ls' := [_, _, _, _, _, _, _, _]) (st' := [_]) rfl ?_
  refine Rn.eq0 rfl (fun e8 => absurd e8 (by decide)) (fun e8 => ?_)
  refine Rn.run 1 (ls' := [_, _, _, _, _, _, _, _]) (st' := [_]) rfl ?_
  exact Rn.ret rfl rfl rfl rfl rfl rfl
theorem k204_un {ex : xO} {d : Nat} {c : Nat → Nat → Int} {b : Bool} {n D T Mo : Nat} {kd bo wo L : Nat → Nat} (hP : pS n kd bo wo D T Mo L) (hm : mS c n kd bo wo D T Mo L) {j : Nat} (hj : j < 8) (h0 : n ≠ 0) {r S : Nat} (hr : r < 6) (i1 : iRow c) (hS : c 56 r = (S : Nat)) (hz : 1 ≤ S) (hg : S ≤ 10) (hf : ¬ alls (fq c r) S 0 = true) : An ex (d + 20) 204 12 [xA 54, xI (j : Int), xI (r : Int)] (hp c b) (xI (-3), hp (xup (xup c 54 5 3) 60 3 (c 60 3 + 1)) b) := by
  obtain ⟨ho, h40, hT, h9, hMo⟩ := hP
  obtain ⟨hM, d29, t2, l55, m1⟩ := hm
  have hn := ho.1
  have hT6 := p64 hn hT
  refine Rn.run 3 (ls' := [_, _, _, _, _, _, _, _, _, _, _, _]) (st' := [_, _, _]) rfl ?_
  refine Rn.call rfl rfl rfl rfl rfl (k199_un ⟨ho, h40, hT, h9, hMo⟩ ⟨hM, d29, t2, l55, m1⟩ hj h0 hr i1 hS hz hg hf) ?_
  refine Rn.run 2 (ls' := [_, _, _, _, _, _, _, _, _, _, _, _]) (st' := [_]) rfl ?_
  refine Rn.eq0 rfl (fun e8 => absurd e8 (by decide)) (fun e8 => ?_)
  refine Rn.run 1 (ls' := [_, _, _, _, _, _, _, _, _, _, _, _]) (st' := [_]) rfl ?_
  exact Rn.ret rfl rfl rfl rfl rfl rfl
theorem gr_next {ex : xO} (a1 a2 : Int) (h1 : w32 a1 = a1) (h2 : w32 a2 = a2) {d : Nat} {c : Nat → Nat → Int} {b : Bool} (hI : Inv c b) {n D T Mo : Nat} {kd bo wo L : Nat → Nat} (hP : pS n kd bo wo D T Mo L) (hc : cS c b n kd bo wo D T Mo L) (hm : mS c n kd bo wo D T Mo L) : (∃ v1 v2 c1 b1 c2 b2, An ex (d + 20) 84 8 [xA 0, xI a1, xI a2] (hp c b) (xI v1, hp c1 b1) ∧ An ex (d + 20) 204 12 [xA 54, xI a1, xI a2] (hp c1 b1) (xI v2, hp c2 b2) ∧ w32 v1 = w32 v2 ∧ Inv c2 b2) ∨ (n ≠ 0 ∧ ∃ j r S : Nat, j < 8 ∧ r < 6 ∧ a1 = (j : Int) ∧ a2 = (r : Int) ∧ c 56 r = (S : Nat) ∧ 1 ≤ S ∧ S ≤ 10 ∧ alls (fq c r) S 0 = true) := by
  by_cases q1 : 0 ≤ a1 ∧ a1 < 8
  · obtain ⟨j, hj, rfl⟩ : ∃ j : Nat, j < 8 ∧ a1 = (j : Int) := ⟨a1.toNat, by omega, by omega⟩
    by_cases q2 : 0 ≤ a2 ∧ a2 < 6
    · obtain ⟨r, hr, rfl⟩ : ∃ j : Nat, j < 6 ∧ a2 = (j : Int) := ⟨a2.toNat, by omega, by omega⟩
      by_cases h0 : n = 0
      · exact Or.inl (Ag_same hI (-4) (k84_st hP hc hj hr h0) (k204_st hP hm hj hr h0))
      · by_cases q3 : c 56 r < 0
        · exact Or.inl (Ag_find2 hI 1 (by decide) (k84_no hP hc hj h0 hr hI.1 q3) (fun c' hq => k204_no hP (mS_fr (fun k => hq 55 k (by decide) (by decide)) hm) hj h0 hr (iRow_fr (fun a k ha => hq a k (by omega) (by omega)) hI.1) (by rw [hq 56 r (by decide) (by decide)]; exact q3)))
        · obtain ⟨S, hS⟩ : ∃ S : Nat, c 56 r = (S : Nat) := ⟨(c 56 r).toNat, by omega⟩
          have hS' : ∀ c' : Nat → Nat → Int, (∀ a k, a ≠ 0 → a ≠ 13 → c' a k = c a k) → c' 56 r = (S : Nat) := fun c' hq => by rw [hq 56 r (by decide) (by decide)]; exact hS
          have hA' : ∀ c' : Nat → Nat → Int, (∀ a k, a ≠ 0 → a ≠ 13 → c' a k = c a k) → fq c' r = fq c r := fun c' hq => by funext k; unfold fq; rw [hq 57 _ (by decide) (by decide)]
          by_cases hz : 1 ≤ S
          · by_cases hg : S ≤ 10
            · by_cases hf : alls (fq c r) S 0 = true
              · exact Or.inr ⟨h0, j, r, S, hj, hr, rfl, rfl, hS, hz, hg, hf⟩
              · exact Or.inl (Ag_find2 hI 3 (by decide) (k84_un hP hc hj h0 hr hI.1 hS hz hg hf) (fun c' hq => k204_un hP (mS_fr (fun k => hq 55 k (by decide) (by decide)) hm) hj h0 hr (iRow_fr (fun a k ha => hq a k (by omega) (by omega)) hI.1) (hS' c' hq) hz hg (by rw [hA' c' hq]; exact hf)))
            · exact Or.inl (Ag_find2 hI 5 (by decide) (k84_s2 hP hc hj h0 hr hI.1 hS hz (by omega)) (fun c' hq => k204_s2 hP (mS_fr (fun k => hq 55 k (by decide) (by decide)) hm) hj h0 hr (iRow_fr (fun a k ha => hq a k (by omega) (by omega)) hI.1) (hS' c' hq) hz (by omega)))
          · exact Or.inl (Ag_find2 hI 5 (by decide) (k84_s1 hP hc hj h0 hr hI.1 hS (by omega)) (fun c' hq => k204_s1 hP (mS_fr (fun k => hq 55 k (by decide) (by decide)) hm) hj h0 hr (iRow_fr (fun a k ha => hq a k (by omega) (by omega)) hI.1) (hS' c' hq) (by omega)))
    · exact Or.inl (Ag_same hI (-1) (k84_b2 hP hc hj h2 q2) (k204_b2 hP hm hj h2 q2))
  · exact Or.inl (Ag_same hI (-1) (k84_b1 hP hc h1 q1) (k204_b1 hP hm h1 q1))
