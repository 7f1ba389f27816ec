-- worths, kinds: refusals, the methods
theorem x_m21 {i : Nat} (hi : i < 1000) : (w32 (Int.tmod (w32 (i : Int)) (w32 2)) = w32 1) ↔ i % 2 = 1 := by
  rw [x_wn (by omega), show w32 2 = 2 from rfl, Int.tmod_eq_emod_of_nonneg (by omega), show w32 1 = 1 from rfl]
  unfold w32
  omega
theorem k110_b1 {ex : xO} {d : Nat} {c : Nat → Nat → Int} {b : Bool} {n D T Mo : Nat} {kd bo wo L : Nat → Nat} (hP : pS n kd bo wo D T Mo L) (hc : cS c b n kd bo wo D T Mo L) {a1 a2 : Int} (h1 : w32 a1 = a1) (q1 : ¬ (0 ≤ a1 ∧ a1 < n)) : An ex (d + 5) 110 4 [xA 0, xI a1, xI a2] (hp c b) (xI (-1), hp (c) b) := by
  obtain ⟨ho, h40, hT, h9, hMo⟩ := hP
  obtain ⟨hC, d7, t9, hL, m10⟩ := hc
  have hn := ho.1
  have hT6 := p64 hn hT
  refine Rn.run 2 (ls' := [_, _, _, _]) (st' := [_, _]) rfl ?_
  refine Rn.getR rfl ⟨by decide, rfl, rfl⟩ (j := gid b) (rfl) ?_
  refine Rn.getI rfl (xS_g b) ?_
  rw [hC.1]
  refine Rn.call rfl rfl rfl rfl rfl (c100) ?_
  refine Rn.eqB rfl (fun e11 => ?_) (fun e11 => absurd e11 (by exact (z_no h1 (by omega) q1)))
  refine Rn.run 1 (ls' := [_, _, _, _]) (st' := [_]) rfl ?_
  exact Rn.ret rfl rfl rfl rfl rfl rfl
theorem k110_b2 {ex : xO} {d : Nat} {c : Nat → Nat → Int} {b : Bool} {n D T Mo : Nat} {kd bo wo L : Nat → Nat} (hP : pS n kd bo wo D T Mo L) (hc : cS c b n kd bo wo D T Mo L) {a2 : Int} {i : Nat} (hi : i < n) (h2 : w32 a2 = a2) (q2 : ¬ (0 ≤ a2 ∧ a2 < 6)) : An ex (d + 5) 110 4 [xA 0, xI (i : Int), xI a2] (hp c b) (xI (-1), hp (c) b) := by
  obtain ⟨ho, h40, hT, h9, hMo⟩ := hP
  obtain ⟨hC, d7, t9, hL, m10⟩ := hc
  have hn := ho.1
  have hT6 := p64 hn hT
  refine Rn.run 2 (ls' := [_, _, _, _]) (st' := [_, _]) rfl ?_
  refine Rn.getR rfl ⟨by decide, rfl, rfl⟩ (j := gid b) (rfl) ?_
  refine Rn.getI rfl (xS_g b) ?_
  rw [hC.1]
  refine Rn.call rfl rfl rfl rfl rfl (c100) ?_
  refine Rn.eqB rfl (fun e11 => absurd e11 (by exact fun h => h (z_in hi (by omega)))) (fun e11 => ?_)
  refine Rn.run 2 (ls' := [_, _, _, _]) (st' := [_, _]) rfl ?_
  refine Rn.call rfl rfl rfl rfl rfl (c100) ?_
  refine Rn.neB rfl (fun e20 => absurd e20 (by exact (z_no (m := 6) h2 (by omega) q2))) (fun e20 => ?_)
  refine Rn.run 1 (ls' := [_, _, _, _]) (st' := [_]) rfl ?_
  exact Rn.ret rfl rfl rfl rfl rfl rfl
theorem k110_no {ex : xO} {d : Nat} {c : Nat → Nat → Int} {b : Bool} {n D T Mo : Nat} {kd bo wo L : Nat → Nat} (hP : pS n kd bo wo D T Mo L) (hc : cS c b n kd bo wo D T Mo L) {i : Nat} (hi : i < n) {r : Nat} (hr : r < 6) (i1 : iRow c) (hm : c 56 r < 0) : An ex (d + 5) 110 4 [xA 0, xI (i : Int), xI (r : Int)] (hp c b) (xI (-3), hp (xup (xup c 0 13 1) 13 1 (c 13 1 + 1)) b) := by
  obtain ⟨ho, h40, hT, h9, hMo⟩ := hP
  obtain ⟨hC, d7, t9, hL, m10⟩ := hc
  have hn := ho.1
  have hT6 := p64 hn hT
  refine Rn.run 2 (ls' := [_, _, _, _]) (st' := [_, _]) rfl ?_
  refine Rn.getR rfl ⟨by decide, rfl, rfl⟩ (j := gid b) (rfl) ?_
  refine Rn.getI rfl (xS_g b) ?_
  rw [hC.1]
  refine Rn.call rfl rfl rfl rfl rfl (c100) ?_
  refine Rn.eqB rfl (fun e11 => absurd e11 (by exact fun h => h (z_in hi (by omega)))) (fun e11 => ?_)
  refine Rn.run 2 (ls' := [_, _, _, _]) (st' := [_, _]) rfl ?_
  refine Rn.call rfl rfl rfl rfl rfl (c100) ?_
  refine Rn.neB rfl (fun e20 => ?_) (fun e20 => absurd e20 (by exact fun h => h (z_in (m := 6) hr (by omega))))
  refine Rn.run 2 (ls' := [_, _, _, _]) (st' := [_, _]) rfl ?_
  refine Rn.call rfl rfl rfl rfl rfl (c106_no r hr (x_wn (by omega)) (by rw [(iRow_w i1 hr).2]; exact hm)) ?_
  refine Rn.run 2 (ls' := [_, _, _, _]) (st' := [_]) rfl ?_
  refine Rn.eq0 rfl (fun e32 => absurd e32 (by decide)) (fun e32 => ?_)
  refine Rn.run 1 (ls' := [_, _, _, _]) (st' := [_]) rfl ?_
  exact Rn.ret rfl rfl rfl rfl rfl rfl
theorem k110_s1 {ex : xO} {d : Nat} {c : Nat → Nat → Int} {b : Bool} {n D T Mo : Nat} {kd bo wo L : Nat → Nat} (hP : pS n kd bo wo D T Mo L) (hc : cS c b n kd bo wo D T Mo L) {i : Nat} (hi : i < n) {r S : Nat} (hr : r < 6) (i1 : iRow c) (hS : c 56 r = (S : Nat)) (hz : ¬ S % 2 = 0) : An ex (d + 5) 110 4 [xA 0, xI (i : Int), xI (r : Int)] (hp c b) (xI (-3), hp (xup (xup c 0 13 5) 13 5 (c 13 5 + 1)) b) := by
  obtain ⟨ho, h40, hT, h9, hMo⟩ := hP
  obtain ⟨hC, d7, t9, hL, m10⟩ := hc
  have hn := ho.1
  have hT6 := p64 hn hT
  obtain ⟨r1, r2, r3, r4⟩ := i1 r hr
  have S40 : S ≤ 40 := by omega
  have rS : c (22 + 2 * r) 0 = (S : Nat) := by rw [r1]; exact hS
  refine Rn.run 2 (ls' := [_, _, _, _]) (st' := [_, _]) rfl ?_
  refine Rn.getR rfl ⟨by decide, rfl, rfl⟩ (j := gid b) (rfl) ?_
  refine Rn.getI rfl (xS_g b) ?_
  rw [hC.1]
  refine Rn.call rfl rfl rfl rfl rfl (c100) ?_
  refine Rn.eqB rfl (fun e11 => absurd e11 (by exact fun h => h (z_in hi (by omega)))) (fun e11 => ?_)
  refine Rn.run 2 (ls' := [_, _, _, _]) (st' := [_, _]) rfl ?_
  refine Rn.call rfl rfl rfl rfl rfl (c100) ?_
  refine Rn.neB rfl (fun e20 => ?_) (fun e20 => absurd e20 (by exact fun h => h (z_in (m := 6) hr (by omega))))
  refine Rn.run 2 (ls' := [_, _, _, _]) (st' := [_, _]) rfl ?_
  refine Rn.call rfl rfl rfl rfl rfl (c106_ok r hr (x_wn (by omega)) (by rw [rS, x_wn (by omega)]; omega)) ?_
  refine Rn.run 2 (ls' := [_, _, _, _]) (st' := [_]) rfl ?_
  refine Rn.eq0 rfl (fun e32 => ?_) (fun e32 => absurd e32 (by decide))
  refine Rn.run 3 (ls' := [_, _, _, _]) (st' := [_, _]) rfl ?_
  refine Rn.aald rfl ⟨by decide, rfl, by decide, by decide⟩ (r) (x_wn (n := r) (by omega)) (by omega) (xR_row hr).1 ?_
  refine Rn.getI rfl (xS_row hr) ?_
  rw [rS]
  refine Rn.run 2 (ls' := [_, _, _, _]) (st' := [_]) rfl ?_
  refine Rn.ne0 rfl (fun e48 => ?_) (fun e48 => absurd e48 (by exact fun h => h (fun z => hz ((x_m2 (by omega)).mp z))))
  refine Rn.run 2 (ls' := [_, _, _, _]) (st' := [_, _]) rfl ?_
  refine Rn.call rfl rfl rfl rfl rfl (c101 5 rfl (by decide)) ?_
  exact Rn.ret rfl rfl rfl rfl rfl rfl
theorem k110_s2 {ex : xO} {d : Nat} {c : Nat → Nat → Int} {b : Bool} {n D T Mo : Nat} {kd bo wo L : Nat → Nat} (hP : pS n kd bo wo D T Mo L) (hc : cS c b n kd bo wo D T Mo L) {i : Nat} (hi : i < n) {r S : Nat} (hr : r < 6) (i1 : iRow c) (hS : c 56 r = (S : Nat)) (hz : S % 2 = 0) (hg : 16 < S) : An ex (d + 5) 110 4 [xA 0, xI (i : Int), xI (r : Int)] (hp c b) (xI (-3), hp (xup (xup c 0 13 5) 13 5 (c 13 5 + 1)) b) := by
  obtain ⟨ho, h40, hT, h9, hMo⟩ := hP
  obtain ⟨hC, d7, t9, hL, m10⟩ := hc
  have hn := ho.1
  have hT6 := p64 hn hT
  obtain ⟨r1, r2, r3, r4⟩ := i1 r hr
  have S40 : S ≤ 40 := by omega
  have rS : c (22 + 2 * r) 0 = (S : Nat) := by rw [r1]; exact hS
  refine Rn.run 2 (ls' := [_, _, _, _]) (st' := [_, _]) rfl ?_
  refine Rn.getR rfl ⟨by decide, rfl, rfl⟩ (j := gid b) (rfl) ?_
  refine Rn.getI rfl (xS_g b) ?_
  rw [hC.1]
  refine Rn.call rfl rfl rfl rfl rfl (c100) ?_
  refine Rn.eqB rfl (fun e11 => absurd e11 (by exact fun h => h (z_in hi (by omega)))) (fun e11 => ?_)
  refine Rn.run 2 (ls' := [_, _, _, _]) (st' := [_, _]) rfl ?_
  refine Rn.call rfl rfl rfl rfl rfl (c100) ?_
  refine Rn.neB rfl (fun e20 => ?_) (fun e20 => absurd e20 (by exact fun h => h (z_in (m := 6) hr (by omega))))
  refine Rn.run 2 (ls' := [_, _, _, _]) (st' := [_, _]) rfl ?_
  refine Rn.call rfl rfl rfl rfl rfl (c106_ok r hr (x_wn (by omega)) (by rw [rS, x_wn (by omega)]; omega)) ?_
  refine Rn.run 2 (ls' := [_, _, _, _]) (st' := [_]) rfl ?_
  refine Rn.eq0 rfl (fun e32 => ?_) (fun e32 => absurd e32 (by decide))
  refine Rn.run 3 (ls' := [_, _, _, _]) (st' := [_, _]) rfl ?_
  refine Rn.aald rfl ⟨by decide, rfl, by decide, by decide⟩ (r) (x_wn (n := r) (by omega)) (by omega) (xR_row hr).1 ?_
  refine Rn.getI rfl (xS_row hr) ?_
  rw [rS]
  refine Rn.run 2 (ls' := [_, _, _, _]) (st' := [_]) rfl ?_
  refine Rn.ne0 rfl (fun e48 => absurd e48 (by exact fun h => h ((x_m2 (by omega)).mpr hz))) (fun e48 => ?_)
  refine Rn.run 3 (ls' := [_, _, _, _]) (st' := [_, _]) rfl ?_
  refine Rn.aald rfl ⟨by decide, rfl, by decide, by decide⟩ (r) (x_wn (n := r) (by omega)) (by omega) (xR_row hr).1 ?_
  refine Rn.getI rfl (xS_row hr) ?_
  rw [rS]
  refine Rn.run 1 (ls' := [_, _, _, _]) (st' := [_, _]) rfl ?_
  refine Rn.le2 rfl (fun e62 => absurd e62 (by exact fun h => absurd ((y_ge (i := 16) (n := S) (by omega) (by omega)).mp h) (by omega))) (fun e62 => ?_)
  refine Rn.run 2 (ls' := [_, _, _, _]) (st' := [_, _]) rfl ?_
  refine Rn.call rfl rfl rfl rfl rfl (c101 5 rfl (by decide)) ?_
  exact Rn.ret rfl rfl rfl rfl rfl rfl
theorem k110_un {ex : xO} {d : Nat} {c : Nat → Nat → Int} {b : Bool} {n D T Mo : Nat} {kd bo wo L : Nat → Nat} (hP : pS n kd bo wo D T Mo L) (hc : cS c b n kd bo wo D T Mo L) {i : Nat} (hi : i < n) {r S : Nat} (hr : r < 6) (i1 : iRow c) (hS : c 56 r = (S : Nat)) (hz : S % 2 = 0) (hg : S ≤ 16) (hf : ¬ alls (fq c r) S 0 = true) : An ex (d + 5) 110 4 [xA 0, xI (i : Int), xI (r : Int)] (hp c b) (xI (-3), hp (xup (xup c 0 13 3) 13 3 (c 13 3 + 1)) b) := by
  obtain ⟨ho, h40, hT, h9, hMo⟩ := hP
  obtain ⟨hC, d7, t9, hL, m10⟩ := hc
  have hn := ho.1
  have hT6 := p64 hn hT
  obtain ⟨r1, r2, r3, r4⟩ := i1 r hr
  have S40 : S ≤ 40 := by omega
  have rS : c (22 + 2 * r) 0 = (S : Nat) := by rw [r1]; exact hS
  refine Rn.run 2 (ls' := [_, _, _, _]) (st' := [_, _]) rfl ?_
  refine Rn.getR rfl ⟨by decide, rfl, rfl⟩ (j := gid b) (rfl) ?_
  refine Rn.getI rfl (xS_g b) ?_
  rw [hC.1]
  refine Rn.call rfl rfl rfl rfl rfl (c100) ?_
  refine Rn.eqB rfl (fun e11 => absurd e11 (by exact fun h => h (z_in hi (by omega)))) (fun e11 => ?_)
  refine Rn.run 2 (ls' := [_, _, _, _]) (st' := [_, _]) rfl ?_
  refine Rn.call rfl rfl rfl rfl rfl (c100) ?_
  refine Rn.neB rfl (fun e20 => ?_) (fun e20 => absurd e20 (by exact fun h => h (z_in (m := 6) hr (by omega))))
  refine Rn.run 2 (ls' := [_, _, _, _]) (st' := [_, _]) rfl ?_
  refine Rn.call rfl rfl rfl rfl rfl (c106_ok r hr (x_wn (by omega)) (by rw [rS, x_wn (by omega)]; omega)) ?_
  refine Rn.run 2 (ls' := [_, _, _, _]) (st' := [_]) rfl ?_
  refine Rn.eq0 rfl (fun e32 => ?_) (fun e32 => absurd e32 (by decide))
  refine Rn.run 3 (ls' := [_, _, _, _]) (st' := [_, _]) rfl ?_
  refine Rn.aald rfl ⟨by decide, rfl, by decide, by decide⟩ (r) (x_wn (n := r) (by omega)) (by omega) (xR_row hr).1 ?_
  refine Rn.getI rfl (xS_row hr) ?_
  rw [rS]
  refine Rn.run 2 (ls' := [_, _, _, _]) (st' := [_]) rfl ?_
  refine Rn.ne0 rfl (fun e48 => absurd e48 (by exact fun h => h ((x_m2 (by omega)).mpr hz))) (fun e48 => ?_)
  refine Rn.run 3 (ls' := [_, _, _, _]) (st' := [_, _]) rfl ?_
  refine Rn.aald rfl ⟨by decide, rfl, by decide, by decide⟩ (r) (x_wn (n := r) (by omega)) (by omega) (xR_row hr).1 ?_
  refine Rn.getI rfl (xS_row hr) ?_
  rw [rS]
  refine Rn.run 1 (ls' := [_, _, _, _]) (st' := [_, _]) rfl ?_
  refine Rn.le2 rfl (fun e62 => ?_) (fun e62 => absurd e62 (by exact fun h => h ((y_ge (i := 16) (n := S) (by omega) (by omega)).mpr hg)))
  refine Rn.run 3 (ls' := [_, _, _, _]) (st' := [_, _]) rfl ?_
  refine Rn.aald rfl ⟨by decide, rfl, by decide, by decide⟩ (r) (x_wn (n := r) (by omega)) (by omega) (xR_row hr).1 ?_
  refine Rn.callV rfl (x_sv (xS_row hr)) rfl rfl rfl (c50 hr i1 hS) ?_
  refine Rn.eqB rfl (fun e80 => ?_) (fun e80 => absurd e80 (by exact hf))
  refine Rn.run 2 (ls' := [_, _, _, _]) (st' := [_, _]) rfl ?_
  refine Rn.call rfl rfl rfl rfl rfl (c101 3 rfl (by decide)) ?_
  exact Rn.ret rfl rfl rfl rfl rfl rfl
theorem k110_ok {ex : xO} {d : Nat} {c : Nat → Nat → Int} {b : Bool} {n D T Mo : Nat} {kd bo wo L : Nat → Nat} (hP : pS n kd bo wo D T Mo L) (hc : cS c b n kd bo wo D T Mo L) {i : Nat} (hi : i < n) {r S : Nat} (hr : r < 6) (i1 : iRow c) (hS : c 56 r = (S : Nat)) (hz : S % 2 = 0) (hg : S ≤ 16) (hf : alls (fq c r) S 0 = true) : An ex (d + 5) 110 4 [xA 0, xI (i : Int), xI (r : Int)] (hp c b) (xI 0, hp (c) b) := by
  obtain ⟨ho, h40, hT, h9, hMo⟩ := hP
  obtain ⟨hC, d7, t9, hL, m10⟩ := hc
  have hn := ho.1
  have hT6 := p64 hn hT
  obtain ⟨r1, r2, r3, r4⟩ := i1 r hr
  have S40 : S ≤ 40 := by omega
  have rS : c (22 + 2 * r) 0 = (S : Nat) := by rw [r1]; exact hS
  refine Rn.run 2 (ls' := [_, _, _, _]) (st' := [_, _]) rfl ?_
  refine Rn.getR rfl ⟨by decide, rfl, rfl⟩ (j := gid b) (rfl) ?_
  refine Rn.getI rfl (xS_g b) ?_
  rw [hC.1]
  refine Rn.call rfl rfl rfl rfl rfl (c100) ?_
  refine Rn.eqB rfl (fun e11 => absurd e11 (by exact fun h => h (z_in hi (by omega)))) (fun e11 => ?_)
  refine Rn.run 2 (ls' := [_, _, _, _]) (st' := [_, _]) rfl ?_
  refine Rn.call rfl rfl rfl rfl rfl (c100) ?_
  refine Rn.neB rfl (fun e20 => ?_) (fun e20 => absurd e20 (by exact fun h => h (z_in (m := 6) hr (by omega))))
  refine Rn.run 2 (ls' := [_, _, _, _]) (st' := [_, _]) rfl ?_
  refine Rn.call rfl rfl rfl rfl rfl (c106_ok r hr (x_wn (by omega)) (by rw [rS, x_wn (by omega)]; omega)) ?_
  refine Rn.run 2 (ls' := [_, _, _, _]) (st' := [_]) rfl ?_
  refine Rn.eq0 rfl (fun e32 => ?_) (fun e32 => absurd e32 (by decide))
  refine Rn.run 3 (ls' := [_, _, _, _]) (st' := [_, _]) rfl ?_
  refine Rn.aald rfl ⟨by decide, rfl, by decide, by decide⟩ (r) (x_wn (n := r) (by omega)) (by omega) (xR_row hr).1 ?_
  refine Rn.getI rfl (xS_row hr) ?_
  rw [rS]
  refine Rn.run 2 (ls' := [_, _, _, _]) (st' := [_]) rfl ?_
  refine Rn.ne0 rfl (fun e48 => absurd e48 (by exact fun h => h ((x_m2 (by omega)).mpr hz))) (fun e48 => ?_)
  refine Rn.run 3 (ls' := [_, _, _, _]) (st' := [_, _]) rfl ?_
  refine Rn.aald rfl ⟨by decide, rfl, by decide, by decide⟩ (r) (x_wn (n := r) (by omega)) (by omega) (xR_row hr).1 ?_
  refine Rn.getI rfl (xS_row hr) ?_
  rw [rS]
  refine Rn.run 1 (ls' := [_, _, _, _]) (st' := [_, _]) rfl ?_
  refine Rn.le2 rfl (fun e62 => ?_) (fun e62 => absurd e62 (by exact fun h => h ((y_ge (i := 16) (n := S) (by omega) (by omega)).mpr hg)))
  refine Rn.run 3 (ls' := [_, _, _, _]) (st' := [_, _]) rfl ?_
  refine Rn.aald rfl ⟨by decide, rfl, by decide, by decide⟩ (r) (x_wn (n := r) (by omega)) (by omega) (xR_row hr).1 ?_
  refine Rn.callV rfl (x_sv (xS_row hr)) rfl rfl rfl (c50 hr i1 hS) ?_
  refine Rn.eqB rfl (fun e80 => absurd e80 (by exact fun h => h hf)) (fun e80 => ?_)
  refine Rn.run 2 (ls' := [_, _, _, _]) (st' := [_]) rfl ?_
  exact Rn.ret rfl rfl rfl rfl rfl rfl
theorem k205_b1 {ex : xO} {d : Nat} {c : Nat → Nat → Int} {b : Bool} {n D T Mo : Nat} {kd bo wo L : Nat → Nat} (hP : pS n kd bo wo D T Mo L) (hm : mS c n kd bo wo D T Mo L) {a1 a2 : Int} (h1 : w32 a1 = a1) (q1 : ¬ (0 ≤ a1 ∧ a1 < n)) : An ex (d + 5) 205 3 [xA 54, xI a1, xI a2] (hp c b) (xI (-1), hp (c) b) := by
  obtain ⟨ho, h40, hT, h9, hMo⟩ := hP
  obtain ⟨hM, d29, t2, l55, m1⟩ := hm
  have hn := ho.1
  have hT6 := p64 hn hT
  refine Rn.run 2 (ls' := [_, _, _]) (st' := [_, _]) rfl ?_
  refine Rn.call rfl rfl rfl rfl rfl (c140 hn hM.1) ?_
  refine Rn.eqB rfl (fun e5 => ?_) (fun e5 => absurd e5 (by exact (z_no' h1 q1)))
  refine Rn.run 1 (ls' := [_, _, _]) (st' := [_]) rfl ?_
  exact Rn.ret rfl rfl rfl rfl rfl rfl
theorem k205_b2 {ex : xO} {d : Nat} {c : Nat → Nat → Int} {b : Bool} {n D T Mo : Nat} {kd bo wo L : Nat → Nat} (hP : pS n kd bo wo D T Mo L) (hm : mS c n kd bo wo D T Mo L) {a2 : Int} {i : Nat} (hi : i < n) (h2 : w32 a2 = a2) (q2 : ¬ (0 ≤ a2 ∧ a2 < 6)) : An ex (d + 5) 205 3 [xA 54, xI (i : Int), xI a2] (hp c b) (xI (-1), hp (c) b) := by
  obtain ⟨ho, h40, hT, h9, hMo⟩ := hP
  obtain ⟨hM, d29, t2, l55, m1⟩ := hm
  have hn := ho.1
  have hT6 := p64 hn hT
  refine Rn.run 2 (ls' := [_, _, _]) (st' := [_, _]) rfl ?_
  refine Rn.call rfl rfl rfl rfl rfl (c140 hn hM.1) ?_
  refine Rn.eqB rfl (fun e5 => absurd e5 (by exact fun h => h (z_in' hi (by omega)))) (fun e5 => ?_)
  refine Rn.run 1 (ls' := [_, _, _]) (st' := [_]) rfl ?_
  refine Rn.call rfl rfl rfl rfl rfl (c138) ?_
  refine Rn.neB rfl (fun e12 => absurd e12 (by exact (z_no' (m := 6) h2 q2))) (fun e12 => ?_)
  refine Rn.run 1 (ls' := [_, _, _]) (st' := [_]) rfl ?_
  exact Rn.ret rfl rfl rfl rfl rfl rfl
theorem k205_no {ex : xO} {d : Nat} {c : Nat → Nat → Int} {b : Bool} {n D T Mo : Nat} {kd bo wo L : Nat → Nat} (hP : pS n kd bo wo D T Mo L) (hm : mS c n kd bo wo D T Mo L) {i : Nat} (hi : i < n) {r : Nat} (hr : r < 6) (i1 : iRow c) (hm1 : c 56 r < 0) : An ex (d + 5) 205 3 [xA 54, xI (i : Int), xI (r : Int)] (hp c b) (xI (-3), hp (xup (xup c 54 5 1) 60 1 (c 60 1 + 1)) b) := by
  obtain ⟨ho, h40, hT, h9, hMo⟩ := hP
  obtain ⟨hM, d29, t2, l55, m1⟩ := hm
  have hn := ho.1
  have hT6 := p64 hn hT
  refine Rn.run 2 (ls' := [_, _, _]) (st' := [_, _]) rfl ?_
  refine Rn.call rfl rfl rfl rfl rfl (c140 hn hM.1) ?_
  refine Rn.eqB rfl (fun e5 => absurd e5 (by exact fun h => h (z_in' hi (by omega)))) (fun e5 => ?_)
  refine Rn.run 1 (ls' := [_, _, _]) (st' := [_]) rfl ?_
  refine Rn.call rfl rfl rfl rfl rfl (c138) ?_
  refine Rn.neB rfl (fun e12 => ?_) (fun e12 => absurd e12 (by exact fun h => h (z_in' (m := 6) hr (by omega))))
  refine Rn.run 3 (ls' := [_, _, _]) (st' := [_, _]) rfl ?_
  refine Rn.ald rfl ⟨by decide, rfl⟩ (r) (x_wn (n := r) (by omega)) (by omega) ?_
  refine Rn.ge0 rfl (fun e23 => absurd e23 (by rw [(iRow_w i1 hr).1]; omega)) (fun e23 => ?_)
  refine Rn.run 2 (ls' := [_, _, _]) (st' := [_, _]) rfl ?_
  refine Rn.call rfl rfl rfl rfl rfl (c134 1 rfl (by decide)) ?_
  exact Rn.ret rfl rfl rfl rfl rfl rfl
theorem k205_s1 {ex : xO} {d : Nat} {c : Nat → Nat → Int} {b : Bool} {n D T Mo : Nat} {kd bo wo L : Nat → Nat} (hP : pS n kd bo wo D T Mo L) (hm : mS c n kd bo wo D T Mo L) {i : Nat} (hi : i < n) {r S : Nat} (hr : r < 6) (i1 : iRow c) (hS : c 56 r = (S : Nat)) (hz : ¬ S % 2 = 0) : An ex (d + 5) 205 3 [xA 54, xI (i : Int), xI (r : Int)] (hp c b) (xI (-3), hp (xup (xup c 54 5 5) 60 5 (c 60 5 + 1)) b) := by
  obtain ⟨ho, h40, hT, h9, hMo⟩ := hP
  obtain ⟨hM, d29, t2, l55, m1⟩ := hm
  have hn := ho.1
  have hT6 := p64 hn hT
  obtain ⟨r1, r2, r3, r4⟩ := i1 r hr
  have S40 : S ≤ 40 := by omega
  have rS : c (22 + 2 * r) 0 = (S : Nat) := by rw [r1]; exact hS
  have S1000 : S < 1000 := by omega
  have h21 : S % 2 = 1 := by omega
  refine Rn.run 2 (ls' := [_, _, _]) (st' := [_, _]) rfl ?_
  refine Rn.call rfl rfl rfl rfl rfl (c140 hn hM.1) ?_
  refine Rn.eqB rfl (fun e5 => absurd e5 (by exact fun h => h (z_in' hi (by omega)))) (fun e5 => ?_)
  refine Rn.run 1 (ls' := [_, _, _]) (st' := [_]) rfl ?_
  refine Rn.call rfl rfl rfl rfl rfl (c138) ?_
  refine Rn.neB rfl (fun e12 => ?_) (fun e12 => absurd e12 (by exact fun h => h (z_in' (m := 6) hr (by omega))))
  refine Rn.run 3 (ls' := [_, _, _]) (st' := [_, _]) rfl ?_
  refine Rn.ald rfl ⟨by decide, rfl⟩ (r) (x_wn (n := r) (by omega)) (by omega) ?_
  rw [hS]
  refine Rn.ge0 rfl (fun e23 => ?_) (fun e23 => absurd e23 (by rw [x_wn (by omega)]; omega))
  refine Rn.run 3 (ls' := [_, _, _]) (st' := [_, _]) rfl ?_
  refine Rn.ald rfl ⟨by decide, rfl⟩ (r) (x_wn (n := r) (by omega)) (by omega) ?_
  rw [hS]
  refine Rn.run 1 (ls' := [_, _, _]) (st' := [_, _]) rfl ?_
  refine Rn.gt2 rfl (fun e40 => ?_) (fun e40 => ?_)
  · refine Rn.run 2 (ls' := [_, _, _]) (st' := [_, _]) rfl ?_
    refine Rn.call rfl rfl rfl rfl rfl (c134 5 rfl (by decide)) ?_
    exact Rn.ret rfl rfl rfl rfl rfl rfl
  · refine Rn.run 3 (ls' := [_, _, _]) (st' := [_, _]) rfl ?_
    refine Rn.ald rfl ⟨by decide, rfl⟩ (r) (x_wn (n := r) (by omega)) (by omega) ?_
    rw [hS]
    refine Rn.run 3 (ls' := [_, _, _]) (st' := [_, _]) rfl ?_
    refine Rn.ne2 rfl (fun e52 => absurd e52 (by exact fun h => h ((x_m21 S1000).mpr h21))) (fun e52 => ?_)
    refine Rn.run 2 (ls' := [_, _, _]) (st' := [_, _]) rfl ?_
    refine Rn.call rfl rfl rfl rfl rfl (c134 5 rfl (by decide)) ?_
    exact Rn.ret rfl rfl rfl rfl rfl rfl
theorem k205_s2 {ex : xO} {d : Nat} {c : Nat → Nat → Int} {b : Bool} {n D T Mo : Nat} {kd bo wo L : Nat → Nat} (hP : pS n kd bo wo D T Mo L) (hm : mS c n kd bo wo D T Mo L) {i : Nat} (hi : i < n) {r S : Nat} (hr : r < 6) (i1 : iRow c) (hS : c 56 r = (S : Nat)) (hz : S % 2 = 0) (hg : 16 < S) : An ex (d + 5) 205 3 [xA 54, xI (i : Int), xI (r : Int)] (hp c b) (xI (-3), hp (xup (xup c 54 5 5) 60 5 (c 60 5 + 1)) b) := by
  obtain ⟨ho, h40, hT, h9, hMo⟩ := hP
  obtain ⟨hM, d29, t2, l55, m1⟩ := hm
  have hn := ho.1
  have hT6 := p64 hn hT
  obtain ⟨r1, r2, r3, r4⟩ := i1 r hr
  have S40 : S ≤ 40 := by omega
  have rS : c (22 + 2 * r) 0 = (S : Nat) := by rw [r1]; exact hS
  refine Rn.run 2 (ls' := [_, _, _]) (st' := [_, _]) rfl ?_
  refine Rn.call rfl rfl rfl rfl rfl (c140 hn hM.1) ?_
  refine Rn.eqB rfl (fun e5 => absurd e5 (by exact fun h => h (z_in' hi (by omega)))) (fun e5 => ?_)
  refine Rn.run 1 (ls' := [_, _, _]) (st' := [_]) rfl ?_
  refine Rn.call rfl rfl rfl rfl rfl (c138) ?_
  refine Rn.neB rfl (fun e12 => ?_) (fun e12 => absurd e12 (by exact fun h => h (z_in' (m := 6) hr (by omega))))
  refine Rn.run 3 (ls' := [_, _, _]) (st' := [_, _]) rfl ?_
  refine Rn.ald rfl ⟨by decide, rfl⟩ (r) (x_wn (n := r) (by omega)) (by omega) ?_
  rw [hS]
  refine Rn.ge0 rfl (fun e23 => ?_) (fun e23 => absurd e23 (by rw [x_wn (by omega)]; omega))
  refine Rn.run 3 (ls' := [_, _, _]) (st' := [_, _]) rfl ?_
  refine Rn.ald rfl ⟨by decide, rfl⟩ (r) (x_wn (n := r) (by omega)) (by omega) ?_
  rw [hS]
  refine Rn.run 1 (ls' := [_, _, _]) (st' := [_, _]) rfl ?_
  refine Rn.gt2 rfl (fun e40 => ?_) (fun e40 => absurd e40 (by exact fun h => h ((y_lt (n := 16) (i := S) (by omega) (by omega)).mpr hg)))
  refine Rn.run 2 (ls' := [_, _, _]) (st' := [_, _]) rfl ?_
  refine Rn.call rfl rfl rfl rfl rfl (c134 5 rfl (by decide)) ?_
  exact Rn.ret rfl rfl rfl rfl rfl rfl
theorem k205_un {ex : xO} {d : Nat} {c : Nat → Nat → Int} {b : Bool} {n D T Mo : Nat} {kd bo wo L : Nat → Nat} (hP : pS n kd bo wo D T Mo L) (hm : mS c n kd bo wo D T Mo L) {i : Nat} (hi : i < n) {r S : Nat} (hr : r < 6) (i1 : iRow c) (hS : c 56 r = (S : Nat)) (hz : S % 2 = 0) (hg : S ≤ 16) (hf : ¬ alls (fq c r) S 0 = true) : An ex (d + 5) 205 3 [xA 54, xI (i : Int), xI (r : Int)] (hp c b) (xI (-3), hp (xup (xup c 54 5 3) 60 3 (c 60 3 + 1)) b) := by
  obtain ⟨ho, h40, hT, h9, hMo⟩ := hP
  obtain ⟨hM, d29, t2, l55, m1⟩ := hm
  have hn := ho.1
  have hT6 := p64 hn hT
  obtain ⟨r1, r2, r3, r4⟩ := i1 r hr
  have S40 : S ≤ 40 := by omega
  have rS : c (22 + 2 * r) 0 = (S : Nat) := by rw [r1]; exact hS
  refine Rn.run 2 (ls' := [_, _, _]) (st' := [_, _]) rfl ?_
  refine Rn.call rfl rfl rfl rfl rfl (c140 hn hM.1) ?_
  refine Rn.eqB rfl (fun e5 => absurd e5 (by exact fun h => h (z_in' hi (by omega)))) (fun e5 => ?_)
  refine Rn.run 1 (ls' := [_, _, _]) (st' := [_]) rfl ?_
  refine Rn.call rfl rfl rfl rfl rfl (c138) ?_
  refine Rn.neB rfl (fun e12 => ?_) (fun e12 => absurd e12 (by exact fun h => h (z_in' (m := 6) hr (by omega))))
  refine Rn.run 3 (ls' := [_, _, _]) (st' := [_, _]) rfl ?_
  refine Rn.ald rfl ⟨by decide, rfl⟩ (r) (x_wn (n := r) (by omega)) (by omega) ?_
  rw [hS]
  refine Rn.ge0 rfl (fun e23 => ?_) (fun e23 => absurd e23 (by rw [x_wn (by omega)]; omega))
  refine Rn.run 3 (ls' := [_, _, _]) (st' := [_, _]) rfl ?_
  refine Rn.ald rfl ⟨by decide, rfl⟩ (r) (x_wn (n := r) (by omega)) (by omega) ?_
  rw [hS]
  refine Rn.run 1 (ls' := [_, _, _]) (st' := [_, _]) rfl ?_
  refine Rn.gt2 rfl (fun e40 => absurd e40 (by exact fun h => absurd ((y_lt (n := 16) (i := S) (by omega) (by omega)).mp h) (by omega))) (fun e40 => ?_)
  refine Rn.run 3 (ls' := [_, _, _]) (st' := [_, _]) rfl ?_
  refine Rn.ald rfl ⟨by decide, rfl⟩ (r) (x_wn (n := r) (by omega)) (by omega) ?_
  rw [hS]
  refine Rn.run 3 (ls' := [_, _, _]) (st' := [_, _]) rfl ?_
  refine Rn.ne2 rfl (fun e52 => ?_) (fun e52 => absurd e52 (by exact fun h => h (fun z => absurd ((x_m21 (by omega)).mp z) (by omega))))
  refine Rn.run 2 (ls' := [_, _, _]) (st' := [_, _]) rfl ?_
  refine Rn.call rfl rfl rfl rfl rfl (c200 hr i1 hS) ?_
  refine Rn.eqB rfl (fun e66 => ?_) (fun e66 => absurd e66 (by exact hf))
  refine Rn.run 2 (ls' := [_, _, _]) (st' := [_, _]) rfl ?_
  refine Rn.call rfl rfl rfl rfl rfl (c134 3 rfl (by decide)) ?_
  exact Rn.ret rfl rfl rfl rfl rfl rfl
theorem k205_ok {ex : xO} {d : Nat} {c : Nat → Nat → Int} {b : Bool} {n D T Mo : Nat} {kd bo wo L : Nat → Nat} (hP : pS n kd bo wo D T Mo L) (hm : mS c n kd bo wo D T Mo L) {i : Nat} (hi : i < n) {r S : Nat} (hr : r < 6) (i1 : iRow c) (hS : c 56 r = (S : Nat)) (hz : S % 2 = 0) (hg : S ≤ 16) (hf : alls (fq c r) S 0 = true) : An ex (d + 5) 205 3 [xA 54, xI (i : Int), xI (r : Int)] (hp c b) (xI 0, hp (c) b) := by
  obtain ⟨ho, h40, hT, h9, hMo⟩ := hP
  obtain ⟨hM, d29, t2, l55, m1⟩ := hm
  have hn := ho.1
  have hT6 := p64 hn hT
  obtain ⟨r1, r2, r3, r4⟩ := i1 r hr
  have S40 : S ≤ 40 := by omega
  have rS : c (22 + 2 * r) 0 = (S : Nat) := by rw [r1]; exact hS
  refine Rn.run 2 (ls' := [_, _, _]) (st' := [_, _]) rfl ?_
  refine Rn.call rfl rfl rfl rfl rfl (c140 hn hM.1) ?_
  refine Rn.eqB rfl (fun e5 => absurd e5 (by exact fun h => h (z_in' hi (by omega)))) (fun e5 => ?_)
  refine Rn.run 1 (ls' := [_, _, _]) (st' := [_]) rfl ?_
  refine Rn.call rfl rfl rfl rfl rfl (c138) ?_
  refine Rn.neB rfl (fun e12 => ?_) (fun e12 => absurd e12 (by exact fun h => h (z_in' (m := 6) hr (by omega))))
  refine Rn.run 3 (ls' := [_, _, _]) (st' := [_, _]) rfl ?_
  refine Rn.ald rfl ⟨by decide, rfl⟩ (r) (x_wn (n := r) (by omega)) (by omega) ?_
  rw [hS]
  refine Rn.ge0 rfl (fun e23 => ?_) (fun e23 => absurd e23 (by rw [x_wn (by omega)]; omega))
  refine Rn.run 3 (ls' := [_, _, _]) (st' := [_, _]) rfl ?_
  refine Rn.ald rfl ⟨by decide, rfl⟩ (r) (x_wn (n := r) (by omega)) (by omega) ?_
  rw [hS]
  refine Rn.run 1 (ls' := [_, _, _]) (st' := [_, _]) rfl ?_
  refine Rn.gt2 rfl (fun e40 => absurd e40 (by exact fun h => absurd ((y_lt (n := 16) (i := S) (by omega) (by omega)).mp h) (by omega))) (fun e40 => ?_)
  refine Rn.run 3 (ls' := [_, _, _]) (st' := [_, _]) rfl ?_
  refine Rn.ald rfl ⟨by decide, rfl⟩ (r) (x_wn (n := r) (by omega)) (by omega) ?_
  rw [hS]
  refine Rn.run 3 (ls' := [_, _, _]) (st' := [_, _]) rfl ?_
  refine Rn.ne2 rfl (fun e52 => ?_) (fun e52 => absurd e52 (by exact fun h => h (fun z => absurd ((x_m21 (by omega)).mp z) (by omega))))
  refine Rn.run 2 (ls' := [_, _, _]) (st' := [_, _]) rfl ?_
  refine Rn.call rfl rfl rfl rfl rfl (c200 hr i1 hS) ?_
  refine Rn.eqB rfl (fun e66 => absurd e66 (by exact fun h => h hf)) (fun e66 => ?_)
  refine Rn.run 2 (ls' := [_, _, _]) (st' := [_]) rfl ?_
  exact Rn.ret rfl rfl rfl rfl rfl rfl
theorem k85_b1 {ex : xO} {d : Nat} {c : Nat → Nat → Int} {b : Bool} {n D T Mo : Nat} {kd bo wo L : Nat → Nat} (hP : pS n kd bo wo D T Mo L) (hc : cS c b n kd bo wo D T Mo L) {a1 a2 : Int} (h1 : w32 a1 = a1) (q1 : ¬ (0 ≤ a1 ∧ a1 < n)) : An ex (d + 20) 85 6 [xA 0, xI a1, xI a2] (hp c b) (xI (-1), hp (c) b) := by
  obtain ⟨ho, h40, hT, h9, hMo⟩ := hP
  obtain ⟨hC, d7, t9, hL, m10⟩ := hc
  have hn := ho.1
  have hT6 := p64 hn hT
  refine Rn.run 3 (ls' := [_, _, _, _, _, _]) (st' := [_, _, _]) rfl ?_
  refine Rn.call rfl rfl rfl rfl rfl (k110_b1 ⟨ho, h40, hT, h9, hMo⟩ ⟨hC, d7, t9, hL, m10⟩ h1 q1) ?_
  refine Rn.run 2 (ls' := [_, _, _, _, _, _]) (st' := [_]) rfl ?_
  refine Rn.eq0 rfl (fun e8 => absurd e8 (by decide)) (fun e8 => ?_)
  refine Rn.run 1 (ls' := [_, _, _, _, _, _]) (st' := [_]) rfl ?_
  exact Rn.ret rfl rfl rfl rfl rfl rfl
theorem k207_b1 {ex : xO} {d : Nat} {c : Nat → Nat → Int} {b : Bool} {n D T Mo : Nat} {kd bo wo L : Nat → Nat} (hP : pS n kd bo wo D T Mo L) (hm : mS c n kd bo wo D T Mo L) {a1 a2 : Int} (h1 : w32 a1 = a1) (q1 : ¬ (0 ≤ a1 ∧ a1 < n)) : An ex (d + 20) 207 6 [xA 54, xI a1, xI a2] (hp c b) (xI (-1), hp (c) b) := by
  obtain ⟨ho, h40, hT, h9, hMo⟩ := hP
  obtain ⟨hM, d29, t2, l55, m1⟩ := hm
  have hn := ho.1
  have hT6 := p64 hn hT
  refine Rn.run 3 (ls' := [_, _, _, _, _, _]) (st' := [_, _, _]) rfl ?_
  refine Rn.call rfl rfl rfl rfl rfl (k205_b1 ⟨ho, h40, hT, h9, hMo⟩ ⟨hM, d29, t2, l55, m1⟩ h1 q1) ?_
  refine Rn.run 2 (ls' := [_, _, _, _, _, _]) (st' := [_]) rfl ?_
  refine Rn.eq0 rfl (fun e8 => absurd e8 (by decide)) (fun e8 => ?_)
  refine Rn.run 1 (ls' := [_, _, _, _, _, _]) (st' := [_]) rfl ?_
  exact Rn.ret rfl rfl rfl rfl rfl rfl
theorem k85_b2 {ex : xO} {d : Nat} {c : Nat → Nat → Int} {b : Bool} {n D T Mo : Nat} {kd bo wo L : Nat → Nat} (hP : pS n kd bo wo D T Mo L) (hc : cS c b n kd bo wo D T Mo L) {a2 : Int} {i : Nat} (hi : i < n) (h2 : w32 a2 = a2) (q2 : ¬ (0 ≤ a2 ∧ a2 < 6)) : An ex (d + 20) 85 6 [xA 0, xI (i : Int), xI a2] (hp c b) (xI (-1), hp (c) b) := by
  obtain ⟨ho, h40, hT, h9, hMo⟩ := hP
  obtain ⟨hC, d7, t9, hL, m10⟩ := hc
  have hn := ho.1
  have hT6 := p64 hn hT
  refine Rn.run 3 (ls' := [_, _, _, _, _, _]) (st' := [_, _, _]) rfl ?_
  refine Rn.call rfl rfl rfl rfl rfl (k110_b2 ⟨ho, h40, hT, h9, hMo⟩ ⟨hC, d7, t9, hL, m10⟩ hi h2 q2) ?_
  refine Rn.run 2 (ls' := [_, _, _, _, _, _]) (st' := [_]) rfl ?_
  refine Rn.eq0 rfl (fun e8 => absurd e8 (by decide)) (fun e8 => ?_)
  refine Rn.run 1 (ls' := [_, _, _, _, _, _]) (st' := [_]) rfl ?_
  exact Rn.ret rfl rfl rfl rfl rfl rfl
theorem k207_b2 {ex : xO} {d : Nat} {c : Nat → Nat → Int} {b : Bool} {n D T Mo : Nat} {kd bo wo L : Nat → Nat} (hP : pS n kd bo wo D T Mo L) (hm : mS c n kd bo wo D T Mo L) {a2 : Int} {i : Nat} (hi : i < n) (h2 : w32 a2 = a2) (q2 : ¬ (0 ≤ a2 ∧ a2 < 6)) : An ex (d + 20) 207 6 [xA 54, xI (i : Int), xI a2] (hp c b) (xI (-1), hp (c) b) := by
  obtain ⟨ho, h40, hT, h9, hMo⟩ := hP
  obtain ⟨hM, d29, t2, l55, m1⟩ := hm
  have hn := ho.1
  have hT6 := p64 hn hT
  refine Rn.run 3 (ls' := [_, _, _, _, _, _]) (st' := [_, _, _]) rfl ?_
  refine Rn.call rfl rfl rfl rfl rfl (k205_b2 ⟨ho, h40, hT, h9, hMo⟩ ⟨hM, d29, t2, l55, m1⟩ hi h2 q2) ?_
  refine Rn.run 2 (ls' := [_, _, _, _, _, _]) (st' := [_]) rfl ?_
  refine Rn.eq0 rfl (fun e8 => absurd e8 (by decide)) (fun e8 => ?_)
  refine Rn.run 1 (ls' := [_, _, _, _, _, _]) (st' := [_]) rfl ?_
  exact Rn.ret rfl rfl rfl rfl rfl rfl
theorem k85_no {ex : xO} {d : Nat} {c : Nat → Nat → Int} {b : Bool} {n D T Mo : Nat} {kd bo wo L : Nat → Nat} (hP : pS n kd bo wo D T Mo L) (hc : cS c b n kd bo wo D T Mo L) {i : Nat} (hi : i < n) {r : Nat} (hr : r < 6) (i1 : iRow c) (hm1 : c 56 r < 0) : An ex (d + 20) 85 6 [xA 0, xI (i : Int), xI (r : Int)] (hp c b) (xI (-3), hp (xup (xup c 0 13 1) 13 1 (c 13 1 + 1)) b) := by
  obtain ⟨ho, h40, hT, h9, hMo⟩ := hP
  obtain ⟨hC, d7, t9, hL, m10⟩ := hc
  have hn := ho.1
  have hT6 := p64 hn hT
  refine Rn.run 3 (ls' := [_, _, _, _, _, _]) (st' := [_, _, _]) rfl ?_
  refine Rn.call rfl rfl rfl rfl rfl (k110_no ⟨ho, h40, hT, h9, hMo⟩ ⟨hC, d7, t9, hL, m10⟩ hi hr i1 hm1) ?_
  refine Rn.run 2 (ls' := [_, _, _, _, _, _]) (st' := [_]) rfl ?_
  refine Rn.eq0 rfl (fun e8 => absurd e8 (by decide)) (fun e8 => ?_)
  refine Rn.run 1 (ls' := [_, _, _, _, _, _]) (st' := [_]) rfl ?_
  exact Rn.ret rfl rfl rfl rfl rfl rfl
theorem k207_no {ex : xO} {d : Nat} {c : Nat → Nat → Int} {b : Bool} {n D T Mo : Nat} {kd bo wo L : Nat → Nat} (hP : pS n kd bo wo D T Mo L) (hm : mS c n kd bo wo D T Mo L) {i : Nat} (hi : i < n) {r : Nat} (hr : r < 6) (i1 : iRow c) (hm1 : c 56 r < 0) : An ex (d + 20) 207 6 [xA 54, xI (i : Int), xI (r : Int)] (hp c b) (xI (-3), hp (xup (xup c 54 5 1) 60 1 (c 60 1 + 1)) b) := by
  obtain ⟨ho, h40, hT, h9, hMo⟩ := hP
  obtain ⟨hM, d29, t2, l55, m1⟩ := hm
  have hn := ho.1
  have hT6 := p64 hn hT
  refine Rn.run 3 (ls' := [_, _, _, _, _, _]) (st' := [_, _, _]) rfl ?_
  refine Rn.call rfl rfl rfl rfl rfl (k205_no ⟨ho, h40, hT, h9, hMo⟩ ⟨hM, d29, t2, l55, m1⟩ hi hr i1 hm1) ?_
  refine Rn.run 2 (ls' := [_, _, _, _, _, _]) (st' := [_]) rfl ?_
  refine Rn.eq0 rfl (fun e8 => absurd e8 (by decide)) (fun e8 => ?_)
  refine Rn.run 1 (ls' := [_, _, _, _, _, _]) (st' := [_]) rfl ?_
  exact Rn.ret rfl rfl rfl rfl rfl rfl
theorem k85_s1 {ex : xO} {d : Nat} {c : Nat → Nat → Int} {b : Bool} {n D T Mo : Nat} {kd bo wo L : Nat → Nat} (hP : pS n kd bo wo D T Mo L) (hc : cS c b n kd bo wo D T Mo L) {i : Nat} (hi : i < n) {r S : Nat} (hr : r < 6) (i1 : iRow c) (hS : c 56 r = (S : Nat)) (hz : ¬ S % 2 = 0) : An ex (d + 20) 85 6 [xA 0, xI (i : Int), xI (r : Int)] (hp c b) (xI (-3), hp (xup (xup c 0 13 5) 13 5 (c 13 5 + 1)) b) := by
  obtain ⟨ho, h40, hT, h9, hMo⟩ := hP
  obtain ⟨hC, d7, t9, hL, m10⟩ := hc
  have hn := ho.1
  have hT6 := p64 hn hT
  refine Rn.run 3 (ls' := [_, _, _, _, _, _]) (st' := [_, _, _]) rfl ?_
  refine Rn.call rfl rfl rfl rfl rfl (k110_s1 ⟨ho, h40, hT, h9, hMo⟩ ⟨hC, d7, t9, hL, m10⟩ hi hr i1 hS hz) ?_
  refine Rn.run 2 (ls' := [_, _, _, _, _, _]) (st' := [_]) rfl ?_
  refine Rn.eq0 rfl (fun e8 => absurd e8 (by decide)) (fun e8 => ?_)
  refine Rn.run 1 (ls' := [_, _, _, _, _, _]) (st' := [_]) rfl ?_
  exact Rn.ret rfl rfl rfl rfl rfl rfl
theorem k207_s1 {ex : xO} {d : Nat} {c : Nat → Nat → Int} {b : Bool} {n D T Mo : Nat} {kd bo wo L : Nat → Nat} (hP : pS n kd bo wo D T Mo L) (hm : mS c n kd bo wo D T Mo L) {i : Nat} (hi : i < n) {r S : Nat} (hr : r < 6) (i1 : iRow c) (hS : c 56 r = (S : Nat)) (hz : ¬ S % 2 = 0) : An ex (d + 20) 207 6 [xA 54, xI (i : Int), xI (r : Int)] (hp c b) (xI (-3), hp (xup (xup c 54 5 5) 60 5 (c 60 5 + 1)) b) := by
  obtain ⟨ho, h40, hT, h9, hMo⟩ := hP
  obtain ⟨hM, d29, t2, l55, m1⟩ := hm
  have hn := ho.1
  have hT6 := p64 hn hT
  refine Rn.run 3 (ls' := [_, _, _, _, _, _]) (st' := [_, _, _]) rfl ?_
  refine Rn.call rfl rfl rfl rfl rfl (k205_s1 ⟨ho, h40, hT, h9, hMo⟩ ⟨hM, d29, t2, l55, m1⟩ hi hr i1 hS hz) ?_
  refine Rn.run 2 (ls' := [_, _, _, _, _, _]) (st' := [_]) rfl ?_
  refine Rn.eq0 rfl (fun e8 => absurd e8 (by decide)) (fun e8 => ?_)
  refine Rn.run 1 (ls' := [_, _, _, _, _, _]) (st' := [_]) rfl ?_
  exact Rn.ret rfl rfl rfl rfl rfl rfl
theorem k85_s2 {ex : xO} {d : Nat} {c : Nat → Nat → Int} {b : Bool} {n D T Mo : Nat} {kd bo wo L : Nat → Nat} (hP : pS n kd bo wo D T Mo L) (hc : cS c b n kd bo wo D T Mo L) {i : Nat} (hi : i < n) {r S : Nat} (hr : r < 6) (i1 : iRow c) (hS : c 56 r = (S : Nat)) (hz : S % 2 = 0) (hg : 16 < S) : An ex (d + 20) 85 6 [xA 0, xI (i : Int), xI (r : Int)] (hp c b) (xI (-3), hp (xup (xup c 0 13 5) 13 5 (c 13 5 + 1)) b) := by
  obtain ⟨ho, h40, hT, h9, hMo⟩ := hP
  obtain ⟨hC, d7, t9, hL, m10⟩ := hc
  have hn := ho.1
  have hT6 := p64 hn hT
  refine Rn.run 3 (ls' := [_, _, _, _, _, _]) (st' := [_, _, _]) rfl ?_
  refine Rn.call rfl rfl rfl rfl rfl (k110_s2 ⟨ho, h40, hT, h9, hMo⟩ ⟨hC, d7, t9, hL, m10⟩ hi hr i1 hS hz hg) ?_
  refine Rn.run 2 (ls' := [_, _, _, _, _, _]) (st' := [_]) rfl ?_
  refine Rn.eq0 rfl (fun e8 => absurd e8 (by decide)) (fun e8 => ?_)
  refine Rn.run 1 (ls' := [_, _, _, _, _, _]) (st' := [_]) rfl ?_
  exact Rn.ret rfl rfl rfl rfl rfl rfl
theorem k207_s2 {ex : xO} {d : Nat} {c : Nat → Nat → Int} {b : Bool} {n D T Mo : Nat} {kd bo wo L : Nat → Nat} (hP : pS n kd bo wo D T Mo L) (hm : mS c n kd bo wo D T Mo L) {i : Nat} (hi : i < n) {r S : Nat} (hr : r < 6) (i1 : iRow c) (hS : c 56 r = (S : Nat)) (hz : S % 2 = 0) (hg : 16 < S) : An ex (d + 20) 207 6 [xA 54, xI (i : Int), xI (r : Int)] (hp c b) (xI (-3), hp (xup (xup c 54 5 5) 60 5 (c 60 5 + 1)) b) := by
  obtain ⟨ho, h40, hT, h9, hMo⟩ := hP
  obtain ⟨hM, d29, t2, l55, m1⟩ := hm
  have hn := ho.1
  have hT6 := p64 hn hT
  refine Rn.run 3 (ls' := [_, _, _, _, _, _]) (st' := [_, _, _]) rfl ?_
  refine Rn.call rfl rfl rfl rfl rfl (k205_s2 ⟨ho, h40, hT, h9, hMo⟩ ⟨hM, d29, t2, l55, m1⟩ hi hr i1 hS hz hg) ?_
  refine Rn.run 2 (ls' := [_, _, _, _, _, _]) (st' := [_]) rfl ?_
  refine Rn.eq0 rfl (fun e8 => absurd e8 (by decide)) (fun e8 => ?_)
  refine Rn.run 1 (ls' := [_, _, _, _, _, _]) (st' := [_]) rfl ?_
  exact Rn.ret rfl rfl rfl rfl rfl rfl
theorem k85_un {ex : xO} {d : Nat} {c : Nat → Nat → Int} {b : Bool} {n D T Mo : Nat} {kd bo wo L : Nat → Nat} (hP : pS n kd bo wo D T Mo L) (hc : cS c b n kd bo wo D T Mo L) {i : Nat} (hi : i < n) {r S : Nat} (hr : r < 6) (i1 : iRow c) (hS : c 56 r = (S : Nat)) (hz : S % 2 = 0) (hg : S ≤ 16) (hf : ¬ alls (fq c r) S 0 = true) : An ex (d + 20) 85 6 [xA 0, xI (i : Int), xI (r : Int)] (hp c b) (xI (-3), hp (xup (xup c 0 13 3) 13 3 (c 13 3 + 1)) b) := by
  obtain ⟨ho, h40, hT, h9, hMo⟩ := hP
  obtain ⟨hC, d7, t9, hL, m10⟩ := hc
  have hn := ho.1
  have hT6 := p64 hn hT
  refine Rn.run 3 (ls' := [_, _, _, _, _, _]) (st' := [_, _, _]) rfl ?_
  refine Rn.call rfl rfl rfl rfl rfl (k110_un ⟨ho, h40, hT, h9, hMo⟩ ⟨hC, d7, t9, hL, m10⟩ hi hr i1 hS hz hg hf) ?_
  refine Rn.run 2 (ls' := [_, _, _, _, _, _]) (st' := [_]) rfl ?_
  refine Rn.eq0 rfl (fun e8 => absurd e8 (by decide)) (fun e8 => ?_)
  refine Rn.run 1 (ls' := [_, _, _, _, _, _]) (st' := [_]) rfl ?_
  exact Rn.ret rfl rfl rfl rfl rfl rfl
theorem k207_un {ex : xO} {d : Nat} {c : Nat → Nat → Int} {b : Bool} {n D T Mo : Nat} {kd bo wo L : Nat → Nat} (hP : pS n kd bo wo D T Mo L) (hm : mS c n kd bo wo D T Mo L) {i : Nat} (hi : i < n) {r S : Nat} (hr : r < 6) (i1 : iRow c) (hS : c 56 r = (S : Nat)) (hz : S % 2 = 0) (hg : S ≤ 16) (hf : ¬ alls (fq c r) S 0 = true) : An ex (d + 20) 207 6 [xA 54, xI (i : Int), xI (r : Int)] (hp c b) (xI (-3), hp (xup (xup c 54 5 3) 60 3 (c 60 3 + 1)) b) := by
  obtain ⟨ho, h40, hT, h9, hMo⟩ := hP
  obtain ⟨hM, d29, t2, l55, m1⟩ := hm
  have hn := ho.1
  have hT6 := p64 hn hT
  refine Rn.run 3 (ls' := [_, _, _, _, _, _]) (st' := [_, _, _]) rfl ?_
  refine Rn.call rfl rfl rfl rfl rfl (k205_un ⟨ho, h40, hT, h9, hMo⟩ ⟨hM, d29, t2, l55, m1⟩ hi hr i1 hS hz hg hf) ?_
  refine Rn.run 2 (ls' := [_, _, _, _, _, _]) (st' := [_]) rfl ?_
  refine Rn.eq0 rfl (fun e8 => absurd e8 (by decide)) (fun e8 => ?_)
  refine Rn.run 1 (ls' := [_, _, _, _, _, _]) (st' := [_]) rfl ?_
  exact Rn.ret rfl rfl rfl rfl rfl rfl
theorem l85 {ex : xO} {d : Nat} {c : Nat → Nat → Int} {b : Bool} {n : Nat} {kd bo wo : Nat → Nat} (ho : gok n kd bo wo) (hC : cG c b n kd bo wo) {i : Nat} (hi : i < n) {r M : Nat} (hr : r < 6) (i1 : iRow c) (hS : c 56 r = ((2 * M : Nat) : Int)) (hM8 : M ≤ 8) (hf : alls (fq c r) (2 * M) 0 = true) : ∀ (m w s : Nat), w + m = 10 → s < 1024 → Rn ex xt85 (d + 5) 19 [xA 0, xI (i : Int), xI (r : Int), xI 0, xI (s : Int), xI (w : Int)] [] (hp c b) (xI ((xit (fun w z => if alls (pq c r (kd i) w) M 0 = true then z ||| 2 ^ w else z) m w s : Nat) : Int), hp c b) := by
  have hn := ho.1
  intro m
  induction m with
  | zero =>
    intro w s hm hQ
    refine Rn.run 2 (ls' := [_, _, _, _, _, _]) (st' := [_, _]) rfl ?_
    refine Rn.gt2 rfl (fun e23 => ?_) (fun e23 => absurd e23 (by exact fun h => h ((y_lt (n := 9) (by omega) (by omega)).mpr (by omega))))
    refine Rn.run 1 (ls' := [_, _, _, _, _, _]) (st' := [_]) rfl ?_
    exact Rn.ret rfl rfl rfl rfl rfl rfl
  | succ m ih =>
    intro w s hm hQ
    refine Rn.run 2 (ls' := [_, _, _, _, _, _]) (st' := [_, _]) rfl ?_
    refine Rn.gt2 rfl (fun e23 => absurd e23 (by exact fun h => absurd ((y_lt (n := 9) (by omega) (by omega)).mp h) (by omega))) (fun e23 => ?_)
    refine Rn.run 1 (ls' := [_, _, _, _, _, _]) (st' := [_]) rfl ?_
    refine Rn.getR rfl ⟨by decide, rfl, rfl⟩ (j := gid b) (rfl) ?_
    refine Rn.getR rfl (xS_g b) (xR_g b).1 ?_
    refine Rn.run 1 (ls' := [_, _, _, _, _, _]) (st' := [_, _]) rfl ?_
    refine Rn.ald rfl (xS_g1 b) (i) (x_wn (by omega)) (by omega) ?_
    rw [(hC.2.2 i hi).1]
    refine Rn.run 4 (ls' := [_, _, _, _, _, _]) (st' := [_, _, _, _]) rfl ?_
    refine Rn.aald rfl ⟨by decide, rfl, by decide, by decide⟩ (r) (x_wn (n := r) (by omega)) (by omega) (xR_row hr).1 ?_
    refine Rn.call rfl rfl rfl rfl rfl (c126 hr i1 hS hM8 hf (ho.2 i hi).1 (by omega)) ?_
    refine Rn.eqB rfl (fun e46 => ?_) (fun e46 => ?_)
    · refine Rn.run 2 (ls' := [_, _, _, _, _, _]) (st' := []) rfl ?_
      refine Rn.ls ?_ (ih (w + 1) (if alls (pq c r (kd i) w) M 0 = true then s ||| 2 ^ w else s) (by omega) (by split <;> first | exact or1024 hQ (by omega) | exact hQ))
      first | (rw [show (if alls (pq c r (kd i) w) M 0 = true then s ||| 2 ^ w else s) = s ||| 2 ^ w from if_pos e46, ← bt8_add s hQ w (by omega)]; first | done | rfl) | (rw [show (if alls (pq c r (kd i) w) M 0 = true then s ||| 2 ^ w else s) = s from if_neg e46]; first | rfl | (rw [bt8_or0 s hQ]; rfl))
    · refine Rn.run 8 (ls' := [_, _, _, _, _, _]) (st' := []) rfl ?_
      refine Rn.ls ?_ (ih (w + 1) (if alls (pq c r (kd i) w) M 0 = true then s ||| 2 ^ w else s) (by omega) (by split <;> first | exact or1024 hQ (by omega) | exact hQ))
      first | (rw [show (if alls (pq c r (kd i) w) M 0 = true then s ||| 2 ^ w else s) = s ||| 2 ^ w from if_pos e46, ← bt8_add s hQ w (by omega)]; first | done | rfl) | (rw [show (if alls (pq c r (kd i) w) M 0 = true then s ||| 2 ^ w else s) = s from if_neg e46]; first | rfl | (rw [bt8_or0 s hQ]; rfl))
theorem l207 {ex : xO} {d : Nat} {c : Nat → Nat → Int} {b : Bool} {n : Nat} {kd bo wo : Nat → Nat} (ho : gok n kd bo wo) (hM : mG c n kd bo wo) {i : Nat} (hi : i < n) {r M : Nat} (hr : r < 6) (i1 : iRow c) (hS : c 56 r = ((2 * M : Nat) : Int)) (hM8 : M ≤ 8) (hf : alls (fq c r) (2 * M) 0 = true) : ∀ (m w s : Nat), w + m = 10 → s < 1024 → Rn ex xt207 (d + 5) 19 [xA 54, xI (i : Int), xI (r : Int), xI 0, xI (s : Int), xI (w : Int)] [] (hp c b) (xI ((xit (fun w z => if alls (pq c r (kd i) w) M 0 = true then z ||| 2 ^ w else z) m w s : Nat) : Int), hp c b) := by
  have hn := ho.1
  intro m
  induction m with
  | zero =>
    intro w s hm hQ
    refine Rn.run 2 (ls' := [_, _, _, _, _, _]) (st' := [_, _]) rfl ?_
    refine Rn.ge2 rfl (fun e23 => ?_) (fun e23 => absurd e23 (by exact fun h => h ((y_ge (n := 10) (by omega) (by omega)).mpr (by omega))))
    refine Rn.run 1 (ls' := [_, _, _, _, _, _]) (st' := [_]) rfl ?_
    exact Rn.ret rfl rfl rfl rfl rfl rfl
  | succ m ih =>
    intro w s hm hQ
    refine Rn.run 2 (ls' := [_, _, _, _, _, _]) (st' := [_, _]) rfl ?_
    refine Rn.ge2 rfl (fun e23 => absurd e23 (by exact fun h => absurd ((y_ge (n := 10) (by omega) (by omega)).mp h) (by omega))) (fun e23 => ?_)
    refine Rn.run 7 (ls' := [_, _, _, _, _, _]) (st' := [_, _, _, _]) rfl ?_
    refine Rn.ald rfl ⟨by decide, rfl⟩ (11 + i) (x_wn (n := 11 + i) (by omega)) (by omega) ?_
    rw [(hM.2 i hi).1]
    refine Rn.run 2 (ls' := [_, _, _, _, _, _]) (st' := [_, _, _, _, _]) rfl ?_
    refine Rn.call rfl rfl rfl rfl rfl (c206 hr i1 hS hM8 hf (ho.2 i hi).1 (by omega)) ?_
    refine Rn.eqB rfl (fun e44 => ?_) (fun e44 => ?_)
    · refine Rn.run 5 (ls' := [_, _, _, _, _, _]) (st' := []) rfl ?_
      refine Rn.ls ?_ (ih (w + 1) (if alls (pq c r (kd i) w) M 0 = true then s ||| 2 ^ w else s) (by omega) (by split <;> first | exact or1024 hQ (by omega) | exact hQ))
      first | (rw [show (if alls (pq c r (kd i) w) M 0 = true then s ||| 2 ^ w else s) = s ||| 2 ^ w from if_pos e44, ← bt8_add s hQ w (by omega)]; first | done | rfl) | (rw [show (if alls (pq c r (kd i) w) M 0 = true then s ||| 2 ^ w else s) = s from if_neg e44]; first | rfl | (rw [bt8_or0 s hQ]; rfl))
    · refine Rn.run 8 (ls' := [_, _, _, _, _, _]) (st' := []) rfl ?_
      refine Rn.ls ?_ (ih (w + 1) (if alls (pq c r (kd i) w) M 0 = true then s ||| 2 ^ w else s) (by omega) (by split <;> first | exact or1024 hQ (by omega) | exact hQ))
      first | (rw [show (if alls (pq c r (kd i) w) M 0 = true then s ||| 2 ^ w else s) = s ||| 2 ^ w from if_pos e44, ← bt8_add s hQ w (by omega)]; first | done | rfl) | (rw [show (if alls (pq c r (kd i) w) M 0 = true then s ||| 2 ^ w else s) = s from if_neg e44]; first | rfl | (rw [bt8_or0 s hQ]; rfl))
theorem k85_ok {ex : xO} {d : Nat} {c : Nat → Nat → Int} {b : Bool} {n D T Mo : Nat} {kd bo wo L : Nat → Nat} (hP : pS n kd bo wo D T Mo L) (hc : cS c b n kd bo wo D T Mo L) {i : Nat} (hi : i < n) {r M : Nat} (hr : r < 6) (i1 : iRow c) (hS : c 56 r = ((2 * M : Nat) : Int)) (hM8 : M ≤ 8) (hf : alls (fq c r) (2 * M) 0 = true) : An ex (d + 20) 85 6 [xA 0, xI (i : Int), xI (r : Int)] (hp c b) (xI (xit (fun w z => if alls (pq c r (kd i) w) M 0 = true then z ||| 2 ^ w else z) 10 0 0 : Nat), hp (c) b) := by
  obtain ⟨ho, h40, hT, h9, hMo⟩ := hP
  obtain ⟨hC, d7, t9, hL, m10⟩ := hc
  have hn := ho.1
  have hT6 := p64 hn hT
  refine Rn.run 3 (ls' := [_, _, _, _, _, _]) (st' := [_, _, _]) rfl ?_
  refine Rn.call rfl rfl rfl rfl rfl (k110_ok ⟨ho, h40, hT, h9, hMo⟩ ⟨hC, d7, t9, hL, m10⟩ hi hr i1 hS (by omega) (by omega) hf) ?_
  refine Rn.run 2 (ls' := [_, _, _, _, _, _]) (st' := [_]) rfl ?_
  refine Rn.eq0 rfl (fun e8 => ?_) (fun e8 => absurd e8 (by decide))
  refine Rn.run 4 (ls' := [_, _, _, _, _, _]) (st' := []) rfl ?_
  exact l85 (d := d + 15) ho hC hi hr i1 hS hM8 hf 10 0 0 rfl (by decide)
theorem k207_ok {ex : xO} {d : Nat} {c : Nat → Nat → Int} {b : Bool} {n D T Mo : Nat} {kd bo wo L : Nat → Nat} (hP : pS n kd bo wo D T Mo L) (hm : mS c n kd bo wo D T Mo L) {i : Nat} (hi : i < n) {r M : Nat} (hr : r < 6) (i1 : iRow c) (hS : c 56 r = ((2 * M : Nat) : Int)) (hM8 : M ≤ 8) (hf : alls (fq c r) (2 * M) 0 = true) : An ex (d + 20) 207 6 [xA 54, xI (i : Int), xI (r : Int)] (hp c b) (xI (xit (fun w z => if alls (pq c r (kd i) w) M 0 = true then z ||| 2 ^ w else z) 10 0 0 : Nat), hp (c) b) := by
  obtain ⟨ho, h40, hT, h9, hMo⟩ := hP
  obtain ⟨hM, d29, t2, l55, m1⟩ := hm
  have hn := ho.1
  have hT6 := p64 hn hT
  refine Rn.run 3 (ls' := [_, _, _, _, _, _]) (st' := [_, _, _]) rfl ?_
  refine Rn.call rfl rfl rfl rfl rfl (k205_ok ⟨ho, h40, hT, h9, hMo⟩ ⟨hM, d29, t2, l55, m1⟩ hi hr i1 hS (by omega) (by omega) hf) ?_
  refine Rn.run 2 (ls' := [_, _, _, _, _, _]) (st' := [_]) rfl ?_
  refine Rn.eq0 rfl (fun e8 => ?_) (fun e8 => absurd e8 (by decide))
  refine Rn.run 4 (ls' := [_, _, _, _, _, _]) (st' := []) rfl ?_
  exact l207 (d := d + 15) ho hM hi hr i1 hS hM8 hf 10 0 0 rfl (by decide)
theorem g_worths {ex : xO} (a1 a2 : Int) (h1 : w32 a1 = a1) (h2 : w32 a2 = a2) : AgI ex 85 6 207 6 [xI a1, xI a2] := by
  intro d c b hI
  obtain ⟨n, kd, bo, wo, D, T, Mo, L, hP, hc, hm⟩ := Inv_St hI
  by_cases q1 : 0 ≤ a1 ∧ a1 < n
  · obtain ⟨i, hi, rfl⟩ : ∃ j : Nat, j < n ∧ a1 = (j : Int) := ⟨a1.toNat, by omega, by omega⟩
    by_cases q2 : 0 ≤ a2 ∧ a2 < 6
    · obtain ⟨r, hr, rfl⟩ : ∃ j : Nat, j < 6 ∧ a2 = (j : Int) := ⟨a2.toNat, by omega, by omega⟩
      by_cases q3 : c 56 r < 0
      · exact Ag_find2 hI 1 (by decide) (k85_no hP hc hi hr hI.1 q3) (fun c' hq => k207_no hP (mS_fr (fun k => hq 55 k (by decide) (by decide)) hm) hi hr (iRow_fr (fun a k ha => hq a k (by omega) (by omega)) hI.1) (by rw [hq 56 r (by decide) (by decide)]; exact q3))
      · obtain ⟨S, hS⟩ : ∃ S : Nat, c 56 r = (S : Nat) := ⟨(c 56 r).toNat, by omega⟩
        have hS' : ∀ c' : Nat → Nat → Int, (∀ a k, a ≠ 0 → a ≠ 13 → c' a k = c a k) → c' 56 r = (S : Nat) := fun c' hq => by rw [hq 56 r (by decide) (by decide)]; exact hS
        have hA' : ∀ c' : Nat → Nat → Int, (∀ a k, a ≠ 0 → a ≠ 13 → c' a k = c a k) → fq c' r = fq c r := fun c' hq => by funext k; unfold fq; rw [hq 57 _ (by decide) (by decide)]
        by_cases hz : S % 2 = 0
        · by_cases hg : S ≤ 16
          · by_cases hf : alls (fq c r) S 0 = true
            · obtain ⟨M, rfl⟩ : ∃ M, S = 2 * M := ⟨S / 2, by omega⟩
              exact Ag_same hI _ (k85_ok hP hc hi hr hI.1 hS (by omega) hf) (k207_ok hP hm hi hr hI.1 hS (by omega) hf)
            · exact Ag_find2 hI 3 (by decide) (k85_un hP hc hi hr hI.1 hS hz hg hf) (fun c' hq => k207_un hP (mS_fr (fun k => hq 55 k (by decide) (by decide)) hm) hi hr (iRow_fr (fun a k ha => hq a k (by omega) (by omega)) hI.1) (hS' c' hq) hz hg (by rw [hA' c' hq]; exact hf))
          · exact Ag_find2 hI 5 (by decide) (k85_s2 hP hc hi hr hI.1 hS hz (by omega)) (fun c' hq => k207_s2 hP (mS_fr (fun k => hq 55 k (by decide) (by decide)) hm) hi hr (iRow_fr (fun a k ha => hq a k (by omega) (by omega)) hI.1) (hS' c' hq) hz (by omega))
        · exact Ag_find2 hI 5 (by decide) (k85_s1 hP hc hi hr hI.1 hS hz) (fun c' hq => k207_s1 hP (mS_fr (fun k => hq 55 k (by decide) (by decide)) hm) hi hr (iRow_fr (fun a k ha => hq a k (by omega) (by omega)) hI.1) (hS' c' hq) hz)
    · exact Ag_same hI (-1) (k85_b2 hP hc hi h2 q2) (k207_b2 hP hm hi h2 q2)
  · exact Ag_same hI (-1) (k85_b1 hP hc h1 q1) (k207_b1 hP hm h1 q1)
theorem k86_b1 {ex : xO} {d : Nat} {c : Nat → Nat → Int} {b : Bool} {n D T Mo : Nat} {kd bo wo L : Nat → Nat} (hP : pS n kd bo wo D T Mo L) (hc : cS c b n kd bo wo D T Mo L) {a1 a2 : Int} (h1 : w32 a1 = a1) (q1 : ¬ (0 ≤ a1 ∧ a1 < n)) : An ex (d + 20) 86 6 [xA 0, xI a1, xI a2] (hp c b) (xI (-1), hp (c) b) := by
  obtain ⟨ho, h40, hT, h9, hMo⟩ := hP
  obtain ⟨hC, d7, t9, hL, m10⟩ := hc
  have hn := ho.1
  have hT6 := p64 hn hT
  refine Rn.run 3 (ls' := [_, _, _, _, _, _]) (st' := [_, _, _]) rfl ?_
  refine Rn.call rfl rfl rfl rfl rfl (k110_b1 ⟨ho, h40, hT, h9, hMo⟩ ⟨hC, d7, t9, hL, m10⟩ h1 q1) ?_
  refine Rn.run 2 (ls' := [_, _, _, _, _, _]) (st' := [_]) rfl ?_
  refine Rn.eq0 rfl (fun e8 => absurd e8 (by decide)) (fun e8 => ?_)
  refine Rn.run 1 (ls' := [_, _, _, _, _, _]) (st' := [_]) rfl ?_
  exact Rn.ret rfl rfl rfl rfl rfl rfl
theorem k208_b1 {ex : xO} {d : Nat} {c : Nat → Nat → Int} {b : Bool} {n D T Mo : Nat} {kd bo wo L : Nat → Nat} (hP : pS n kd bo wo D T Mo L) (hm : mS c n kd bo wo D T Mo L) {a1 a2 : Int} (h1 : w32 a1 = a1) (q1 : ¬ (0 ≤ a1 ∧ a1 < n)) : An ex (d + 20) 208 6 [xA 54, xI a1, xI a2] (hp c b) (xI (-1), hp (c) b) := by
  obtain ⟨ho, h40, hT, h9, hMo⟩ := hP
  obtain ⟨hM, d29, t2, l55, m1⟩ := hm
  have hn := ho.1
  have hT6 := p64 hn hT
  refine Rn.run 3 (ls' := [_, _, _, _, _, _]) (st' := [_, _, _]) rfl ?_
  refine Rn.call rfl rfl rfl rfl rfl (k205_b1 ⟨ho, h40, hT, h9, hMo⟩ ⟨hM, d29, t2, l55, m1⟩ h1 q1) ?_
  refine Rn.run 2 (ls' := [_, _, _, _, _, _]) (st' := [_]) rfl ?_
  refine Rn.eq0 rfl (fun e8 => absurd e8 (by decide)) (fun e8 => ?_)
  refine Rn.run 1 (ls' := [_, _, _, _, _, _]) (st' := [_]) rfl ?_
  exact Rn.ret rfl rfl rfl rfl rfl rfl
theorem k86_b2 {ex : xO} {d : Nat} {c : Nat → Nat → Int} {b : Bool} {n D T Mo : Nat} {kd bo wo L : Nat → Nat} (hP : pS n kd bo wo D T Mo L) (hc : cS c b n kd bo wo D T Mo L) {a2 : Int} {i : Nat} (hi : i < n) (h2 : w32 a2 = a2) (q2 : ¬ (0 ≤ a2 ∧ a2 < 6)) : An ex (d + 20) 86 6 [xA 0, xI (i : Int), xI a2] (hp c b) (xI (-1), hp (c) b) := by
  obtain ⟨ho, h40, hT, h9, hMo⟩ := hP
  obtain ⟨hC, d7, t9, hL, m10⟩ := hc
  have hn := ho.1
  have hT6 := p64 hn hT
  refine Rn.run 3 (ls' := [_, _, _, _, _, _]) (st' := [_, _, _]) rfl ?_
  refine Rn.call rfl rfl rfl rfl rfl (k110_b2 ⟨ho, h40, hT, h9, hMo⟩ ⟨hC, d7, t9, hL, m10⟩ hi h2 q2) ?_
  refine Rn.run 2 (ls' := [_, _, _, _, _, _]) (st' := [_]) rfl ?_
  refine Rn.eq0 rfl (fun e8 => absurd e8 (by decide)) (fun e8 => ?_)
  refine Rn.run 1 (ls' := [_, _, _, _, _, _]) (st' := [_]) rfl ?_
  exact Rn.ret rfl rfl rfl rfl rfl rfl
theorem k208_b2 {ex : xO} {d : Nat} {c : Nat → Nat → Int} {b : Bool} {n D T Mo : Nat} {kd bo wo L : Nat → Nat} (hP : pS n kd bo wo D T Mo L) (hm : mS c n kd bo wo D T Mo L) {a2 : Int} {i : Nat} (hi : i < n) (h2 : w32 a2 = a2) (q2 : ¬ (0 ≤ a2 ∧ a2 < 6)) : An ex (d + 20) 208 6 [xA 54, xI (i : Int), xI a2] (hp c b) (xI (-1), hp (c) b) := by
  obtain ⟨ho, h40, hT, h9, hMo⟩ := hP
  obtain ⟨hM, d29, t2, l55, m1⟩ := hm
  have hn := ho.1
  have hT6 := p64 hn hT
  refine Rn.run 3 (ls' := [_, _, _, _, _, _]) (st' := [_, _, _]) rfl ?_
  refine Rn.call rfl rfl rfl rfl rfl (k205_b2 ⟨ho, h40, hT, h9, hMo⟩ ⟨hM, d29, t2, l55, m1⟩ hi h2 q2) ?_
  refine Rn.run 2 (ls' := [_, _, _, _, _, _]) (st' := [_]) rfl ?_
  refine Rn.eq0 rfl (fun e8 => absurd e8 (by decide)) (fun e8 => ?_)
  refine Rn.run 1 (ls' := [_, _, _, _, _, _]) (st' := [_]) rfl ?_
  exact Rn.ret rfl rfl rfl rfl rfl rfl
theorem k86_no {ex : xO} {d : Nat} {c : Nat → Nat → Int} {b : Bool} {n D T Mo : Nat} {kd bo wo L : Nat → Nat} (hP : pS n kd bo wo D T Mo L) (hc : cS c b n kd bo wo D T Mo L) {i : Nat} (hi : i < n) {r : Nat} (hr : r < 6) (i1 : iRow c) (hm1 : c 56 r < 0) : An ex (d + 20) 86 6 [xA 0, xI (i : Int), xI (r : Int)] (hp c b) (xI (-3), hp (xup (xup c 0 13 1) 13 1 (c 13 1 + 1)) b) := by
  obtain ⟨ho, h40, hT, h9, hMo⟩ := hP
  obtain ⟨hC, d7, t9, hL, m10⟩ := hc
  have hn := ho.1
  have hT6 := p64 hn hT
  refine Rn.run 3 (ls' := [_, _, _, _, _, _]) (st' := [_, _, _]) rfl ?_
  refine Rn.call rfl rfl rfl rfl rfl (k110_no ⟨ho, h40, hT, h9, hMo⟩ ⟨hC, d7, t9, hL, m10⟩ hi hr i1 hm1) ?_
  refine Rn.run 2 (ls' := [_, _, _, _, _, _]) (st' := [_]) rfl ?_
  refine Rn.eq0 rfl (fun e8 => absurd e8 (by decide)) (fun e8 => ?_)
  refine Rn.run 1 (ls' := [_, _, _, _, _, _]) (st' := [_]) rfl ?_
  exact Rn.ret rfl rfl rfl rfl rfl rfl
theorem k208_no {ex : xO} {d : Nat} {c : Nat → Nat → Int} {b : Bool} {n D T Mo : Nat} {kd bo wo L : Nat → Nat} (hP : pS n kd bo wo D T Mo L) (hm : mS c n kd bo wo D T Mo L) {i : Nat} (hi : i < n) {r : Nat} (hr : r < 6) (i1 : iRow c) (hm1 : c 56 r < 0) : An ex (d + 20) 208 6 [xA 54, xI (i : Int), xI (r : Int)] (hp c b) (xI (-3), hp (xup (xup c 54 5 1) 60 1 (c 60 1 + 1)) b) := by
  obtain ⟨ho, h40, hT, h9, hMo⟩ := hP
  obtain ⟨hM, d29, t2, l55, m1⟩ := hm
  have hn := ho.1
  have hT6 := p64 hn hT
  refine Rn.run 3 (ls' := [_, _, _, _, _, _]) (st' := [_, _, _]) rfl ?_
  refine Rn.call rfl rfl rfl rfl rfl (k205_no ⟨ho, h40, hT, h9, hMo⟩ ⟨hM, d29, t2, l55, m1⟩ hi hr i1 hm1) ?_
  refine Rn.run 2 (ls' := [_, _, _, _, _, _]) (st' := [_]) rfl ?_
  refine Rn.eq0 rfl (fun e8 => absurd e8 (by decide)) (fun e8 => ?_)
  refine Rn.run 1 (ls' := [_, _, _, _, _, _]) (st' := [_]) rfl ?_
  exact Rn.ret rfl rfl rfl rfl rfl rfl
theorem k86_s1 {ex : xO} {d : Nat} {c : Nat → Nat → Int} {b : Bool} {n D T Mo : Nat} {kd bo wo L : Nat → Nat} (hP : pS n kd bo wo D T Mo L) (hc : cS c b n kd bo wo D T Mo L) {i : Nat} (hi : i < n) {r S : Nat} (hr : r < 6) (i1 : iRow c) (hS : c 56 r = (S : Nat)) (hz : ¬ S % 2 = 0) : An ex (d + 20) 86 6 [xA 0, xI (i : Int), xI (r : Int)] (hp c b) (xI (-3), hp (xup (xup c 0 13 5) 13 5 (c 13 5 + 1)) b) := by
  obtain ⟨ho, h40, hT, h9, hMo⟩ := hP
  obtain ⟨hC, d7, t9, hL, m10⟩ := hc
  have hn := ho.1
  have hT6 := p64 hn hT
  refine Rn.run 3 (ls' := [_, _, _, _, _, _]) (st' := [_, _, _]) rfl ?_
  refine Rn.call rfl rfl rfl rfl rfl (k110_s1 ⟨ho, h40, hT, h9, hMo⟩ ⟨hC, d7, t9, hL, m10⟩ hi hr i1 hS hz) ?_
  refine Rn.run 2 (ls' := [_, _, _, _, _, _]) (st' := [_]) rfl ?_
  refine Rn.eq0 rfl (fun e8 => absurd e8 (by decide)) (fun e8 => ?_)
  refine Rn.run 1 (ls' := [_, _, _, _, _, _]) (st' := [_]) rfl ?_
  exact Rn.ret rfl rfl rfl rfl rfl rfl
theorem k208_s1 {ex : xO} {d : Nat} {c : Nat → Nat → Int} {b : Bool} {n D T Mo : Nat} {kd bo wo L : Nat → Nat} (hP : pS n kd bo wo D T Mo L) (hm : mS c n kd bo wo D T Mo L) {i : Nat} (hi : i < n) {r S : Nat} (hr : r < 6) (i1 : iRow c) (hS : c 56 r = (S : Nat)) (hz : ¬ S % 2 = 0) : An ex (d + 20) 208 6 [xA 54, xI (i : Int), xI (r : Int)] (hp c b) (xI (-3), hp (xup (xup c 54 5 5) 60 5 (c 60 5 + 1)) b) := by
  obtain ⟨ho, h40, hT, h9, hMo⟩ := hP
  obtain ⟨hM, d29, t2, l55, m1⟩ := hm
  have hn := ho.1
  have hT6 := p64 hn hT
  refine Rn.run 3 (ls' := [_, _, _, _, _, _]) (st' := [_, _, _]) rfl ?_
  refine Rn.call rfl rfl rfl rfl rfl (k205_s1 ⟨ho, h40, hT, h9, hMo⟩ ⟨hM, d29, t2, l55, m1⟩ hi hr i1 hS hz) ?_
  refine Rn.run 2 (ls' := [_, _, _, _, _, _]) (st' := [_]) rfl ?_
  refine Rn.eq0 rfl (fun e8 => absurd e8 (by decide)) (fun e8 => ?_)
  refine Rn.run 1 (ls' := [_, _, _, _, _, _]) (st' := [_]) rfl ?_
  exact Rn.ret rfl rfl rfl rfl rfl rfl
theorem k86_s2 {ex : xO} {d : Nat} {c : Nat → Nat → Int} {b : Bool} {n D T Mo : Nat} {kd bo wo L : Nat → Nat} (hP : pS n kd bo wo D T Mo L) (hc : cS c b n kd bo wo D T Mo L) {i : Nat} (hi : i < n) {r S : Nat} (hr : r < 6) (i1 : iRow c) (hS : c 56 r = (S : Nat)) (hz : S % 2 = 0) (hg : 16 < S) : An ex (d + 20) 86 6 [xA 0, xI (i : Int), xI (r : Int)] (hp c b) (xI (-3), hp (xup (xup c 0 13 5) 13 5 (c 13 5 + 1)) b) := by
  obtain ⟨ho, h40, hT, h9, hMo⟩ := hP
  obtain ⟨hC, d7, t9, hL, m10⟩ := hc
  have hn := ho.1
  have hT6 := p64 hn hT
  refine Rn.run 3 (ls' := [_, _, _, _, _, _]) (st' := [_, _, _]) rfl ?_
  refine Rn.call rfl rfl rfl rfl rfl (k110_s2 ⟨ho, h40, hT, h9, hMo⟩ ⟨hC, d7, t9, hL, m10⟩ hi hr i1 hS hz hg) ?_
  refine Rn.run 2 (ls' := [_, _, _, _, _, _]) (st' := [_]) rfl ?_
  refine Rn.eq0 rfl (fun e8 => absurd e8 (by decide)) (fun e8 => ?_)
  refine Rn.run 1 (ls' := [_, _, _, _, _, _]) (st' := [_]) rfl ?_
  exact Rn.ret rfl rfl rfl rfl rfl rfl
theorem k208_s2 {ex : xO} {d : Nat} {c : Nat → Nat → Int} {b : Bool} {n D T Mo : Nat} {kd bo wo L : Nat → Nat} (hP : pS n kd bo wo D T Mo L) (hm : mS c n kd bo wo D T Mo L) {i : Nat} (hi : i < n) {r S : Nat} (hr : r < 6) (i1 : iRow c) (hS : c 56 r = (S : Nat)) (hz : S % 2 = 0) (hg : 16 < S) : An ex (d + 20) 208 6 [xA 54, xI (i : Int), xI (r : Int)] (hp c b) (xI (-3), hp (xup (xup c 54 5 5) 60 5 (c 60 5 + 1)) b) := by
  obtain ⟨ho, h40, hT, h9, hMo⟩ := hP
  obtain ⟨hM, d29, t2, l55, m1⟩ := hm
  have hn := ho.1
  have hT6 := p64 hn hT
  refine Rn.run 3 (ls' := [_, _, _, _, _, _]) (st' := [_, _, _]) rfl ?_
  refine Rn.call rfl rfl rfl rfl rfl (k205_s2 ⟨ho, h40, hT, h9, hMo⟩ ⟨hM, d29, t2, l55, m1⟩ hi hr i1 hS hz hg) ?_
  refine Rn.run 2 (ls' := [_, _, _, _, _, _]) (st' := [_]) rfl ?_
  refine Rn.eq0 rfl (fun e8 => absurd e8 (by decide)) (fun e8 => ?_)
  refine Rn.run 1 (ls' := [_, _, _, _, _, _]) (st' := [_]) rfl ?_
  exact Rn.ret rfl rfl rfl rfl rfl rfl
theorem k86_un {ex : xO} {d : Nat} {c : Nat → Nat → Int} {b : Bool} {n D T Mo : Nat} {kd bo wo L : Nat → Nat} (hP : pS n kd bo wo D T Mo L) (hc : cS c b n kd bo wo D T Mo L) {i : Nat} (hi : i < n) {r S : Nat} (hr : r < 6) (i1 : iRow c) (hS : c 56 r = (S : Nat)) (hz : S % 2 = 0) (hg : S ≤ 16) (hf : ¬ alls (fq c r) S 0 = true) : An ex (d + 20) 86 6 [xA 0, xI (i : Int), xI (r : Int)] (hp c b) (xI (-3), hp (xup (xup c 0 13 3) 13 3 (c 13 3 + 1)) b) := by
  obtain ⟨ho, h40, hT, h9, hMo⟩ := hP
  obtain ⟨hC, d7, t9, hL, m10⟩ := hc
  have hn := ho.1
  have hT6 := p64 hn hT
  refine Rn.run 3 (ls' := [_, _, _, _, _, _]) (st' := [_, _, _]) rfl ?_
  refine Rn.call rfl rfl rfl rfl rfl (k110_un ⟨ho, h40, hT, h9, hMo⟩ ⟨hC, d7, t9, hL, m10⟩ hi hr i1 hS hz hg hf) ?_
  refine Rn.run 2 (ls' := [_, _, _, _, _, _]) (st' := [_]) rfl ?_
  refine Rn.eq0 rfl (fun e8 => absurd e8 (by decide)) (fun e8 => ?_)
  refine Rn.run 1 (ls' := [_, _, _, _, _, _]) (st' := [_]) rfl ?_
  exact Rn.ret rfl rfl rfl rfl rfl rfl
theorem k208_un {ex : xO} {d : Nat} {c : Nat → Nat → Int} {b : Bool} {n D T Mo : Nat} {kd bo wo L : Nat → Nat} (hP : pS n kd bo wo D T Mo L) (hm : mS c n kd bo wo D T Mo L) {i : Nat} (hi : i < n) {r S : Nat} (hr : r < 6) (i1 : iRow c) (hS : c 56 r = (S : Nat)) (hz : S % 2 = 0) (hg : S ≤ 16) (hf : ¬ alls (fq c r) S 0 = true) : An ex (d + 20) 208 6 [xA 54, xI (i : Int), xI (r : Int)] (hp c b) (xI (-3), hp (xup (xup c 54 5 3) 60 3 (c 60 3 + 1)) b) := by
  obtain ⟨ho, h40, hT, h9, hMo⟩ := hP
  obtain ⟨hM, d29, t2, l55, m1⟩ := hm
  have hn := ho.1
  have hT6 := p64 hn hT
  refine Rn.run 3 (ls' := [_, _, _, _, _, _]) (st' := [_, _, _]) rfl ?_
  refine Rn.call rfl rfl rfl rfl rfl (k205_un ⟨ho, h40, hT, h9, hMo⟩ ⟨hM, d29, t2, l55, m1⟩ hi hr i1 hS hz hg hf) ?_
  refine Rn.run 2 (ls' := [_, _, _, _, _, _]) (st' := [_]) rfl ?_
  refine Rn.eq0 rfl (fun e8 => absurd e8 (by decide)) (fun e8 => ?_)
  refine Rn.run 1 (ls' := [_, _, _, _, _, _]) (st' := [_]) rfl ?_
  exact Rn.ret rfl rfl rfl rfl rfl rfl
theorem l86 {ex : xO} {d : Nat} {c : Nat → Nat → Int} {b : Bool} {n : Nat} {kd bo wo : Nat → Nat} (ho : gok n kd bo wo) (hC : cG c b n kd bo wo) {i : Nat} (hi : i < n) {r M : Nat} (hr : r < 6) (i1 : iRow c) (hS : c 56 r = ((2 * M : Nat) : Int)) (hM8 : M ≤ 8) (hf : alls (fq c r) (2 * M) 0 = true) : ∀ (m w s : Nat), w + m = 6 → s < 1024 → Rn ex xt86 (d + 5) 19 [xA 0, xI (i : Int), xI (r : Int), xI 0, xI (s : Int), xI (w : Int)] [] (hp c b) (xI ((xit (fun w z => if alls (pq c r w (wo i)) M 0 = true then z ||| 2 ^ w else z) m w s : Nat) : Int), hp c b) := by
  have hn := ho.1
  intro m
  induction m with
  | zero =>
    intro w s hm hQ
    refine Rn.run 2 (ls' := [_, _, _, _, _, _]) (st' := [_, _]) rfl ?_
    refine Rn.ge2 rfl (fun e23 => ?_) (fun e23 => absurd e23 (by exact fun h => h ((y_ge (n := 6) (by omega) (by omega)).mpr (by omega))))
    refine Rn.run 1 (ls' := [_, _, _, _, _, _]) (st' := [_]) rfl ?_
    exact Rn.ret rfl rfl rfl rfl rfl rfl
  | succ m ih =>
    intro w s hm hQ
    refine Rn.run 2 (ls' := [_, _, _, _, _, _]) (st' := [_, _]) rfl ?_
    refine Rn.ge2 rfl (fun e23 => absurd e23 (by exact fun h => absurd ((y_ge (n := 6) (by omega) (by omega)).mp h) (by omega))) (fun e23 => ?_)
    refine Rn.run 2 (ls' := [_, _, _, _, _, _]) (st' := [_, _]) rfl ?_
    refine Rn.getR rfl ⟨by decide, rfl, rfl⟩ (j := gid b) (rfl) ?_
    refine Rn.getR rfl (xS_g b) (xR_g b).2.2 ?_
    refine Rn.run 1 (ls' := [_, _, _, _, _, _]) (st' := [_, _, _]) rfl ?_
    refine Rn.ald rfl (xS_g3 b) (i) (x_wn (by omega)) (by omega) ?_
    rw [(hC.2.2 i hi).2.2]
    refine Rn.run 3 (ls' := [_, _, _, _, _, _]) (st' := [_, _, _, _]) rfl ?_
    refine Rn.aald rfl ⟨by decide, rfl, by decide, by decide⟩ (r) (x_wn (n := r) (by omega)) (by omega) (xR_row hr).1 ?_
    refine Rn.call rfl rfl rfl rfl rfl (c126 hr i1 hS hM8 hf (by omega) (ho.2 i hi).2.2) ?_
    refine Rn.eqB rfl (fun e46 => ?_) (fun e46 => ?_)
    · refine Rn.run 2 (ls' := [_, _, _, _, _, _]) (st' := []) rfl ?_
      refine Rn.ls ?_ (ih (w + 1) (if alls (pq c r w (wo i)) M 0 = true then s ||| 2 ^ w else s) (by omega) (by split <;> first | exact or1024 hQ (by omega) | exact hQ))
      first | (rw [show (if alls (pq c r w (wo i)) M 0 = true then s ||| 2 ^ w else s) = s ||| 2 ^ w from if_pos e46, ← bt8_add s hQ w (by omega)]; first | done | rfl) | (rw [show (if alls (pq c r w (wo i)) M 0 = true then s ||| 2 ^ w else s) = s from if_neg e46]; first | rfl | (rw [bt8_or0 s hQ]; rfl))
    · refine Rn.run 8 (ls' := [_, _, _, _, _, _]) (st' := []) rfl ?_
      refine Rn.ls ?_ (ih (w + 1) (if alls (pq c r w (wo i)) M 0 = true then s ||| 2 ^ w else s) (by omega) (by split <;> first | exact or1024 hQ (by omega) | exact hQ))
      first | (rw [show (if alls (pq c r w (wo i)) M 0 = true then s ||| 2 ^ w else s) = s ||| 2 ^ w from if_pos e46, ← bt8_add s hQ w (by omega)]; first | done | rfl) | (rw [show (if alls (pq c r w (wo i)) M 0 = true then s ||| 2 ^ w else s) = s from if_neg e46]; first | rfl | (rw [bt8_or0 s hQ]; rfl))
theorem l208 {ex : xO} {d : Nat} {c : Nat → Nat → Int} {b : Bool} {n : Nat} {kd bo wo : Nat → Nat} (ho : gok n kd bo wo) (hM : mG c n kd bo wo) {i : Nat} (hi : i < n) {r M : Nat} (hr : r < 6) (i1 : iRow c) (hS : c 56 r = ((2 * M : Nat) : Int)) (hM8 : M ≤ 8) (hf : alls (fq c r) (2 * M) 0 = true) : ∀ (m w s : Nat), w + m = 6 → s < 1024 → Rn ex xt208 (d + 5) 19 [xA 54, xI (i : Int), xI (r : Int), xI 0, xI (s : Int), xI (w : Int)] [] (hp c b) (xI ((xit (fun w z => if alls (pq c r w (wo i)) M 0 = true then z ||| 2 ^ w else z) m w s : Nat) : Int), hp c b) := by
  have hn := ho.1
  intro m
  induction m with
  | zero =>
    intro w s hm hQ
    refine Rn.run 2 (ls' := [_, _, _, _, _, _]) (st' := [_, _]) rfl ?_
    refine Rn.gt2 rfl (fun e22 => ?_) (fun e22 => absurd e22 (by exact fun h => h ((y_lt (n := 5) (by omega) (by omega)).mpr (by omega))))
    refine Rn.run 1 (ls' := [_, _, _, _, _, _]) (st' := [_]) rfl ?_
    exact Rn.ret rfl rfl rfl rfl rfl rfl
  | succ m ih =>
    intro w s hm hQ
    refine Rn.run 2 (ls' := [_, _, _, _, _, _]) (st' := [_, _]) rfl ?_
    refine Rn.gt2 rfl (fun e22 => absurd e22 (by exact fun h => absurd ((y_lt (n := 5) (by omega) (by omega)).mp h) (by omega))) (fun e22 => ?_)
    refine Rn.run 8 (ls' := [_, _, _, _, _, _]) (st' := [_, _, _, _, _]) rfl ?_
    refine Rn.ald rfl ⟨by decide, rfl⟩ (23 + i) (x_wn (n := 23 + i) (by omega)) (by omega) ?_
    rw [(hM.2 i hi).2.2]
    refine Rn.run 1 (ls' := [_, _, _, _, _, _]) (st' := [_, _, _, _, _]) rfl ?_
    refine Rn.call rfl rfl rfl rfl rfl (c206 hr i1 hS hM8 hf (by omega) (ho.2 i hi).2.2) ?_
    refine Rn.eqB rfl (fun e43 => ?_) (fun e43 => ?_)
    · refine Rn.run 5 (ls' := [_, _, _, _, _, _]) (st' := []) rfl ?_
      refine Rn.ls ?_ (ih (w + 1) (if alls (pq c r w (wo i)) M 0 = true then s ||| 2 ^ w else s) (by omega) (by split <;> first | exact or1024 hQ (by omega) | exact hQ))
      first | (rw [show (if alls (pq c r w (wo i)) M 0 = true then s ||| 2 ^ w else s) = s ||| 2 ^ w from if_pos e43, ← bt8_add s hQ w (by omega)]; first | done | rfl) | (rw [show (if alls (pq c r w (wo i)) M 0 = true then s ||| 2 ^ w else s) = s from if_neg e43]; first | rfl | (rw [bt8_or0 s hQ]; rfl))
    · refine Rn.run 8 (ls' := [_, _, _, _, _, _]) (st' := []) rfl ?_
      refine Rn.ls ?_ (ih (w + 1) (if alls (pq c r w (wo i)) M 0 = true then s ||| 2 ^ w else s) (by omega) (by split <;> first | exact or1024 hQ (by omega) | exact hQ))
      first | (rw [show (if alls (pq c r w (wo i)) M 0 = true then s ||| 2 ^ w else s) = s ||| 2 ^ w from if_pos e43, ← bt8_add s hQ w (by omega)]; first | done | rfl) | (rw [show (if alls (pq c r w (wo i)) M 0 = true then s ||| 2 ^ w else s) = s from if_neg e43]; first | rfl | (rw [bt8_or0 s hQ]; rfl))
theorem k86_ok {ex : xO} {d : Nat} {c : Nat → Nat → Int} {b : Bool} {n D T Mo : Nat} {kd bo wo L : Nat → Nat} (hP : pS n kd bo wo D T Mo L) (hc : cS c b n kd bo wo D T Mo L) {i : Nat} (hi : i < n) {r M : Nat} (hr : r < 6) (i1 : iRow c) (hS : c 56 r = ((2 * M : Nat) : Int)) (hM8 : M ≤ 8) (hf : alls (fq c r) (2 * M) 0 = true) : An ex (d + 20) 86 6 [xA 0, xI (i : Int), xI (r : Int)] (hp c b) (xI (xit (fun w z => if alls (pq c r w (wo i)) M 0 = true then z ||| 2 ^ w else z) 6 0 0 : Nat), hp (c) b) := by
  obtain ⟨ho, h40, hT, h9, hMo⟩ := hP
  obtain ⟨hC, d7, t9, hL, m10⟩ := hc
  have hn := ho.1
  have hT6 := p64 hn hT
  refine Rn.run 3 (ls' := [_, _, _, _, _, _]) (st' := [_, _, _]) rfl ?_
  refine Rn.call rfl rfl rfl rfl rfl (k110_ok ⟨ho, h40, hT, h9, hMo⟩ ⟨hC, d7, t9, hL, m10⟩ hi hr i1 hS (by omega) (by omega) hf) ?_
  refine Rn.run 2 (ls' := [_, _, _, _, _, _]) (st' := [_]) rfl ?_
  refine Rn.eq0 rfl (fun e8 => ?_) (fun e8 => absurd e8 (by decide))
  refine Rn.run 4 (ls' := [_, _, _, _, _, _]) (st' := []) rfl ?_
  exact l86 (d := d + 15) ho hC hi hr i1 hS hM8 hf 6 0 0 rfl (by decide)
theorem k208_ok {ex : xO} {d : Nat} {c : Nat → Nat → Int} {b : Bool} {n D T Mo : Nat} {kd bo wo L : Nat → Nat} (hP : pS n kd bo wo D T Mo L) (hm : mS c n kd bo wo D T Mo L) {i : Nat} (hi : i < n) {r M : Nat} (hr : r < 6) (i1 : iRow c) (hS : c 56 r = ((2 * M : Nat) : Int)) (hM8 : M ≤ 8) (hf : alls (fq c r) (2 * M) 0 = true) : An ex (d + 20) 208 6 [xA 54, xI (i : Int), xI (r : Int)] (hp c b) (xI (xit (fun w z => if alls (pq c r w (wo i)) M 0 = true then z ||| 2 ^ w else z) 6 0 0 : Nat), hp (c) b) := by
  obtain ⟨ho, h40, hT, h9, hMo⟩ := hP
  obtain ⟨hM, d29, t2, l55, m1⟩ := hm
  have hn := ho.1
  have hT6 := p64 hn hT
  refine Rn.run 3 (ls' := [_, _, _, _, _, _]) (st' := [_, _, _]) rfl ?_
  refine Rn.call rfl rfl rfl rfl rfl (k205_ok ⟨ho, h40, hT, h9, hMo⟩ ⟨hM, d29, t2, l55, m1⟩ hi hr i1 hS (by omega) (by omega) hf) ?_
  refine Rn.run 2 (ls' := [_, _, _, _, _, _]) (st' := [_]) rfl ?_
  refine Rn.eq0 rfl (fun e8 => ?_) (fun e8 => absurd e8 (by decide))
  refine Rn.run 4 (ls' := [_, _, _, _, _, _]) (st' := []) rfl ?_
  exact l208 (d := d + 15) ho hM hi hr i1 hS hM8 hf 6 0 0 rfl (by decide)
theorem g_kinds {ex : xO} (a1 a2 : Int) (h1 : w32 a1 = a1) (h2 : w32 a2 = a2) : AgI ex 86 6 208 6 [xI a1, xI a2] := by
  intro d c b hI
  obtain ⟨n, kd, bo, wo, D, T, Mo, L, hP, hc, hm⟩ := Inv_St hI
  by_cases q1 : 0 ≤ a1 ∧ a1 < n
  · obtain ⟨i, hi, rfl⟩ : ∃ j : Nat, j < n ∧ a1 = (j : Int) := ⟨a1.toNat, by omega, by omega⟩
    by_cases q2 : 0 ≤ a2 ∧ a2 < 6
    · obtain ⟨r, hr, rfl⟩ : ∃ j : Nat, j < 6 ∧ a2 = (j : Int) := ⟨a2.toNat, by omega, by omega⟩
      by_cases q3 : c 56 r < 0
      · exact Ag_find2 hI 1 (by decide) (k86_no hP hc hi hr hI.1 q3) (fun c' hq => k208_no hP (mS_fr (fun k => hq 55 k (by decide) (by decide)) hm) hi hr (iRow_fr (fun a k ha => hq a k (by omega) (by omega)) hI.1) (by rw [hq 56 r (by decide) (by decide)]; exact q3))
      · obtain ⟨S, hS⟩ : ∃ S : Nat, c 56 r = (S : Nat) := ⟨(c 56 r).toNat, by omega⟩
        have hS' : ∀ c' : Nat → Nat → Int, (∀ a k, a ≠ 0 → a ≠ 13 → c' a k = c a k) → c' 56 r = (S : Nat) := fun c' hq => by rw [hq 56 r (by decide) (by decide)]; exact hS
        have hA' : ∀ c' : Nat → Nat → Int, (∀ a k, a ≠ 0 → a ≠ 13 → c' a k = c a k) → fq c' r = fq c r := fun c' hq => by funext k; unfold fq; rw [hq 57 _ (by decide) (by decide)]
        by_cases hz : S % 2 = 0
        · by_cases hg : S ≤ 16
          · by_cases hf : alls (fq c r) S 0 = true
            · obtain ⟨M, rfl⟩ : ∃ M, S = 2 * M := ⟨S / 2, by omega⟩
              exact Ag_same hI _ (k86_ok hP hc hi hr hI.1 hS (by omega) hf) (k208_ok hP hm hi hr hI.1 hS (by omega) hf)
            · exact Ag_find2 hI 3 (by decide) (k86_un hP hc hi hr hI.1 hS hz hg hf) (fun c' hq => k208_un hP (mS_fr (fun k => hq 55 k (by decide) (by decide)) hm) hi hr (iRow_fr (fun a k ha => hq a k (by omega) (by omega)) hI.1) (hS' c' hq) hz hg (by rw [hA' c' hq]; exact hf))
          · exact Ag_find2 hI 5 (by decide) (k86_s2 hP hc hi hr hI.1 hS hz (by omega)) (fun c' hq => k208_s2 hP (mS_fr (fun k => hq 55 k (by decide) (by decide)) hm) hi hr (iRow_fr (fun a k ha => hq a k (by omega) (by omega)) hI.1) (hS' c' hq) hz (by omega))
        · exact Ag_find2 hI 5 (by decide) (k86_s1 hP hc hi hr hI.1 hS hz) (fun c' hq => k208_s1 hP (mS_fr (fun k => hq 55 k (by decide) (by decide)) hm) hi hr (iRow_fr (fun a k ha => hq a k (by omega) (by omega)) hI.1) (hS' c' hq) hz)
    · exact Ag_same hI (-1) (k86_b2 hP hc hi h2 q2) (k208_b2 hP hm hi h2 q2)
  · exact Ag_same hI (-1) (k86_b1 hP hc h1 q1) (k208_b1 hP hm h1 q1)
