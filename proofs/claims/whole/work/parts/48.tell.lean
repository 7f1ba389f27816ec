-- morning, tell, water, prune
theorem k70_st {ex : xO} {d : Nat} {c : Nat → Nat → Int} {b : Bool} {n D T Mo : Nat} {kd bo wo L : Nat → Nat} (hP : pS n kd bo wo D T Mo L) (hc : cS c b n kd bo wo D T Mo L) (h0 : n = 0) : An ex (d + 20) 70 1 [xA 0] (hp c b) (xI (-4), hp (c) b) := by
  obtain ⟨ho, h40, hT, h9, hMo⟩ := hP
  obtain ⟨hC, d7, t9, hL, m10⟩ := hc
  have hn := ho.1
  have hT6 := p64 hn hT
  refine Rn.run 1 (ls' := [_]) (st' := [_]) rfl ?_
  refine Rn.getR rfl ⟨by decide, rfl, rfl⟩ (j := gid b) (rfl) ?_
  refine Rn.getI rfl (xS_g b) ?_
  rw [hC.1]
  refine Rn.ne0 rfl (fun e7 => absurd e7 (by rw [h0]; decide)) (fun e7 => ?_)
  refine Rn.run 1 (ls' := [_]) (st' := [_]) rfl ?_
  exact Rn.ret rfl rfl rfl rfl rfl rfl
theorem k70_fu {ex : xO} {d : Nat} {c : Nat → Nat → Int} {b : Bool} {n D T Mo : Nat} {kd bo wo L : Nat → Nat} (hP : pS n kd bo wo D T Mo L) (hc : cS c b n kd bo wo D T Mo L) (h0 : n ≠ 0) (hD : D = 40) : An ex (d + 20) 70 1 [xA 0] (hp c b) (xI (-2), hp (c) b) := by
  obtain ⟨ho, h40, hT, h9, hMo⟩ := hP
  obtain ⟨hC, d7, t9, hL, m10⟩ := hc
  have hn := ho.1
  have hT6 := p64 hn hT
  refine Rn.run 1 (ls' := [_]) (st' := [_]) rfl ?_
  refine Rn.getR rfl ⟨by decide, rfl, rfl⟩ (j := gid b) (rfl) ?_
  refine Rn.getI rfl (xS_g b) ?_
  rw [hC.1]
  refine Rn.ne0 rfl (fun e7 => ?_) (fun e7 => absurd e7 (by exact fun h => h (z_ne0 h0 hn)))
  refine Rn.run 3 (ls' := [_]) (st' := [_, _]) rfl ?_
  refine Rn.call rfl rfl rfl rfl rfl (c8 (m := 1) d7 h40 (by omega)) ?_
  refine Rn.neB rfl (fun e21 => absurd e21 (by omega)) (fun e21 => ?_)
  refine Rn.run 1 (ls' := [_]) (st' := [_]) rfl ?_
  exact Rn.ret rfl rfl rfl rfl rfl rfl
theorem k70_ok {ex : xO} {d : Nat} {c : Nat → Nat → Int} {b : Bool} {n D T Mo : Nat} {kd bo wo L : Nat → Nat} (hP : pS n kd bo wo D T Mo L) (hc : cS c b n kd bo wo D T Mo L) (h0 : n ≠ 0) (hD : D < 40) : An ex (d + 20) 70 1 [xA 0] (hp c b) (xI (s8 (mo kd bo n T 1 L) : Nat), hp (cadd c D (xit (fbl kd bo n T 1 L) 8 0 0) (T : Nat) (Mo + 1 : Nat)) b) := by
  obtain ⟨ho, h40, hT, h9, hMo⟩ := hP
  obtain ⟨hC, d7, t9, hL, m10⟩ := hc
  have hn := ho.1
  have hT6 := p64 hn hT
  refine Rn.run 1 (ls' := [_]) (st' := [_]) rfl ?_
  refine Rn.getR rfl ⟨by decide, rfl, rfl⟩ (j := gid b) (rfl) ?_
  refine Rn.getI rfl (xS_g b) ?_
  rw [hC.1]
  refine Rn.ne0 rfl (fun e7 => ?_) (fun e7 => absurd e7 (by exact fun h => h (z_ne0 h0 hn)))
  refine Rn.run 3 (ls' := [_]) (st' := [_, _]) rfl ?_
  refine Rn.call rfl rfl rfl rfl rfl (c8 (m := 1) d7 h40 (by omega)) ?_
  refine Rn.neB rfl (fun e21 => ?_) (fun e21 => absurd e21 (by omega))
  refine Rn.run 1 (ls' := [_]) (st' := [_]) rfl ?_
  refine Rn.call rfl rfl rfl rfl rfl (c118 ⟨ho, h40, hT, h9, hMo⟩ ⟨hC, d7, t9, hL, m10⟩ hD) ?_
  refine Rn.run 2 (ls' := [_]) (st' := [_]) rfl ?_
  refine Rn.call rfl rfl rfl rfl rfl (c10 (cadd_7 _ _ _ _ _) (by omega)) ?_
  rw [cadd_8]
  refine Rn.call rfl rfl rfl rfl rfl (c2 (fbl_pk h9)) ?_
  exact Rn.ret rfl rfl rfl rfl rfl rfl
theorem k181_st {ex : xO} {d : Nat} {c : Nat → Nat → Int} {b : Bool} {n D T Mo : Nat} {kd bo wo L : Nat → Nat} (hP : pS n kd bo wo D T Mo L) (hm : mS c n kd bo wo D T Mo L) (h0 : n = 0) : An ex (d + 20) 181 1 [xA 54] (hp c b) (xI (-4), hp (c) b) := by
  obtain ⟨ho, h40, hT, h9, hMo⟩ := hP
  obtain ⟨hM, d29, t2, l55, m1⟩ := hm
  have hn := ho.1
  have hT6 := p64 hn hT
  refine Rn.run 3 (ls' := [_]) (st' := [_, _]) rfl ?_
  refine Rn.ald rfl ⟨by decide, rfl⟩ (0) rfl (by decide) ?_
  rw [hM.1]
  refine Rn.ne0 rfl (fun e6 => absurd e6 (by rw [h0]; decide)) (fun e6 => ?_)
  refine Rn.run 1 (ls' := [_]) (st' := [_]) rfl ?_
  exact Rn.ret rfl rfl rfl rfl rfl rfl
theorem k181_fu {ex : xO} {d : Nat} {c : Nat → Nat → Int} {b : Bool} {n D T Mo : Nat} {kd bo wo L : Nat → Nat} (hP : pS n kd bo wo D T Mo L) (hm : mS c n kd bo wo D T Mo L) (h0 : n ≠ 0) (hD : D = 40) : An ex (d + 20) 181 1 [xA 54] (hp c b) (xI (-2), hp (c) b) := by
  obtain ⟨ho, h40, hT, h9, hMo⟩ := hP
  obtain ⟨hM, d29, t2, l55, m1⟩ := hm
  have hn := ho.1
  have hT6 := p64 hn hT
  refine Rn.run 3 (ls' := [_]) (st' := [_, _]) rfl ?_
  refine Rn.ald rfl ⟨by decide, rfl⟩ (0) rfl (by decide) ?_
  rw [hM.1]
  refine Rn.ne0 rfl (fun e6 => ?_) (fun e6 => absurd e6 (by exact fun h => h (z_ne0 h0 hn)))
  refine Rn.run 3 (ls' := [_]) (st' := [_, _]) rfl ?_
  refine Rn.ald rfl ⟨by decide, rfl⟩ (29) rfl (by decide) ?_
  rw [d29]
  refine Rn.run 1 (ls' := [_]) (st' := [_, _]) rfl ?_
  refine Rn.ne2 rfl (fun e21 => absurd e21 (by exact fun h => h ((y_eq (i := 40) (by omega) (by omega)).mpr hD))) (fun e21 => ?_)
  refine Rn.run 1 (ls' := [_]) (st' := [_]) rfl ?_
  exact Rn.ret rfl rfl rfl rfl rfl rfl
theorem k181_ok {ex : xO} {d : Nat} {c : Nat → Nat → Int} {b : Bool} {n D T Mo : Nat} {kd bo wo L : Nat → Nat} (hP : pS n kd bo wo D T Mo L) (hm : mS c n kd bo wo D T Mo L) (h0 : n ≠ 0) (hD : D < 40) : ∃ c', An ex (d + 20) 181 1 [xA 54] (hp c b) (xI (s8 (mo kd bo n T 1 L) : Nat), hp c' b) ∧ mDeed c c' n kd bo wo D T Mo L T (Mo + 1) (mo kd bo n T 1 L) := by
  obtain ⟨ho, h40, hT, h9, hMo⟩ := hP
  obtain ⟨hM, d29, t2, l55, m1⟩ := hm
  have hn := ho.1
  have hT6 := p64 hn hT
  have m0 := mS_mnd (Mo := Mo) (D := D) (T := T) (L := L) (kd := kd) (bo := bo) (wo := wo) hn ⟨hM, d29, t2, l55, m1⟩
  obtain ⟨c2, r2, s2, f2⟩ := c180 (ex := ex) (d := d + 14) (b := b) (D := D + 1) ⟨ho, by omega, hT, h9, by omega⟩ m0.1
  refine ⟨lf c2 (mo kd bo n T 1 L), ?_, ?_⟩
  · refine Rn.run 3 (ls' := [_]) (st' := [_, _]) rfl ?_
    refine Rn.ald rfl ⟨by decide, rfl⟩ (0) rfl (by decide) ?_
    rw [hM.1]
    refine Rn.ne0 rfl (fun e6 => ?_) (fun e6 => absurd e6 (by exact fun h => h (z_ne0 h0 hn)))
    refine Rn.run 3 (ls' := [_]) (st' := [_, _]) rfl ?_
    refine Rn.ald rfl ⟨by decide, rfl⟩ (29) rfl (by decide) ?_
    rw [d29]
    refine Rn.run 1 (ls' := [_]) (st' := [_, _]) rfl ?_
    refine Rn.ne2 rfl (fun e21 => ?_) (fun e21 => absurd e21 (by exact fun h => h (fun z => absurd ((y_eq (i := 40) (by omega) (by omega)).mp z) (by omega))))
    refine Rn.run 1 (ls' := [_]) (st' := [_]) rfl ?_
    refine Rn.call rfl rfl rfl rfl rfl (c179 ⟨ho, h40, hT, h9, hMo⟩ ⟨hM, d29, t2, l55, m1⟩ hD) ?_
    refine Rn.run 1 (ls' := [_]) (st' := [_]) rfl ?_
    refine Rn.call rfl rfl rfl rfl rfl (r2) ?_
    refine Rn.run 1 (ls' := [_]) (st' := [_]) rfl ?_
    refine Rn.call rfl rfl rfl rfl rfl (c171 s2.2.2.2.1) ?_
    exact Rn.ret rfl rfl rfl rfl rfl rfl
  · exact mDeed_tr m0 (mS_fr (fun k => lf_out _ _ (by decide)) s2) (fun a k h1 h2 => by rw [lf_out _ _ (fun e => h1 (by unfold scr; omega))]; exact f2 a k h1 h2)
theorem g_morning {ex : xO} : AgI ex 70 1 181 1 [] := by
  intro d c b hI
  obtain ⟨n, kd, bo, wo, D, T, Mo, L, hP, hc, hm⟩ := Inv_St hI
  have h40 := hP.2.1
  by_cases h0 : n = 0
  · exact Ag_same hI (-4) (k70_st hP hc h0) (k181_st hP hm h0)
  · by_cases hD : D = 40
    · exact Ag_same hI (-2) (k70_fu hP hc h0 hD) (k181_fu hP hm h0 hD)
    · obtain ⟨c2, r2, q2⟩ := k181_ok (ex := ex) (d := d) (b := b) hP (mS_fr (c' := cadd c D (xit (fbl kd bo n T 1 L) 8 0 0) (T : Nat) (Mo + 1 : Nat)) (fun k => cadd_o _ _ _ _ _ (by omega)) hm) h0 (by omega)
      exact ⟨_, _, _, b, c2, b, k70_ok hP hc h0 (by omega), r2, rfl, Inv_deed hI hP hc hm (by omega) (fbl_pk hP.2.2.2.1) (mo_9 hP.2.2.2.1) hP.2.2.1 (by have := hP.2.2.2.2; omega) q2⟩
theorem k71_b1 {ex : xO} {d : Nat} {c : Nat → Nat → Int} {b : Bool} {n D T Mo : Nat} {kd bo wo L : Nat → Nat} (hP : pS n kd bo wo D T Mo L) (hc : cS c b n kd bo wo D T Mo L) {a1 : Int} (h1 : w32 a1 = a1) (q1 : ¬ (0 ≤ a1 ∧ a1 < n)) : An ex (d + 20) 71 2 [xA 0, xI a1] (hp c b) (xI (-1), hp (c) b) := by
  obtain ⟨ho, h40, hT, h9, hMo⟩ := hP
  obtain ⟨hC, d7, t9, hL, m10⟩ := hc
  have hn := ho.1
  have hT6 := p64 hn hT
  refine Rn.run 2 (ls' := [_, _]) (st' := [_, _]) rfl ?_
  refine Rn.getR rfl ⟨by decide, rfl, rfl⟩ (j := gid b) (rfl) ?_
  refine Rn.getI rfl (xS_g b) ?_
  rw [hC.1]
  refine Rn.call rfl rfl rfl rfl rfl (c100) ?_
  refine Rn.neB rfl (fun e11 => absurd e11 (by exact (z_no h1 (by omega) q1))) (fun e11 => ?_)
  refine Rn.run 1 (ls' := [_, _]) (st' := [_]) rfl ?_
  exact Rn.ret rfl rfl rfl rfl rfl rfl
theorem k71_st {ex : xO} {d : Nat} {c : Nat → Nat → Int} {b : Bool} {n D T Mo : Nat} {kd bo wo L : Nat → Nat} (hP : pS n kd bo wo D T Mo L) (hc : cS c b n kd bo wo D T Mo L) {i : Nat} (hi : i < n) (hk : ¬ can kd n T i = true) : An ex (d + 20) 71 2 [xA 0, xI (i : Int)] (hp c b) (xI (-4), hp (c) b) := by
  obtain ⟨ho, h40, hT, h9, hMo⟩ := hP
  obtain ⟨hC, d7, t9, hL, m10⟩ := hc
  have hn := ho.1
  have hT6 := p64 hn hT
  refine Rn.run 2 (ls' := [_, _]) (st' := [_, _]) rfl ?_
  refine Rn.getR rfl ⟨by decide, rfl, rfl⟩ (j := gid b) (rfl) ?_
  refine Rn.getI rfl (xS_g b) ?_
  rw [hC.1]
  refine Rn.call rfl rfl rfl rfl rfl (c100) ?_
  refine Rn.neB rfl (fun e11 => ?_) (fun e11 => absurd e11 (by exact fun h => h (z_in hi (by omega))))
  refine Rn.run 1 (ls' := [_, _]) (st' := [_]) rfl ?_
  refine Rn.getR rfl ⟨by decide, rfl, rfl⟩ (j := gid b) (rfl) ?_
  refine Rn.run 3 (ls' := [_, _]) (st' := [_, _, _]) rfl ?_
  refine Rn.call rfl rfl rfl rfl rfl (c11 d7 h40) ?_
  rw [t9]
  refine Rn.callV rfl (x_sv (xS_g b)) rfl rfl rfl (c21 ho hC hi hT6) ?_
  refine Rn.neB rfl (fun e31 => absurd e31 (by exact hk)) (fun e31 => ?_)
  refine Rn.run 1 (ls' := [_, _]) (st' := [_]) rfl ?_
  exact Rn.ret rfl rfl rfl rfl rfl rfl
theorem k71_fu {ex : xO} {d : Nat} {c : Nat → Nat → Int} {b : Bool} {n D T Mo : Nat} {kd bo wo L : Nat → Nat} (hP : pS n kd bo wo D T Mo L) (hc : cS c b n kd bo wo D T Mo L) {i : Nat} (hi : i < n) (hk : can kd n T i = true) (hD : D = 40) : An ex (d + 20) 71 2 [xA 0, xI (i : Int)] (hp c b) (xI (-2), hp (c) b) := by
  obtain ⟨ho, h40, hT, h9, hMo⟩ := hP
  obtain ⟨hC, d7, t9, hL, m10⟩ := hc
  have hn := ho.1
  have hT6 := p64 hn hT
  refine Rn.run 2 (ls' := [_, _]) (st' := [_, _]) rfl ?_
  refine Rn.getR rfl ⟨by decide, rfl, rfl⟩ (j := gid b) (rfl) ?_
  refine Rn.getI rfl (xS_g b) ?_
  rw [hC.1]
  refine Rn.call rfl rfl rfl rfl rfl (c100) ?_
  refine Rn.neB rfl (fun e11 => ?_) (fun e11 => absurd e11 (by exact fun h => h (z_in hi (by omega))))
  refine Rn.run 1 (ls' := [_, _]) (st' := [_]) rfl ?_
  refine Rn.getR rfl ⟨by decide, rfl, rfl⟩ (j := gid b) (rfl) ?_
  refine Rn.run 3 (ls' := [_, _]) (st' := [_, _, _]) rfl ?_
  refine Rn.call rfl rfl rfl rfl rfl (c11 d7 h40) ?_
  rw [t9]
  refine Rn.callV rfl (x_sv (xS_g b)) rfl rfl rfl (c21 ho hC hi hT6) ?_
  refine Rn.neB rfl (fun e31 => ?_) (fun e31 => absurd e31 (by exact fun h => h hk))
  refine Rn.run 3 (ls' := [_, _]) (st' := [_, _]) rfl ?_
  refine Rn.call rfl rfl rfl rfl rfl (c8 (m := 1) d7 h40 (by omega)) ?_
  refine Rn.neB rfl (fun e45 => absurd e45 (by omega)) (fun e45 => ?_)
  refine Rn.run 1 (ls' := [_, _]) (st' := [_]) rfl ?_
  exact Rn.ret rfl rfl rfl rfl rfl rfl
theorem k71_ok {ex : xO} {d : Nat} {c : Nat → Nat → Int} {b : Bool} {n D T Mo : Nat} {kd bo wo L : Nat → Nat} (hP : pS n kd bo wo D T Mo L) (hc : cS c b n kd bo wo D T Mo L) {i : Nat} (hi : i < n) (hk : can kd n T i = true) (hD : D < 40) : An ex (d + 20) 71 2 [xA 0, xI (i : Int)] (hp c b) (xI (tl kd bo wo i L (bo i) : Nat), hp (cadd c D (xwith (c 8 D) (bo i) (ans (kd i) (wo i) (L (bo i)))) (T ||| 2 ^ i : Nat) (Mo : Nat)) b) := by
  obtain ⟨ho, h40, hT, h9, hMo⟩ := hP
  obtain ⟨hC, d7, t9, hL, m10⟩ := hc
  have hn := ho.1
  have hT6 := p64 hn hT
  have h3 := ho.2 i hi
  refine Rn.run 2 (ls' := [_, _]) (st' := [_, _]) rfl ?_
  refine Rn.getR rfl ⟨by decide, rfl, rfl⟩ (j := gid b) (rfl) ?_
  refine Rn.getI rfl (xS_g b) ?_
  rw [hC.1]
  refine Rn.call rfl rfl rfl rfl rfl (c100) ?_
  refine Rn.neB rfl (fun e11 => ?_) (fun e11 => absurd e11 (by exact fun h => h (z_in hi (by omega))))
  refine Rn.run 1 (ls' := [_, _]) (st' := [_]) rfl ?_
  refine Rn.getR rfl ⟨by decide, rfl, rfl⟩ (j := gid b) (rfl) ?_
  refine Rn.run 3 (ls' := [_, _]) (st' := [_, _, _]) rfl ?_
  refine Rn.call rfl rfl rfl rfl rfl (c11 d7 h40) ?_
  rw [t9]
  refine Rn.callV rfl (x_sv (xS_g b)) rfl rfl rfl (c21 ho hC hi hT6) ?_
  refine Rn.neB rfl (fun e31 => ?_) (fun e31 => absurd e31 (by exact fun h => h hk))
  refine Rn.run 3 (ls' := [_, _]) (st' := [_, _]) rfl ?_
  refine Rn.call rfl rfl rfl rfl rfl (c8 (m := 1) d7 h40 (by omega)) ?_
  refine Rn.neB rfl (fun e45 => ?_) (fun e45 => absurd e45 (by omega))
  refine Rn.run 2 (ls' := [_, _]) (st' := [_, _]) rfl ?_
  refine Rn.call rfl rfl rfl rfl rfl (c119 ⟨ho, h40, hT, h9, hMo⟩ ⟨hC, d7, t9, hL, m10⟩ hi hD) ?_
  refine Rn.run 2 (ls' := [_, _]) (st' := [_, _]) rfl ?_
  refine Rn.call rfl rfl rfl rfl rfl (c112 (D := D + 1) (T := T ||| 2 ^ i) (Mo := Mo) (L := tl kd bo wo i L) ⟨ho, by omega, orlt hT hi, tl_9 h3.2.2 h3.2.1 h9, by omega⟩ (cS_add ⟨hC, d7, t9, hL, m10⟩ (pk_tl hL h9 h3.2.2 h3.2.1)) hi) ?_
  exact Rn.ret rfl rfl rfl rfl rfl rfl
theorem k183_b1 {ex : xO} {d : Nat} {c : Nat → Nat → Int} {b : Bool} {n D T Mo : Nat} {kd bo wo L : Nat → Nat} (hP : pS n kd bo wo D T Mo L) (hm : mS c n kd bo wo D T Mo L) {a1 : Int} (h1 : w32 a1 = a1) (q1 : ¬ (0 ≤ a1 ∧ a1 < n)) : An ex (d + 20) 183 2 [xA 54, xI a1] (hp c b) (xI (-1), hp (c) b) := by
  obtain ⟨ho, h40, hT, h9, hMo⟩ := hP
  obtain ⟨hM, d29, t2, l55, m1⟩ := hm
  have hn := ho.1
  have hT6 := p64 hn hT
  refine Rn.run 2 (ls' := [_, _]) (st' := [_, _]) rfl ?_
  refine Rn.call rfl rfl rfl rfl rfl (c140 hn hM.1) ?_
  refine Rn.neB rfl (fun e5 => absurd e5 (by exact (z_no' h1 q1))) (fun e5 => ?_)
  refine Rn.run 1 (ls' := [_, _]) (st' := [_]) rfl ?_
  exact Rn.ret rfl rfl rfl rfl rfl rfl
theorem k183_st {ex : xO} {d : Nat} {c : Nat → Nat → Int} {b : Bool} {n D T Mo : Nat} {kd bo wo L : Nat → Nat} (hP : pS n kd bo wo D T Mo L) (hm : mS c n kd bo wo D T Mo L) {i : Nat} (hi : i < n) (hk : ¬ can kd n T i = true) : An ex (d + 20) 183 2 [xA 54, xI (i : Int)] (hp c b) (xI (-4), hp (c) b) := by
  obtain ⟨ho, h40, hT, h9, hMo⟩ := hP
  obtain ⟨hM, d29, t2, l55, m1⟩ := hm
  have hn := ho.1
  have hT6 := p64 hn hT
  refine Rn.run 2 (ls' := [_, _]) (st' := [_, _]) rfl ?_
  refine Rn.call rfl rfl rfl rfl rfl (c140 hn hM.1) ?_
  refine Rn.neB rfl (fun e5 => ?_) (fun e5 => absurd e5 (by exact fun h => h (z_in' hi (by omega))))
  refine Rn.run 5 (ls' := [_, _]) (st' := [_, _, _, _]) rfl ?_
  refine Rn.ald rfl ⟨by decide, rfl⟩ (2) rfl (by decide) ?_
  rw [t2]
  refine Rn.call rfl rfl rfl rfl rfl (c165 ho hM hi hT) ?_
  refine Rn.neB rfl (fun e21 => absurd e21 (by exact hk)) (fun e21 => ?_)
  refine Rn.run 1 (ls' := [_, _]) (st' := [_]) rfl ?_
  exact Rn.ret rfl rfl rfl rfl rfl rfl
theorem k183_fu {ex : xO} {d : Nat} {c : Nat → Nat → Int} {b : Bool} {n D T Mo : Nat} {kd bo wo L : Nat → Nat} (hP : pS n kd bo wo D T Mo L) (hm : mS c n kd bo wo D T Mo L) {i : Nat} (hi : i < n) (hk : can kd n T i = true) (hD : D = 40) : An ex (d + 20) 183 2 [xA 54, xI (i : Int)] (hp c b) (xI (-2), hp (c) b) := by
  obtain ⟨ho, h40, hT, h9, hMo⟩ := hP
  obtain ⟨hM, d29, t2, l55, m1⟩ := hm
  have hn := ho.1
  have hT6 := p64 hn hT
  refine Rn.run 2 (ls' := [_, _]) (st' := [_, _]) rfl ?_
  refine Rn.call rfl rfl rfl rfl rfl (c140 hn hM.1) ?_
  refine Rn.neB rfl (fun e5 => ?_) (fun e5 => absurd e5 (by exact fun h => h (z_in' hi (by omega))))
  refine Rn.run 5 (ls' := [_, _]) (st' := [_, _, _, _]) rfl ?_
  refine Rn.ald rfl ⟨by decide, rfl⟩ (2) rfl (by decide) ?_
  rw [t2]
  refine Rn.call rfl rfl rfl rfl rfl (c165 ho hM hi hT) ?_
  refine Rn.neB rfl (fun e21 => ?_) (fun e21 => absurd e21 (by exact fun h => h hk))
  refine Rn.run 3 (ls' := [_, _]) (st' := [_, _]) rfl ?_
  refine Rn.ald rfl ⟨by decide, rfl⟩ (29) rfl (by decide) ?_
  rw [d29]
  refine Rn.run 1 (ls' := [_, _]) (st' := [_, _]) rfl ?_
  refine Rn.ne2 rfl (fun e36 => absurd e36 (by exact fun h => h ((y_eq (i := 40) (by omega) (by omega)).mpr hD))) (fun e36 => ?_)
  refine Rn.run 1 (ls' := [_, _]) (st' := [_]) rfl ?_
  exact Rn.ret rfl rfl rfl rfl rfl rfl
theorem k183_ok {ex : xO} {d : Nat} {c : Nat → Nat → Int} {b : Bool} {n D T Mo : Nat} {kd bo wo L : Nat → Nat} (hP : pS n kd bo wo D T Mo L) (hm : mS c n kd bo wo D T Mo L) {i : Nat} (hi : i < n) (hk : can kd n T i = true) (hD : D < 40) : ∃ c', An ex (d + 20) 183 2 [xA 54, xI (i : Int)] (hp c b) (xI (tl kd bo wo i L (bo i) : Nat), hp c' b) ∧ mDeed c c' n kd bo wo D T Mo L (T ||| 2 ^ i) Mo (tl kd bo wo i L) := by
  obtain ⟨ho, h40, hT, h9, hMo⟩ := hP
  obtain ⟨hM, d29, t2, l55, m1⟩ := hm
  have hn := ho.1
  have hT6 := p64 hn hT
  have h3 := ho.2 i hi
  have m0 := mS_mnd (Mo := Mo) (D := D) (T := T) (L := L) (kd := kd) (bo := bo) (wo := wo) hn ⟨hM, d29, t2, l55, m1⟩
  obtain ⟨c2, r2, s2, f2⟩ := c182 (ex := ex) (d := d + 14) (b := b) (D := D + 1) ⟨ho, by omega, hT, h9, by omega⟩ m0.1 hi
  refine ⟨c2, ?_, ?_⟩
  · refine Rn.run 2 (ls' := [_, _]) (st' := [_, _]) rfl ?_
    refine Rn.call rfl rfl rfl rfl rfl (c140 hn hM.1) ?_
    refine Rn.neB rfl (fun e5 => ?_) (fun e5 => absurd e5 (by exact fun h => h (z_in' hi (by omega))))
    refine Rn.run 5 (ls' := [_, _]) (st' := [_, _, _, _]) rfl ?_
    refine Rn.ald rfl ⟨by decide, rfl⟩ (2) rfl (by decide) ?_
    rw [t2]
    refine Rn.call rfl rfl rfl rfl rfl (c165 ho hM hi hT) ?_
    refine Rn.neB rfl (fun e21 => ?_) (fun e21 => absurd e21 (by exact fun h => h hk))
    refine Rn.run 3 (ls' := [_, _]) (st' := [_, _]) rfl ?_
    refine Rn.ald rfl ⟨by decide, rfl⟩ (29) rfl (by decide) ?_
    rw [d29]
    refine Rn.run 1 (ls' := [_, _]) (st' := [_, _]) rfl ?_
    refine Rn.ne2 rfl (fun e36 => ?_) (fun e36 => absurd e36 (by exact fun h => h (fun z => absurd ((y_eq (i := 40) (by omega) (by omega)).mp z) (by omega))))
    refine Rn.run 1 (ls' := [_, _]) (st' := [_]) rfl ?_
    refine Rn.call rfl rfl rfl rfl rfl (c179 ⟨ho, h40, hT, h9, hMo⟩ ⟨hM, d29, t2, l55, m1⟩ hD) ?_
    refine Rn.run 2 (ls' := [_, _]) (st' := [_, _]) rfl ?_
    refine Rn.call rfl rfl rfl rfl rfl (r2) ?_
    refine Rn.run 8 (ls' := [_, _]) (st' := [_, _, _, _]) rfl ?_
    refine Rn.ald rfl ⟨by decide, rfl⟩ (17 + i) (x_wn (n := 17 + i) (by omega)) (by omega) ?_
    rw [(s2.1.2 i hi).2.1]
    refine Rn.run 1 (ls' := [_, _]) (st' := [_, _]) rfl ?_
    refine Rn.ald rfl ⟨by decide, rfl⟩ (3 + (bo i)) (x_wn (n := 3 + (bo i)) (by omega)) (by omega) ?_
    rw [s2.2.2.2.1 _ (by omega)]
    exact Rn.ret rfl rfl rfl rfl rfl rfl
  · exact mDeed_tr m0 s2 f2
theorem g_tell {ex : xO} (a1 : Int) (h1 : w32 a1 = a1) : AgI ex 71 2 183 2 [xI a1] := by
  intro d c b hI
  obtain ⟨n, kd, bo, wo, D, T, Mo, L, hP, hc, hm⟩ := Inv_St hI
  have h40 := hP.2.1
  have hMo := hP.2.2.2.2
  by_cases q1 : 0 ≤ a1 ∧ a1 < n
  · obtain ⟨i, hi, rfl⟩ : ∃ j : Nat, j < n ∧ a1 = (j : Int) := ⟨a1.toNat, by omega, by omega⟩
    have h3 := hP.1.2 i hi
    by_cases hk : can kd n T i = true
    · by_cases hD : D = 40
      · exact Ag_same hI (-2) (k71_fu hP hc hi hk hD) (k183_fu hP hm hi hk hD)
      · obtain ⟨c2, r2, q2⟩ := k183_ok (ex := ex) (d := d) (b := b) hP (mS_fr (c' := cadd c D (xwith (c 8 D) (bo i) (ans (kd i) (wo i) (L (bo i)))) (T ||| 2 ^ i : Nat) (Mo : Nat)) (fun k => cadd_o _ _ _ _ _ (by omega)) hm) hi hk (by omega)
        exact ⟨_, _, _, b, c2, b, k71_ok hP hc hi hk (by omega), r2, rfl, Inv_deed hI hP hc hm (by omega) (pk_tl hc.2.2.2.1 hP.2.2.2.1 h3.2.2 h3.2.1) (tl_9 h3.2.2 h3.2.1 hP.2.2.2.1) (orlt hP.2.2.1 hi) (by omega) q2⟩
    · exact Ag_same hI (-4) (k71_st hP hc hi hk) (k183_st hP hm hi hk)
  · exact Ag_same hI (-1) (k71_b1 hP hc h1 q1) (k183_b1 hP hm h1 q1)
