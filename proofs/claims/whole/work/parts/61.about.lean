-- about, sure
theorem wfit_fr {c c' : Nat → Nat → Int} {r S n j : Nat} {kd bo L : Nat → Nat} (hf : ∀ k, c' 57 k = c 57 k) : wfit c' r S kd bo n L j = wfit c r S kd bo n L j := by
  funext s
  unfold wfit
  rw [wq_fr hf]
set_option maxRecDepth 100000 in
theorem bt_m1 : ∀ s, s < 64 → xand ((s : Nat) : Int) (-1) = ((s : Nat) : Int) := by decide +kernel
theorem l82 {ex : xO} {d : Nat} {c : Nat → Nat → Int} {b : Bool} {n D T Mo : Nat} {kd bo wo L : Nat → Nat} (hP : pS n kd bo wo D T Mo L) (hc : cS c b n kd bo wo D T Mo L) {r S : Nat} (hr : r < 6) (i1 : iRow c) (hS : c 56 r = (S : Nat)) {j : Nat} (hj : j < 8) {o : xV × xH} : ∀ (m a : Nat) (f z : Int), z = (m : Int) - 1 → m ≤ 64 → Rn ex xt82 (d + 6) 29 [xA 0, xI (j : Int), xI (r : Int), xI 0, xI ((xdn (fc (wfit c r S kd bo n L j)) m a) : Nat), xI (xdn (ff (wfit c r S kd bo n L j)) m f), xI (-1)] [] (hp c b) o → Rn ex xt82 (d + 6) 29 [xA 0, xI (j : Int), xI (r : Int), xI 0, xI (a : Nat), xI f, xI z] [] (hp c b) o := by
  intro m
  induction m with
  | zero =>
    intro a f z hz hm kk
    obtain rfl : z = -1 := by omega
    exact kk
  | succ m ih =>
    intro a f z hz hm kk
    obtain rfl : z = (m : Int) := by omega
    have m0 : ¬ w32 (m : Int) < 0 := by rw [x_wn (by omega)]; omega
    have m64x : m < 64 := by omega
    have q := ih (fc (wfit c r S kd bo n L j) m a) (ff (wfit c r S kd bo n L j) m f) ((m : Int) + -1) (by omega) (by omega) kk
    by_cases hw : wfit c r S kd bo n L j m = true
    · rw [show fc (wfit c r S kd bo n L j) m a = a + 1 from congrArg (fun z => a + z) (if_pos hw), show ff (wfit c r S kd bo n L j) m f = (m : Int) from if_pos hw] at q
      refine Rn.run 1 (ls' := [_, _, _, _, _, _, _]) (st' := [_]) rfl ?_
      refine Rn.lt0 rfl (fun e31 => absurd e31 (by exact m0)) (fun e31 => ?_)
      refine Rn.run 6 (ls' := [_, _, _, _, _, _, _]) (st' := [_, _, _, _, _]) rfl ?_
      refine Rn.aald rfl ⟨by decide, rfl, by decide, by decide⟩ (r) (x_wn (n := r) (by omega)) (by omega) (xR_row hr).1 ?_
      refine Rn.call rfl rfl rfl rfl rfl (c124 hP hc hr i1 hS m64x hj) ?_
      refine Rn.eqB rfl (fun e47 => absurd e47 (by exact fun h => h hw)) (fun e47 => ?_)
      refine Rn.run 5 (ls' := [_, _, _, _, _, _, _]) (st' := []) rfl ?_
      exact q
    · rw [show fc (wfit c r S kd bo n L j) m a = a from congrArg (fun z => a + z) (if_neg hw), show ff (wfit c r S kd bo n L j) m f = f from if_neg hw] at q
      refine Rn.run 1 (ls' := [_, _, _, _, _, _, _]) (st' := [_]) rfl ?_
      refine Rn.lt0 rfl (fun e31 => absurd e31 (by exact m0)) (fun e31 => ?_)
      refine Rn.run 6 (ls' := [_, _, _, _, _, _, _]) (st' := [_, _, _, _, _]) rfl ?_
      refine Rn.aald rfl ⟨by decide, rfl, by decide, by decide⟩ (r) (x_wn (n := r) (by omega)) (by omega) (xR_row hr).1 ?_
      refine Rn.call rfl rfl rfl rfl rfl (c124 hP hc hr i1 hS m64x hj) ?_
      refine Rn.eqB rfl (fun e47 => ?_) (fun e47 => absurd e47 (by exact hw))
      refine Rn.run 2 (ls' := [_, _, _, _, _, _, _]) (st' := []) rfl ?_
      exact q
theorem l202 {ex : xO} {d : Nat} {c : Nat → Nat → Int} {b : Bool} {j r n : Nat} {a : Int} {p : Nat → Bool} {o : xV × xH} (hp2 : 2 ^ n ≤ 64) (hw : ∀ s, s < 2 ^ n → c 66 s = (if p s = true then 1 else 0)) : ∀ (m : Nat) (f z : Int), z = (m : Int) - 1 → m ≤ 2 ^ n → Rn ex xt202 d 32 [xA 54, xI (j : Int), xI (r : Int), xI 0, xI a, xI (xdn (ff p) m f), xI (-1)] [] (hp c b) o → Rn ex xt202 d 32 [xA 54, xI (j : Int), xI (r : Int), xI 0, xI a, xI f, xI z] [] (hp c b) o := by
  intro m
  induction m with
  | zero =>
    intro f z hz hm kk
    obtain rfl : z = -1 := by omega
    exact kk
  | succ m ih =>
    intro f z hz hm kk
    obtain rfl : z = (m : Int) := by omega
    have m31 : m < 2147483648 := by omega
    have mk : m < 64 := by omega
    have m0 : ¬ w32 (m : Int) < 0 := by rw [x_wn m31]; omega
    have q := ih (ff p m f) ((m : Int) + -1) (by omega) (by omega) kk
    have hv := hw m (by omega)
    by_cases hx : p m = true
    · rw [show ff p m f = (m : Int) from if_pos hx] at q
      rw [if_pos hx] at hv
      refine Rn.run 1 (ls' := [_, _, _, _, _, _, _]) (st' := [_]) rfl ?_
      refine Rn.lt0 rfl (fun e34 => absurd e34 (by exact m0)) (fun e34 => ?_)
      refine Rn.run 3 (ls' := [_, _, _, _, _, _, _]) (st' := [_, _]) rfl ?_
      refine Rn.bald rfl ⟨by decide, rfl, by decide⟩ (m) (x_wn m31) mk ?_
      rw [hv]
      refine Rn.eq0 rfl (fun e44 => absurd e44 (by decide)) (fun e44 => ?_)
      refine Rn.run 5 (ls' := [_, _, _, _, _, _, _]) (st' := []) rfl ?_
      exact q
    · rw [show ff p m f = f from if_neg hx] at q
      rw [if_neg hx] at hv
      refine Rn.run 1 (ls' := [_, _, _, _, _, _, _]) (st' := [_]) rfl ?_
      refine Rn.lt0 rfl (fun e34 => absurd e34 (by exact m0)) (fun e34 => ?_)
      refine Rn.run 3 (ls' := [_, _, _, _, _, _, _]) (st' := [_, _]) rfl ?_
      refine Rn.bald rfl ⟨by decide, rfl, by decide⟩ (m) (x_wn m31) mk ?_
      rw [hv]
      refine Rn.eq0 rfl (fun e44 => ?_) (fun e44 => absurd e44 (by decide))
      refine Rn.run 4 (ls' := [_, _, _, _, _, _, _]) (st' := []) rfl ?_
      exact q
theorem k82_ok {ex : xO} {d : Nat} {c : Nat → Nat → Int} {b : Bool} {n D T Mo : Nat} {kd bo wo L : Nat → Nat} (hP : pS n kd bo wo D T Mo L) (hc : cS c b n kd bo wo D T Mo L) {r S : Nat} (hr : r < 6) (i1 : iRow c) (hS : c 56 r = (S : Nat)) {j : Nat} (hj : j < 8) (h0 : n ≠ 0) (hz : 1 ≤ S) (hg : S ≤ 10) (hf : alls (fq c r) S 0 = true) : An ex (d + 20) 82 7 [xA 0, xI (j : Int), xI (r : Int)] (hp c b) (xI 1, hp (xup (xup (xup c 0 11 (cnt (wfit c r S kd bo n L j) (2 ^ n) : Nat)) 0 12 1) 0 10 (xdn (ff (wfit c r S kd bo n L j)) (2 ^ n) (-9))) b) := by
  obtain ⟨ho, h40, hT, h9, hMo⟩ := hP
  obtain ⟨hC, d7, t9, hL, m10⟩ := hc
  have hn := ho.1
  have hT6 := p64 hn hT
  have hp2 := pp64 hn
  have hcl := cnt_le (wfit c r S kd bo n L j) (2 ^ n)
  have hcl2 : cnt (wfit c r S kd bo n L j) (2 ^ n) < 2147483648 := by omega
  have hcl3 : cnt (wfit c r S kd bo n L j) (2 ^ n) < 9223372036854775808 := by omega
  have hall := (z_all hn hp2).mpr (Nat.le_refl (2 ^ n))
  refine Rn.run 3 (ls' := [_, _, _, _, _, _, _]) (st' := [_, _, _]) rfl ?_
  refine Rn.call rfl rfl rfl rfl rfl (k109_ok ⟨ho, h40, hT, h9, hMo⟩ ⟨hC, d7, t9, hL, m10⟩ hj h0 hr i1 hS hz hg hf) ?_
  refine Rn.run 2 (ls' := [_, _, _, _, _, _, _]) (st' := [_]) rfl ?_
  refine Rn.eq0 rfl (fun e8 => ?_) (fun e8 => absurd e8 (by decide))
  refine Rn.run 5 (ls' := [_, _, _, _, _, _, _]) (st' := [_]) rfl ?_
  refine Rn.getR rfl ⟨by decide, rfl, rfl⟩ (j := gid b) (rfl) ?_
  refine Rn.callV rfl (x_sv (xS_g b)) rfl rfl rfl (c17 hn hC.1) ?_
  refine Rn.run 1 (ls' := [_, _, _, _, _, _, _]) (st' := []) rfl ?_
  refine l82 (d := d + 14) ⟨ho, h40, hT, h9, hMo⟩ ⟨hC, d7, t9, hL, m10⟩ hr i1 hS hj (2 ^ n) 0 (-9) _ rfl hp2 ?_
  rw [xdn_cnt, Nat.zero_add]
  refine Rn.run 1 (ls' := [_, _, _, _, _, _, _]) (st' := [_]) rfl ?_
  refine Rn.lt0 rfl (fun e31 => ?_) (fun e31 => absurd e31 (by decide))
  refine Rn.run 3 (ls' := [_, _, _, _, _, _, _]) (st' := [_, _]) rfl ?_
  rw [x_wn hcl2]
  refine Rn.run 1 (ls' := [_, _, _, _, _, _, _]) (st' := [_, _, _]) rfl ?_
  refine Rn.call rfl rfl rfl rfl rfl (c103 (u := cnt (wfit c r S kd bo n L j) (2 ^ n)) (l := 1) hcl3 (by decide) (by decide)) ?_
  rw [Nat.gcd_one_right, Nat.div_one, Nat.div_one]
  refine Rn.run 2 (ls' := [_, _, _, _, _, _, _]) (st' := [_, _]) rfl ?_
  refine Rn.call rfl rfl rfl rfl rfl (c102) ?_
  exact Rn.ret rfl rfl rfl rfl rfl rfl
theorem k202_ok {ex : xO} {d : Nat} {c : Nat → Nat → Int} {b : Bool} {n D T Mo : Nat} {kd bo wo L : Nat → Nat} (hP : pS n kd bo wo D T Mo L) (hm : mS c n kd bo wo D T Mo L) {r S : Nat} (hr : r < 6) (i1 : iRow c) (hS : c 56 r = (S : Nat)) {j : Nat} (hj : j < 8) (h0 : n ≠ 0) (hz : 1 ≤ S) (hg : S ≤ 10) (hf : alls (fq c r) S 0 = true) : ∃ e, An ex (d + 20) 202 7 [xA 54, xI (j : Int), xI (r : Int)] (hp c b) (xI 1, hp (xup (xup (xup e 54 8 (cnt (wfit c r S kd bo n L j) (2 ^ n) : Nat)) 54 9 1) 54 7 (xdn (ff (wfit c r S kd bo n L j)) (2 ^ n) (-9))) b) ∧ ∀ a k, a ≠ 63 → a ≠ 66 → a ≠ 67 → e a k = c a k := by
  obtain ⟨ho, h40, hT, h9, hMo⟩ := hP
  obtain ⟨hM, d29, t2, l55, m1⟩ := hm
  have hn := ho.1
  have hT6 := p64 hn hT
  have hp2 := pp64 hn
  have hcl := cnt_le (wfit c r S kd bo n L j) (2 ^ n)
  have hcl2 : cnt (wfit c r S kd bo n L j) (2 ^ n) < 2147483648 := by omega
  have hcl3 : cnt (wfit c r S kd bo n L j) (2 ^ n) < 9223372036854775808 := by omega
  have hall := (z_all hn hp2).mpr (Nat.le_refl (2 ^ n))
  obtain ⟨e, q, w1, w2, w3⟩ := c201 (ex := ex) (d := d + 13) (b := b) ho hM hr i1 hS h9 hj hj l55
  have hM' : mG e n kd bo wo := mG_fr hn (fun k _ => w3 55 k (by decide) (by decide) (by decide)) hM
  refine ⟨e, ?_, w3⟩
  refine Rn.run 3 (ls' := [_, _, _, _, _, _, _]) (st' := [_, _, _]) rfl ?_
  refine Rn.call rfl rfl rfl rfl rfl (k199_ok ⟨ho, h40, hT, h9, hMo⟩ ⟨hM, d29, t2, l55, m1⟩ hj h0 hr i1 hS hz hg hf) ?_
  refine Rn.run 2 (ls' := [_, _, _, _, _, _, _]) (st' := [_]) rfl ?_
  refine Rn.eq0 rfl (fun e8 => ?_) (fun e8 => absurd e8 (by decide))
  refine Rn.run 4 (ls' := [_, _, _, _, _, _, _]) (st' := [_, _, _, _]) rfl ?_
  refine Rn.call rfl rfl rfl rfl rfl (q) ?_
  refine Rn.run 4 (ls' := [_, _, _, _, _, _, _]) (st' := [_]) rfl ?_
  refine Rn.call rfl rfl rfl rfl rfl (c163 hn hM'.1) ?_
  refine Rn.run 1 (ls' := [_, _, _, _, _, _, _]) (st' := []) rfl ?_
  refine l202 (p := wfit c r S kd bo n L j) hp2 w1 (2 ^ n) (-9) _ rfl (Nat.le_refl _) ?_
  refine Rn.run 1 (ls' := [_, _, _, _, _, _, _]) (st' := [_]) rfl ?_
  refine Rn.lt0 rfl (fun e34 => ?_) (fun e34 => absurd e34 (by decide))
  refine Rn.run 3 (ls' := [_, _, _, _, _, _, _]) (st' := [_, _]) rfl ?_
  rw [x_wn hcl2]
  refine Rn.run 6 (ls' := [_, _, _, _, _, _, _]) (st' := [_, _]) rfl ?_
  refine Rn.call rfl rfl rfl rfl rfl (c135) ?_
  exact Rn.ret rfl rfl rfl rfl rfl rfl
theorem g_about {ex : xO} (a1 a2 : Int) (h1 : w32 a1 = a1) (h2 : w32 a2 = a2) : AgI ex 82 7 202 7 [xI a1, xI a2] := by
  intro d c b hI
  obtain ⟨n, kd, bo, wo, D, T, Mo, L, hP, hc, hm⟩ := Inv_St hI
  rcases gr_about (ex := ex) a1 a2 h1 h2 (d := d) hI hP hc hm with h | ⟨h0, j, r, S, hj, hr, rfl, rfl, hS, hz, hg, hf⟩
  · exact h
  · have fr : ∀ a k, a ≠ 0 → xup (xup (xup c 0 11 (cnt (wfit c r S kd bo n L j) (2 ^ n) : Nat)) 0 12 1) 0 10 (xdn (ff (wfit c r S kd bo n L j)) (2 ^ n) (-9)) a k = c a k := fun a k ha => by rw [xup_n _ _ (Or.inl ha), xup_n _ _ (Or.inl ha), xup_n _ _ (Or.inl ha)]
    obtain ⟨e, q, f⟩ := k202_ok (ex := ex) (d := d) (b := b) hP (mS_fr (fun k => fr 55 k (by decide)) hm) hr (iRow_fr (fun a k ha => fr a k (by omega)) hI.1) (by rw [fr 56 r (by decide)]; exact hS) hj h0 hz hg (by rw [show fq (xup (xup (xup c 0 11 (cnt (wfit c r S kd bo n L j) (2 ^ n) : Nat)) 0 12 1) 0 10 (xdn (ff (wfit c r S kd bo n L j)) (2 ^ n) (-9))) r = fq c r by funext k; unfold fq; rw [fr 57 _ (by decide)]]; exact hf)
    have ew : wfit (xup (xup (xup c 0 11 (cnt (wfit c r S kd bo n L j) (2 ^ n) : Nat)) 0 12 1) 0 10 (xdn (ff (wfit c r S kd bo n L j)) (2 ^ n) (-9))) r S kd bo n L j = wfit c r S kd bo n L j := wfit_fr (fun k => fr 57 k (by decide))
    rw [ew] at q
    refine ⟨_, _, _, b, _, b, k82_ok hP hc hr hI.1 hS hj h0 hz hg hf, q, rfl, Inv_ask3 hI (fun a k h1 h2 h3 => ?_) ?_ ?_ ?_⟩
    · rw [xup_n _ _ (by omega), xup_n _ _ (by omega), xup_n _ _ (by omega), f a k (fun z => h1 (by unfold scr; omega)) (fun z => h1 (by unfold scr; omega)) (fun z => h1 (by unfold scr; omega)), xup_n _ _ (by omega), xup_n _ _ (by omega), xup_n _ _ (by omega)]
    · rw [xup_n _ _ (by omega), xup_n _ _ (by omega), xup_n _ _ (by omega), f 0 10 (by decide) (by decide) (by decide), xup_s, xup_s]
    · rw [xup_n _ _ (by omega), xup_n _ _ (by omega), xup_n _ _ (by omega), f 0 11 (by decide) (by decide) (by decide), xup_n _ _ (by omega), xup_n _ _ (by omega), xup_s, xup_n _ _ (by omega), xup_n _ _ (by omega), xup_s]
    · rw [xup_n _ _ (by omega), xup_n _ _ (by omega), xup_n _ _ (by omega), f 0 12 (by decide) (by decide) (by decide), xup_n _ _ (by omega), xup_s, xup_n _ _ (by omega), xup_s]
theorem l83 {ex : xO} {d : Nat} {c : Nat → Nat → Int} {b : Bool} {n D T Mo : Nat} {kd bo wo L : Nat → Nat} (hP : pS n kd bo wo D T Mo L) (hc : cS c b n kd bo wo D T Mo L) {r S : Nat} (hr : r < 6) (i1 : iRow c) (hS : c 56 r = (S : Nat)) {j : Nat} (hj : j < 8) {o : xV × xH} : ∀ (m i e q : Nat), i + m = 2 ^ n → e < 64 → q < 64 → Rn ex xt83 (d + 6) 34 [xA 0, xI (j : Int), xI (r : Int), xI 0, xI ((xit (fe (wfit c r S kd bo n L j)) m i e) : Nat), xI ((xit (fo (wfit c r S kd bo n L j)) m i q) : Nat), xI ((2 ^ n) : Nat)] [] (hp c b) o → Rn ex xt83 (d + 6) 34 [xA 0, xI (j : Int), xI (r : Int), xI 0, xI (e : Nat), xI (q : Nat), xI (i : Nat)] [] (hp c b) o := by
  have hn := hP.1.1
  have hC := hc.1
  have hp2 := pp64 hn
  intro m
  induction m with
  | zero =>
    intro i e q hm he hq kk
    obtain rfl : i = 2 ^ n := by omega
    exact kk
  | succ m ih =>
    intro i e q hm he hq kk
    have i64 : i < 64 := by omega
    have in1 : ¬ w32 (((2 ^ n : Nat) : Int) - 1) < w32 (i : Int) := fun h => absurd ((z_all hn (by omega)).mp h) (by omega)
    have rr := ih (i + 1) (fe (wfit c r S kd bo n L j) i e) (fo (wfit c r S kd bo n L j) i q) (by omega) (fe_64 he) (fo_64 hq) kk
    by_cases hw : wfit c r S kd bo n L j i = true
    · rw [show fe (wfit c r S kd bo n L j) i e = e &&& i from if_pos hw, show fo (wfit c r S kd bo n L j) i q = q ^^^ (q &&& i) from if_pos hw] at rr
      refine Rn.run 2 (ls' := [_, _, _, _, _, _, _]) (st' := [_, _]) rfl ?_
      refine Rn.getR rfl ⟨by decide, rfl, rfl⟩ (j := gid b) (rfl) ?_
      refine Rn.callV rfl (x_sv (xS_g b)) rfl rfl rfl (c17 hn hC.1) ?_
      refine Rn.gt2 rfl (fun e43 => absurd e43 (by exact in1)) (fun e43 => ?_)
      refine Rn.run 6 (ls' := [_, _, _, _, _, _, _]) (st' := [_, _, _, _, _]) rfl ?_
      refine Rn.aald rfl ⟨by decide, rfl, by decide, by decide⟩ (r) (x_wn (n := r) (by omega)) (by omega) (xR_row hr).1 ?_
      refine Rn.call rfl rfl rfl rfl rfl (c124 hP hc hr i1 hS i64 hj) ?_
      refine Rn.eqB rfl (fun e59 => absurd e59 (by exact fun h => h hw)) (fun e59 => ?_)
      refine Rn.run 3 (ls' := [_, _, _, _, _, _, _]) (st' := [_]) rfl ?_
      rw [bt_and e he i i64]
      refine Rn.run 6 (ls' := [_, _, _, _, _, _, _]) (st' := [_]) rfl ?_
      rw [bt_andn q hq i i64]
      refine Rn.run 3 (ls' := [_, _, _, _, _, _, _]) (st' := []) rfl ?_
      exact rr
    · rw [show fe (wfit c r S kd bo n L j) i e = e from if_neg hw, show fo (wfit c r S kd bo n L j) i q = q from if_neg hw] at rr
      refine Rn.run 2 (ls' := [_, _, _, _, _, _, _]) (st' := [_, _]) rfl ?_
      refine Rn.getR rfl ⟨by decide, rfl, rfl⟩ (j := gid b) (rfl) ?_
      refine Rn.callV rfl (x_sv (xS_g b)) rfl rfl rfl (c17 hn hC.1) ?_
      refine Rn.gt2 rfl (fun e43 => absurd e43 (by exact in1)) (fun e43 => ?_)
      refine Rn.run 6 (ls' := [_, _, _, _, _, _, _]) (st' := [_, _, _, _, _]) rfl ?_
      refine Rn.aald rfl ⟨by decide, rfl, by decide, by decide⟩ (r) (x_wn (n := r) (by omega)) (by omega) (xR_row hr).1 ?_
      refine Rn.call rfl rfl rfl rfl rfl (c124 hP hc hr i1 hS i64 hj) ?_
      refine Rn.eqB rfl (fun e59 => ?_) (fun e59 => absurd e59 (by exact hw))
      refine Rn.run 2 (ls' := [_, _, _, _, _, _, _]) (st' := []) rfl ?_
      exact rr
theorem l203 {ex : xO} {d : Nat} {c : Nat → Nat → Int} {b : Bool} {j r n : Nat} {p : Nat → Bool} {o : xV × xH} (hn : n ≤ 6) (h0 : c 55 0 = (n : Nat)) (hw : ∀ s, s < 2 ^ n → c 66 s = (if p s = true then 1 else 0)) : ∀ (m i e q : Nat), i + m = 2 ^ n → e < 64 → q < 64 → Rn ex xt203 (d + 1) 36 [xA 54, xI (j : Int), xI (r : Int), xI 0, xI ((xit (fe p) m i e : Nat) : Int), xI ((xit (fo p) m i q : Nat) : Int), xI ((2 ^ n : Nat) : Int)] [] (hp c b) o → Rn ex xt203 (d + 1) 36 [xA 54, xI (j : Int), xI (r : Int), xI 0, xI (e : Int), xI (q : Int), xI (i : Int)] [] (hp c b) o := by
  have hp2 := pp64 hn
  intro m
  induction m with
  | zero =>
    intro i e q hm he hq kk
    obtain rfl : i = 2 ^ n := by omega
    exact kk
  | succ m ih =>
    intro i e q hm he hq kk
    have i64 : i < 64 := by omega
    have i31 : i < 2147483648 := by omega
    have in1 : ¬ w32 (((2 ^ n : Nat) : Int) - 1) < w32 (i : Int) := fun h => absurd ((z_all hn (by omega)).mp h) (by omega)
    have rr := ih (i + 1) (fe p i e) (fo p i q) (by omega) (fe_64 he) (fo_64 hq) kk
    have hv := hw i (by omega)
    by_cases hx : p i = true
    · rw [show fe p i e = e &&& i from if_pos hx, show fo p i q = q ^^^ (q &&& i) from if_pos hx] at rr
      rw [if_pos hx] at hv
      refine Rn.run 2 (ls' := [_, _, _, _, _, _, _]) (st' := [_, _]) rfl ?_
      refine Rn.call rfl rfl rfl rfl rfl (c163 hn h0) ?_
      refine Rn.gt2 rfl (fun e42 => absurd e42 (by exact in1)) (fun e42 => ?_)
      refine Rn.run 4 (ls' := [_, _, _, _, _, _, _]) (st' := [_, _, _]) rfl ?_
      refine Rn.bald rfl ⟨by decide, rfl, by decide⟩ (i) (x_wn i31) i64 ?_
      rw [hv]
      refine Rn.eq0 rfl (fun e54 => absurd e54 (by decide)) (fun e54 => ?_)
      refine Rn.run 3 (ls' := [_, _, _, _, _, _, _]) (st' := [_]) rfl ?_
      rw [bt_and e he i i64]
      refine Rn.run 5 (ls' := [_, _, _, _, _, _, _]) (st' := [_, _, _]) rfl ?_
      refine Rn.bald rfl ⟨by decide, rfl, by decide⟩ (i) (x_wn i31) i64 ?_
      rw [hv]
      refine Rn.eq0 rfl (fun e75 => absurd e75 (by decide)) (fun e75 => ?_)
      refine Rn.run 5 (ls' := [_, _, _, _, _, _, _]) (st' := [_]) rfl ?_
      rw [bt_andn q hq i i64]
      refine Rn.run 3 (ls' := [_, _, _, _, _, _, _]) (st' := []) rfl ?_
      exact rr
    · rw [show fe p i e = e from if_neg hx, show fo p i q = q from if_neg hx] at rr
      rw [if_neg hx] at hv
      refine Rn.run 2 (ls' := [_, _, _, _, _, _, _]) (st' := [_, _]) rfl ?_
      refine Rn.call rfl rfl rfl rfl rfl (c163 hn h0) ?_
      refine Rn.gt2 rfl (fun e42 => absurd e42 (by exact in1)) (fun e42 => ?_)
      refine Rn.run 4 (ls' := [_, _, _, _, _, _, _]) (st' := [_, _, _]) rfl ?_
      refine Rn.bald rfl ⟨by decide, rfl, by decide⟩ (i) (x_wn i31) i64 ?_
      rw [hv]
      refine Rn.eq0 rfl (fun e54 => ?_) (fun e54 => absurd e54 (by decide))
      refine Rn.run 2 (ls' := [_, _, _, _, _, _, _]) (st' := [_]) rfl ?_
      rw [bt_m1 e he]
      refine Rn.run 5 (ls' := [_, _, _, _, _, _, _]) (st' := [_, _, _]) rfl ?_
      refine Rn.bald rfl ⟨by decide, rfl, by decide⟩ (i) (x_wn i31) i64 ?_
      rw [hv]
      refine Rn.eq0 rfl (fun e75 => ?_) (fun e75 => absurd e75 (by decide))
      refine Rn.run 2 (ls' := [_, _, _, _, _, _, _]) (st' := [_]) rfl ?_
      rw [bt_m1 q hq]
      refine Rn.run 3 (ls' := [_, _, _, _, _, _, _]) (st' := []) rfl ?_
      exact rr
theorem k83_ok {ex : xO} {d : Nat} {c : Nat → Nat → Int} {b : Bool} {n D T Mo : Nat} {kd bo wo L : Nat → Nat} (hP : pS n kd bo wo D T Mo L) (hc : cS c b n kd bo wo D T Mo L) {r S : Nat} (hr : r < 6) (i1 : iRow c) (hS : c 56 r = (S : Nat)) {j : Nat} (hj : j < 8) (h0 : n ≠ 0) (hz : 1 ≤ S) (hg : S ≤ 10) (hf : alls (fq c r) S 0 = true) : An ex (d + 20) 83 7 [xA 0, xI (j : Int), xI (r : Int)] (hp c b) (xI ((xit (fe (wfit c r S kd bo n L j)) (2 ^ n) 0 (2 ^ n - 1) : Nat) : Int), hp (xup c 0 10 ((xit (fo (wfit c r S kd bo n L j)) (2 ^ n) 0 (2 ^ n - 1) : Nat) : Int)) b) := by
  obtain ⟨ho, h40, hT, h9, hMo⟩ := hP
  obtain ⟨hC, d7, t9, hL, m10⟩ := hc
  have hn := ho.1
  have hT6 := p64 hn hT
  have hp2 := pp64 hn
  have hcl := cnt_le (wfit c r S kd bo n L j) (2 ^ n)
  have hcl2 : cnt (wfit c r S kd bo n L j) (2 ^ n) < 2147483648 := by omega
  have hcl3 : cnt (wfit c r S kd bo n L j) (2 ^ n) < 9223372036854775808 := by omega
  have hall := (z_all hn hp2).mpr (Nat.le_refl (2 ^ n))
  refine Rn.run 3 (ls' := [_, _, _, _, _, _, _]) (st' := [_, _, _]) rfl ?_
  refine Rn.call rfl rfl rfl rfl rfl (k109_ok ⟨ho, h40, hT, h9, hMo⟩ ⟨hC, d7, t9, hL, m10⟩ hj h0 hr i1 hS hz hg hf) ?_
  refine Rn.run 2 (ls' := [_, _, _, _, _, _, _]) (st' := [_]) rfl ?_
  refine Rn.eq0 rfl (fun e8 => ?_) (fun e8 => absurd e8 (by decide))
  refine Rn.run 1 (ls' := [_, _, _, _, _, _, _]) (st' := [_]) rfl ?_
  refine Rn.getR rfl ⟨by decide, rfl, rfl⟩ (j := gid b) (rfl) ?_
  refine Rn.callV rfl (x_sv (xS_g b)) rfl rfl rfl (c17 hn hC.1) ?_
  rw [e2n]
  refine Rn.run 2 (ls' := [_, _, _, _, _, _, _]) (st' := [_]) rfl ?_
  refine Rn.getR rfl ⟨by decide, rfl, rfl⟩ (j := gid b) (rfl) ?_
  refine Rn.callV rfl (x_sv (xS_g b)) rfl rfl rfl (c17 hn hC.1) ?_
  rw [e2n]
  refine Rn.run 3 (ls' := [_, _, _, _, _, _, _]) (st' := []) rfl ?_
  refine l83 (d := d + 14) ⟨ho, h40, hT, h9, hMo⟩ ⟨hC, d7, t9, hL, m10⟩ hr i1 hS hj (2 ^ n) 0 (2 ^ n - 1) (2 ^ n - 1) (Nat.zero_add _) (m64 hn) (m64 hn) ?_
  refine Rn.run 2 (ls' := [_, _, _, _, _, _, _]) (st' := [_, _]) rfl ?_
  refine Rn.getR rfl ⟨by decide, rfl, rfl⟩ (j := gid b) (rfl) ?_
  refine Rn.callV rfl (x_sv (xS_g b)) rfl rfl rfl (c17 hn hC.1) ?_
  refine Rn.gt2 rfl (fun e43 => ?_) (fun e43 => absurd e43 (by exact fun h => h hall))
  refine Rn.run 2 (ls' := [_, _, _, _, _, _, _]) (st' := [_, _]) rfl ?_
  refine Rn.call rfl rfl rfl rfl rfl (c102) ?_
  refine Rn.run 2 (ls' := [_, _, _, _, _, _, _]) (st' := [_]) rfl ?_
  exact Rn.ret rfl rfl rfl rfl rfl rfl
theorem k203_ok {ex : xO} {d : Nat} {c : Nat → Nat → Int} {b : Bool} {n D T Mo : Nat} {kd bo wo L : Nat → Nat} (hP : pS n kd bo wo D T Mo L) (hm : mS c n kd bo wo D T Mo L) {r S : Nat} (hr : r < 6) (i1 : iRow c) (hS : c 56 r = (S : Nat)) {j : Nat} (hj : j < 8) (h0 : n ≠ 0) (hz : 1 ≤ S) (hg : S ≤ 10) (hf : alls (fq c r) S 0 = true) : ∃ e, An ex (d + 20) 203 7 [xA 54, xI (j : Int), xI (r : Int)] (hp c b) (xI ((xit (fe (wfit c r S kd bo n L j)) (2 ^ n) 0 (2 ^ n - 1) : Nat) : Int), hp (xup e 54 7 ((xit (fo (wfit c r S kd bo n L j)) (2 ^ n) 0 (2 ^ n - 1) : Nat) : Int)) b) ∧ ∀ a k, a ≠ 63 → a ≠ 66 → a ≠ 67 → e a k = c a k := by
  obtain ⟨ho, h40, hT, h9, hMo⟩ := hP
  obtain ⟨hM, d29, t2, l55, m1⟩ := hm
  have hn := ho.1
  have hT6 := p64 hn hT
  have hp2 := pp64 hn
  have hcl := cnt_le (wfit c r S kd bo n L j) (2 ^ n)
  have hcl2 : cnt (wfit c r S kd bo n L j) (2 ^ n) < 2147483648 := by omega
  have hcl3 : cnt (wfit c r S kd bo n L j) (2 ^ n) < 9223372036854775808 := by omega
  have hall := (z_all hn hp2).mpr (Nat.le_refl (2 ^ n))
  obtain ⟨e, q, w1, w2, w3⟩ := c201 (ex := ex) (d := d + 13) (b := b) ho hM hr i1 hS h9 hj hj l55
  have hM' : mG e n kd bo wo := mG_fr hn (fun k _ => w3 55 k (by decide) (by decide) (by decide)) hM
  refine ⟨e, ?_, w3⟩
  refine Rn.run 3 (ls' := [_, _, _, _, _, _, _]) (st' := [_, _, _]) rfl ?_
  refine Rn.call rfl rfl rfl rfl rfl (k199_ok ⟨ho, h40, hT, h9, hMo⟩ ⟨hM, d29, t2, l55, m1⟩ hj h0 hr i1 hS hz hg hf) ?_
  refine Rn.run 2 (ls' := [_, _, _, _, _, _, _]) (st' := [_]) rfl ?_
  refine Rn.eq0 rfl (fun e8 => ?_) (fun e8 => absurd e8 (by decide))
  refine Rn.run 4 (ls' := [_, _, _, _, _, _, _]) (st' := [_, _, _, _]) rfl ?_
  refine Rn.call rfl rfl rfl rfl rfl (q) ?_
  refine Rn.run 2 (ls' := [_, _, _, _, _, _, _]) (st' := [_]) rfl ?_
  refine Rn.call rfl rfl rfl rfl rfl (c163 hn hM'.1) ?_
  rw [e2n]
  refine Rn.run 2 (ls' := [_, _, _, _, _, _, _]) (st' := [_]) rfl ?_
  refine Rn.call rfl rfl rfl rfl rfl (c163 hn hM'.1) ?_
  rw [e2n]
  refine Rn.run 3 (ls' := [_, _, _, _, _, _, _]) (st' := []) rfl ?_
  refine l203 (d := d + 19) (p := wfit c r S kd bo n L j) hn hM'.1 w1 (2 ^ n) 0 (2 ^ n - 1) (2 ^ n - 1) (Nat.zero_add _) (m64 hn) (m64 hn) ?_
  refine Rn.run 2 (ls' := [_, _, _, _, _, _, _]) (st' := [_, _]) rfl ?_
  refine Rn.call rfl rfl rfl rfl rfl (c163 hn hM'.1) ?_
  refine Rn.gt2 rfl (fun e42 => ?_) (fun e42 => absurd e42 (by exact fun h => h hall))
  refine Rn.run 4 (ls' := [_, _, _, _, _, _, _]) (st' := [_]) rfl ?_
  exact Rn.ret rfl rfl rfl rfl rfl rfl
theorem g_sure {ex : xO} (a1 a2 : Int) (h1 : w32 a1 = a1) (h2 : w32 a2 = a2) : AgI ex 83 7 203 7 [xI a1, xI a2] := by
  intro d c b hI
  obtain ⟨n, kd, bo, wo, D, T, Mo, L, hP, hc, hm⟩ := Inv_St hI
  rcases gr_sure (ex := ex) a1 a2 h1 h2 (d := d) hI hP hc hm with h | ⟨h0, j, r, S, hj, hr, rfl, rfl, hS, hz, hg, hf⟩
  · exact h
  · have fr : ∀ a k, a ≠ 0 → xup c 0 10 ((xit (fo (wfit c r S kd bo n L j)) (2 ^ n) 0 (2 ^ n - 1) : Nat) : Int) a k = c a k := fun a k ha => xup_n _ _ (Or.inl ha)
    obtain ⟨e, q, f⟩ := k203_ok (ex := ex) (d := d) (b := b) hP (mS_fr (fun k => fr 55 k (by decide)) hm) hr (iRow_fr (fun a k ha => fr a k (by omega)) hI.1) (by rw [fr 56 r (by decide)]; exact hS) hj h0 hz hg (by rw [show fq (xup c 0 10 ((xit (fo (wfit c r S kd bo n L j)) (2 ^ n) 0 (2 ^ n - 1) : Nat) : Int)) r = fq c r by funext k; unfold fq; rw [fr 57 _ (by decide)]]; exact hf)
    have ew : wfit (xup c 0 10 ((xit (fo (wfit c r S kd bo n L j)) (2 ^ n) 0 (2 ^ n - 1) : Nat) : Int)) r S kd bo n L j = wfit c r S kd bo n L j := wfit_fr (fun k => fr 57 k (by decide))
    rw [ew] at q
    refine Ag_ask hI _ ((xit (fo (wfit c r S kd bo n L j)) (2 ^ n) 0 (2 ^ n - 1) : Nat) : Int) (k83_ok hP hc hr hI.1 hS hj h0 hz hg hf) q (fun a k h => ?_)
    by_cases e5 : a = 54 ∧ k = 7
    · obtain ⟨rfl, rfl⟩ := e5
      rw [xup_s, xup_s]
    · rw [xup_n _ _ (by omega), xup_n _ _ (by omega), f a k (fun z => h (by unfold scr; omega)) (fun z => h (by unfold scr; omega)) (fun z => h (by unfold scr; omega))]
