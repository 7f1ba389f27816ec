-- round, plan: orders, the model
def osf (kd bo wo tr : Nat → Nat) (j : Nat) (t : Nat × (Nat → Nat)) : Nat × (Nat → Nat) := (t.1 ||| 2 ^ tr j, tl kd bo wo (tr j) t.2)
def osd (kd bo wo : Nat → Nat) (T : Nat) (L tr : Nat → Nat) (k : Nat) : Nat × (Nat → Nat) := xit (osf kd bo wo tr) k 0 (T, L)
theorem osd_s (kd bo wo : Nat → Nat) (T : Nat) (L tr : Nat → Nat) (k i : Nat) : osd kd bo wo T L (exn tr k i) (k + 1) = ((osd kd bo wo T L tr k).1 ||| 2 ^ i, tl kd bo wo i (osd kd bo wo T L tr k).2) := by
  have e : xit (osf kd bo wo (exn tr k i)) k 0 (T, L) = xit (osf kd bo wo tr) k 0 (T, L) := xit_congr k 0 _ (fun j t h1 h2 => by
    unfold osf exn
    rw [if_neg (by omega)])
  unfold osd
  rw [xit_l, e]
  unfold osf exn
  rw [if_pos (Nat.zero_add k)]
theorem l193 {ex : xO} {d : Nat} {b : Bool} {c : Nat → Nat → Int} {n : Nat} {kd bo wo : Nat → Nat} (ho : gok n kd bo wo) (hM : mG c n kd bo wo) {k : Nat} {tr : Nat → Nat} (hk : k ≤ 6) (ht : ∀ j, j < k → c 64 j = (tr j : Nat) ∧ tr j < n) : ∀ (m j s : Nat) (L : Nat → Nat) (u : xV), j + m = k → s < 64 → l9 L → Rn ex xt193 (d + 3) 13 [xA 54, xI (k : Int), xI (s : Int), xI (j : Int), u] [] (hp (lf c L) b) (xI (((xit (osf kd bo wo tr) m j (s, L)).1 : Nat) : Int), hp (lf c (xit (osf kd bo wo tr) m j (s, L)).2) b) := by
  have hn := ho.1
  intro m
  induction m with
  | zero =>
    intro j s L u hm hs h9
    have j31 : j < 2147483648 := by omega
    have k31 : k < 2147483648 := by omega
    refine Rn.run 2 (ls' := [_, _, _, _, _]) (st' := [_, _]) rfl ?_
    refine Rn.ge2 rfl (fun e15 => ?_) (fun e15 => absurd e15 (by exact fun h => h ((y_ge j31 k31).mpr (by omega))))
    refine Rn.run 1 (ls' := [_, _, _, _, _]) (st' := [_]) rfl ?_
    exact Rn.ret rfl rfl rfl rfl rfl rfl
  | succ m ih =>
    intro j s L u hm hs h9
    obtain ⟨tj, tn⟩ := ht j (by omega)
    have t6 : tr j < 6 := by omega
    have h3 := ho.2 _ tn
    have b8 : bo (tr j) < 8 := by omega
    have b31 : bo (tr j) < 2147483648 := by omega
    have j31 : j < 2147483648 := by omega
    have j7 : j < 7 := by omega
    have i31 : 17 + tr j < 2147483648 := by omega
    have i17 : 17 + tr j < 1720 := by omega
    have nj : ¬ w32 (k : Int) ≤ w32 (j : Int) := fun h => absurd ((y_ge (by omega) (by omega)).mp h) (by omega)
    have l9b := h9 _ b8
    have q := ih (j + 1) (s ||| 2 ^ tr j) (tl kd bo wo (tr j) L) (xI ((bo (tr j) : Nat) : Int)) (by omega) (or64 hs t6) (tl_9 h3.2.2 h3.2.1 h9)
    refine Rn.run 2 (ls' := [_, _, _, _, _]) (st' := [_, _]) rfl ?_
    refine Rn.ge2 rfl (fun e15 => absurd e15 (by exact nj)) (fun e15 => ?_)
    refine Rn.run 6 (ls' := [_, _, _, _, _]) (st' := [_, _, _, _]) rfl ?_
    refine Rn.ald rfl ⟨by decide, rfl⟩ (j) (x_wn j31) j7 ?_
    rw [lf_out _ _ (by decide), tj]
    refine Rn.run 1 (ls' := [_, _, _, _, _]) (st' := [_, _]) rfl ?_
    refine Rn.ald rfl ⟨by decide, rfl⟩ (17 + tr j) (x_wn i31) i17 ?_
    rw [lf_out _ _ (by decide), (hM.2 _ tn).2.1]
    refine Rn.run 8 (ls' := [_, _, _, _, _]) (st' := [_, _, _, _, _]) rfl ?_
    refine Rn.ald rfl ⟨by decide, rfl⟩ (j) (x_wn j31) j7 ?_
    rw [lf_out _ _ (by decide), tj]
    refine Rn.run 3 (ls' := [_, _, _, _, _]) (st' := [_, _, _, _, _, _]) rfl ?_
    refine Rn.ald rfl ⟨by decide, rfl⟩ (bo (tr j)) (x_wn b31) b8 ?_
    rw [lf_in _ _ b8]
    refine Rn.call rfl rfl rfl rfl rfl (c162 ho (mG_lf hM) tn l9b) ?_
    refine Rn.ast rfl ⟨by decide, rfl⟩ (bo (tr j)) (x_wn b31) b8 ?_
    rw [lf_up b8]
    refine Rn.run 5 (ls' := [_, _, _, _, _]) (st' := [_, _, _, _]) rfl ?_
    refine Rn.ald rfl ⟨by decide, rfl⟩ (j) (x_wn j31) j7 ?_
    rw [lf_out _ _ (by decide), tj]
    refine Rn.run 2 (ls' := [_, _, _, _, _]) (st' := [_]) rfl ?_
    rw [bt_add hs t6]
    refine Rn.run 3 (ls' := [_, _, _, _, _]) (st' := []) rfl ?_
    exact q
theorem c193 {ex : xO} {d : Nat} {b : Bool} {c : Nat → Nat → Int} {n : Nat} {kd bo wo : Nat → Nat} (ho : gok n kd bo wo) (hM : mG c n kd bo wo) {T k : Nat} {L tr : Nat → Nat} (t2 : c 55 2 = (T : Nat)) (l55 : ∀ j, j < 8 → c 55 (3 + j) = (L j : Nat)) (hT : T < 64) (h9 : l9 L) (hk : k ≤ 6) (ht : ∀ j, j < k → c 64 j = (tr j : Nat) ∧ tr j < n) : An ex (d + 3) 193 5 [xA 54, xI (k : Int)] (hp c b) (xI (((osd kd bo wo T L tr k).1 : Nat) : Int), hp (lf c (osd kd bo wo T L tr k).2) b) := by
  refine Rn.run 1 (ls' := [_, _, _, _, _]) (st' := [_]) rfl ?_
  refine Rn.call rfl rfl rfl rfl rfl (c168 l55) ?_
  refine Rn.run 3 (ls' := [_, _, _, _, _]) (st' := [_, _]) rfl ?_
  refine Rn.ald rfl ⟨by decide, rfl⟩ (2) rfl (by decide) ?_
  rw [lf_out _ _ (by decide), t2]
  refine Rn.run 3 (ls' := [_, _, _, _, _]) (st' := []) rfl ?_
  exact l193 ho hM hk ht k 0 T L _ (Nat.zero_add k) hT h9
theorem l194 {ex : xO} {d : Nat} {b : Bool} {k : Nat} {tr : Nat → Nat} (hk : k ≤ 6) : ∀ (m j : Nat) (c : Nat → Nat → Int), j + m = k → (∀ i, i < k → c 64 i = (tr i : Nat)) → Rn ex xt194 d 2 [xA 54, xI (k : Int), xI (j : Int)] [] (hp c b) (xU, hp (xfl3 c 65 j k (fun i => ((tr i : Nat) : Int))) b) := by
  intro m
  induction m with
  | zero =>
    intro j c hm ht
    obtain rfl : j = k := by omega
    have j31 : j < 2147483648 := by omega
    rw [xfl3_e]
    refine Rn.run 2 (ls' := [_, _, _]) (st' := [_, _]) rfl ?_
    refine Rn.ge2 rfl (fun e4 => ?_) (fun e4 => absurd e4 (by exact fun h => h ((y_ge j31 j31).mpr (Nat.le_refl _))))
    exact Rn.ret rfl rfl rfl rfl rfl rfl
  | succ m ih =>
    intro j c hm ht
    have j31 : j < 2147483648 := by omega
    have j7 : j < 7 := by omega
    have j6 : j < 6 := by omega
    have jk : j < k := by omega
    have nj : ¬ w32 (k : Int) ≤ w32 (j : Int) := fun h => absurd ((y_ge (by omega) (by omega)).mp h) (by omega)
    refine Rn.run 2 (ls' := [_, _, _]) (st' := [_, _]) rfl ?_
    refine Rn.ge2 rfl (fun e4 => absurd e4 (by exact nj)) (fun e4 => ?_)
    refine Rn.run 6 (ls' := [_, _, _]) (st' := [_, _, _, _]) rfl ?_
    refine Rn.ald rfl ⟨by decide, rfl⟩ (j) (x_wn j31) j7 ?_
    rw [ht j jk]
    refine Rn.ast rfl ⟨by decide, rfl⟩ (j) (x_wn j31) j6 ?_
    refine Rn.run 2 (ls' := [_, _, _]) (st' := []) rfl ?_
    rw [← xfl3_s c (fun i => ((tr i : Nat) : Int)) jk]
    exact ih (j + 1) _ (by omega) (fun i hi => by rw [xup_n _ _ (by omega)]; exact ht i hi)
theorem c194 {ex : xO} {d : Nat} {b : Bool} {c : Nat → Nat → Int} {k : Nat} {tr : Nat → Nat} (hk : k ≤ 6) (ht : ∀ i, i < k → c 64 i = (tr i : Nat)) : An ex d 194 3 [xA 54, xI (k : Int)] (hp c b) (xU, hp (xfl3 c 65 0 k (fun i => ((tr i : Nat) : Int))) b) := by
  refine Rn.run 2 (ls' := [_, _, _]) (st' := []) rfl ?_
  exact l194 hk k 0 c (Nat.zero_add k) ht
def mmo (acc : Option (Nat × (Nat → Nat))) : Int := match acc with
  | none => -1
  | some q => (q.1 : Nat)
def MO (c : Nat → Nat → Int) (N : Nat) (acc : Option (Nat × (Nat → Nat))) : Prop := ∀ q, acc = some q → ∀ i, i < N → c 65 i = (q.2 i : Nat)
theorem MO_64 {c c' : Nat → Nat → Int} {N : Nat} {acc : Option (Nat × (Nat → Nat))} (h : MO c N acc) (f : ∀ z, c' 65 z = c 65 z) : MO c' N acc := fun q hq i hi => by rw [f]; exact h q hq i hi
def fr0 (c0 c : Nat → Nat → Int) : Prop := ∀ a z, a ≠ 63 → a ≠ 64 → a ≠ 65 → c a z = c0 a z
theorem l196 {ex : xO} {d : Nat} {b : Bool} {n : Nat} {kd bo wo : Nat → Nat} (ho : gok n kd bo wo) {c0 : Nat → Nat → Int} (hM : mG c0 n kd bo wo) {T : Nat} {L : Nat → Nat} (t2 : c0 55 2 = (T : Nat)) (l55 : ∀ j, j < 8 → c0 55 (3 + j) = (L j : Nat)) (hT : T < 64) (h9 : l9 L) {set r N : Nat} (hset : set < 64) (hN : N ≤ 6) {V : Int} {Q : (Nat → Nat → Int) → Prop} : ∀ (m k l : Nat) (tr : Nat → Nat) (acc : Option (Nat × (Nat → Nat))) (c : Nat → Nat → Int) (u6 u7 : xV), k + m = N → (∀ j, j < k → tr j < n) → (osd kd bo wo T L tr k).1 < 2 ^ n → l9 (osd kd bo wo T L tr k).2 → (∀ i, i < n → l.testBit i = (set.testBit i && !(osd kd bo wo T L tr k).1.testBit i)) → fr0 c0 c → (∀ j, j < k → c 64 j = (tr j : Nat)) → c 64 k = -1 → MO c N acc → aok acc → (∀ c2 u6 u7, fr0 c0 c2 → (∀ j, j < k → c2 64 j = (tr j : Nat)) → MO c2 N (rs kd bo wo n m k l (osd kd bo wo T L tr k).1 (osd kd bo wo T L tr k).2 tr acc) → aok (rs kd bo wo n m k l (osd kd bo wo T L tr k).1 (osd kd bo wo T L tr k).2 tr acc) → ∃ e, Rn ex xt196 (d + 8) 64 [xA 54, xI (set : Int), xI (r : Int), xI (N : Int), xI (mmo (rs kd bo wo n m k l (osd kd bo wo T L tr k).1 (osd kd bo wo T L tr k).2 tr acc)), xI ((k : Int) + -1), u6, u7] [] (hp c2 b) (xI V, hp e b) ∧ Q e) → ∃ e, Rn ex xt196 (d + 8) 64 [xA 54, xI (set : Int), xI (r : Int), xI (N : Int), xI (mmo acc), xI (k : Int), u6, u7] [] (hp c b) (xI V, hp e b) ∧ Q e := by
  have hn := ho.1
  intro m
  induction m with
  | zero =>
    intro k l tr acc c u6 u7 hkm htr hs hl9 hl hfr hpre h64 hMO hA cont
    obtain rfl : k = N := by omega
    have k6 : k ≤ 6 := hN
    have hMc : mG c n kd bo wo := mG_fr hn (fun z _ => hfr 55 z (by decide) (by decide) (by decide)) hM
    have k0 : ¬ w32 (k : Int) < 0 := by rw [x_wn (by omega)]; omega
    have s72 := s8_le hl9
    have s31 : s8 (osd kd bo wo T L tr k).2 < 2147483648 := by omega
    have lfr : fr0 c0 (lf c (osd kd bo wo T L tr k).2) := fun a z g1 g2 g3 => by rw [lf_out _ _ g1]; exact hfr a z g1 g2 g3
    have lpre : ∀ j, j < k → lf c (osd kd bo wo T L tr k).2 64 j = (tr j : Nat) := fun j hj => by rw [lf_out _ _ (by decide)]; exact hpre j hj
    have kfr : fr0 c0 (xfl3 (lf c (osd kd bo wo T L tr k).2) 65 0 k (fun i => ((tr i : Nat) : Int))) := fun a z g1 g2 g3 => by rw [xfl3_out _ _ (Or.inl g3)]; exact lfr a z g1 g2 g3
    have kpre : ∀ j, j < k → xfl3 (lf c (osd kd bo wo T L tr k).2) 65 0 k (fun i => ((tr i : Nat) : Int)) 64 j = (tr j : Nat) := fun j hj => by rw [xfl3_out _ _ (Or.inl (by decide))]; exact lpre j hj
    have kMO : MO (xfl3 (lf c (osd kd bo wo T L tr k).2) 65 0 k (fun i => ((tr i : Nat) : Int))) k (some (s8 (osd kd bo wo T L tr k).2, tr)) := fun q hq i hi => by
      cases hq
      rw [xfl3_in _ _ ⟨Nat.zero_le i, hi⟩]
    cases acc with
    | none =>
      have nl : ¬ w32 ((s8 (osd kd bo wo T L tr k).2 : Nat) : Int) ≤ w32 (-1) := by rw [x_wn s31, show w32 (-1) = -1 from rfl]; omega
      obtain ⟨e, q, f⟩ := cont _ (xI (((osd kd bo wo T L tr k).1 : Nat) : Int)) (xI ((s8 (osd kd bo wo T L tr k).2 : Nat) : Int)) kfr kpre kMO (vis_ok hA s72)
      refine ⟨e, ?_, f⟩
      refine Rn.run 1 (ls' := [_, _, _, _, _, _, _, _]) (st' := [_]) rfl ?_
      refine Rn.lt0 rfl (fun e66 => absurd e66 (by exact k0)) (fun e66 => ?_)
      refine Rn.run 2 (ls' := [_, _, _, _, _, _, _, _]) (st' := [_, _]) rfl ?_
      refine Rn.call rfl rfl rfl rfl rfl (c193 ho hMc (by rw [hfr 55 2 (by decide) (by decide) (by decide)]; exact t2) (fun j hj => by rw [hfr 55 _ (by decide) (by decide) (by decide)]; exact l55 j hj) hT h9 k6 (fun j hj => ⟨hpre j hj, htr j hj⟩)) ?_
      refine Rn.run 3 (ls' := [_, _, _, _, _, _, _, _]) (st' := [_, _]) rfl ?_
      refine Rn.ne2 rfl (fun e80 => absurd e80 (by exact fun h => h rfl)) (fun e80 => ?_)
      refine Rn.run 1 (ls' := [_, _, _, _, _, _, _, _]) (st' := [_]) rfl ?_
      refine Rn.call rfl rfl rfl rfl rfl (c170 (fun j hj => lf_in _ _ hj)) ?_
      refine Rn.run 3 (ls' := [_, _, _, _, _, _, _, _]) (st' := [_, _]) rfl ?_
      refine Rn.le2 rfl (fun e93 => absurd e93 (by exact nl)) (fun e93 => ?_)
      refine Rn.run 4 (ls' := [_, _, _, _, _, _, _, _]) (st' := [_, _]) rfl ?_
      refine Rn.call rfl rfl rfl rfl rfl (c194 hN lpre) ?_
      refine Rn.run 3 (ls' := [_, _, _, _, _, _, _, _]) (st' := []) rfl ?_
      exact q
    | some w =>
      have w72 := hA w rfl
      have el : (w32 ((s8 (osd kd bo wo T L tr k).2 : Nat) : Int) ≤ w32 ((w.1 : Nat) : Int)) ↔ s8 (osd kd bo wo T L tr k).2 ≤ w.1 := y_ge (by omega) s31
      by_cases hlt : w.1 < s8 (osd kd bo wo T L tr k).2
      · have ev : rs kd bo wo n 0 k l (osd kd bo wo T L tr k).1 (osd kd bo wo T L tr k).2 tr (some w) = some (s8 (osd kd bo wo T L tr k).2, tr) := if_pos hlt
        rw [ev] at cont
        obtain ⟨e, q, f⟩ := cont _ (xI (((osd kd bo wo T L tr k).1 : Nat) : Int)) (xI ((s8 (osd kd bo wo T L tr k).2 : Nat) : Int)) kfr kpre kMO (fun z hz => by cases hz; exact s72)
        refine ⟨e, ?_, f⟩
        refine Rn.run 1 (ls' := [_, _, _, _, _, _, _, _]) (st' := [_]) rfl ?_
        refine Rn.lt0 rfl (fun e66 => absurd e66 (by exact k0)) (fun e66 => ?_)
        refine Rn.run 2 (ls' := [_, _, _, _, _, _, _, _]) (st' := [_, _]) rfl ?_
        refine Rn.call rfl rfl rfl rfl rfl (c193 ho hMc (by rw [hfr 55 2 (by decide) (by decide) (by decide)]; exact t2) (fun j hj => by rw [hfr 55 _ (by decide) (by decide) (by decide)]; exact l55 j hj) hT h9 k6 (fun j hj => ⟨hpre j hj, htr j hj⟩)) ?_
        refine Rn.run 3 (ls' := [_, _, _, _, _, _, _, _]) (st' := [_, _]) rfl ?_
        refine Rn.ne2 rfl (fun e80 => absurd e80 (by exact fun h => h rfl)) (fun e80 => ?_)
        refine Rn.run 1 (ls' := [_, _, _, _, _, _, _, _]) (st' := [_]) rfl ?_
        refine Rn.call rfl rfl rfl rfl rfl (c170 (fun j hj => lf_in _ _ hj)) ?_
        refine Rn.run 3 (ls' := [_, _, _, _, _, _, _, _]) (st' := [_, _]) rfl ?_
        refine Rn.le2 rfl (fun e93 => absurd e93 (by exact fun h => absurd (el.mp h) (Nat.not_le.mpr hlt))) (fun e93 => ?_)
        refine Rn.run 4 (ls' := [_, _, _, _, _, _, _, _]) (st' := [_, _]) rfl ?_
        refine Rn.call rfl rfl rfl rfl rfl (c194 hN lpre) ?_
        refine Rn.run 3 (ls' := [_, _, _, _, _, _, _, _]) (st' := []) rfl ?_
        exact q
      · have ev : rs kd bo wo n 0 k l (osd kd bo wo T L tr k).1 (osd kd bo wo T L tr k).2 tr (some w) = some w := if_neg hlt
        rw [ev] at cont
        obtain ⟨e, q, f⟩ := cont _ (xI (((osd kd bo wo T L tr k).1 : Nat) : Int)) (xI ((s8 (osd kd bo wo T L tr k).2 : Nat) : Int)) lfr lpre (MO_64 hMO (fun z => lf_out _ _ (by decide))) hA
        refine ⟨e, ?_, f⟩
        refine Rn.run 1 (ls' := [_, _, _, _, _, _, _, _]) (st' := [_]) rfl ?_
        refine Rn.lt0 rfl (fun e66 => absurd e66 (by exact k0)) (fun e66 => ?_)
        refine Rn.run 2 (ls' := [_, _, _, _, _, _, _, _]) (st' := [_, _]) rfl ?_
        refine Rn.call rfl rfl rfl rfl rfl (c193 ho hMc (by rw [hfr 55 2 (by decide) (by decide) (by decide)]; exact t2) (fun j hj => by rw [hfr 55 _ (by decide) (by decide) (by decide)]; exact l55 j hj) hT h9 k6 (fun j hj => ⟨hpre j hj, htr j hj⟩)) ?_
        refine Rn.run 3 (ls' := [_, _, _, _, _, _, _, _]) (st' := [_, _]) rfl ?_
        refine Rn.ne2 rfl (fun e80 => absurd e80 (by exact fun h => h rfl)) (fun e80 => ?_)
        refine Rn.run 1 (ls' := [_, _, _, _, _, _, _, _]) (st' := [_]) rfl ?_
        refine Rn.call rfl rfl rfl rfl rfl (c170 (fun j hj => lf_in _ _ hj)) ?_
        refine Rn.run 3 (ls' := [_, _, _, _, _, _, _, _]) (st' := [_, _]) rfl ?_
        refine Rn.le2 rfl (fun e93 => ?_) (fun e93 => absurd e93 (by exact fun h => h (el.mpr (Nat.not_lt.mp hlt))))
        refine Rn.run 3 (ls' := [_, _, _, _, _, _, _, _]) (st' := []) rfl ?_
        exact q
  | succ m ih =>
    intro k l tr acc c u6 u7 hkm htr hs hl9 hl hfr hpre h64 hMO hA cont
    have k6 : k ≤ 6 := by omega
    have k7 : k < 7 := by omega
    have k71 : k + 1 < 7 := by omega
    have k31 : k < 2147483648 := by omega
    have k131 : k + 1 < 2147483648 := by omega
    have s6 := p64 hn hs
    have k0 : ¬ w32 (k : Int) < 0 := by rw [x_wn k31]; omega
    have N31 : N < 2147483648 := by omega
    have kN0 : k ≠ N := by omega
    have kN : w32 (k : Int) ≠ w32 (N : Int) := fun h => kN0 ((y_eq N31 k31).mp h)
    have inner : ∀ (w i : Nat) (a : Option (Nat × (Nat → Nat))) (c : Nat → Nat → Int), i + w = n → fr0 c0 c → (∀ j, j < k → c 64 j = (tr j : Nat)) → MO c N a → aok a → (∀ c2 u6 u7, fr0 c0 c2 → (∀ j, j < k → c2 64 j = (tr j : Nat)) → MO c2 N (xit (rsf kd bo wo n m k l (osd kd bo wo T L tr k).1 (osd kd bo wo T L tr k).2 tr) w i a) → aok (xit (rsf kd bo wo n m k l (osd kd bo wo T L tr k).1 (osd kd bo wo T L tr k).2 tr) w i a) → ∃ e, Rn ex xt196 (d + 8) 64 [xA 54, xI (set : Int), xI (r : Int), xI (N : Int), xI (mmo (xit (rsf kd bo wo n m k l (osd kd bo wo T L tr k).1 (osd kd bo wo T L tr k).2 tr) w i a)), xI ((k : Int) + -1), u6, u7] [] (hp c2 b) (xI V, hp e b) ∧ Q e) → ∃ e, Rn ex xt196 (d + 8) 122 [xA 54, xI (set : Int), xI (r : Int), xI (N : Int), xI (mmo a), xI (k : Int), xI (((osd kd bo wo T L tr k).1 : Nat) : Int), xI (i : Int)] [] (hp c b) (xI V, hp e b) ∧ Q e := by
      intro w
      induction w with
      | zero =>
        intro i a c hi hfr hpre hMO hA cont
        obtain rfl : i = n := by omega
        have hMc : mG c i kd bo wo := mG_fr hn (fun z _ => hfr 55 z (by decide) (by decide) (by decide)) hM
        have hM2 : mG (xup c 64 k (i : Nat)) i kd bo wo := mG_fr hn (fun z _ => xup_n _ _ (by omega)) hMc
        have i31 : i < 2147483648 := by omega
        obtain ⟨e, q, f⟩ := cont (xup c 64 k (i : Nat)) (xI (((osd kd bo wo T L tr k).1 : Nat) : Int)) (xI (i : Int)) (fun a z g1 g2 g3 => by rw [xup_n _ _ (by omega)]; exact hfr a z g1 g2 g3) (fun j hj => by rw [xup_n _ _ (by omega)]; exact hpre j hj) (MO_64 hMO (fun z => xup_n _ _ (by omega))) hA
        refine ⟨e, ?_, f⟩
        refine Rn.run 4 (ls' := [_, _, _, _, _, _, _, _]) (st' := [_, _, _]) rfl ?_
        refine Rn.ald rfl ⟨by decide, rfl⟩ (0) rfl (by decide) ?_
        rw [hMc.1]
        refine Rn.ge2 rfl (fun e130 => ?_) (fun e130 => absurd e130 (by exact fun h => h ((y_ge i31 i31).mpr (Nat.le_refl _))))
        refine Rn.run 4 (ls' := [_, _, _, _, _, _, _, _]) (st' := [_, _, _]) rfl ?_
        refine Rn.ast rfl ⟨by decide, rfl⟩ (k) (x_wn k31) k7 ?_
        refine Rn.run 4 (ls' := [_, _, _, _, _, _, _, _]) (st' := [_, _, _]) rfl ?_
        refine Rn.ald rfl ⟨by decide, rfl⟩ (0) rfl (by decide) ?_
        rw [hM2.1]
        refine Rn.ne2 rfl (fun e176 => absurd e176 (by exact fun h => h rfl)) (fun e176 => ?_)
        refine Rn.run 3 (ls' := [_, _, _, _, _, _, _, _]) (st' := []) rfl ?_
        exact q
      | succ w ihw =>
        intro i a c hi hfr hpre hMO hA cont
        have hMc : mG c n kd bo wo := mG_fr hn (fun z _ => hfr 55 z (by decide) (by decide) (by decide)) hM
        have iin : i < n := by omega
        have i6 : i < 6 := by omega
        have h3 := ho.2 i iin
        have ni : ¬ w32 (n : Int) ≤ w32 (i : Int) := fun h => absurd ((y_ge (by omega) (by omega)).mp h) (by omega)
        have n31 : n < 2147483648 := by omega
        have i31 : i < 2147483648 := by omega
        have nin : w32 (i : Int) ≠ w32 (n : Int) := fun h => Nat.ne_of_lt iin ((y_eq n31 i31).mp h)
        by_cases hb : set.testBit i = true
        · by_cases hk : can kd n (osd kd bo wo T L tr k).1 i = true
          · have sb : (osd kd bo wo T L tr k).1.testBit i = false := by
              unfold can at hk
              cases hz : (osd kd bo wo T L tr k).1.testBit i
              · rfl
              · rw [hz] at hk; simp at hk
            have lb : l.testBit i = true := by rw [hl i iin, hb, sb]; rfl
            have e1 : rsf kd bo wo n m k l (osd kd bo wo T L tr k).1 (osd kd bo wo T L tr k).2 tr i a = rs kd bo wo n m (k + 1) (l ^^^ (l &&& 2 ^ i)) ((osd kd bo wo T L tr k).1 ||| 2 ^ i) (tl kd bo wo i (osd kd bo wo T L tr k).2) (exn tr k i) a := if_pos ⟨lb, hk⟩
            have os := osd_s kd bo wo T L tr k i
            have hMd : mG (xup c 64 k (i : Nat)) n kd bo wo := mG_fr hn (fun z _ => xup_n _ _ (by omega)) hMc
            have ch := ih (k + 1) (l ^^^ (l &&& 2 ^ i)) (exn tr k i) a (xup (xup c 64 k (i : Nat)) 64 (k + 1) (-1)) (xI (((osd kd bo wo T L tr k).1 : Nat) : Int)) (xI (i : Int)) (by omega) (fun j hj => by
                unfold exn
                by_cases ej : j = k
                · rw [if_pos ej]; exact iin
                · rw [if_neg ej]; exact htr j (by omega)) (by rw [os]; exact orlt hs iin) (by rw [os]; exact tl_9 h3.2.2 h3.2.1 hl9) (fun j hj => by
                rw [os]
                show (l ^^^ (l &&& 2 ^ i)).testBit j = (set.testBit j && !((osd kd bo wo T L tr k).1 ||| 2 ^ i).testBit j)
                rw [Nat.testBit_xor, Nat.testBit_and, Nat.testBit_or, hl j hj]
                by_cases ej : j = i
                · rw [ej, Nat.testBit_two_pow_self]; simp
                · rw [Nat.testBit_two_pow_of_ne (by omega)]; simp) (fun a z g1 g2 g3 => by rw [xup_n _ _ (by omega), xup_n _ _ (by omega)]; exact hfr a z g1 g2 g3) (fun j hj => by
                rw [xup_n _ _ (by omega)]
                unfold exn
                by_cases ej : j = k
                · rw [ej, xup_s, if_pos rfl]
                · rw [xup_n _ _ (by omega), if_neg ej]; exact hpre j (by omega)) (xup_s _ _ _ _) (MO_64 hMO (fun z => by rw [xup_n _ _ (by omega), xup_n _ _ (by omega)])) hA
            rw [os] at ch
            have ch2 := ch (fun c2 w6 w7 f2 p2 m2 a2 => by
              change MO c2 N (rs kd bo wo n m (k + 1) (l ^^^ (l &&& 2 ^ i)) ((osd kd bo wo T L tr k).1 ||| 2 ^ i) (tl kd bo wo i (osd kd bo wo T L tr k).2) (exn tr k i) a) at m2
              change aok (rs kd bo wo n m (k + 1) (l ^^^ (l &&& 2 ^ i)) ((osd kd bo wo T L tr k).1 ||| 2 ^ i) (tl kd bo wo i (osd kd bo wo T L tr k).2) (exn tr k i) a) at a2
              rw [← e1] at m2 a2
              have pk2 : ∀ j, j < k → c2 64 j = (tr j : Nat) := fun j hj => by rw [p2 j (by omega)]; unfold exn; rw [if_neg (by omega)]
              have ck : c2 64 k = (i : Nat) := by rw [p2 k (by omega)]; unfold exn; rw [if_pos rfl]
              have hMc : mG c2 n kd bo wo := mG_fr hn (fun z _ => f2 55 z (by decide) (by decide) (by decide)) hM
              have hfr := f2
              have hpre := pk2
              obtain ⟨e, q, f⟩ := ihw (i + 1) (rsf kd bo wo n m k l (osd kd bo wo T L tr k).1 (osd kd bo wo T L tr k).2 tr i a) (lf c2 (osd kd bo wo T L tr k).2) (by omega) (fun a z g1 g2 g3 => by rw [lf_out _ _ g1]; exact f2 a z g1 g2 g3) (fun j hj => by rw [lf_out _ _ (by decide)]; exact pk2 j hj) (MO_64 m2 (fun z => lf_out _ _ (by decide))) a2 cont
              refine ⟨e, ?_, f⟩
              rw [show ((k + 1 : Nat) : Int) + -1 = (k : Int) by omega]
              show Rn ex xt196 (d + 8) 64 [xA 54, xI (set : Int), xI (r : Int), xI (N : Int), xI (mmo (rs kd bo wo n m (k + 1) (l ^^^ (l &&& 2 ^ i)) ((osd kd bo wo T L tr k).1 ||| 2 ^ i) (tl kd bo wo i (osd kd bo wo T L tr k).2) (exn tr k i) a)), xI (k : Int), w6, w7] [] (hp c2 b) (xI V, hp e b)
              rw [← e1]
              refine Rn.run 1 (ls' := [_, _, _, _, _, _, _, _]) (st' := [_]) rfl ?_
              refine Rn.lt0 rfl (fun e66 => absurd e66 (by exact k0)) (fun e66 => ?_)
              refine Rn.run 2 (ls' := [_, _, _, _, _, _, _, _]) (st' := [_, _]) rfl ?_
              refine Rn.call rfl rfl rfl rfl rfl (c193 ho hMc (by rw [hfr 55 2 (by decide) (by decide) (by decide)]; exact t2) (fun j hj => by rw [hfr 55 _ (by decide) (by decide) (by decide)]; exact l55 j hj) hT h9 k6 (fun j hj => ⟨hpre j hj, htr j hj⟩)) ?_
              refine Rn.run 3 (ls' := [_, _, _, _, _, _, _, _]) (st' := [_, _]) rfl ?_
              refine Rn.ne2 rfl (fun e80 => ?_) (fun e80 => absurd e80 (by exact fun h => h kN))
              refine Rn.run 3 (ls' := [_, _, _, _, _, _, _, _]) (st' := [_, _]) rfl ?_
              refine Rn.ald rfl ⟨by decide, rfl⟩ (k) (x_wn k31) k7 ?_
              rw [lf_out _ _ (by decide), ck]
              refine Rn.run 3 (ls' := [_, _, _, _, _, _, _, _]) (st' := []) rfl ?_
              exact q)
            obtain ⟨e, q, f⟩ := ch2
            refine ⟨e, ?_, f⟩
            refine Rn.run 4 (ls' := [_, _, _, _, _, _, _, _]) (st' := [_, _, _]) rfl ?_
            refine Rn.ald rfl ⟨by decide, rfl⟩ (0) rfl (by decide) ?_
            rw [hMc.1]
            refine Rn.ge2 rfl (fun e130 => absurd e130 (by exact ni)) (fun e130 => ?_)
            refine Rn.run 2 (ls' := [_, _, _, _, _, _, _, _]) (st' := [_, _]) rfl ?_
            refine Rn.call rfl rfl rfl rfl rfl (c132 hset i6) ?_
            refine Rn.eqB rfl (fun e139 => absurd e139 (by exact fun h => h hb)) (fun e139 => ?_)
            refine Rn.run 3 (ls' := [_, _, _, _, _, _, _, _]) (st' := [_, _, _]) rfl ?_
            refine Rn.call rfl rfl rfl rfl rfl (c165 ho hMc iin hs) ?_
            refine Rn.neB rfl (fun e150 => ?_) (fun e150 => absurd e150 (by exact fun h => h hk))
            refine Rn.run 4 (ls' := [_, _, _, _, _, _, _, _]) (st' := [_, _, _]) rfl ?_
            refine Rn.ast rfl ⟨by decide, rfl⟩ (k) (x_wn k31) k7 ?_
            refine Rn.run 4 (ls' := [_, _, _, _, _, _, _, _]) (st' := [_, _, _]) rfl ?_
            refine Rn.ald rfl ⟨by decide, rfl⟩ (0) rfl (by decide) ?_
            rw [hMd.1]
            refine Rn.ne2 rfl (fun e176 => ?_) (fun e176 => absurd e176 (by exact fun h => h nin))
            refine Rn.run 5 (ls' := [_, _, _, _, _, _, _, _]) (st' := [_, _, _]) rfl ?_
            refine Rn.ast rfl ⟨by decide, rfl⟩ (k + 1) (x_wn k131) k71 ?_
            refine Rn.run 1 (ls' := [_, _, _, _, _, _, _, _]) (st' := []) rfl ?_
            exact q
          · have e1 : rsf kd bo wo n m k l (osd kd bo wo T L tr k).1 (osd kd bo wo T L tr k).2 tr i a = a := if_neg (fun z => hk z.2)
            obtain ⟨e, q, f⟩ := ihw (i + 1) a c (by omega) hfr hpre hMO hA (by rw [xit, e1] at cont; exact cont)
            refine ⟨e, ?_, f⟩
            refine Rn.run 4 (ls' := [_, _, _, _, _, _, _, _]) (st' := [_, _, _]) rfl ?_
            refine Rn.ald rfl ⟨by decide, rfl⟩ (0) rfl (by decide) ?_
            rw [hMc.1]
            refine Rn.ge2 rfl (fun e130 => absurd e130 (by exact ni)) (fun e130 => ?_)
            refine Rn.run 2 (ls' := [_, _, _, _, _, _, _, _]) (st' := [_, _]) rfl ?_
            refine Rn.call rfl rfl rfl rfl rfl (c132 hset i6) ?_
            refine Rn.eqB rfl (fun e139 => absurd e139 (by exact fun h => h hb)) (fun e139 => ?_)
            refine Rn.run 3 (ls' := [_, _, _, _, _, _, _, _]) (st' := [_, _, _]) rfl ?_
            refine Rn.call rfl rfl rfl rfl rfl (c165 ho hMc iin hs) ?_
            refine Rn.neB rfl (fun e150 => absurd e150 (by exact hk)) (fun e150 => ?_)
            refine Rn.run 2 (ls' := [_, _, _, _, _, _, _, _]) (st' := []) rfl ?_
            exact q
        · have e1 : rsf kd bo wo n m k l (osd kd bo wo T L tr k).1 (osd kd bo wo T L tr k).2 tr i a = a := if_neg (fun z => hb (by have h := z.1; rw [hl i iin, Bool.and_eq_true] at h; exact h.1))
          obtain ⟨e, q, f⟩ := ihw (i + 1) a c (by omega) hfr hpre hMO hA (by rw [xit, e1] at cont; exact cont)
          refine ⟨e, ?_, f⟩
          refine Rn.run 4 (ls' := [_, _, _, _, _, _, _, _]) (st' := [_, _, _]) rfl ?_
          refine Rn.ald rfl ⟨by decide, rfl⟩ (0) rfl (by decide) ?_
          rw [hMc.1]
          refine Rn.ge2 rfl (fun e130 => absurd e130 (by exact ni)) (fun e130 => ?_)
          refine Rn.run 2 (ls' := [_, _, _, _, _, _, _, _]) (st' := [_, _]) rfl ?_
          refine Rn.call rfl rfl rfl rfl rfl (c132 hset i6) ?_
          refine Rn.eqB rfl (fun e139 => ?_) (fun e139 => absurd e139 (by exact hb))
          refine Rn.run 2 (ls' := [_, _, _, _, _, _, _, _]) (st' := []) rfl ?_
          exact q
    have hMc : mG c n kd bo wo := mG_fr hn (fun z _ => hfr 55 z (by decide) (by decide) (by decide)) hM
    obtain ⟨e, q, f⟩ := inner n 0 acc (lf c (osd kd bo wo T L tr k).2) (Nat.zero_add n) (fun a z g1 g2 g3 => by rw [lf_out _ _ g1]; exact hfr a z g1 g2 g3) (fun j hj => by rw [lf_out _ _ (by decide)]; exact hpre j hj) (MO_64 hMO (fun z => lf_out _ _ (by decide))) hA cont
    refine ⟨e, ?_, f⟩
    refine Rn.run 1 (ls' := [_, _, _, _, _, _, _, _]) (st' := [_]) rfl ?_
    refine Rn.lt0 rfl (fun e66 => absurd e66 (by exact k0)) (fun e66 => ?_)
    refine Rn.run 2 (ls' := [_, _, _, _, _, _, _, _]) (st' := [_, _]) rfl ?_
    refine Rn.call rfl rfl rfl rfl rfl (c193 ho hMc (by rw [hfr 55 2 (by decide) (by decide) (by decide)]; exact t2) (fun j hj => by rw [hfr 55 _ (by decide) (by decide) (by decide)]; exact l55 j hj) hT h9 k6 (fun j hj => ⟨hpre j hj, htr j hj⟩)) ?_
    refine Rn.run 3 (ls' := [_, _, _, _, _, _, _, _]) (st' := [_, _]) rfl ?_
    refine Rn.ne2 rfl (fun e80 => ?_) (fun e80 => absurd e80 (by exact fun h => h kN))
    refine Rn.run 3 (ls' := [_, _, _, _, _, _, _, _]) (st' := [_, _]) rfl ?_
    refine Rn.ald rfl ⟨by decide, rfl⟩ (k) (x_wn k31) k7 ?_
    rw [lf_out _ _ (by decide), h64]
    refine Rn.run 3 (ls' := [_, _, _, _, _, _, _, _]) (st' := []) rfl ?_
    exact q
