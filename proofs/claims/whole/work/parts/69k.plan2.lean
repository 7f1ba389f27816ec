-- plan: the model, the method
theorem l197 {ex : xO} {d : Nat} {b : Bool} {n : Nat} {kd bo wo : Nat → Nat} (ho : gok n kd bo wo) {c0 : Nat → Nat → Int} (hM : mG c0 n kd bo wo) {T : Nat} {L : Nat → Nat} (t2 : c0 55 2 = (T : Nat)) (l55 : ∀ j, j < 8 → c0 55 (3 + j) = (L j : Nat)) (hT : T < 64) (h9 : l9 L) {v j N : Nat} (hv : v ≤ 9) (hj : j < 8) (hN : N ≤ 6) {V : Int} {Q : (Nat → Nat → Int) → Prop} : ∀ (m k : Nat) (tr : Nat → Nat) (c : Nat → Nat → Int) (u5 u6 : xV), k + m = N → (∀ j, j < k → tr j < n) → (osd kd bo wo T L tr k).1 < 2 ^ n → l9 (osd kd bo wo T L tr k).2 → fr0 c0 c → (∀ j, j < k → c 64 j = (tr j : Nat)) → c 64 k = -1 → (∀ f c2, pa kd bo wo n v j m k (osd kd bo wo T L tr k) tr = some f → fr0 c0 c2 → (∀ i, i < N → c2 65 i = (f i : Nat)) → V = 1 ∧ Q c2) → (pa kd bo wo n v j m k (osd kd bo wo T L tr k) tr = none → ∀ c2 u5 u6, fr0 c0 c2 → (∀ j, j < k → c2 64 j = (tr j : Nat)) → ∃ e, Rn ex xt197 (d + 8) 10 [xA 54, xI (j : Int), xI (v : Int), xI (N : Int), xI ((k : Int) + -1), u5, u6] [] (hp c2 b) (xI V, hp e b) ∧ Q e) → ∃ e, Rn ex xt197 (d + 8) 10 [xA 54, xI (j : Int), xI (v : Int), xI (N : Int), xI (k : Int), u5, u6] [] (hp c b) (xI V, hp e b) ∧ Q e := by
  have hn := ho.1
  have j31 : j < 2147483648 := by omega
  intro m
  induction m with
  | zero =>
    intro k tr c u5 u6 hkm htr hs hl9 hfr hpre h64 hS hNo
    obtain rfl : k = N := by omega
    have k6 : k ≤ 6 := hN
    have hMc : mG c n kd bo wo := mG_fr hn (fun z _ => hfr 55 z (by decide) (by decide) (by decide)) hM
    have k0 : ¬ w32 (k : Int) < 0 := by rw [x_wn (by omega)]; omega
    have lfr : fr0 c0 (lf c (osd kd bo wo T L tr k).2) := fun a z g1 g2 g3 => by rw [lf_out _ _ g1]; exact hfr a z g1 g2 g3
    have lpre : ∀ j, j < k → lf c (osd kd bo wo T L tr k).2 64 j = (tr j : Nat) := fun j hj => by rw [lf_out _ _ (by decide)]; exact hpre j hj
    have l9j := hl9 j hj
    have ev : (w32 (((osd kd bo wo T L tr k).2 j : Nat) : Int) < w32 (v : Int)) ↔ (osd kd bo wo T L tr k).2 j < v := y_lt (n := (osd kd bo wo T L tr k).2 j) (i := v) (by omega) (by omega)
    by_cases hl : v ≤ (osd kd bo wo T L tr k).2 j
    · obtain ⟨rfl, hQ⟩ := hS tr (xfl3 (lf c (osd kd bo wo T L tr k).2) 65 0 k (fun i => ((tr i : Nat) : Int))) (if_pos hl) (fun a z g1 g2 g3 => by rw [xfl3_out _ _ (Or.inl g3)]; exact lfr a z g1 g2 g3) (fun i hi => by rw [xfl3_in _ _ ⟨Nat.zero_le i, hi⟩])
      refine ⟨_, ?_, hQ⟩
      refine Rn.run 1 (ls' := [_, _, _, _, _, _, _]) (st' := [_]) rfl ?_
      refine Rn.lt0 rfl (fun e12 => absurd e12 (by exact k0)) (fun e12 => ?_)
      refine Rn.run 2 (ls' := [_, _, _, _, _, _, _]) (st' := [_, _]) rfl ?_
      refine Rn.call rfl rfl rfl rfl rfl (c193 ho hMc (by rw [hfr 55 2 (by decide) (by decide) (by decide)]; exact t2) (fun j hj => by rw [hfr 55 _ (by decide) (by decide) (by decide)]; exact l55 j hj) hT h9 k6 (fun j hj => ⟨hpre j hj, htr j hj⟩)) ?_
      refine Rn.run 3 (ls' := [_, _, _, _, _, _, _]) (st' := [_, _]) rfl ?_
      refine Rn.ne2 rfl (fun e26 => absurd e26 (by exact fun h => h rfl)) (fun e26 => ?_)
      refine Rn.run 3 (ls' := [_, _, _, _, _, _, _]) (st' := [_, _]) rfl ?_
      refine Rn.ald rfl ⟨by decide, rfl⟩ (j) (x_wn j31) hj ?_
      rw [lf_in _ _ hj]
      refine Rn.run 1 (ls' := [_, _, _, _, _, _, _]) (st' := [_, _]) rfl ?_
      refine Rn.lt2 rfl (fun e36 => absurd e36 (by exact fun h => absurd (ev.mp h) (Nat.not_lt.mpr hl))) (fun e36 => ?_)
      refine Rn.run 2 (ls' := [_, _, _, _, _, _, _]) (st' := [_, _]) rfl ?_
      refine Rn.call rfl rfl rfl rfl rfl (c194 hN lpre) ?_
      refine Rn.run 1 (ls' := [_, _, _, _, _, _, _]) (st' := [_]) rfl ?_
      exact Rn.retZ rfl (Or.inr rfl) rfl
    · obtain ⟨e, q, f⟩ := hNo (if_neg hl) _ (xI (((osd kd bo wo T L tr k).1 : Nat) : Int)) u6 lfr lpre
      refine ⟨e, ?_, f⟩
      refine Rn.run 1 (ls' := [_, _, _, _, _, _, _]) (st' := [_]) rfl ?_
      refine Rn.lt0 rfl (fun e12 => absurd e12 (by exact k0)) (fun e12 => ?_)
      refine Rn.run 2 (ls' := [_, _, _, _, _, _, _]) (st' := [_, _]) rfl ?_
      refine Rn.call rfl rfl rfl rfl rfl (c193 ho hMc (by rw [hfr 55 2 (by decide) (by decide) (by decide)]; exact t2) (fun j hj => by rw [hfr 55 _ (by decide) (by decide) (by decide)]; exact l55 j hj) hT h9 k6 (fun j hj => ⟨hpre j hj, htr j hj⟩)) ?_
      refine Rn.run 3 (ls' := [_, _, _, _, _, _, _]) (st' := [_, _]) rfl ?_
      refine Rn.ne2 rfl (fun e26 => absurd e26 (by exact fun h => h rfl)) (fun e26 => ?_)
      refine Rn.run 3 (ls' := [_, _, _, _, _, _, _]) (st' := [_, _]) rfl ?_
      refine Rn.ald rfl ⟨by decide, rfl⟩ (j) (x_wn j31) hj ?_
      rw [lf_in _ _ hj]
      refine Rn.run 1 (ls' := [_, _, _, _, _, _, _]) (st' := [_, _]) rfl ?_
      refine Rn.lt2 rfl (fun e36 => ?_) (fun e36 => absurd e36 (by exact fun h => h (ev.mpr (Nat.not_le.mp hl))))
      refine Rn.run 3 (ls' := [_, _, _, _, _, _, _]) (st' := []) rfl ?_
      exact q
  | succ m ih =>
    intro k tr c u5 u6 hkm htr hs hl9 hfr hpre h64 hS hNo
    have k6 : k ≤ 6 := by omega
    have k7 : k < 7 := by omega
    have k71 : k + 1 < 7 := by omega
    have k31 : k < 2147483648 := by omega
    have k131 : k + 1 < 2147483648 := by omega
    have N31 : N < 2147483648 := by omega
    have kN0 : k ≠ N := by omega
    have k0 : ¬ w32 (k : Int) < 0 := by rw [x_wn k31]; omega
    have kN : w32 (k : Int) ≠ w32 (N : Int) := fun h => kN0 ((y_eq N31 k31).mp h)
    have inner : ∀ (w i : Nat) (c : Nat → Nat → Int), i + w = n → fr0 c0 c → (∀ j, j < k → c 64 j = (tr j : Nat)) → (∀ f c2, xit (paf (pa kd bo wo n v j m) kd bo wo n k (osd kd bo wo T L tr k).1 (osd kd bo wo T L tr k).2 tr) w i none = some f → fr0 c0 c2 → (∀ i, i < N → c2 65 i = (f i : Nat)) → V = 1 ∧ Q c2) → (xit (paf (pa kd bo wo n v j m) kd bo wo n k (osd kd bo wo T L tr k).1 (osd kd bo wo T L tr k).2 tr) w i none = none → ∀ c2 u5 u6, fr0 c0 c2 → (∀ j, j < k → c2 64 j = (tr j : Nat)) → ∃ e, Rn ex xt197 (d + 8) 10 [xA 54, xI (j : Int), xI (v : Int), xI (N : Int), xI ((k : Int) + -1), u5, u6] [] (hp c2 b) (xI V, hp e b) ∧ Q e) → ∃ e, Rn ex xt197 (d + 8) 63 [xA 54, xI (j : Int), xI (v : Int), xI (N : Int), xI (k : Int), xI (((osd kd bo wo T L tr k).1 : Nat) : Int), xI (i : Int)] [] (hp c b) (xI V, hp e b) ∧ Q e := by
      intro w
      induction w with
      | zero =>
        intro i c hi hfr hpre hS hNo
        obtain rfl : i = n := by omega
        have hMc : mG c i kd bo wo := mG_fr hn (fun z _ => hfr 55 z (by decide) (by decide) (by decide)) hM
        have hM2 : mG (xup c 64 k (i : Nat)) i kd bo wo := mG_fr hn (fun z _ => xup_n _ _ (by omega)) hMc
        have i31 : i < 2147483648 := by omega
        obtain ⟨e, q, f⟩ := hNo rfl (xup c 64 k (i : Nat)) (xI (((osd kd bo wo T L tr k).1 : Nat) : Int)) (xI (i : Int)) (fun a z g1 g2 g3 => by rw [xup_n _ _ (by omega)]; exact hfr a z g1 g2 g3) (fun j hj => by rw [xup_n _ _ (by omega)]; exact hpre j hj)
        refine ⟨e, ?_, f⟩
        refine Rn.run 4 (ls' := [_, _, _, _, _, _, _]) (st' := [_, _, _]) rfl ?_
        refine Rn.ald rfl ⟨by decide, rfl⟩ (0) rfl (by decide) ?_
        rw [hMc.1]
        refine Rn.ge2 rfl (fun e71 => ?_) (fun e71 => absurd e71 (by exact fun h => h ((y_ge i31 i31).mpr (Nat.le_refl _))))
        refine Rn.run 4 (ls' := [_, _, _, _, _, _, _]) (st' := [_, _, _]) rfl ?_
        refine Rn.ast rfl ⟨by decide, rfl⟩ (k) (x_wn k31) k7 ?_
        refine Rn.run 4 (ls' := [_, _, _, _, _, _, _]) (st' := [_, _, _]) rfl ?_
        refine Rn.ald rfl ⟨by decide, rfl⟩ (0) rfl (by decide) ?_
        rw [hM2.1]
        refine Rn.ne2 rfl (fun e108 => absurd e108 (by exact fun h => h rfl)) (fun e108 => ?_)
        refine Rn.run 3 (ls' := [_, _, _, _, _, _, _]) (st' := []) rfl ?_
        exact q
      | succ w ihw =>
        intro i c hi hfr hpre hS hNo
        have hMc : mG c n kd bo wo := mG_fr hn (fun z _ => hfr 55 z (by decide) (by decide) (by decide)) hM
        have iin : i < n := by omega
        have i6 : i < 6 := by omega
        have h3 := ho.2 i iin
        have n31 : n < 2147483648 := by omega
        have i31 : i < 2147483648 := by omega
        have ni : ¬ w32 (n : Int) ≤ w32 (i : Int) := fun h => absurd ((y_ge i31 n31).mp h) (Nat.not_le.mpr iin)
        have nin : w32 (i : Int) ≠ w32 (n : Int) := fun h => Nat.ne_of_lt iin ((y_eq n31 i31).mp h)
        by_cases hk : can kd n (osd kd bo wo T L tr k).1 i = true
        · have e1 : paf (pa kd bo wo n v j m) kd bo wo n k (osd kd bo wo T L tr k).1 (osd kd bo wo T L tr k).2 tr i none = pa kd bo wo n v j m (k + 1) ((osd kd bo wo T L tr k).1 ||| 2 ^ i, tl kd bo wo i (osd kd bo wo T L tr k).2) (exn tr k i) := if_pos hk
          have os := osd_s kd bo wo T L tr k i
          have hMd : mG (xup c 64 k (i : Nat)) n kd bo wo := mG_fr hn (fun z _ => xup_n _ _ (by omega)) hMc
          have ch := ih (k + 1) (exn tr k i) (xup (xup c 64 k (i : Nat)) 64 (k + 1) (-1)) (xI (((osd kd bo wo T L tr k).1 : Nat) : Int)) (xI (i : Int)) (by omega) (fun j hj => by
              unfold exn
              by_cases ej : j = k
              · rw [if_pos ej]; exact iin
              · rw [if_neg ej]; exact htr j (by omega)) (by rw [os]; exact orlt hs iin) (by rw [os]; exact tl_9 h3.2.2 h3.2.1 hl9) (fun a z g1 g2 g3 => by rw [xup_n _ _ (by omega), xup_n _ _ (by omega)]; exact hfr a z g1 g2 g3) (fun j hj => by
              rw [xup_n _ _ (by omega)]
              unfold exn
              by_cases ej : j = k
              · rw [ej, xup_s, if_pos rfl]
              · rw [xup_n _ _ (by omega), if_neg ej]; exact hpre j (by omega)) (xup_s _ _ _ _)
          rw [os] at ch
          have ch2 := ch (fun f c2 hR f2 p2 => hS f c2 (by rw [xit, e1, hR]; exact paf_some _ kd bo wo n k _ _ tr f w (i + 1)) f2 p2) (fun hR c2 w5 w6 f2 p2 => by
            have pk2 : ∀ j, j < k → c2 64 j = (tr j : Nat) := fun j hj => by rw [p2 j (by omega)]; unfold exn; rw [if_neg (by omega)]
            have ck : c2 64 k = (i : Nat) := by rw [p2 k (by omega)]; unfold exn; rw [if_pos rfl]
            have hMc : mG c2 n kd bo wo := mG_fr hn (fun z _ => f2 55 z (by decide) (by decide) (by decide)) hM
            have hfr := f2
            have hpre := pk2
            obtain ⟨e, q, f⟩ := ihw (i + 1) (lf c2 (osd kd bo wo T L tr k).2) (by omega) (fun a z g1 g2 g3 => by rw [lf_out _ _ g1]; exact f2 a z g1 g2 g3) (fun j hj => by rw [lf_out _ _ (by decide)]; exact pk2 j hj) (by rw [xit, e1, hR] at hS; exact hS) (by rw [xit, e1, hR] at hNo; exact hNo)
            refine ⟨e, ?_, f⟩
            rw [show ((k + 1 : Nat) : Int) + -1 = (k : Int) by omega]
            refine Rn.run 1 (ls' := [_, _, _, _, _, _, _]) (st' := [_]) rfl ?_
            refine Rn.lt0 rfl (fun e12 => absurd e12 (by exact k0)) (fun e12 => ?_)
            refine Rn.run 2 (ls' := [_, _, _, _, _, _, _]) (st' := [_, _]) rfl ?_
            refine Rn.call rfl rfl rfl rfl rfl (c193 ho hMc (by rw [hfr 55 2 (by decide) (by decide) (by decide)]; exact t2) (fun j hj => by rw [hfr 55 _ (by decide) (by decide) (by decide)]; exact l55 j hj) hT h9 k6 (fun j hj => ⟨hpre j hj, htr j hj⟩)) ?_
            refine Rn.run 3 (ls' := [_, _, _, _, _, _, _]) (st' := [_, _]) rfl ?_
            refine Rn.ne2 rfl (fun e26 => ?_) (fun e26 => absurd e26 (by exact fun h => h kN))
            refine Rn.run 3 (ls' := [_, _, _, _, _, _, _]) (st' := [_, _]) rfl ?_
            refine Rn.ald rfl ⟨by decide, rfl⟩ (k) (x_wn k31) k7 ?_
            rw [lf_out _ _ (by decide), ck]
            refine Rn.run 3 (ls' := [_, _, _, _, _, _, _]) (st' := []) rfl ?_
            exact q)
          obtain ⟨e, q, f⟩ := ch2
          refine ⟨e, ?_, f⟩
          refine Rn.run 4 (ls' := [_, _, _, _, _, _, _]) (st' := [_, _, _]) rfl ?_
          refine Rn.ald rfl ⟨by decide, rfl⟩ (0) rfl (by decide) ?_
          rw [hMc.1]
          refine Rn.ge2 rfl (fun e71 => absurd e71 (by exact ni)) (fun e71 => ?_)
          refine Rn.run 3 (ls' := [_, _, _, _, _, _, _]) (st' := [_, _, _]) rfl ?_
          refine Rn.call rfl rfl rfl rfl rfl (c165 ho hMc iin hs) ?_
          refine Rn.neB rfl (fun e82 => ?_) (fun e82 => absurd e82 (by exact fun h => h hk))
          refine Rn.run 4 (ls' := [_, _, _, _, _, _, _]) (st' := [_, _, _]) rfl ?_
          refine Rn.ast rfl ⟨by decide, rfl⟩ (k) (x_wn k31) k7 ?_
          refine Rn.run 4 (ls' := [_, _, _, _, _, _, _]) (st' := [_, _, _]) rfl ?_
          refine Rn.ald rfl ⟨by decide, rfl⟩ (0) rfl (by decide) ?_
          rw [hMd.1]
          refine Rn.ne2 rfl (fun e108 => ?_) (fun e108 => absurd e108 (by exact fun h => h nin))
          refine Rn.run 5 (ls' := [_, _, _, _, _, _, _]) (st' := [_, _, _]) rfl ?_
          refine Rn.ast rfl ⟨by decide, rfl⟩ (k + 1) (x_wn k131) k71 ?_
          refine Rn.run 1 (ls' := [_, _, _, _, _, _, _]) (st' := []) rfl ?_
          exact q
        · have e1 : paf (pa kd bo wo n v j m) kd bo wo n k (osd kd bo wo T L tr k).1 (osd kd bo wo T L tr k).2 tr i none = none := if_neg hk
          obtain ⟨e, q, f⟩ := ihw (i + 1) c (by omega) hfr hpre (by rw [xit, e1] at hS; exact hS) (by rw [xit, e1] at hNo; exact hNo)
          refine ⟨e, ?_, f⟩
          refine Rn.run 4 (ls' := [_, _, _, _, _, _, _]) (st' := [_, _, _]) rfl ?_
          refine Rn.ald rfl ⟨by decide, rfl⟩ (0) rfl (by decide) ?_
          rw [hMc.1]
          refine Rn.ge2 rfl (fun e71 => absurd e71 (by exact ni)) (fun e71 => ?_)
          refine Rn.run 3 (ls' := [_, _, _, _, _, _, _]) (st' := [_, _, _]) rfl ?_
          refine Rn.call rfl rfl rfl rfl rfl (c165 ho hMc iin hs) ?_
          refine Rn.neB rfl (fun e82 => absurd e82 (by exact hk)) (fun e82 => ?_)
          refine Rn.run 2 (ls' := [_, _, _, _, _, _, _]) (st' := []) rfl ?_
          exact q
    have hMc : mG c n kd bo wo := mG_fr hn (fun z _ => hfr 55 z (by decide) (by decide) (by decide)) hM
    obtain ⟨e, q, f⟩ := inner n 0 (lf c (osd kd bo wo T L tr k).2) (Nat.zero_add n) (fun a z g1 g2 g3 => by rw [lf_out _ _ g1]; exact hfr a z g1 g2 g3) (fun j hj => by rw [lf_out _ _ (by decide)]; exact hpre j hj) hS hNo
    refine ⟨e, ?_, f⟩
    refine Rn.run 1 (ls' := [_, _, _, _, _, _, _]) (st' := [_]) rfl ?_
    refine Rn.lt0 rfl (fun e12 => absurd e12 (by exact k0)) (fun e12 => ?_)
    refine Rn.run 2 (ls' := [_, _, _, _, _, _, _]) (st' := [_, _]) rfl ?_
    refine Rn.call rfl rfl rfl rfl rfl (c193 ho hMc (by rw [hfr 55 2 (by decide) (by decide) (by decide)]; exact t2) (fun j hj => by rw [hfr 55 _ (by decide) (by decide) (by decide)]; exact l55 j hj) hT h9 k6 (fun j hj => ⟨hpre j hj, htr j hj⟩)) ?_
    refine Rn.run 3 (ls' := [_, _, _, _, _, _, _]) (st' := [_, _]) rfl ?_
    refine Rn.ne2 rfl (fun e26 => ?_) (fun e26 => absurd e26 (by exact fun h => h kN))
    refine Rn.run 3 (ls' := [_, _, _, _, _, _, _]) (st' := [_, _]) rfl ?_
    refine Rn.ald rfl ⟨by decide, rfl⟩ (k) (x_wn k31) k7 ?_
    rw [lf_out _ _ (by decide), h64]
    refine Rn.run 3 (ls' := [_, _, _, _, _, _, _]) (st' := []) rfl ?_
    exact q
theorem c197 {ex : xO} {d : Nat} {c : Nat → Nat → Int} {b : Bool} {n D T Mo : Nat} {kd bo wo L : Nat → Nat} (hP : pS n kd bo wo D T Mo L) (hm : mS c n kd bo wo D T Mo L) {j v N : Nat} (hj : j < 8) (hv : v ≤ 9) (hN : N ≤ 6) : ∃ e, An ex (d + 8) 197 7 [xA 54, xI (j : Int), xI (v : Int), xI (N : Int)] (hp c b) (xI (if (pa kd bo wo n v j N 0 (T, L) (fun _ => 0)).isSome = true then 1 else 0), hp e b) ∧ fr0 c e ∧ ∀ f, pa kd bo wo n v j N 0 (T, L) (fun _ => 0) = some f → ∀ i, i < N → e 65 i = (f i : Nat) := by
  obtain ⟨ho, h40, hT, h9, hMo⟩ := hP
  obtain ⟨hM, d29, t2, l55, m1⟩ := hm
  have hn := ho.1
  have hT6 := p64 hn hT
  obtain ⟨e, q, f⟩ := l197 (ex := ex) (d := d) (b := b) (c0 := c) ho hM t2 l55 hT6 h9 hv hj hN (V := if (pa kd bo wo n v j N 0 (T, L) (fun _ => 0)).isSome = true then 1 else 0) (Q := fun e => fr0 c e ∧ ∀ f, pa kd bo wo n v j N 0 (T, L) (fun _ => 0) = some f → ∀ i, i < N → e 65 i = (f i : Nat)) N 0 (fun _ => 0) (xup c 64 0 (-1)) xU xU (Nat.zero_add N) (fun j hj => absurd hj (Nat.not_lt_zero j)) hT h9 (fun a z g1 g2 g3 => xup_n _ _ (by omega)) (fun j hj => absurd hj (Nat.not_lt_zero j)) (xup_s _ _ _ _) (fun f c2 hR f2 p2 => by
      have hR' : pa kd bo wo n v j N 0 (T, L) (fun _ => 0) = some f := hR
      rw [hR']
      exact ⟨rfl, f2, fun g hg => by cases hg; exact p2⟩) (fun hR c2 u5 u6 f2 p2 => by
      have hR' : pa kd bo wo n v j N 0 (T, L) (fun _ => 0) = none := hR
      rw [hR']
      refine ⟨c2, ?_, f2, fun g hg => (by cases hg)⟩
      refine Rn.run 1 (ls' := [_, _, _, _, _, _, _]) (st' := [_]) rfl ?_
      refine Rn.lt0 rfl (fun e12 => ?_) (fun e12 => absurd e12 (by decide))
      refine Rn.run 1 (ls' := [_, _, _, _, _, _, _]) (st' := [_]) rfl ?_
      exact Rn.retZ rfl (Or.inl rfl) rfl)
  refine ⟨e, ?_, f⟩
  refine Rn.run 6 (ls' := [_, _, _, _, _, _, _]) (st' := [_, _, _]) rfl ?_
  refine Rn.ast rfl ⟨by decide, rfl⟩ (0) rfl (by decide) ?_
  exact q
theorem l198 {ex : xO} {d : Nat} {c : Nat → Nat → Int} {b : Bool} {n D T Mo : Nat} {kd bo wo L : Nat → Nat} (hP : pS n kd bo wo D T Mo L) (hm : mS c n kd bo wo D T Mo L) {r j v : Nat} (hr : r < 6) (hj : j < 8) (hv : v ≤ 9) : ∀ (m i : Nat) (c' : Nat → Nat → Int), i + m = 7 → fr0 c c' → ∃ e, Rn ex xt198 (d + 10) 43 [xA 54, xI (j : Int), xI (v : Int), xI (r : Int), xI (i : Int)] [] (hp c' b) (xI (match fw (fun N => pa kd bo wo n v j N 0 (T, L) (fun _ => 0)) m i with | none => -9 | some q => (q.1 : Nat)), hp e b) ∧ (fw (fun N => pa kd bo wo n v j N 0 (T, L) (fun _ => 0)) m i = none → fr0 c e) ∧ ∀ q, fw (fun N => pa kd bo wo n v j N 0 (T, L) (fun _ => 0)) m i = some q → ∃ c2, fr0 c c2 ∧ e = xfl3 (xup c2 56 r (q.1 : Nat)) 57 (40 * r) (40 * r + 40) (fun y => if y - 40 * r < q.1 then ((q.2 (y - 40 * r) : Nat) : Int) else 0) := by
  intro m
  induction m with
  | zero =>
    intro i c' hmm fr
    obtain rfl : i = 7 := by omega
    refine ⟨c', ?_, fun _ => fr, fun q hq => (by cases hq)⟩
    refine Rn.run 2 (ls' := [_, _, _, _, _]) (st' := [_, _]) rfl ?_
    refine Rn.gt2 rfl (fun e47 => ?_) (fun e47 => absurd e47 (by decide))
    refine Rn.run 1 (ls' := [_, _, _, _, _]) (st' := [_]) rfl ?_
    exact Rn.ret rfl rfl rfl rfl rfl rfl
  | succ m ih =>
    intro i c' hmm fr
    have i6 : i ≤ 6 := by omega
    have i31 : i < 2147483648 := by omega
    have ni : ¬ w32 6 < w32 (i : Int) := fun h => absurd ((y_lt (n := 6) i31 (by decide)).mp h) (Nat.not_lt.mpr i6)
    obtain ⟨e2, r2, f2, o2⟩ := c197 (ex := ex) (d := d + 1) (b := b) hP (mS_fr (c' := c') (fun z => fr 55 z (by decide) (by decide) (by decide)) hm) hj hv i6
    have fr2 : fr0 c e2 := fun a z g1 g2 g3 => by rw [f2 a z g1 g2 g3]; exact fr a z g1 g2 g3
    cases hR : pa kd bo wo n v j i 0 (T, L) (fun _ => 0) with
    | some f =>
      rw [show fw (fun N => pa kd bo wo n v j N 0 (T, L) (fun _ => 0)) (m + 1) i = some (i, f) from fw_y hR]
      rw [hR] at r2
      refine ⟨xfl3 (xup e2 56 r (i : Nat)) 57 (40 * r) (40 * r + 40) (fun y => if y - 40 * r < i then ((f (y - 40 * r) : Nat) : Int) else 0), ?_, fun h => (by cases h), fun q hq => by cases hq; exact ⟨e2, fr2, rfl⟩⟩
      refine Rn.run 2 (ls' := [_, _, _, _, _]) (st' := [_, _]) rfl ?_
      refine Rn.gt2 rfl (fun e47 => absurd e47 (by exact ni)) (fun e47 => ?_)
      refine Rn.run 4 (ls' := [_, _, _, _, _]) (st' := [_, _, _, _]) rfl ?_
      refine Rn.call rfl rfl rfl rfl rfl (r2) ?_
      refine Rn.eq0 rfl (fun e58 => absurd e58 (by show ¬ w32 1 = 0; decide)) (fun e58 => ?_)
      refine Rn.run 3 (ls' := [_, _, _, _, _]) (st' := [_, _, _]) rfl ?_
      refine Rn.call rfl rfl rfl rfl rfl (c195 hr i6 (o2 f hR)) ?_
      refine Rn.run 1 (ls' := [_, _, _, _, _]) (st' := [_]) rfl ?_
      exact Rn.ret rfl rfl rfl rfl rfl rfl
    | none =>
      rw [show fw (fun N => pa kd bo wo n v j N 0 (T, L) (fun _ => 0)) (m + 1) i = fw (fun N => pa kd bo wo n v j N 0 (T, L) (fun _ => 0)) m (i + 1) from fw_n hR]
      rw [hR] at r2
      obtain ⟨e, q, o1, o⟩ := ih (i + 1) e2 (by omega) fr2
      refine ⟨e, ?_, o1, o⟩
      refine Rn.run 2 (ls' := [_, _, _, _, _]) (st' := [_, _]) rfl ?_
      refine Rn.gt2 rfl (fun e47 => absurd e47 (by exact ni)) (fun e47 => ?_)
      refine Rn.run 4 (ls' := [_, _, _, _, _]) (st' := [_, _, _, _]) rfl ?_
      refine Rn.call rfl rfl rfl rfl rfl (r2) ?_
      refine Rn.eq0 rfl (fun e58 => ?_) (fun e58 => absurd e58 (by decide))
      refine Rn.run 2 (ls' := [_, _, _, _, _]) (st' := []) rfl ?_
      exact q
theorem k81_b1 {ex : xO} {d : Nat} {c : Nat → Nat → Int} {b : Bool}  {a1 a2 a3 : Int} (h1 : w32 a1 = a1) (q1 : ¬ (0 ≤ a1 ∧ a1 < 8)) : An ex (d + 20) 81 5 [xA 0, xI a1, xI a2, xI a3] (hp c b) (xI (-1), hp (c) b) := by
  refine Rn.run 2 (ls' := [_, _, _, _, _]) (st' := [_, _]) rfl ?_
  refine Rn.call rfl rfl rfl rfl rfl (c100) ?_
  refine Rn.eqB rfl (fun e6 => ?_) (fun e6 => absurd e6 (by exact (z_no (m := 8) h1 (by omega) q1)))
  refine Rn.run 1 (ls' := [_, _, _, _, _]) (st' := [_]) rfl ?_
  exact Rn.ret rfl rfl rfl rfl rfl rfl
theorem k81_b2 {ex : xO} {d : Nat} {c : Nat → Nat → Int} {b : Bool}  {j : Nat} {a2 a3 : Int} (hj : j < 8) (h2 : w32 a2 = a2) (q2 : ¬ (0 ≤ a2 ∧ a2 < 10)) : An ex (d + 20) 81 5 [xA 0, xI (j : Int), xI a2, xI a3] (hp c b) (xI (-1), hp (c) b) := by
  refine Rn.run 2 (ls' := [_, _, _, _, _]) (st' := [_, _]) rfl ?_
  refine Rn.call rfl rfl rfl rfl rfl (c100) ?_
  refine Rn.eqB rfl (fun e6 => absurd e6 (by exact fun h => h (z_in (m := 8) hj (by omega)))) (fun e6 => ?_)
  refine Rn.run 2 (ls' := [_, _, _, _, _]) (st' := [_, _]) rfl ?_
  refine Rn.call rfl rfl rfl rfl rfl (c100) ?_
  refine Rn.eqB rfl (fun e15 => ?_) (fun e15 => absurd e15 (by exact (z_no (m := 10) h2 (by omega) q2)))
  refine Rn.run 1 (ls' := [_, _, _, _, _]) (st' := [_]) rfl ?_
  exact Rn.ret rfl rfl rfl rfl rfl rfl
theorem k81_b3 {ex : xO} {d : Nat} {c : Nat → Nat → Int} {b : Bool}  {j v : Nat} {a3 : Int} (hj : j < 8) (hv : v ≤ 9) (h3 : w32 a3 = a3) (q3 : ¬ (0 ≤ a3 ∧ a3 < 6)) : An ex (d + 20) 81 5 [xA 0, xI (j : Int), xI (v : Int), xI a3] (hp c b) (xI (-1), hp (c) b) := by
  have v10 : v < 10 := by omega
  refine Rn.run 2 (ls' := [_, _, _, _, _]) (st' := [_, _]) rfl ?_
  refine Rn.call rfl rfl rfl rfl rfl (c100) ?_
  refine Rn.eqB rfl (fun e6 => absurd e6 (by exact fun h => h (z_in (m := 8) hj (by omega)))) (fun e6 => ?_)
  refine Rn.run 2 (ls' := [_, _, _, _, _]) (st' := [_, _]) rfl ?_
  refine Rn.call rfl rfl rfl rfl rfl (c100) ?_
  refine Rn.eqB rfl (fun e15 => absurd e15 (by exact fun h => h (z_in (m := 10) v10 (by omega)))) (fun e15 => ?_)
  refine Rn.run 2 (ls' := [_, _, _, _, _]) (st' := [_, _]) rfl ?_
  refine Rn.call rfl rfl rfl rfl rfl (c100) ?_
  refine Rn.neB rfl (fun e24 => absurd e24 (by exact (z_no (m := 6) h3 (by omega) q3))) (fun e24 => ?_)
  refine Rn.run 1 (ls' := [_, _, _, _, _]) (st' := [_]) rfl ?_
  exact Rn.ret rfl rfl rfl rfl rfl rfl
theorem k81_st {ex : xO} {d : Nat} {c : Nat → Nat → Int} {b : Bool} {n D T Mo : Nat} {kd bo wo L : Nat → Nat} (hP : pS n kd bo wo D T Mo L) (hc : cS c b n kd bo wo D T Mo L) {j v r : Nat} (hj : j < 8) (hv : v ≤ 9) (hr : r < 6) (h0 : n = 0) : An ex (d + 20) 81 5 [xA 0, xI (j : Int), xI (v : Int), xI (r : Int)] (hp c b) (xI (-4), hp (c) b) := by
  obtain ⟨ho, h40, hT, h9, hMo⟩ := hP
  obtain ⟨hC, d7, t9, hL, m10⟩ := hc
  have hn := ho.1
  have hT6 := p64 hn hT
  have v10 : v < 10 := by omega
  refine Rn.run 2 (ls' := [_, _, _, _, _]) (st' := [_, _]) rfl ?_
  refine Rn.call rfl rfl rfl rfl rfl (c100) ?_
  refine Rn.eqB rfl (fun e6 => absurd e6 (by exact fun h => h (z_in (m := 8) hj (by omega)))) (fun e6 => ?_)
  refine Rn.run 2 (ls' := [_, _, _, _, _]) (st' := [_, _]) rfl ?_
  refine Rn.call rfl rfl rfl rfl rfl (c100) ?_
  refine Rn.eqB rfl (fun e15 => absurd e15 (by exact fun h => h (z_in (m := 10) v10 (by omega)))) (fun e15 => ?_)
  refine Rn.run 2 (ls' := [_, _, _, _, _]) (st' := [_, _]) rfl ?_
  refine Rn.call rfl rfl rfl rfl rfl (c100) ?_
  refine Rn.neB rfl (fun e24 => ?_) (fun e24 => absurd e24 (by exact fun h => h (z_in (m := 6) hr (by omega))))
  refine Rn.run 1 (ls' := [_, _, _, _, _]) (st' := [_]) rfl ?_
  refine Rn.getR rfl ⟨by decide, rfl, rfl⟩ (j := gid b) (rfl) ?_
  refine Rn.getI rfl (xS_g b) ?_
  rw [hC.1]
  refine Rn.ne0 rfl (fun e36 => absurd e36 (by rw [h0]; decide)) (fun e36 => ?_)
  refine Rn.run 1 (ls' := [_, _, _, _, _]) (st' := [_]) rfl ?_
  exact Rn.ret rfl rfl rfl rfl rfl rfl
theorem k198_b1 {ex : xO} {d : Nat} {c : Nat → Nat → Int} {b : Bool}  {a1 a2 a3 : Int} (h1 : w32 a1 = a1) (q1 : ¬ (0 ≤ a1 ∧ a1 < 8)) : An ex (d + 20) 198 5 [xA 54, xI a1, xI a2, xI a3] (hp c b) (xI (-1), hp (c) b) := by
  refine Rn.run 1 (ls' := [_, _, _, _, _]) (st' := [_]) rfl ?_
  refine Rn.call rfl rfl rfl rfl rfl (c141) ?_
  refine Rn.eqB rfl (fun e4 => ?_) (fun e4 => absurd e4 (by exact (z_no' (m := 8) h1 q1)))
  refine Rn.run 1 (ls' := [_, _, _, _, _]) (st' := [_]) rfl ?_
  exact Rn.ret rfl rfl rfl rfl rfl rfl
theorem k198_b2 {ex : xO} {d : Nat} {c : Nat → Nat → Int} {b : Bool}  {j : Nat} {a2 a3 : Int} (hj : j < 8) (h2 : w32 a2 = a2) (q2 : ¬ (0 ≤ a2 ∧ a2 < 10)) : An ex (d + 20) 198 5 [xA 54, xI (j : Int), xI a2, xI a3] (hp c b) (xI (-1), hp (c) b) := by
  refine Rn.run 1 (ls' := [_, _, _, _, _]) (st' := [_]) rfl ?_
  refine Rn.call rfl rfl rfl rfl rfl (c141) ?_
  refine Rn.eqB rfl (fun e4 => absurd e4 (by exact fun h => h (z_in' (m := 8) hj (by omega)))) (fun e4 => ?_)
  refine Rn.run 4 (ls' := [_, _, _, _, _]) (st' := [_, _, _]) rfl ?_
  refine Rn.call rfl rfl rfl rfl rfl (c131) ?_
  refine Rn.eqB rfl (fun e16 => ?_) (fun e16 => absurd e16 (by exact (z_no9 (m := 9) h2 (by decide) q2)))
  refine Rn.run 1 (ls' := [_, _, _, _, _]) (st' := [_]) rfl ?_
  exact Rn.ret rfl rfl rfl rfl rfl rfl
theorem k198_b3 {ex : xO} {d : Nat} {c : Nat → Nat → Int} {b : Bool}  {j v : Nat} {a3 : Int} (hj : j < 8) (hv : v ≤ 9) (h3 : w32 a3 = a3) (q3 : ¬ (0 ≤ a3 ∧ a3 < 6)) : An ex (d + 20) 198 5 [xA 54, xI (j : Int), xI (v : Int), xI a3] (hp c b) (xI (-1), hp (c) b) := by
  refine Rn.run 1 (ls' := [_, _, _, _, _]) (st' := [_]) rfl ?_
  refine Rn.call rfl rfl rfl rfl rfl (c141) ?_
  refine Rn.eqB rfl (fun e4 => absurd e4 (by exact fun h => h (z_in' (m := 8) hj (by omega)))) (fun e4 => ?_)
  refine Rn.run 4 (ls' := [_, _, _, _, _]) (st' := [_, _, _]) rfl ?_
  refine Rn.call rfl rfl rfl rfl rfl (c131) ?_
  refine Rn.eqB rfl (fun e16 => absurd e16 (by exact fun h => h (z_in9 (m := 9) hv (by decide)))) (fun e16 => ?_)
  refine Rn.run 1 (ls' := [_, _, _, _, _]) (st' := [_]) rfl ?_
  refine Rn.call rfl rfl rfl rfl rfl (c138) ?_
  refine Rn.neB rfl (fun e23 => absurd e23 (by exact (z_no' (m := 6) h3 q3))) (fun e23 => ?_)
  refine Rn.run 1 (ls' := [_, _, _, _, _]) (st' := [_]) rfl ?_
  exact Rn.ret rfl rfl rfl rfl rfl rfl
theorem k198_st {ex : xO} {d : Nat} {c : Nat → Nat → Int} {b : Bool} {n D T Mo : Nat} {kd bo wo L : Nat → Nat} (hP : pS n kd bo wo D T Mo L) (hm : mS c n kd bo wo D T Mo L) {j v r : Nat} (hj : j < 8) (hv : v ≤ 9) (hr : r < 6) (h0 : n = 0) : An ex (d + 20) 198 5 [xA 54, xI (j : Int), xI (v : Int), xI (r : Int)] (hp c b) (xI (-4), hp (c) b) := by
  obtain ⟨ho, h40, hT, h9, hMo⟩ := hP
  obtain ⟨hM, d29, t2, l55, m1⟩ := hm
  have hn := ho.1
  have hT6 := p64 hn hT
  refine Rn.run 1 (ls' := [_, _, _, _, _]) (st' := [_]) rfl ?_
  refine Rn.call rfl rfl rfl rfl rfl (c141) ?_
  refine Rn.eqB rfl (fun e4 => absurd e4 (by exact fun h => h (z_in' (m := 8) hj (by omega)))) (fun e4 => ?_)
  refine Rn.run 4 (ls' := [_, _, _, _, _]) (st' := [_, _, _]) rfl ?_
  refine Rn.call rfl rfl rfl rfl rfl (c131) ?_
  refine Rn.eqB rfl (fun e16 => absurd e16 (by exact fun h => h (z_in9 (m := 9) hv (by decide)))) (fun e16 => ?_)
  refine Rn.run 1 (ls' := [_, _, _, _, _]) (st' := [_]) rfl ?_
  refine Rn.call rfl rfl rfl rfl rfl (c138) ?_
  refine Rn.neB rfl (fun e23 => ?_) (fun e23 => absurd e23 (by exact fun h => h (z_in' (m := 6) hr (by decide))))
  refine Rn.run 3 (ls' := [_, _, _, _, _]) (st' := [_, _]) rfl ?_
  refine Rn.ald rfl ⟨by decide, rfl⟩ (0) rfl (by decide) ?_
  rw [hM.1]
  refine Rn.ne0 rfl (fun e34 => absurd e34 (by rw [h0]; decide)) (fun e34 => ?_)
  refine Rn.run 1 (ls' := [_, _, _, _, _]) (st' := [_]) rfl ?_
  exact Rn.ret rfl rfl rfl rfl rfl rfl
theorem c35 {ex : xO} {d : Nat} {b : Bool} {c : Nat → Nat → Int} {j v : Int} : An ex d 35 3 [xA 4, xI j, xI v] (hp c b) (xU, hp (xup (xup c 4 4 j) 4 5 v) b) := by
  refine Rn.run 6 (ls' := [_, _, _]) (st' := []) rfl ?_
  exact Rn.ret rfl rfl rfl rfl rfl rfl
theorem c36 {ex : xO} {d : Nat} {b : Bool} {c : Nat → Nat → Int} {n : Nat} {kd bo wo : Nat → Nat} (ho : gok n kd bo wo) {v j T : Nat} {X : Int} {L : Nat → Nat} (hv : v ≤ 9) (hj : j < 8) (hT : T < 64) (hX : pk X L) (h9 : l9 L) (hC : cG c b n kd bo wo) (h4 : c 4 4 = (j : Nat)) (h5 : c 4 5 = (v : Nat)) : ∃ e, An ex (d + 14) 36 5 [xA 4, xA (gid b), xI X, xI (T : Int)] (hp c b) (xI (match fw (fun N => pa kd bo wo n v j N 0 (T, L) (fun _ => 0)) 7 0 with | none => -9 | some q => (q.1 : Nat)), hp e b) ∧ (∀ q, fw (fun N => pa kd bo wo n v j N 0 (T, L) (fun _ => 0)) 7 0 = some q → q.1 ≤ 6 ∧ e 4 2 = (q.1 : Nat) ∧ ∀ i, i < q.1 → e 6 i = (q.2 i : Nat)) ∧ ∀ a z, ¬ (4 ≤ a ∧ a ≤ 6) → e a z = c a z := by
  obtain ⟨e, r, o, f⟩ := l36 (ex := ex) (d := d) (b := b) ho hv hj hT hX h9 7 0 c rfl hC h4 h5
  refine ⟨e, ?_, o, f⟩
  refine Rn.run 2 (ls' := [_, _, _, _, _]) (st' := []) rfl ?_
  exact r
theorem k81_n {ex : xO} {d : Nat} {c : Nat → Nat → Int} {b : Bool} {n D T Mo : Nat} {kd bo wo L : Nat → Nat} (hP : pS n kd bo wo D T Mo L) (hc : cS c b n kd bo wo D T Mo L) {j v r : Nat} (hj : j < 8) (hv : v ≤ 9) (hr : r < 6) (h0 : n ≠ 0) (hR : fw (fun N => pa kd bo wo n v j N 0 (T, L) (fun _ => 0)) 7 0 = none) : ∃ e, An ex (d + 20) 81 5 [xA 0, xI (j : Int), xI (v : Int), xI (r : Int)] (hp c b) (xI (-9), hp e b) ∧ ∀ a z, ¬ (4 ≤ a ∧ a ≤ 6) → e a z = c a z := by
  obtain ⟨ho, h40, hT, h9, hMo⟩ := hP
  obtain ⟨hC, d7, t9, hL, m10⟩ := hc
  have hn := ho.1
  have hT6 := p64 hn hT
  have v10 : v < 10 := by omega
  have hg := gid_in b
  obtain ⟨e, q, o, f⟩ := c36 (ex := ex) (d := d + 5) (b := b) (c := xup (xup c 4 4 (j : Nat)) 4 5 (v : Nat)) ho hv hj hT6 hL h9 (cG_fr (fun a z h => by rw [xup_n _ _ (by omega), xup_n _ _ (by omega)]) hC) (by rw [xup_n _ _ (by omega), xup_s]) (xup_s _ _ _ _)
  rw [hR] at q o
  have d7' : xup (xup c 4 4 (j : Nat)) 4 5 (v : Nat) 7 0 = (D : Nat) := by rw [xup_n _ _ (by omega), xup_n _ _ (by omega)]; exact d7
  refine ⟨e, ?_, fun a z h => by rw [f a z h, xup_n _ _ (by omega), xup_n _ _ (by omega)]⟩
  refine Rn.run 2 (ls' := [_, _, _, _, _]) (st' := [_, _]) rfl ?_
  refine Rn.call rfl rfl rfl rfl rfl (c100) ?_
  refine Rn.eqB rfl (fun e6 => absurd e6 (by exact fun h => h (z_in (m := 8) hj (by omega)))) (fun e6 => ?_)
  refine Rn.run 2 (ls' := [_, _, _, _, _]) (st' := [_, _]) rfl ?_
  refine Rn.call rfl rfl rfl rfl rfl (c100) ?_
  refine Rn.eqB rfl (fun e15 => absurd e15 (by exact fun h => h (z_in (m := 10) v10 (by omega)))) (fun e15 => ?_)
  refine Rn.run 2 (ls' := [_, _, _, _, _]) (st' := [_, _]) rfl ?_
  refine Rn.call rfl rfl rfl rfl rfl (c100) ?_
  refine Rn.neB rfl (fun e24 => ?_) (fun e24 => absurd e24 (by exact fun h => h (z_in (m := 6) hr (by omega))))
  refine Rn.run 1 (ls' := [_, _, _, _, _]) (st' := [_]) rfl ?_
  refine Rn.getR rfl ⟨by decide, rfl, rfl⟩ (j := gid b) (rfl) ?_
  refine Rn.getI rfl (xS_g b) ?_
  rw [hC.1]
  refine Rn.ne0 rfl (fun e36 => ?_) (fun e36 => absurd e36 (by exact fun h => h (z_ne0 h0 hn)))
  refine Rn.run 4 (ls' := [_, _, _, _, _]) (st' := [_, _, _]) rfl ?_
  refine Rn.call rfl rfl rfl rfl rfl (c35) ?_
  refine Rn.run 3 (ls' := [_, _, _, _, _]) (st' := [_, _]) rfl ?_
  refine Rn.getR rfl ⟨by decide, rfl, rfl⟩ (j := gid b) (rfl) ?_
  refine Rn.run 2 (ls' := [_, _, _, _, _]) (st' := [_, _, _]) rfl ?_
  refine Rn.call rfl rfl rfl rfl rfl (c10 d7' h40) ?_
  rw [xup_n _ _ (by omega), xup_n _ _ (by omega)]
  refine Rn.run 2 (ls' := [_, _, _, _, _]) (st' := [_, _, _, _]) rfl ?_
  refine Rn.call rfl rfl rfl rfl rfl (c11 d7' h40) ?_
  rw [xup_n _ _ (by omega), xup_n _ _ (by omega), t9]
  refine Rn.call rfl rfl rfl rfl rfl (q) ?_
  refine Rn.run 3 (ls' := [_, _, _, _, _]) (st' := [_, _]) rfl ?_
  refine Rn.eq2 rfl (fun e82 => ?_) (fun e82 => absurd e82 (by exact fun h => h rfl))
  refine Rn.run 1 (ls' := [_, _, _, _, _]) (st' := [_]) rfl ?_
  exact Rn.ret rfl rfl rfl rfl rfl rfl
theorem k81_o {ex : xO} {d : Nat} {c : Nat → Nat → Int} {b : Bool} {n D T Mo : Nat} {kd bo wo L : Nat → Nat} (hP : pS n kd bo wo D T Mo L) (hc : cS c b n kd bo wo D T Mo L) {j v r : Nat} (hj : j < 8) (hv : v ≤ 9) (hr : r < 6) (h0 : n ≠ 0) {w : Nat × (Nat → Nat)} (hR : fw (fun N => pa kd bo wo n v j N 0 (T, L) (fun _ => 0)) 7 0 = some w) : w.1 ≤ 6 ∧ ∃ e, An ex (d + 20) 81 5 [xA 0, xI (j : Int), xI (v : Int), xI (r : Int)] (hp c b) (xI ((w.1 : Nat) : Int), hp e b) ∧ e (22 + 2 * r) 0 = (w.1 : Nat) ∧ (∀ k, k < 40 → e (23 + 2 * r) k = if k < w.1 then ((w.2 k : Nat) : Int) else 0) ∧ ∀ a z, ¬ (4 ≤ a ∧ a ≤ 6) → a ≠ 22 + 2 * r → a ≠ 23 + 2 * r → e a z = c a z := by
  obtain ⟨ho, h40, hT, h9, hMo⟩ := hP
  obtain ⟨hC, d7, t9, hL, m10⟩ := hc
  have hn := ho.1
  have hT6 := p64 hn hT
  have v10 : v < 10 := by omega
  have hg := gid_in b
  obtain ⟨e, q, o, f⟩ := c36 (ex := ex) (d := d + 5) (b := b) (c := xup (xup c 4 4 (j : Nat)) 4 5 (v : Nat)) ho hv hj hT6 hL h9 (cG_fr (fun a z h => by rw [xup_n _ _ (by omega), xup_n _ _ (by omega)]) hC) (by rw [xup_n _ _ (by omega), xup_s]) (xup_s _ _ _ _)
  rw [hR] at q o
  have d7' : xup (xup c 4 4 (j : Nat)) 4 5 (v : Nat) 7 0 = (D : Nat) := by rw [xup_n _ _ (by omega), xup_n _ _ (by omega)]; exact d7
  obtain ⟨w6, o2, o3⟩ := o w rfl
  have w9 : ¬ w32 ((w.1 : Nat) : Int) = w32 (-9) := by rw [x_wn (by omega), show w32 (-9) = -9 from rfl]; omega
  refine ⟨w6, lyi e r w.1, ?_, lyi_0 _, fun k hk => ?_, fun a z h1 h2 h3 => by rw [lyi_o _ h2 h3, f a z h1, xup_n _ _ (by omega), xup_n _ _ (by omega)]⟩
  · refine Rn.run 2 (ls' := [_, _, _, _, _]) (st' := [_, _]) rfl ?_
    refine Rn.call rfl rfl rfl rfl rfl (c100) ?_
    refine Rn.eqB rfl (fun e6 => absurd e6 (by exact fun h => h (z_in (m := 8) hj (by omega)))) (fun e6 => ?_)
    refine Rn.run 2 (ls' := [_, _, _, _, _]) (st' := [_, _]) rfl ?_
    refine Rn.call rfl rfl rfl rfl rfl (c100) ?_
    refine Rn.eqB rfl (fun e15 => absurd e15 (by exact fun h => h (z_in (m := 10) v10 (by omega)))) (fun e15 => ?_)
    refine Rn.run 2 (ls' := [_, _, _, _, _]) (st' := [_, _]) rfl ?_
    refine Rn.call rfl rfl rfl rfl rfl (c100) ?_
    refine Rn.neB rfl (fun e24 => ?_) (fun e24 => absurd e24 (by exact fun h => h (z_in (m := 6) hr (by omega))))
    refine Rn.run 1 (ls' := [_, _, _, _, _]) (st' := [_]) rfl ?_
    refine Rn.getR rfl ⟨by decide, rfl, rfl⟩ (j := gid b) (rfl) ?_
    refine Rn.getI rfl (xS_g b) ?_
    rw [hC.1]
    refine Rn.ne0 rfl (fun e36 => ?_) (fun e36 => absurd e36 (by exact fun h => h (z_ne0 h0 hn)))
    refine Rn.run 4 (ls' := [_, _, _, _, _]) (st' := [_, _, _]) rfl ?_
    refine Rn.call rfl rfl rfl rfl rfl (c35) ?_
    refine Rn.run 3 (ls' := [_, _, _, _, _]) (st' := [_, _]) rfl ?_
    refine Rn.getR rfl ⟨by decide, rfl, rfl⟩ (j := gid b) (rfl) ?_
    refine Rn.run 2 (ls' := [_, _, _, _, _]) (st' := [_, _, _]) rfl ?_
    refine Rn.call rfl rfl rfl rfl rfl (c10 d7' h40) ?_
    rw [xup_n _ _ (by omega), xup_n _ _ (by omega)]
    refine Rn.run 2 (ls' := [_, _, _, _, _]) (st' := [_, _, _, _]) rfl ?_
    refine Rn.call rfl rfl rfl rfl rfl (c11 d7' h40) ?_
    rw [xup_n _ _ (by omega), xup_n _ _ (by omega), t9]
    refine Rn.call rfl rfl rfl rfl rfl (q) ?_
    refine Rn.run 3 (ls' := [_, _, _, _, _]) (st' := [_, _]) rfl ?_
    refine Rn.eq2 rfl (fun e82 => absurd e82 (by exact w9)) (fun e82 => ?_)
    refine Rn.run 5 (ls' := [_, _, _, _, _]) (st' := [_, _, _]) rfl ?_
    refine Rn.aald rfl ⟨by decide, rfl, by decide, by decide⟩ (r) (x_wn (n := r) (by omega)) (by omega) (xR_row hr).1 ?_
    refine Rn.call rfl rfl rfl rfl rfl (c39 hr w6 o2) ?_
    refine Rn.run 1 (ls' := [_, _, _, _, _]) (st' := [_]) rfl ?_
    exact Rn.ret rfl rfl rfl rfl rfl rfl
  · rw [lyi_k _ hk]
    by_cases h : k < w.1
    · rw [if_pos h, if_pos h]; exact o3 k h
    · rw [if_neg h, if_neg h]
theorem k198_o {ex : xO} {d : Nat} {c : Nat → Nat → Int} {b : Bool} {n D T Mo : Nat} {kd bo wo L : Nat → Nat} (hP : pS n kd bo wo D T Mo L) (hm : mS c n kd bo wo D T Mo L) {j v r : Nat} (hj : j < 8) (hv : v ≤ 9) (hr : r < 6) (h0 : n ≠ 0) : ∃ e, An ex (d + 20) 198 5 [xA 54, xI (j : Int), xI (v : Int), xI (r : Int)] (hp c b) (xI (match fw (fun N => pa kd bo wo n v j N 0 (T, L) (fun _ => 0)) 7 0 with | none => -9 | some q => (q.1 : Nat)), hp e b) ∧ (fw (fun N => pa kd bo wo n v j N 0 (T, L) (fun _ => 0)) 7 0 = none → fr0 c e) ∧ ∀ q, fw (fun N => pa kd bo wo n v j N 0 (T, L) (fun _ => 0)) 7 0 = some q → ∃ c2, fr0 c c2 ∧ e = xfl3 (xup c2 56 r (q.1 : Nat)) 57 (40 * r) (40 * r + 40) (fun y => if y - 40 * r < q.1 then ((q.2 (y - 40 * r) : Nat) : Int) else 0) := by
  obtain ⟨ho, h40, hT, h9, hMo⟩ := hP
  obtain ⟨hM, d29, t2, l55, m1⟩ := hm
  have hn := ho.1
  have hT6 := p64 hn hT
  obtain ⟨e, q, o⟩ := l198 (ex := ex) (d := d + 10) (b := b) (c := c) ⟨ho, h40, hT, h9, hMo⟩ ⟨hM, d29, t2, l55, m1⟩ hr hj hv 7 0 c rfl (fun _ _ _ _ _ => rfl)
  refine ⟨e, ?_, o⟩
  refine Rn.run 1 (ls' := [_, _, _, _, _]) (st' := [_]) rfl ?_
  refine Rn.call rfl rfl rfl rfl rfl (c141) ?_
  refine Rn.eqB rfl (fun e4 => absurd e4 (by exact fun h => h (z_in' (m := 8) hj (by omega)))) (fun e4 => ?_)
  refine Rn.run 4 (ls' := [_, _, _, _, _]) (st' := [_, _, _]) rfl ?_
  refine Rn.call rfl rfl rfl rfl rfl (c131) ?_
  refine Rn.eqB rfl (fun e16 => absurd e16 (by exact fun h => h (z_in9 (m := 9) hv (by decide)))) (fun e16 => ?_)
  refine Rn.run 1 (ls' := [_, _, _, _, _]) (st' := [_]) rfl ?_
  refine Rn.call rfl rfl rfl rfl rfl (c138) ?_
  refine Rn.neB rfl (fun e23 => ?_) (fun e23 => absurd e23 (by exact fun h => h (z_in' (m := 6) hr (by decide))))
  refine Rn.run 3 (ls' := [_, _, _, _, _]) (st' := [_, _]) rfl ?_
  refine Rn.ald rfl ⟨by decide, rfl⟩ (0) rfl (by decide) ?_
  rw [hM.1]
  refine Rn.ne0 rfl (fun e34 => ?_) (fun e34 => absurd e34 (by exact fun h => h (z_ne0 h0 hn)))
  refine Rn.run 2 (ls' := [_, _, _, _, _]) (st' := []) rfl ?_
  exact q
theorem g_plan {ex : xO} (a1 a2 a3 : Int) (h1 : w32 a1 = a1) (h2 : w32 a2 = a2) (h3 : w32 a3 = a3) : AgI ex 81 5 198 5 [xI a1, xI a2, xI a3] := by
  intro d c b hI
  obtain ⟨n, kd, bo, wo, D, T, Mo, L, hP, hc, hm⟩ := Inv_St hI
  by_cases q1 : 0 ≤ a1 ∧ a1 < 8
  case neg => exact Ag_same hI (-1) (k81_b1 h1 q1) (k198_b1 h1 q1)
  obtain ⟨j, hj, rfl⟩ : ∃ j : Nat, j < 8 ∧ a1 = (j : Int) := ⟨a1.toNat, by omega, by omega⟩
  by_cases q2 : 0 ≤ a2 ∧ a2 < 10
  case neg => exact Ag_same hI (-1) (k81_b2 hj h2 q2) (k198_b2 hj h2 q2)
  obtain ⟨v, hv, rfl⟩ : ∃ j : Nat, j ≤ 9 ∧ a2 = (j : Int) := ⟨a2.toNat, by omega, by omega⟩
  by_cases q3 : 0 ≤ a3 ∧ a3 < 6
  case neg => exact Ag_same hI (-1) (k81_b3 hj hv h3 q3) (k198_b3 hj hv h3 q3)
  obtain ⟨r, hr, rfl⟩ : ∃ j : Nat, j < 6 ∧ a3 = (j : Int) := ⟨a3.toNat, by omega, by omega⟩
  by_cases h0 : n = 0
  · exact Ag_same hI (-4) (k81_st hP hc hj hv hr h0) (k198_st hP hm hj hv hr h0)
  · cases hR : fw (fun N => pa kd bo wo n v j N 0 (T, L) (fun _ => 0)) 7 0 with
    | none =>
      obtain ⟨e1, r1, f1⟩ := k81_n (ex := ex) (d := d) (b := b) hP hc hj hv hr h0 hR
      obtain ⟨e2, r2, f2, -⟩ := k198_o (ex := ex) (d := d) (b := b) (c := e1) hP (mS_fr (fun z => f1 55 z (by omega)) hm) hj hv hr h0
      have f3 := f2 hR
      rw [hR] at r2
      exact ⟨_, _, e1, b, e2, b, r1, r2, rfl, Inv_scr (fun a z h => by rw [f3 a z (fun q => h (by unfold scr; omega)) (fun q => h (by unfold scr; omega)) (fun q => h (by unfold scr; omega))]; exact f1 a z (fun q => h (by unfold scr; omega))) hI⟩
    | some w =>
      obtain ⟨w6, e1, r1, y0, yk, f1⟩ := k81_o (ex := ex) (d := d) (b := b) hP hc hj hv hr h0 hR
      obtain ⟨e2, r2, -, f2⟩ := k198_o (ex := ex) (d := d) (b := b) (c := e1) hP (mS_fr (fun z => f1 55 z (by omega) (by omega) (by omega)) hm) hj hv hr h0
      obtain ⟨c3, f3, rfl⟩ := f2 w hR
      rw [hR] at r2
      refine ⟨_, _, e1, b, _, b, r1, r2, rfl, Inv_row2 hI hr (N := w.1) (by omega) ?_ ?_ (fun k hk => ?_) (fun a z g1 g2 g3 g4 g5 => ?_)⟩
      · rw [xfl3_out _ _ (by omega), xup_n _ _ (by omega), f3 _ _ (by omega) (by omega) (by omega)]; exact y0
      · rw [xfl3_out _ _ (by omega), xup_s]
      · rw [xfl3_out _ _ (by omega), xup_n _ _ (by omega), f3 _ _ (by omega) (by omega) (by omega), yk k hk, xfl3_in _ _ (by omega)]
        show _ = (if 40 * r + k - 40 * r < w.1 then ((w.2 (40 * r + k - 40 * r) : Nat) : Int) else 0)
        rw [Nat.add_sub_cancel_left]
      · rw [xfl3_out _ _ (by omega), xup_n _ _ (by omega), f3 a z (fun q => g1 (by unfold scr; omega)) (fun q => g1 (by unfold scr; omega)) (fun q => g1 (by unfold scr; omega))]
        exact f1 a z (fun q => g1 (by unfold scr; omega)) g2 g3
