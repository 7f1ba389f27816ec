-- next
def pcn (p : Nat → Bool) (lo : Nat → Nat) (i v : Nat) : Nat := cnt (fun s => p s && decide (lo s = v)) i
def mx10 (f : Nat → Nat) : Nat := xit (fun v a => max a (f v)) 10 0 0
theorem mxl (f : Nat → Nat) (b : Nat) : ∀ m i a, xit (fun v a => max a (f v)) m i a ≤ b ↔ a ≤ b ∧ ∀ v, i ≤ v → v < i + m → f v ≤ b := by
  intro m
  induction m with
  | zero => intro i a; exact ⟨fun h => ⟨h, fun v h1 h2 => by omega⟩, fun h => h.1⟩
  | succ m ih =>
    intro i a
    rw [xit, ih]
    constructor
    · intro h
      have h1 : a ≤ b ∧ f i ≤ b := by have := h.1; omega
      refine ⟨h1.1, fun v h2 h3 => ?_⟩
      by_cases e : v = i
      · rw [e]; exact h1.2
      · exact h.2 v (by omega) (by omega)
    · intro h
      have h1 := h.2 i (by omega) (by omega)
      exact ⟨by have := h.1; omega, fun v h2 h3 => h.2 v (by omega) (by omega)⟩
theorem mx10_le (f : Nat → Nat) (b : Nat) : mx10 f ≤ b ↔ ∀ v, v < 10 → f v ≤ b := by
  unfold mx10
  rw [mxl]
  exact ⟨fun h v hv => h.2 v (by omega) (by omega), fun h => ⟨by omega, fun v _ hv => h v (by omega)⟩⟩
theorem mx10_up {f f' : Nat → Nat} {v0 : Nat} (hv : v0 < 10) (h : f' v0 = f v0 + 1) (h2 : ∀ v, v ≠ v0 → f' v = f v) : mx10 f' = max (mx10 f) (f v0 + 1) := by
  have a1 := (mx10_le f _).mp (Nat.le_refl _)
  have a2 := (mx10_le f' _).mp (Nat.le_refl _)
  apply Nat.le_antisymm
  · rw [mx10_le]
    intro v hv2
    by_cases e : v = v0
    · rw [e, h]; omega
    · rw [h2 v e]; have := a1 v hv2; omega
  · have b1 : mx10 f ≤ mx10 f' := by
      rw [mx10_le]
      intro v hv2
      have := a2 v hv2
      by_cases e : v = v0
      · rw [e] at this ⊢; omega
      · rw [h2 v e] at this; exact this
    have b2 := a2 v0 hv
    omega
theorem mx10_cg {f f' : Nat → Nat} (h : ∀ v, v < 10 → f' v = f v) : mx10 f' = mx10 f := xit_congr 10 0 0 (fun v a _ hv => by rw [h v (by omega)])
theorem pcn_s (p : Nat → Bool) (lo : Nat → Nat) (i v : Nat) : pcn p lo (i + 1) v = pcn p lo i v + (if (p i && decide (lo i = v)) = true then 1 else 0) := cnt_s _ _
theorem pcn_le (p : Nat → Bool) (lo : Nat → Nat) (i v : Nat) : pcn p lo i v ≤ i := cnt_le _ _
theorem pcn_t {p : Nat → Bool} {lo : Nat → Nat} {i : Nat} (hp : p i = true) (h9 : lo i ≤ 9) : mx10 (pcn p lo (i + 1)) = max (mx10 (pcn p lo i)) (pcn p lo i (lo i) + 1) :=
  mx10_up (by omega) (by rw [pcn_s, hp]; simp) (fun v hv => by rw [pcn_s, if_neg (by simp; intro _ e; exact hv e.symm)]; rfl)
theorem pcn_f {p : Nat → Bool} {lo : Nat → Nat} {i : Nat} (hp : ¬ p i = true) (v : Nat) : pcn p lo (i + 1) v = pcn p lo i v := by
  rw [pcn_s, if_neg (by simp [hp])]; rfl
theorem mx10_64 (p : Nat → Bool) (lo : Nat → Nat) {i : Nat} (hi : i ≤ 64) : mx10 (pcn p lo i) ≤ 64 := (mx10_le _ _).mpr (fun v _ => Nat.le_trans (pcn_le p lo i v) hi)
theorem pcn_pos {p : Nat → Bool} {lo : Nat → Nat} {N : Nat} (h9 : ∀ s, s < N → lo s ≤ 9) : 0 < mx10 (pcn p lo N) ↔ 0 < cnt p N := by
  have key : ∀ m, m ≤ N → (0 < mx10 (pcn p lo m) ↔ 0 < cnt p m) := by
    intro m
    induction m with
    | zero =>
      intro _
      have h0 : mx10 (pcn p lo 0) = 0 := by
        have := (mx10_le (pcn p lo 0) 0).mpr (fun v _ => Nat.le_refl 0)
        omega
      rw [h0]
      exact Iff.rfl
    | succ m ih =>
      intro hm
      have := ih (by omega)
      rw [cnt_s]
      by_cases hp : p m = true
      · rw [pcn_t hp (h9 m (by omega)), if_pos hp]
        omega
      · rw [if_neg hp, mx10_cg (fun v _ => pcn_f hp v)]
        exact this
  exact key N (Nat.le_refl N)
theorem x_max {a q : Nat} (ha : a ≤ 64) (hq : q ≤ 65) : (if w32 (a : Int) < w32 (q : Int) then (q : Int) else (a : Int)) = ((max a q : Nat) : Int) := by
  rw [x_wn (by omega), x_wn (by omega)]
  by_cases h : a < q
  · rw [if_pos (by omega), Nat.max_eq_right (by omega)]
  · rw [if_neg (by omega), Nat.max_eq_left (by omega)]
theorem x_max1 {a q : Nat} (ha : a ≤ 64) (hq : q + 1 ≤ 65) : (if w32 (a : Int) < w32 ((q : Int) + 1) then (q : Int) + 1 else (a : Int)) = ((max a (q + 1) : Nat) : Int) := x_max (q := q + 1) ha hq
theorem z_le0 {p : Nat} (h : p < 2147483648) : (w32 (p : Int) ≤ 0) ↔ p = 0 := by rw [x_wn h]; omega
def ncs (pt : Nat → Nat) (o : Nat) (s : Int × Nat) : Int × Nat := if 0 < pt o ∧ (s.1 = -9 ∨ pt o < s.2) then ((o : Int), pt o) else s
def nms (pt : Nat → Nat) (many : Nat) (o : Nat) (s : Int × Nat) : Int × Nat := if 0 < many ∧ pt o < s.2 then ((o : Int), pt o) else s
theorem ncm {pt : Nat → Nat} {many : Nat} (h1 : ∀ o, o < 8 → pt o ≤ 64) (h2 : ∀ o, o < 8 → (0 < pt o ↔ 0 < many)) : ∀ m i (s t : Int × Nat), i + m = 8 → s.1 = t.1 → ((s.1 = -9 ∧ t.2 = 1000000) ∨ (s.1 ≠ -9 ∧ s.2 = t.2)) → (xit (ncs pt) m i s).1 = (xit (nms pt many) m i t).1 ∧ (((xit (ncs pt) m i s).1 = -9 ∧ (xit (nms pt many) m i t).2 = 1000000) ∨ ((xit (ncs pt) m i s).1 ≠ -9 ∧ (xit (ncs pt) m i s).2 = (xit (nms pt many) m i t).2)) := by
  intro m
  induction m with
  | zero => intro i s t _ e1 e2; exact ⟨e1, e2⟩
  | succ m ih =>
    intro i s t hi e1 e2
    have p1 := h1 i (by omega)
    have p2 := h2 i (by omega)
    have hc : (0 < pt i ∧ (s.1 = -9 ∨ pt i < s.2)) ↔ (0 < many ∧ pt i < t.2) := by
      rcases e2 with ⟨a1, a2⟩ | ⟨a1, a2⟩
      · rw [a2]; constructor
        · intro h; exact ⟨p2.mp h.1, by omega⟩
        · intro h; exact ⟨p2.mpr h.1, Or.inl a1⟩
      · rw [a2]; constructor
        · intro h; exact ⟨p2.mp h.1, h.2.resolve_left a1⟩
        · intro h; exact ⟨p2.mpr h.1, Or.inr h.2⟩
    by_cases hd : 0 < pt i ∧ (s.1 = -9 ∨ pt i < s.2)
    · rw [xit, xit, show ncs pt i s = ((i : Int), pt i) from if_pos hd, show nms pt many i t = ((i : Int), pt i) from if_pos (hc.mp hd)]
      exact ih (i + 1) _ _ (by omega) rfl (Or.inr ⟨by show (i : Int) ≠ -9; omega, rfl⟩)
    · rw [xit, xit, show ncs pt i s = s from if_neg hd, show nms pt many i t = t from if_neg (fun z => hd (hc.mpr z))]
      exact ih (i + 1) _ _ (by omega) e1 e2
theorem l125 {ex : xO} {d : Nat} {c : Nat → Nat → Int} {b : Bool} {n D T Mo : Nat} {kd bo wo L : Nat → Nat} (hP : pS n kd bo wo D T Mo L) (hc : cS c b n kd bo wo D T Mo L) {r S : Nat} (hr : r < 6) (i1 : iRow c) (hS : c 56 r = (S : Nat)) {j o : Nat} (hj : j < 8) (ho8 : o < 8) (hS10 : S ≤ 10) : ∀ (m i : Nat) (c' : Nat → Nat → Int) (u : xV), i + m = 2 ^ n → (∀ v, v < 10 → c' 12 v = (pcn (wfit c r S kd bo n L j) (fun s => mo kd bo n s S L o) i v : Nat)) → (∀ a k, a ≠ 12 → c' a k = c a k) → ∃ e, Rn ex xt125 (d + 6) 27 [xA 0, xI (o : Int), xI (j : Int), xA (22 + 2 * r), xI ((L o : Nat) : Int), xI ((mx10 (pcn (wfit c r S kd bo n L j) (fun s => mo kd bo n s S L o) i) : Nat) : Int), xI (i : Int), u] [] (hp c' b) (xI ((mx10 (pcn (wfit c r S kd bo n L j) (fun s => mo kd bo n s S L o) (2 ^ n)) : Nat) : Int), hp e b) ∧ ∀ a k, a ≠ 12 → e a k = c a k := by
  have hn := hP.1.1
  have hp2 := pp64 hn
  have h9 := hP.2.2.2.1
  have ho := hP.1
  have h9o := h9 o ho8
  have hg := gid_in b
  intro m
  induction m with
  | zero =>
    intro i c' u hm hpr fr
    obtain rfl : i = 2 ^ n := by omega
    have hC' : cG c' b n kd bo wo := cG_fr (fun a k ha => fr a k (by omega)) hc.1
    have hall := (z_all hn hp2).mpr (Nat.le_refl (2 ^ n))
    refine ⟨c', ?_, fr⟩
    refine Rn.run 2 (ls' := [_, _, _, _, _, _, _, _]) (st' := [_, _]) rfl ?_
    refine Rn.getR rfl ⟨by decide, rfl, rfl⟩ (j := gid b) (rfl) ?_
    refine Rn.callV rfl (x_sv (xS_g b)) rfl rfl rfl (c17 hn hC'.1) ?_
    refine Rn.gt2 rfl (fun e36 => ?_) (fun e36 => absurd e36 (by exact fun h => h hall))
    refine Rn.run 1 (ls' := [_, _, _, _, _, _, _, _]) (st' := [_]) rfl ?_
    exact Rn.ret rfl rfl rfl rfl rfl rfl
  | succ m ih =>
    intro i c' u hm hpr fr
    have hc' : cS c' b n kd bo wo D T Mo L := cS_fr (fun a k ha => fr a k (by omega)) hc
    have hC' := hc'.1
    have i1' : iRow c' := iRow_fr (fun a k ha => fr a k (by omega)) i1
    have hS' : c' 56 r = (S : Nat) := by rw [fr 56 r (by decide)]; exact hS
    have rS' : c' (22 + 2 * r) 0 = (S : Nat) := by rw [(i1' r hr).1]; exact hS'
    have ew : wfit c' r S kd bo n L j = wfit c r S kd bo n L j := wfit_fr (fun k => fr 57 k (by decide))
    have i64 : i < 64 := by omega
    have in1 : ¬ w32 (((2 ^ n : Nat) : Int) - 1) < w32 (i : Int) := fun h => absurd ((z_all hn (by omega)).mp h) (by omega)
    have hq := hnt_le kd bo n i o
    have q100 : hnt kd bo n i o ≤ 100 := by omega
    have S100 : S ≤ 100 := by omega
    have l9i : mo kd bo n i S L o ≤ 9 := ltr_9 h9o
    have l10 : mo kd bo n i S L o < 10 := by omega
    have l31 : mo kd bo n i S L o < 2147483648 := by omega
    have g64 := mx10_64 (wfit c r S kd bo n L j) (fun s => mo kd bo n s S L o) (i := i) (by omega)
    have pl := pcn_le (wfit c r S kd bo n L j) (fun s => mo kd bo n s S L o) i (mo kd bo n i S L o)
    have pl65 : pcn (wfit c r S kd bo n L j) (fun s => mo kd bo n s S L o) i (mo kd bo n i S L o) + 1 ≤ 65 := by omega
    have cf := c124 (ex := ex) (d := d) (b := b) hP hc' hr i1' hS' i64 hj
    rw [show alls (wq c' r (hnt kd bo n i j) (L j)) S 0 = wfit c r S kd bo n L j i from congrFun ew i] at cf
    by_cases hw : wfit c r S kd bo n L j i = true
    · have hpr2 : ∀ v, v < 10 → xup c' 12 (mo kd bo n i S L o) ((pcn (wfit c r S kd bo n L j) (fun s => mo kd bo n s S L o) i (mo kd bo n i S L o) : Nat) + 1 : Int) 12 v = (pcn (wfit c r S kd bo n L j) (fun s => mo kd bo n s S L o) (i + 1) v : Nat) := by
        intro v hv
        rw [pcn_s, hw]
        by_cases e : v = mo kd bo n i S L o
        · rw [e, xup_s]; simp
        · rw [xup_n _ _ (by omega), hpr v hv, if_neg (by simp; exact fun z => e z.symm)]; rfl
      obtain ⟨e, q, f⟩ := ih (i + 1) _ (xI ((mo kd bo n i S L o : Nat) : Int)) (by omega) hpr2 (fun a k ha => by rw [xup_n _ _ (by omega)]; exact fr a k ha)
      rw [show mx10 (pcn (wfit c r S kd bo n L j) (fun s => mo kd bo n s S L o) (i + 1)) = max (mx10 (pcn (wfit c r S kd bo n L j) (fun s => mo kd bo n s S L o) i)) (pcn (wfit c r S kd bo n L j) (fun s => mo kd bo n s S L o) i (mo kd bo n i S L o) + 1) from pcn_t hw l9i] at q
      refine ⟨e, ?_, f⟩
      refine Rn.run 2 (ls' := [_, _, _, _, _, _, _, _]) (st' := [_, _]) rfl ?_
      refine Rn.getR rfl ⟨by decide, rfl, rfl⟩ (j := gid b) (rfl) ?_
      refine Rn.callV rfl (x_sv (xS_g b)) rfl rfl rfl (c17 hn hC'.1) ?_
      refine Rn.gt2 rfl (fun e36 => absurd e36 (by exact in1)) (fun e36 => ?_)
      refine Rn.run 4 (ls' := [_, _, _, _, _, _, _, _]) (st' := [_, _, _, _]) rfl ?_
      refine Rn.call rfl rfl rfl rfl rfl (cf) ?_
      refine Rn.eqB rfl (fun e47 => absurd e47 (by exact fun h => h hw)) (fun e47 => ?_)
      refine Rn.run 2 (ls' := [_, _, _, _, _, _, _, _]) (st' := [_, _]) rfl ?_
      refine Rn.getR rfl ⟨by decide, rfl, rfl⟩ (j := gid b) (rfl) ?_
      refine Rn.run 2 (ls' := [_, _, _, _, _, _, _, _]) (st' := [_, _, _, _]) rfl ?_
      refine Rn.callV rfl (x_sv (xS_g b)) rfl rfl rfl (c23 ho hC' i64 ho8) ?_
      refine Rn.run 1 (ls' := [_, _, _, _, _, _, _, _]) (st' := [_, _, _]) rfl ?_
      refine Rn.getI rfl (xS_row hr) ?_
      rw [rS']
      refine Rn.call rfl rfl rfl rfl rfl (c5 (m := S) q100 h9o S100) ?_
      refine Rn.run 5 (ls' := [_, _, _, _, _, _, _, _]) (st' := [_, _, _, _]) rfl ?_
      refine Rn.ald rfl ⟨by decide, rfl⟩ (mo kd bo n i S L o) (x_wn l31) l10 ?_
      rw [hpr _ l10]
      refine Rn.run 2 (ls' := [_, _, _, _, _, _, _, _]) (st' := [_, _, _]) rfl ?_
      refine Rn.ast rfl ⟨by decide, rfl⟩ (mo kd bo n i S L o) (x_wn l31) l10 ?_
      refine Rn.run 4 (ls' := [_, _, _, _, _, _, _, _]) (st' := [_, _, _]) rfl ?_
      refine Rn.ald rfl ⟨by decide, rfl⟩ (mo kd bo n i S L o) (x_wn l31) l10 ?_
      rw [xup_s]
      refine Rn.run 1 (ls' := [_, _, _, _, _, _, _, _]) (st' := [_]) rfl ?_
      rw [x_max1 g64 pl65]
      refine Rn.run 3 (ls' := [_, _, _, _, _, _, _, _]) (st' := []) rfl ?_
      exact q
    · obtain ⟨e, q, f⟩ := ih (i + 1) c' u (by omega) (fun v hv => by rw [pcn_f hw]; exact hpr v hv) fr
      rw [mx10_cg (fun v _ => pcn_f hw v)] at q
      refine ⟨e, ?_, f⟩
      refine Rn.run 2 (ls' := [_, _, _, _, _, _, _, _]) (st' := [_, _]) rfl ?_
      refine Rn.getR rfl ⟨by decide, rfl, rfl⟩ (j := gid b) (rfl) ?_
      refine Rn.callV rfl (x_sv (xS_g b)) rfl rfl rfl (c17 hn hC'.1) ?_
      refine Rn.gt2 rfl (fun e36 => absurd e36 (by exact in1)) (fun e36 => ?_)
      refine Rn.run 4 (ls' := [_, _, _, _, _, _, _, _]) (st' := [_, _, _, _]) rfl ?_
      refine Rn.call rfl rfl rfl rfl rfl (cf) ?_
      refine Rn.eqB rfl (fun e47 => ?_) (fun e47 => absurd e47 (by exact hw))
      refine Rn.run 2 (ls' := [_, _, _, _, _, _, _, _]) (st' := []) rfl ?_
      exact q
theorem c125 {ex : xO} {d : Nat} {c : Nat → Nat → Int} {b : Bool} {n D T Mo : Nat} {kd bo wo L : Nat → Nat} (hP : pS n kd bo wo D T Mo L) (hc : cS c b n kd bo wo D T Mo L) {r S : Nat} (hr : r < 6) (i1 : iRow c) (hS : c 56 r = (S : Nat)) {j o : Nat} (hj : j < 8) (ho8 : o < 8) (hS10 : S ≤ 10) : ∃ e, An ex (d + 6) 125 8 [xA 0, xI (o : Int), xI (j : Int), xA (22 + 2 * r)] (hp c b) (xI ((mx10 (pcn (wfit c r S kd bo n L j) (fun s => mo kd bo n s S L o) (2 ^ n)) : Nat) : Int), hp e b) ∧ ∀ a k, a ≠ 12 → e a k = c a k := by
  obtain ⟨ho, h40, hT, h9, hMo⟩ := hP
  obtain ⟨hC, d7, t9, hL, m10⟩ := hc
  have hn := ho.1
  have hT6 := p64 hn hT
  have f0 : ∀ a k, a ≠ 12 → xfl2 c 12 0 10 0 a k = c a k := fun a k ha => xfl2_out _ _ (Or.inl ha)
  have z0 : mx10 (pcn (wfit c r S kd bo n L j) (fun s => mo kd bo n s S L o) 0) = 0 := by
    have := (mx10_le (pcn (wfit c r S kd bo n L j) (fun s => mo kd bo n s S L o) 0) 0).mpr (fun v _ => Nat.le_refl 0)
    omega
  obtain ⟨e, q, f⟩ := l125 (ex := ex) (d := d) (b := b) (c := c) ⟨ho, h40, hT, h9, hMo⟩ ⟨hC, d7, t9, hL, m10⟩ hr i1 hS hj ho8 hS10 (2 ^ n) 0 (xfl2 c 12 0 10 0) xU (Nat.zero_add _) (fun v hv => by rw [xfl2_in _ _ (by omega)]; rfl) f0
  rw [z0] at q
  have d7' : xfl2 c 12 0 10 0 7 0 = (D : Nat) := by rw [f0 7 0 (by decide)]; exact d7
  refine ⟨e, ?_, f⟩
  refine Rn.run 3 (ls' := [_, _, _, _, _, _, _, _]) (st' := [_, _]) rfl ?_
  refine Rn.call rfl rfl rfl rfl rfl (c238 (a := 12) (n := 10) ⟨by decide, rfl⟩ (by decide)) ?_
  refine Rn.run 2 (ls' := [_, _, _, _, _, _, _, _]) (st' := [_]) rfl ?_
  refine Rn.call rfl rfl rfl rfl rfl (c10 d7' h40) ?_
  rw [f0 8 D (by decide)]
  refine Rn.run 1 (ls' := [_, _, _, _, _, _, _, _]) (st' := [_, _]) rfl ?_
  refine Rn.call rfl rfl rfl rfl rfl (c0 ho8) ?_
  rw [hL o ho8]
  refine Rn.run 5 (ls' := [_, _, _, _, _, _, _, _]) (st' := []) rfl ?_
  exact q
theorem l84 {ex : xO} {d : Nat} {c : Nat → Nat → Int} {b : Bool} {n D T Mo : Nat} {kd bo wo L : Nat → Nat} (hP : pS n kd bo wo D T Mo L) (hc : cS c b n kd bo wo D T Mo L) {r S : Nat} (hr : r < 6) (i1 : iRow c) (hS : c 56 r = (S : Nat)) {j : Nat} (hj : j < 8) (hS10 : S ≤ 10) : ∀ (m o : Nat) (c' : Nat → Nat → Int) (bb : Int) (lp : Nat) (u : xV), o + m = 8 → (-9 ≤ bb ∧ bb ≤ 7) → lp ≤ 64 → (∀ a k, a ≠ 12 → c' a k = c a k) → ∃ e, Rn ex xt84 (d + 8) 23 [xA 0, xI (j : Int), xI (r : Int), xI 0, xI bb, xI (lp : Int), xI (o : Int), u] [] (hp c' b) (xI (xit (ncs (fun o => mx10 (pcn (wfit c r S kd bo n L j) (fun s => mo kd bo n s S L o) (2 ^ n)))) m o (bb, lp)).1, hp e b) ∧ ∀ a k, a ≠ 12 → e a k = (if (xit (ncs (fun o => mx10 (pcn (wfit c r S kd bo n L j) (fun s => mo kd bo n s S L o) (2 ^ n)))) m o (bb, lp)).1 = -9 then c a k else xup c 0 10 ((xit (ncs (fun o => mx10 (pcn (wfit c r S kd bo n L j) (fun s => mo kd bo n s S L o) (2 ^ n)))) m o (bb, lp)).2 : Nat) a k) := by
  have hn := hP.1.1
  have hp2 := pp64 hn
  have hg := gid_in b
  intro m
  induction m with
  | zero =>
    intro o c' bb lp u hm hb hl fr
    obtain rfl : o = 8 := by omega
    have wb : w32 bb = bb := x_w _ (by omega) (by omega)
    show ∃ e, Rn ex xt84 (d + 8) 23 [xA 0, xI (j : Int), xI (r : Int), xI 0, xI bb, xI (lp : Int), xI ((8 : Nat) : Int), u] [] (hp c' b) (xI bb, hp e b) ∧ ∀ a k, a ≠ 12 → e a k = (if bb = -9 then c a k else xup c 0 10 (lp : Nat) a k)
    by_cases h9 : bb = -9
    · refine ⟨c', ?_, fun a k ha => by rw [if_pos h9]; exact fr a k ha⟩
      refine Rn.run 2 (ls' := [_, _, _, _, _, _, _, _]) (st' := [_, _]) rfl ?_
      refine Rn.ge2 rfl (fun e27 => ?_) (fun e27 => absurd e27 (by decide))
      refine Rn.run 2 (ls' := [_, _, _, _, _, _, _, _]) (st' := [_, _]) rfl ?_
      refine Rn.eq2 rfl (fun e82 => ?_) (fun e82 => absurd e82 (by rw [wb, h9]; decide))
      refine Rn.run 1 (ls' := [_, _, _, _, _, _, _, _]) (st' := [_]) rfl ?_
      exact Rn.ret rfl rfl rfl rfl rfl rfl
    · refine ⟨xup c' 0 10 (lp : Nat), ?_, fun a k ha => ?_⟩
      · refine Rn.run 2 (ls' := [_, _, _, _, _, _, _, _]) (st' := [_, _]) rfl ?_
        refine Rn.ge2 rfl (fun e27 => ?_) (fun e27 => absurd e27 (by decide))
        refine Rn.run 2 (ls' := [_, _, _, _, _, _, _, _]) (st' := [_, _]) rfl ?_
        refine Rn.eq2 rfl (fun e82 => absurd e82 (by rw [wb]; exact h9)) (fun e82 => ?_)
        refine Rn.run 2 (ls' := [_, _, _, _, _, _, _, _]) (st' := [_, _]) rfl ?_
        refine Rn.call rfl rfl rfl rfl rfl (c102) ?_
        refine Rn.run 2 (ls' := [_, _, _, _, _, _, _, _]) (st' := [_]) rfl ?_
        exact Rn.ret rfl rfl rfl rfl rfl rfl
      · rw [if_neg h9]
        unfold xup
        rw [fr a k ha]
  | succ m ih =>
    intro o c' bb lp u hm hb hl fr
    have hc' : cS c' b n kd bo wo D T Mo L := cS_fr (fun a k ha => fr a k (by omega)) hc
    have i1' : iRow c' := iRow_fr (fun a k ha => fr a k (by omega)) i1
    have hS' : c' 56 r = (S : Nat) := by rw [fr 56 r (by decide)]; exact hS
    have ew : wfit c' r S kd bo n L j = wfit c r S kd bo n L j := wfit_fr (fun k => fr 57 k (by decide))
    have o8 : o < 8 := by omega
    have o31 : ¬ w32 8 ≤ w32 (o : Int) := fun h => absurd ((y_ge (n := 8) (by omega) (by omega)).mp h) (by omega)
    have wb : w32 bb = bb := x_w _ (by omega) (by omega)
    obtain ⟨e1, q1, f1⟩ := c125 (ex := ex) (d := d + 1) (b := b) (o := o) hP hc' hr i1' hS' hj o8 hS10
    rw [ew] at q1
    have fr1 : ∀ a k, a ≠ 12 → e1 a k = c a k := fun a k ha => by rw [f1 a k ha]; exact fr a k ha
    have p64 := mx10_64 (wfit c r S kd bo n L j) (fun s => mo kd bo n s S L o) (i := 2 ^ n) hp2
    generalize hpt : mx10 (pcn (wfit c r S kd bo n L j) (fun s => mo kd bo n s S L o) (2 ^ n)) = p at q1 p64
    have p31 : p < 2147483648 := Nat.lt_of_le_of_lt p64 (by decide)
    have l31 : lp < 2147483648 := Nat.lt_of_le_of_lt hl (by decide)
    have hst : ncs (fun o => mx10 (pcn (wfit c r S kd bo n L j) (fun s => mo kd bo n s S L o) (2 ^ n))) o (bb, lp) = if 0 < p ∧ (bb = -9 ∨ p < lp) then ((o : Int), p) else (bb, lp) := by
      show (if 0 < mx10 (pcn (wfit c r S kd bo n L j) (fun s => mo kd bo n s S L o) (2 ^ n)) ∧ (bb = -9 ∨ mx10 (pcn (wfit c r S kd bo n L j) (fun s => mo kd bo n s S L o) (2 ^ n)) < lp) then ((o : Int), mx10 (pcn (wfit c r S kd bo n L j) (fun s => mo kd bo n s S L o) (2 ^ n))) else (bb, lp)) = _
      rw [hpt]
    rw [show xit (ncs (fun o => mx10 (pcn (wfit c r S kd bo n L j) (fun s => mo kd bo n s S L o) (2 ^ n)))) (m + 1) o (bb, lp) = xit (ncs (fun o => mx10 (pcn (wfit c r S kd bo n L j) (fun s => mo kd bo n s S L o) (2 ^ n)))) m (o + 1) (ncs (fun o => mx10 (pcn (wfit c r S kd bo n L j) (fun s => mo kd bo n s S L o) (2 ^ n))) o (bb, lp)) from rfl, hst]
    by_cases hp0 : 0 < p
    · by_cases h9 : bb = -9
      · rw [if_pos ⟨hp0, Or.inl h9⟩]
        obtain ⟨e, q, f⟩ := ih (o + 1) e1 (o : Int) p (xI (p : Int)) (by omega) (by omega) p64 fr1
        refine ⟨e, ?_, f⟩
        refine Rn.run 2 (ls' := [_, _, _, _, _, _, _, _]) (st' := [_, _]) rfl ?_
        refine Rn.ge2 rfl (fun e27 => absurd e27 (by exact o31)) (fun e27 => ?_)
        refine Rn.run 6 (ls' := [_, _, _, _, _, _, _, _]) (st' := [_, _, _, _, _]) rfl ?_
        refine Rn.aald rfl ⟨by decide, rfl, by decide, by decide⟩ (r) (x_wn (n := r) (by omega)) (by omega) (xR_row hr).1 ?_
        refine Rn.call rfl rfl rfl rfl rfl (q1) ?_
        refine Rn.run 2 (ls' := [_, _, _, _, _, _, _, _]) (st' := [_]) rfl ?_
        refine Rn.le0 rfl (fun e47 => absurd e47 (by exact fun h => absurd ((z_le0 p31).mp h) (Nat.pos_iff_ne_zero.mp hp0))) (fun e47 => ?_)
        refine Rn.run 2 (ls' := [_, _, _, _, _, _, _, _]) (st' := [_, _]) rfl ?_
        refine Rn.eq2 rfl (fun e54 => ?_) (fun e54 => absurd e54 (by rw [wb, h9]; decide))
        refine Rn.run 6 (ls' := [_, _, _, _, _, _, _, _]) (st' := []) rfl ?_
        exact q
      · by_cases hlt : p < lp
        · rw [if_pos ⟨hp0, Or.inr hlt⟩]
          obtain ⟨e, q, f⟩ := ih (o + 1) e1 (o : Int) p (xI (p : Int)) (by omega) (by omega) p64 fr1
          refine ⟨e, ?_, f⟩
          refine Rn.run 2 (ls' := [_, _, _, _, _, _, _, _]) (st' := [_, _]) rfl ?_
          refine Rn.ge2 rfl (fun e27 => absurd e27 (by exact o31)) (fun e27 => ?_)
          refine Rn.run 6 (ls' := [_, _, _, _, _, _, _, _]) (st' := [_, _, _, _, _]) rfl ?_
          refine Rn.aald rfl ⟨by decide, rfl, by decide, by decide⟩ (r) (x_wn (n := r) (by omega)) (by omega) (xR_row hr).1 ?_
          refine Rn.call rfl rfl rfl rfl rfl (q1) ?_
          refine Rn.run 2 (ls' := [_, _, _, _, _, _, _, _]) (st' := [_]) rfl ?_
          refine Rn.le0 rfl (fun e47 => absurd e47 (by exact fun h => absurd ((z_le0 p31).mp h) (Nat.pos_iff_ne_zero.mp hp0))) (fun e47 => ?_)
          refine Rn.run 2 (ls' := [_, _, _, _, _, _, _, _]) (st' := [_, _]) rfl ?_
          refine Rn.eq2 rfl (fun e54 => absurd e54 (by rw [wb]; exact h9)) (fun e54 => ?_)
          refine Rn.run 2 (ls' := [_, _, _, _, _, _, _, _]) (st' := [_, _]) rfl ?_
          refine Rn.ge2 rfl (fun e61 => absurd e61 (by exact fun h => absurd ((y_ge p31 l31).mp h) (Nat.not_le.mpr hlt))) (fun e61 => ?_)
          refine Rn.run 6 (ls' := [_, _, _, _, _, _, _, _]) (st' := []) rfl ?_
          exact q
        · rw [if_neg (fun z => z.2.elim h9 hlt)]
          obtain ⟨e, q, f⟩ := ih (o + 1) e1 bb lp (xI (p : Int)) (by omega) hb hl fr1
          refine ⟨e, ?_, f⟩
          refine Rn.run 2 (ls' := [_, _, _, _, _, _, _, _]) (st' := [_, _]) rfl ?_
          refine Rn.ge2 rfl (fun e27 => absurd e27 (by exact o31)) (fun e27 => ?_)
          refine Rn.run 6 (ls' := [_, _, _, _, _, _, _, _]) (st' := [_, _, _, _, _]) rfl ?_
          refine Rn.aald rfl ⟨by decide, rfl, by decide, by decide⟩ (r) (x_wn (n := r) (by omega)) (by omega) (xR_row hr).1 ?_
          refine Rn.call rfl rfl rfl rfl rfl (q1) ?_
          refine Rn.run 2 (ls' := [_, _, _, _, _, _, _, _]) (st' := [_]) rfl ?_
          refine Rn.le0 rfl (fun e47 => absurd e47 (by exact fun h => absurd ((z_le0 p31).mp h) (Nat.pos_iff_ne_zero.mp hp0))) (fun e47 => ?_)
          refine Rn.run 2 (ls' := [_, _, _, _, _, _, _, _]) (st' := [_, _]) rfl ?_
          refine Rn.eq2 rfl (fun e54 => absurd e54 (by rw [wb]; exact h9)) (fun e54 => ?_)
          refine Rn.run 2 (ls' := [_, _, _, _, _, _, _, _]) (st' := [_, _]) rfl ?_
          refine Rn.ge2 rfl (fun e61 => ?_) (fun e61 => absurd e61 (by exact fun h => h ((y_ge p31 l31).mpr (Nat.not_lt.mp hlt))))
          refine Rn.run 2 (ls' := [_, _, _, _, _, _, _, _]) (st' := []) rfl ?_
          exact q
    · rw [if_neg (fun z => hp0 z.1)]
      obtain ⟨e, q, f⟩ := ih (o + 1) e1 bb lp (xI (p : Int)) (by omega) hb hl fr1
      refine ⟨e, ?_, f⟩
      refine Rn.run 2 (ls' := [_, _, _, _, _, _, _, _]) (st' := [_, _]) rfl ?_
      refine Rn.ge2 rfl (fun e27 => absurd e27 (by exact o31)) (fun e27 => ?_)
      refine Rn.run 6 (ls' := [_, _, _, _, _, _, _, _]) (st' := [_, _, _, _, _]) rfl ?_
      refine Rn.aald rfl ⟨by decide, rfl, by decide, by decide⟩ (r) (x_wn (n := r) (by omega)) (by omega) (xR_row hr).1 ?_
      refine Rn.call rfl rfl rfl rfl rfl (q1) ?_
      refine Rn.run 2 (ls' := [_, _, _, _, _, _, _, _]) (st' := [_]) rfl ?_
      refine Rn.le0 rfl (fun e47 => ?_) (fun e47 => absurd e47 (by exact fun h => h ((z_le0 p31).mpr (Nat.eq_zero_of_not_pos hp0))))
      refine Rn.run 2 (ls' := [_, _, _, _, _, _, _, _]) (st' := []) rfl ?_
      exact q
