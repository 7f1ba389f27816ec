-- who is about: what is watched
/-- place m of row r is what a bough of v leaves, haunted by h, has behind m + 1 mornings -/
def wq (c : Nat → Nat → Int) (r h v m : Nat) : Bool := decide (((ltr h v (m + 1) : Nat) : Int) = w32 (c 57 (40 * r + m)))
theorem wq_fr {c c' : Nat → Nat → Int} (hf : ∀ k, c' 57 k = c 57 k) (r : Nat) : wq c' r = wq c r := by
  funext h v m
  unfold wq
  rw [hf]
theorem l124 {ex : xO} {d : Nat} {c : Nat → Nat → Int} {b : Bool} {r S : Nat} (hr : r < 6) (i1 : iRow c) (hS : c 56 r = (S : Nat)) {h v : Nat} (hh : h ≤ 100) (hv : v ≤ 9) {s j : Nat} : ∀ (m i : Nat), i + m = S → Rn ex xt124 (d + 2) 27 [xA 0, xI (s : Int), xI (j : Int), xA (22 + 2 * r), xI (h : Int), xI ((ltr h v i : Nat) : Int), xI (i : Int)] [] (hp c b) (xI (if alls (wq c r h v) m i = true then 1 else 0), hp c b) := by
  obtain ⟨r1, r2, r3, r4⟩ := i1 r hr
  have S40 : S ≤ 40 := by omega
  have rS : c (22 + 2 * r) 0 = (S : Nat) := by rw [r1]; exact hS
  intro m
  induction m with
  | zero =>
    intro i hm
    refine Rn.run 2 (ls' := [_, _, _, _, _, _, _]) (st' := [_, _]) rfl ?_
    refine Rn.getI rfl (xS_row hr) ?_
    rw [rS]
    refine Rn.ge2 rfl (fun e33 => ?_) (fun e33 => absurd e33 (by exact fun h => h ((y_ge (by omega) (by omega)).mpr (by omega))))
    refine Rn.run 1 (ls' := [_, _, _, _, _, _, _]) (st' := [_]) rfl ?_
    exact Rn.retZ rfl (Or.inr rfl) rfl
  | succ m ih =>
    intro i hm
    have h9i := ltr_9 (h := h) (v := v) (m := i) hv
    have h9j := ltr_9 (h := h) (v := v) (m := i + 1) hv
    have ew : w32 ((ltr h v (i + 1) : Nat) : Int) = ((ltr h v (i + 1) : Nat) : Int) := x_wn (by omega)
    by_cases hq : wq c r h v i = true
    · rw [show alls (wq c r h v) (m + 1) i = alls (wq c r h v) m (i + 1) by simp only [alls, hq, Bool.true_and]]
      have hz : w32 ((ltr h v (i + 1) : Nat) : Int) = w32 (c 57 (40 * r + i)) := ew.trans (of_decide_eq_true hq)
      refine Rn.run 2 (ls' := [_, _, _, _, _, _, _]) (st' := [_, _]) rfl ?_
      refine Rn.getI rfl (xS_row hr) ?_
      rw [rS]
      refine Rn.ge2 rfl (fun e33 => absurd e33 (by exact fun h => absurd ((y_ge (by omega) (by omega)).mp h) (by omega))) (fun e33 => ?_)
      refine Rn.run 3 (ls' := [_, _, _, _, _, _, _]) (st' := [_, _, _]) rfl ?_
      refine Rn.call rfl rfl rfl rfl rfl (c5 (m := 1) hh h9i (by omega)) ?_
      rw [ltr_s]
      refine Rn.run 3 (ls' := [_, _, _, _, _, _, _]) (st' := [_, _]) rfl ?_
      refine Rn.getR rfl (xS_row hr) (xR_row hr).2 ?_
      refine Rn.run 1 (ls' := [_, _, _, _, _, _, _]) (st' := [_, _, _]) rfl ?_
      refine Rn.ald rfl (xS_pl hr) (i) (x_wn (by omega)) (by omega) ?_
      rw [r4 i (by omega)]
      refine Rn.eq2 rfl (fun e55 => ?_) (fun e55 => absurd e55 (by exact fun h => h hz))
      refine Rn.run 2 (ls' := [_, _, _, _, _, _, _]) (st' := []) rfl ?_
      exact ih (i + 1) (by omega)
    · rw [show alls (wq c r h v) (m + 1) i = false by simp only [alls, hq, Bool.false_and]]
      have hz : ¬ w32 ((ltr h v (i + 1) : Nat) : Int) = w32 (c 57 (40 * r + i)) := fun q => hq (decide_eq_true (ew.symm.trans q))
      refine Rn.run 2 (ls' := [_, _, _, _, _, _, _]) (st' := [_, _]) rfl ?_
      refine Rn.getI rfl (xS_row hr) ?_
      rw [rS]
      refine Rn.ge2 rfl (fun e33 => absurd e33 (by exact fun h => absurd ((y_ge (by omega) (by omega)).mp h) (by omega))) (fun e33 => ?_)
      refine Rn.run 3 (ls' := [_, _, _, _, _, _, _]) (st' := [_, _, _]) rfl ?_
      refine Rn.call rfl rfl rfl rfl rfl (c5 (m := 1) hh h9i (by omega)) ?_
      rw [ltr_s]
      refine Rn.run 3 (ls' := [_, _, _, _, _, _, _]) (st' := [_, _]) rfl ?_
      refine Rn.getR rfl (xS_row hr) (xR_row hr).2 ?_
      refine Rn.run 1 (ls' := [_, _, _, _, _, _, _]) (st' := [_, _, _]) rfl ?_
      refine Rn.ald rfl (xS_pl hr) (i) (x_wn (by omega)) (by omega) ?_
      rw [r4 i (by omega)]
      refine Rn.eq2 rfl (fun e55 => absurd e55 (by exact hz)) (fun e55 => ?_)
      refine Rn.run 1 (ls' := [_, _, _, _, _, _, _]) (st' := [_]) rfl ?_
      exact Rn.retZ rfl (Or.inl rfl) rfl
theorem c124 {ex : xO} {d : Nat} {c : Nat → Nat → Int} {b : Bool} {n D T Mo : Nat} {kd bo wo L : Nat → Nat} (hP : pS n kd bo wo D T Mo L) (hc : cS c b n kd bo wo D T Mo L) {r S : Nat} (hr : r < 6) (i1 : iRow c) (hS : c 56 r = (S : Nat)) {s j : Nat} (hs : s < 64) (hj : j < 8) : An ex (d + 5) 124 7 [xA 0, xI (s : Int), xI (j : Int), xA (22 + 2 * r)] (hp c b) (xI (if alls (wq c r (hnt kd bo n s j) (L j)) S 0 = true then 1 else 0), hp c b) := by
  obtain ⟨ho, h40, hT, h9, hMo⟩ := hP
  obtain ⟨hC, d7, t9, hL, m10⟩ := hc
  have hn := ho.1
  have hT6 := p64 hn hT
  have hq := hnt_le kd bo n s j
  have h9j := h9 j hj
  have q100 : hnt kd bo n s j ≤ 100 := by omega
  refine Rn.run 1 (ls' := [_, _, _, _, _, _, _]) (st' := [_]) rfl ?_
  refine Rn.getR rfl ⟨by decide, rfl, rfl⟩ (j := gid b) (rfl) ?_
  refine Rn.run 2 (ls' := [_, _, _, _, _, _, _]) (st' := [_, _, _]) rfl ?_
  refine Rn.callV rfl (x_sv (xS_g b)) rfl rfl rfl (c23 ho hC hs hj) ?_
  refine Rn.run 3 (ls' := [_, _, _, _, _, _, _]) (st' := [_]) rfl ?_
  refine Rn.call rfl rfl rfl rfl rfl (c10 d7 h40) ?_
  refine Rn.run 1 (ls' := [_, _, _, _, _, _, _]) (st' := [_, _]) rfl ?_
  refine Rn.call rfl rfl rfl rfl rfl (c0 hj) ?_
  rw [hL j hj]
  refine Rn.run 3 (ls' := [_, _, _, _, _, _, _]) (st' := []) rfl ?_
  refine Rn.ls ?_ (l124 (d := d + 3) (h := hnt kd bo n s j) (v := L j) (s := s) (j := j) hr i1 hS q100 h9j S 0 (Nat.zero_add S))
  rw [ltr_0 h9j]
  first | done | rfl
def wfit (c : Nat → Nat → Int) (r S : Nat) (kd bo : Nat → Nat) (n : Nat) (L : Nat → Nat) (j s : Nat) : Bool := alls (wq c r (hnt kd bo n s j) (L j)) S 0
def wP (c c' : Nat → Nat → Int) (r S : Nat) (kd bo : Nat → Nat) (n : Nat) (L : Nat → Nat) (j o N : Nat) : Prop := (∀ s, s < N → c' 66 s = (if wfit c r S kd bo n L j s = true then 1 else 0)) ∧ (∀ s, s < N → c' 67 s = (mo kd bo n s S L o : Nat)) ∧ ∀ a k, a ≠ 63 → a ≠ 66 → a ≠ 67 → c' a k = c a k
theorem l201a {ex : xO} {d : Nat} {c : Nat → Nat → Int} {b : Bool} {n : Nat} {kd bo wo : Nat → Nat} (ho : gok n kd bo wo) (hM : mG c n kd bo wo) {r S : Nat} (hr : r < 6) (i1 : iRow c) (hS : c 56 r = (S : Nat)) {L : Nat → Nat} (h9 : l9 L) {j o s : Nat} (hj : j < 8) (hs : s < 64) {a : xV} {O : xV × xH} : ∀ (m k : Nat) (y : Bool), k + m = S → Rn ex xt201 (d + 5) 25 [xA 54, xI (j : Int), xI (r : Int), xI (o : Int), a, xI (s : Int), xI (if (y && alls (wq c r (hnt kd bo n s j) (L j)) m k) = true then 1 else 0), xI (S : Int)] [] (hp (lf c (mo kd bo n s S L)) b) O → Rn ex xt201 (d + 5) 25 [xA 54, xI (j : Int), xI (r : Int), xI (o : Int), a, xI (s : Int), xI (if y = true then 1 else 0), xI (k : Int)] [] (hp (lf c (mo kd bo n s k L)) b) O := by
  obtain ⟨r1, r2, r3, r4⟩ := i1 r hr
  have S40 : S ≤ 40 := by omega
  have rS : c (22 + 2 * r) 0 = (S : Nat) := by rw [r1]; exact hS
  intro m
  induction m with
  | zero =>
    intro k y hm kk
    obtain rfl : k = S := by omega
    rw [show (y && alls (wq c r (hnt kd bo n s j) (L j)) 0 k) = y from Bool.and_true y] at kk
    exact kk
  | succ m ih =>
    intro k y hm kk
    have h9i := ltr_9 (h := hnt kd bo n s j) (v := L j) (m := k + 1) (h9 j hj)
    have ew : w32 ((ltr (hnt kd bo n s j) (L j) (k + 1) : Nat) : Int) = ((ltr (hnt kd bo n s j) (L j) (k + 1) : Nat) : Int) := x_wn (by omega)
    cases y
    · have q := ih (k + 1) false (by omega) kk
      refine Rn.run 4 (ls' := [_, _, _, _, _, _, _, _]) (st' := [_, _, _]) rfl ?_
      refine Rn.ald rfl ⟨by decide, rfl⟩ (r) (x_wn (n := r) (by omega)) (by omega) ?_
      rw [lf_out _ _ (by decide), hS]
      refine Rn.ge2 rfl (fun e33 => absurd e33 (by exact fun h => absurd ((y_ge (by omega) (by omega)).mp h) (by omega))) (fun e33 => ?_)
      refine Rn.run 2 (ls' := [_, _, _, _, _, _, _, _]) (st' := [_, _]) rfl ?_
      refine Rn.call rfl rfl rfl rfl rfl (c169 ho (mG_lf hM) hs (mo_9 h9) (fun j hj => lf_in _ _ hj)) ?_
      rw [lf_lf, mo_s]
      refine Rn.run 1 (ls' := [_, _, _, _, _, _, _, _]) (st' := [_]) rfl ?_
      refine Rn.eq0 rfl (fun e44 => ?_) (fun e44 => absurd e44 (by decide))
      refine Rn.run 4 (ls' := [_, _, _, _, _, _, _, _]) (st' := []) rfl ?_
      exact q
    · by_cases hq : wq c r (hnt kd bo n s j) (L j) k = true
      · rw [show (true && alls (wq c r (hnt kd bo n s j) (L j)) (m + 1) k) = (true && alls (wq c r (hnt kd bo n s j) (L j)) m (k + 1)) by simp only [alls, hq, Bool.true_and]] at kk
        have hz : w32 ((mo kd bo n s (k + 1) L j : Nat) : Int) = w32 (c 57 (40 * r + k)) := ew.trans (of_decide_eq_true hq)
        have q := ih (k + 1) true (by omega) kk
        refine Rn.run 4 (ls' := [_, _, _, _, _, _, _, _]) (st' := [_, _, _]) rfl ?_
        refine Rn.ald rfl ⟨by decide, rfl⟩ (r) (x_wn (n := r) (by omega)) (by omega) ?_
        rw [lf_out _ _ (by decide), hS]
        refine Rn.ge2 rfl (fun e33 => absurd e33 (by exact fun h => absurd ((y_ge (by omega) (by omega)).mp h) (by omega))) (fun e33 => ?_)
        refine Rn.run 2 (ls' := [_, _, _, _, _, _, _, _]) (st' := [_, _]) rfl ?_
        refine Rn.call rfl rfl rfl rfl rfl (c169 ho (mG_lf hM) hs (mo_9 h9) (fun j hj => lf_in _ _ hj)) ?_
        rw [lf_lf, mo_s]
        refine Rn.run 1 (ls' := [_, _, _, _, _, _, _, _]) (st' := [_]) rfl ?_
        refine Rn.eq0 rfl (fun e44 => absurd e44 (by decide)) (fun e44 => ?_)
        refine Rn.run 3 (ls' := [_, _, _, _, _, _, _, _]) (st' := [_, _]) rfl ?_
        refine Rn.ald rfl ⟨by decide, rfl⟩ (j) (x_wn (n := j) (by omega)) (by omega) ?_
        rw [lf_in _ _ hj]
        refine Rn.run 7 (ls' := [_, _, _, _, _, _, _, _]) (st' := [_, _, _]) rfl ?_
        refine Rn.ald rfl ⟨by decide, rfl⟩ (40 * r + k) (x_wn (n := 40 * r + k) (by omega)) (by omega) ?_
        rw [lf_out _ _ (by decide)]
        refine Rn.ne2 rfl (fun e65 => absurd e65 (by exact fun h => h hz)) (fun e65 => ?_)
        refine Rn.run 5 (ls' := [_, _, _, _, _, _, _, _]) (st' := []) rfl ?_
        exact q
      · rw [show (true && alls (wq c r (hnt kd bo n s j) (L j)) (m + 1) k) = (false && alls (wq c r (hnt kd bo n s j) (L j)) m (k + 1)) by simp only [alls, hq, Bool.true_and, Bool.false_and]] at kk
        have hz : ¬ w32 ((mo kd bo n s (k + 1) L j : Nat) : Int) = w32 (c 57 (40 * r + k)) := fun q => hq (decide_eq_true (ew.symm.trans q))
        have q := ih (k + 1) false (by omega) kk
        refine Rn.run 4 (ls' := [_, _, _, _, _, _, _, _]) (st' := [_, _, _]) rfl ?_
        refine Rn.ald rfl ⟨by decide, rfl⟩ (r) (x_wn (n := r) (by omega)) (by omega) ?_
        rw [lf_out _ _ (by decide), hS]
        refine Rn.ge2 rfl (fun e33 => absurd e33 (by exact fun h => absurd ((y_ge (by omega) (by omega)).mp h) (by omega))) (fun e33 => ?_)
        refine Rn.run 2 (ls' := [_, _, _, _, _, _, _, _]) (st' := [_, _]) rfl ?_
        refine Rn.call rfl rfl rfl rfl rfl (c169 ho (mG_lf hM) hs (mo_9 h9) (fun j hj => lf_in _ _ hj)) ?_
        rw [lf_lf, mo_s]
        refine Rn.run 1 (ls' := [_, _, _, _, _, _, _, _]) (st' := [_]) rfl ?_
        refine Rn.eq0 rfl (fun e44 => absurd e44 (by decide)) (fun e44 => ?_)
        refine Rn.run 3 (ls' := [_, _, _, _, _, _, _, _]) (st' := [_, _]) rfl ?_
        refine Rn.ald rfl ⟨by decide, rfl⟩ (j) (x_wn (n := j) (by omega)) (by omega) ?_
        rw [lf_in _ _ hj]
        refine Rn.run 7 (ls' := [_, _, _, _, _, _, _, _]) (st' := [_, _, _]) rfl ?_
        refine Rn.ald rfl ⟨by decide, rfl⟩ (40 * r + k) (x_wn (n := 40 * r + k) (by omega)) (by omega) ?_
        rw [lf_out _ _ (by decide)]
        refine Rn.ne2 rfl (fun e65 => ?_) (fun e65 => absurd e65 (by exact fun h => h hz))
        refine Rn.run 4 (ls' := [_, _, _, _, _, _, _, _]) (st' := []) rfl ?_
        exact q
theorem l201 {ex : xO} {d : Nat} {c : Nat → Nat → Int} {b : Bool} {n : Nat} {kd bo wo : Nat → Nat} (ho : gok n kd bo wo) (hM : mG c n kd bo wo) {r S : Nat} (hr : r < 6) (i1 : iRow c) (hS : c 56 r = (S : Nat)) {L : Nat → Nat} (h9 : l9 L) {j o : Nat} (hj : j < 8) (ho8 : o < 8) (l55 : ∀ j, j < 8 → c 55 (3 + j) = (L j : Nat)) : ∀ (m s a : Nat) (c' : Nat → Nat → Int) (u v : xV), s + m = 2 ^ n → wP c c' r S kd bo n L j o s → ∃ e, Rn ex xt201 (d + 6) 6 [xA 54, xI (j : Int), xI (r : Int), xI (o : Int), xI (a : Int), xI (s : Int), u, v] [] (hp c' b) (xI ((xit (fc (wfit c r S kd bo n L j)) m s a : Nat) : Int), hp e b) ∧ wP c e r S kd bo n L j o (2 ^ n) := by
  have hn := ho.1
  have hp2 := pp64 hn
  intro m
  induction m with
  | zero =>
    intro s a c' u v hm hw
    obtain rfl : s = 2 ^ n := by omega
    have hM' : mG c' n kd bo wo := mG_fr hn (fun k _ => hw.2.2 55 k (by decide) (by decide) (by decide)) hM
    refine ⟨c', ?_, hw⟩
    refine Rn.run 2 (ls' := [_, _, _, _, _, _, _, _]) (st' := [_, _]) rfl ?_
    refine Rn.call rfl rfl rfl rfl rfl (c163 hn hM'.1) ?_
    refine Rn.gt2 rfl (fun e12 => ?_) (fun e12 => absurd e12 (by exact fun h => h ((z_all hn hp2).mpr (Nat.le_refl _))))
    refine Rn.run 1 (ls' := [_, _, _, _, _, _, _, _]) (st' := [_]) rfl ?_
    exact Rn.ret rfl rfl rfl rfl rfl rfl
  | succ m ih =>
    intro s a c' u v hm hw
    obtain ⟨w1, w2, w3⟩ := hw
    have hs : s < 64 := by omega
    have S31 : S < 2147483648 := by have := (i1 r hr).2.2.1; omega
    have s64' : s ≤ 64 := by omega
    have sn : ¬ 2 ^ n ≤ s := by omega
    have hM' : mG c' n kd bo wo := mG_fr hn (fun k _ => w3 55 k (by decide) (by decide) (by decide)) hM
    have i1' : iRow c' := iRow_fr (fun a k ha => w3 a k (by omega) (by omega) (by omega)) i1
    have hS' : c' 56 r = (S : Nat) := by rw [w3 56 r (by decide) (by decide) (by decide)]; exact hS
    have ewq : wq c' r = wq c r := wq_fr (fun k => w3 57 k (by decide) (by decide) (by decide)) r
    have l55' : ∀ j, j < 8 → c' 55 (3 + j) = (L j : Nat) := fun j hj => by rw [w3 55 _ (by decide) (by decide) (by decide)]; exact l55 j hj
    have hw2 : wP c (xup (xup (lf c' (mo kd bo n s S L)) 66 s (if wfit c r S kd bo n L j s = true then 1 else 0)) 67 s ((mo kd bo n s S L o : Nat) : Int)) r S kd bo n L j o (s + 1) := by
      refine ⟨fun x hx => ?_, fun x hx => ?_, fun a k h1 h2 h3 => ?_⟩
      · rw [xup_n _ _ (by omega)]
        by_cases e : x = s
        · rw [e, xup_s]
        · rw [xup_n _ _ (by omega), lf_out _ _ (by decide)]; exact w1 x (by omega)
      · by_cases e : x = s
        · rw [e, xup_s]
        · rw [xup_n _ _ (by omega), xup_n _ _ (by omega), lf_out _ _ (by decide)]; exact w2 x (by omega)
      · rw [xup_n _ _ (by omega), xup_n _ _ (by omega), lf_out _ _ h1]; exact w3 a k h1 h2 h3
    obtain ⟨e, q, f⟩ := ih (s + 1) (fc (wfit c r S kd bo n L j) s a) _ (xI (if wfit c r S kd bo n L j s = true then 1 else 0)) (xI (S : Int)) (by omega) hw2
    refine ⟨e, ?_, f⟩
    refine Rn.run 2 (ls' := [_, _, _, _, _, _, _, _]) (st' := [_, _]) rfl ?_
    refine Rn.call rfl rfl rfl rfl rfl (c163 hn hM'.1) ?_
    refine Rn.gt2 rfl (fun e12 => absurd e12 (by exact fun h => absurd ((z_all hn s64').mp h) sn)) (fun e12 => ?_)
    refine Rn.run 1 (ls' := [_, _, _, _, _, _, _, _]) (st' := [_]) rfl ?_
    refine Rn.call rfl rfl rfl rfl rfl (c168 l55') ?_
    refine Rn.run 4 (ls' := [_, _, _, _, _, _, _, _]) (st' := []) rfl ?_
    rw [lf_congr (fun j hj => (mo_0 (kd := kd) (bo := bo) (n := n) (s := s) h9 j hj).symm)]
    refine l201a ho hM' hr i1' hS' h9 hj hs S 0 true (Nat.zero_add S) ?_
    rw [ewq]
    show Rn ex xt201 (d + 6) 25 [xA 54, xI (j : Int), xI (r : Int), xI (o : Int), xI (a : Int), xI (s : Int), xI (if wfit c r S kd bo n L j s = true then 1 else 0), xI (S : Int)] [] (hp (lf c' (mo kd bo n s S L)) b) _
    refine Rn.run 4 (ls' := [_, _, _, _, _, _, _, _]) (st' := [_, _, _]) rfl ?_
    refine Rn.ald rfl ⟨by decide, rfl⟩ (r) (x_wn (n := r) (by omega)) (by omega) ?_
    rw [lf_out _ _ (by decide), hS']
    refine Rn.ge2 rfl (fun e33 => ?_) (fun e33 => absurd e33 (by exact fun h => h ((y_ge S31 S31).mpr (Nat.le_refl _))))
    refine Rn.run 4 (ls' := [_, _, _, _, _, _, _, _]) (st' := [_, _, _]) rfl ?_
    refine Rn.zast rfl ⟨by decide, rfl⟩ (x_01 _) (s) (x_wn (n := s) (by omega)) (by omega) ?_
    refine Rn.run 6 (ls' := [_, _, _, _, _, _, _, _]) (st' := [_, _, _, _]) rfl ?_
    refine Rn.ald rfl ⟨by decide, rfl⟩ (o) (x_wn (n := o) (by omega)) (by omega) ?_
    rw [xup_n _ _ (by omega), lf_in _ _ ho8]
    refine Rn.ast rfl ⟨by decide, rfl⟩ (s) (x_wn (n := s) (by omega)) (by omega) ?_
    refine Rn.run 2 (ls' := [_, _, _, _, _, _, _, _]) (st' := [_, _]) rfl ?_
    refine Rn.eqB rfl (fun e107 => ?_) (fun e107 => ?_)
    · refine Rn.run 5 (ls' := [_, _, _, _, _, _, _, _]) (st' := []) rfl ?_
      refine Rn.ls ?_ q
      first | (rw [show fc (wfit c r S kd bo n L j) s a = a + 1 from congrArg (fun z => a + z) (if_pos e107)]; first | done | rfl) | (rw [show fc (wfit c r S kd bo n L j) s a = a from congrArg (fun z => a + z) (if_neg e107)]; first | done | rfl)
    · refine Rn.run 6 (ls' := [_, _, _, _, _, _, _, _]) (st' := []) rfl ?_
      refine Rn.ls ?_ q
      first | (rw [show fc (wfit c r S kd bo n L j) s a = a + 1 from congrArg (fun z => a + z) (if_pos e107)]; first | done | rfl) | (rw [show fc (wfit c r S kd bo n L j) s a = a from congrArg (fun z => a + z) (if_neg e107)]; first | done | rfl)
theorem c201 {ex : xO} {d : Nat} {c : Nat → Nat → Int} {b : Bool} {n : Nat} {kd bo wo : Nat → Nat} (ho : gok n kd bo wo) (hM : mG c n kd bo wo) {r S : Nat} (hr : r < 6) (i1 : iRow c) (hS : c 56 r = (S : Nat)) {L : Nat → Nat} (h9 : l9 L) {j o : Nat} (hj : j < 8) (ho8 : o < 8) (l55 : ∀ j, j < 8 → c 55 (3 + j) = (L j : Nat)) : ∃ e, An ex (d + 6) 201 8 [xA 54, xI (j : Int), xI (r : Int), xI (o : Int)] (hp c b) (xI (cnt (wfit c r S kd bo n L j) (2 ^ n) : Nat), hp e b) ∧ wP c e r S kd bo n L j o (2 ^ n) := by
  obtain ⟨e, q, f⟩ := l201 (ex := ex) (d := d) (b := b) ho hM hr i1 hS h9 hj ho8 l55 (2 ^ n) 0 0 c xU xU (Nat.zero_add _) ⟨fun s hs => absurd hs (Nat.not_lt_zero s), fun s hs => absurd hs (Nat.not_lt_zero s), fun _ _ _ _ _ => rfl⟩
  refine ⟨e, ?_, f⟩
  refine Rn.run 4 (ls' := [_, _, _, _, _, _, _, _]) (st' := []) rfl ?_
  exact q
