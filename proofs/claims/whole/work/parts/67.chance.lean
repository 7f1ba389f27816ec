-- chances: the sums
def sumN (f : Nat → Nat) (N : Nat) : Nat := xit (fun x a => a + f x) N 0 0
theorem sumN_s (f : Nat → Nat) (N : Nat) : sumN f (N + 1) = sumN f N + f N := by unfold sumN; rw [xit_l, Nat.zero_add]
theorem sumN_congr {f g : Nat → Nat} {N : Nat} (h : ∀ x, x < N → f x = g x) : sumN f N = sumN g N := xit_congr N 0 0 (fun j a _ hj => by rw [h j (by omega)])
theorem sumN_add (f g : Nat → Nat) (N : Nat) : sumN (fun x => f x + g x) N = sumN f N + sumN g N := by
  induction N with
  | zero => rfl
  | succ N ih => rw [sumN_s, sumN_s, sumN_s, ih]; omega
theorem sumN_2 (f : Nat → Nat) (N : Nat) : sumN f (2 * N) = sumN (fun y => f (2 * y)) N + sumN (fun y => f (2 * y + 1)) N := by
  induction N with
  | zero => rfl
  | succ N ih =>
    rw [show 2 * (N + 1) = 2 * N + 1 + 1 by omega, sumN_s, sumN_s, sumN_s, sumN_s, ih]
    omega
theorem tb_even0 (y : Nat) : (2 * y).testBit 0 = false := by simp
theorem tb_odd0 (y : Nat) : (2 * y + 1).testBit 0 = true := by simp
theorem tb_even (y k : Nat) : (2 * y).testBit (k + 1) = y.testBit k := by rw [Nat.testBit_succ]; congr 1; omega
theorem tb_odd (y k : Nat) : (2 * y + 1).testBit (k + 1) = y.testBit k := by rw [Nat.testBit_succ]; congr 1; omega
/-- telling by choice -/
def cst (kd bo wo : Nat → Nat) (n : Nat) (u : Nat → Bool) (i : Nat) (t : Nat × (Nat → Nat)) : Nat × (Nat → Nat) := if u i = true ∧ can kd n t.1 i = true then (t.1 ||| 2 ^ i, tl kd bo wo i t.2) else t
/-- the model's weight -/
def mst (kd bo wo : Nat → Nat) (n p : Nat) (u : Nat → Bool) (i : Nat) (t : (Nat × (Nat → Nat)) × Nat) : (Nat × (Nat → Nat)) × Nat := (cst kd bo wo n u i t.1, t.2 * (if can kd n t.1.1 i = true then (if u i = true then p else 12 - p) else (if u i = true then 0 else 12)))
/-- the class's weight -/
def kst (kd bo wo : Nat → Nat) (n T p : Nat) (u : Nat → Bool) (i : Nat) (t : (Nat × (Nat → Nat)) × Nat) : (Nat × (Nat → Nat)) × Nat := (cst kd bo wo n u i t.1, t.2 * (if T.testBit i = true then (if u i = true then 0 else 1) else (if u i = true then p else 12 - p)))
def Sm (kd bo wo : Nat → Nat) (n p : Nat) (V : (Nat → Nat) → Nat) : Nat → Nat → Nat × (Nat → Nat) → Nat
  | 0, _, t => V t.2
  | m + 1, i, t => if can kd n t.1 i = true then p * Sm kd bo wo n p V m (i + 1) (t.1 ||| 2 ^ i, tl kd bo wo i t.2) + (12 - p) * Sm kd bo wo n p V m (i + 1) t else 12 * Sm kd bo wo n p V m (i + 1) t
def Sk (kd bo wo : Nat → Nat) (n T p : Nat) (V : (Nat → Nat) → Nat) : Nat → Nat → Nat × (Nat → Nat) → Nat
  | 0, _, t => V t.2
  | m + 1, i, t => if T.testBit i = true then Sk kd bo wo n T p V m (i + 1) t else p * Sk kd bo wo n T p V m (i + 1) (if can kd n t.1 i = true then (t.1 ||| 2 ^ i, tl kd bo wo i t.2) else t) + (12 - p) * Sk kd bo wo n T p V m (i + 1) t
/-- sums over all choices, a death a bit -/
theorem sum_st {σ : Type} (st : (Nat → Bool) → Nat → σ → σ) (hl : ∀ u u' i t, u i = u' i → st u i t = st u' i t) (f : σ → Nat) (m i : Nat) (t : σ) : sumN (fun x => f (xit (st (fun j => x.testBit (j - i))) (m + 1) i t)) (2 ^ (m + 1)) = sumN (fun y => f (xit (st (fun j => y.testBit (j - (i + 1)))) m (i + 1) (st (fun _ => false) i t))) (2 ^ m) + sumN (fun y => f (xit (st (fun j => y.testBit (j - (i + 1)))) m (i + 1) (st (fun _ => true) i t))) (2 ^ m) := by
  rw [show 2 ^ (m + 1) = 2 * 2 ^ m by rw [Nat.pow_succ, Nat.mul_comm], sumN_2]
  have e1 : ∀ y, xit (st (fun j => (2 * y).testBit (j - i))) (m + 1) i t = xit (st (fun j => y.testBit (j - (i + 1)))) m (i + 1) (st (fun _ => false) i t) := by
    intro y
    rw [xit, hl (fun j => (2 * y).testBit (j - i)) (fun _ => false) i t (by show (2 * y).testBit (i - i) = false; rw [Nat.sub_self]; exact tb_even0 y)]
    exact xit_congr m (i + 1) _ (fun j s h1 h2 => hl _ _ j s (by show (2 * y).testBit (j - i) = y.testBit (j - (i + 1)); rw [show j - i = (j - (i + 1)) + 1 by omega]; exact tb_even y _))
  have e2 : ∀ y, xit (st (fun j => (2 * y + 1).testBit (j - i))) (m + 1) i t = xit (st (fun j => y.testBit (j - (i + 1)))) m (i + 1) (st (fun _ => true) i t) := by
    intro y
    rw [xit, hl (fun j => (2 * y + 1).testBit (j - i)) (fun _ => true) i t (by show (2 * y + 1).testBit (i - i) = true; rw [Nat.sub_self]; exact tb_odd0 y)]
    exact xit_congr m (i + 1) _ (fun j s h1 h2 => hl _ _ j s (by show (2 * y + 1).testBit (j - i) = y.testBit (j - (i + 1)); rw [show j - i = (j - (i + 1)) + 1 by omega]; exact tb_odd y _))
  congr 1
  · exact sumN_congr (fun y _ => by rw [e1])
  · exact sumN_congr (fun y _ => by rw [e2])
theorem cst_l {kd bo wo : Nat → Nat} {n : Nat} (u u' : Nat → Bool) (i : Nat) (t : Nat × (Nat → Nat)) (h : u i = u' i) : cst kd bo wo n u i t = cst kd bo wo n u' i t := by unfold cst; rw [h]
theorem mst_l {kd bo wo : Nat → Nat} {n p : Nat} (u u' : Nat → Bool) (i : Nat) (t : (Nat × (Nat → Nat)) × Nat) (h : u i = u' i) : mst kd bo wo n p u i t = mst kd bo wo n p u' i t := by unfold mst; rw [h, cst_l u u' i t.1 h]
theorem kst_l {kd bo wo : Nat → Nat} {n T p : Nat} (u u' : Nat → Bool) (i : Nat) (t : (Nat × (Nat → Nat)) × Nat) (h : u i = u' i) : kst kd bo wo n T p u i t = kst kd bo wo n T p u' i t := by unfold kst; rw [h, cst_l u u' i t.1 h]
theorem Sm_sum {kd bo wo : Nat → Nat} {n p : Nat} {V : (Nat → Nat) → Nat} : ∀ (m i : Nat) (t : Nat × (Nat → Nat)) (w : Nat), sumN (fun x => (xit (mst kd bo wo n p (fun j => x.testBit (j - i))) m i (t, w)).2 * V (xit (mst kd bo wo n p (fun j => x.testBit (j - i))) m i (t, w)).1.2) (2 ^ m) = w * Sm kd bo wo n p V m i t := by
  intro m
  induction m with
  | zero => intro i t w; show 0 + w * V t.2 = _; rw [Nat.zero_add]; rfl
  | succ m ih =>
    intro i t w
    rw [sum_st (mst kd bo wo n p) mst_l (fun r => r.2 * V r.1.2) m i (t, w)]
    have f0 : mst kd bo wo n p (fun _ => false) i (t, w) = (t, w * (if can kd n t.1 i = true then 12 - p else 12)) := by
      unfold mst cst
      simp
    by_cases hk : can kd n t.1 i = true
    · have f1 : mst kd bo wo n p (fun _ => true) i (t, w) = ((t.1 ||| 2 ^ i, tl kd bo wo i t.2), w * p) := by
        unfold mst cst
        simp [hk]
      rw [f0, f1, if_pos hk, ih, ih]
      show _ = w * Sm kd bo wo n p V (m + 1) i t
      rw [show Sm kd bo wo n p V (m + 1) i t = p * Sm kd bo wo n p V m (i + 1) (t.1 ||| 2 ^ i, tl kd bo wo i t.2) + (12 - p) * Sm kd bo wo n p V m (i + 1) t from if_pos hk, Nat.mul_add, Nat.mul_assoc, Nat.mul_assoc, Nat.add_comm]
    · have f1 : mst kd bo wo n p (fun _ => true) i (t, w) = (t, w * 0) := by
        unfold mst cst
        simp [hk]
      rw [f0, f1, if_neg hk, ih, ih]
      rw [show Sm kd bo wo n p V (m + 1) i t = 12 * Sm kd bo wo n p V m (i + 1) t from if_neg hk, Nat.mul_zero, Nat.zero_mul, Nat.add_zero, Nat.mul_assoc]
theorem Sk_sum {kd bo wo : Nat → Nat} {n T p : Nat} {V : (Nat → Nat) → Nat} : ∀ (m i : Nat) (t : Nat × (Nat → Nat)) (w : Nat), sumN (fun x => (xit (kst kd bo wo n T p (fun j => x.testBit (j - i))) m i (t, w)).2 * V (xit (kst kd bo wo n T p (fun j => x.testBit (j - i))) m i (t, w)).1.2) (2 ^ m) = w * Sk kd bo wo n T p V m i t := by
  intro m
  induction m with
  | zero => intro i t w; show 0 + w * V t.2 = _; rw [Nat.zero_add]; rfl
  | succ m ih =>
    intro i t w
    rw [sum_st (kst kd bo wo n T p) kst_l (fun r => r.2 * V r.1.2) m i (t, w)]
    have f0 : kst kd bo wo n T p (fun _ => false) i (t, w) = (t, w * (if T.testBit i = true then 1 else 12 - p)) := by
      unfold kst cst
      simp
    have f1 : kst kd bo wo n T p (fun _ => true) i (t, w) = (if can kd n t.1 i = true then (t.1 ||| 2 ^ i, tl kd bo wo i t.2) else t, w * (if T.testBit i = true then 0 else p)) := by
      unfold kst cst
      simp
    rw [f0, f1, ih, ih]
    by_cases hk : T.testBit i = true
    · rw [if_pos hk, if_pos hk, show Sk kd bo wo n T p V (m + 1) i t = Sk kd bo wo n T p V m (i + 1) t from if_pos hk, Nat.mul_zero, Nat.zero_mul, Nat.add_zero, Nat.mul_one]
    · rw [if_neg hk, if_neg hk, show Sk kd bo wo n T p V (m + 1) i t = p * Sk kd bo wo n T p V m (i + 1) (if can kd n t.1 i = true then (t.1 ||| 2 ^ i, tl kd bo wo i t.2) else t) + (12 - p) * Sk kd bo wo n T p V m (i + 1) t from if_neg hk, Nat.mul_add, Nat.mul_assoc, Nat.mul_assoc, Nat.add_comm]
def kt (T : Nat) : Nat → Nat → Nat
  | 0, _ => 0
  | m + 1, i => (if T.testBit i = true then 1 else 0) + kt T m (i + 1)
theorem Sm_Sk {kd bo wo : Nat → Nat} {n T p : Nat} (hp : p ≤ 12) {V : (Nat → Nat) → Nat} : ∀ (m i : Nat) (t : Nat × (Nat → Nat)), (∀ j, i ≤ j → t.1.testBit j = T.testBit j) → Sm kd bo wo n p V m i t = 12 ^ kt T m i * Sk kd bo wo n T p V m i t := by
  intro m
  induction m with
  | zero => intro i t _; show _ = 1 * _; rw [Nat.one_mul]; rfl
  | succ m ih =>
    intro i t h
    have h1 := ih (i + 1) t (fun j hj => h j (by omega))
    by_cases hT : T.testBit i = true
    · have hk : ¬ can kd n t.1 i = true := by
        unfold can
        rw [h i (Nat.le_refl i), hT]
        simp
      rw [show Sm kd bo wo n p V (m + 1) i t = 12 * Sm kd bo wo n p V m (i + 1) t from if_neg hk, show Sk kd bo wo n T p V (m + 1) i t = Sk kd bo wo n T p V m (i + 1) t from if_pos hT, h1, show kt T (m + 1) i = 1 + kt T m (i + 1) by show (if T.testBit i = true then 1 else 0) + _ = _; rw [if_pos hT], Nat.pow_add, Nat.pow_one, Nat.mul_assoc]
    · rw [show Sk kd bo wo n T p V (m + 1) i t = p * Sk kd bo wo n T p V m (i + 1) (if can kd n t.1 i = true then (t.1 ||| 2 ^ i, tl kd bo wo i t.2) else t) + (12 - p) * Sk kd bo wo n T p V m (i + 1) t from if_neg hT, show kt T (m + 1) i = kt T m (i + 1) by show (if T.testBit i = true then 1 else 0) + _ = _; rw [if_neg hT, Nat.zero_add]]
      by_cases hk : can kd n t.1 i = true
      · have h2 := ih (i + 1) (t.1 ||| 2 ^ i, tl kd bo wo i t.2) (fun j hj => by show (t.1 ||| 2 ^ i).testBit j = _; rw [Nat.testBit_or, Nat.testBit_two_pow_of_ne (by omega), Bool.or_false]; exact h j (by omega))
        rw [show Sm kd bo wo n p V (m + 1) i t = p * Sm kd bo wo n p V m (i + 1) (t.1 ||| 2 ^ i, tl kd bo wo i t.2) + (12 - p) * Sm kd bo wo n p V m (i + 1) t from if_pos hk, h1, h2, if_pos hk, Nat.mul_add, Nat.mul_left_comm, Nat.mul_left_comm (12 - p)]
      · rw [show Sm kd bo wo n p V (m + 1) i t = 12 * Sm kd bo wo n p V m (i + 1) t from if_neg hk, h1, if_neg hk, ← Nat.add_mul, show p + (12 - p) = 12 by omega, Nat.mul_left_comm]
theorem kt_cnt (T : Nat) : ∀ m i, kt T m i = xit (fc (fun j => T.testBit j)) m i 0 := by
  have key : ∀ m i a, xit (fc (fun j => T.testBit j)) m i a = a + kt T m i := by
    intro m
    induction m with
    | zero => intro i a; rfl
    | succ m ih =>
      intro i a
      rw [xit, ih]
      show a + (if T.testBit i = true then 1 else 0) + _ = a + ((if T.testBit i = true then 1 else 0) + _)
      omega
  intro m i
  rw [key, Nat.zero_add]
/-- the class's weight is what its powers tell -/
theorem xit_pr {σ τ : Type} (f : Nat → σ → σ) (g : Nat → τ → τ) : ∀ m i s t, xit (fun j (q : σ × τ) => (f j q.1, g j q.2)) m i (s, t) = (xit f m i s, xit g m i t) := by
  intro m
  induction m with
  | zero => intro i s t; rfl
  | succ m ih => intro i s t; exact ih (i + 1) (f i s) (g i t)
def kw (T p : Nat) (u : Nat → Bool) (i w : Nat) : Nat := w * (if T.testBit i = true then (if u i = true then 0 else 1) else (if u i = true then p else 12 - p))
theorem kst_pr (kd bo wo : Nat → Nat) (n T p : Nat) (u : Nat → Bool) (m i : Nat) (t : Nat × (Nat → Nat)) (w : Nat) : xit (kst kd bo wo n T p u) m i (t, w) = (xit (cst kd bo wo n u) m i t, xit (kw T p u) m i w) := xit_pr (cst kd bo wo n u) (kw T p u) m i t w
theorem kw_0 (T p : Nat) (u : Nat → Bool) : ∀ m i, xit (kw T p u) m i 0 = 0 := by
  intro m
  induction m with
  | zero => intro i; rfl
  | succ m ih =>
    intro i
    rw [xit, show kw T p u i 0 = 0 by unfold kw; rw [Nat.zero_mul]]
    exact ih (i + 1)
theorem kw_val {T p : Nat} {u : Nat → Bool} : ∀ n, (∀ i, i < n → u i = true → T.testBit i = false) → cnt u n ≤ cnt (fun i => !T.testBit i) n ∧ xit (kw T p u) n 0 1 = p ^ cnt u n * (12 - p) ^ (cnt (fun i => !T.testBit i) n - cnt u n) := by
  intro n
  induction n with
  | zero => intro _; exact ⟨Nat.le_refl _, rfl⟩
  | succ n ih =>
    intro h
    obtain ⟨h1, h2⟩ := ih (fun i hi => h i (by omega))
    rw [xit_l, Nat.zero_add, h2, cnt_s, cnt_s]
    unfold kw
    by_cases hu : u n = true
    · have ht := h n (by omega) hu
      rw [if_pos hu, ht, if_pos (show (!false) = true from rfl), if_neg (by simp), if_pos hu]
      refine ⟨by omega, ?_⟩
      rw [Nat.add_sub_add_right, Nat.pow_succ]
      rw [Nat.mul_assoc, Nat.mul_comm _ p, ← Nat.mul_assoc]
    · by_cases ht : T.testBit n = true
      · rw [if_neg hu, ht, if_neg (show ¬ (!true) = true by simp), if_pos rfl, if_neg hu, Nat.mul_one]
        exact ⟨h1, rfl⟩
      · have ht' : T.testBit n = false := by simpa using ht
        rw [if_neg hu, ht', if_pos (show (!false) = true from rfl), if_neg (by simp), if_neg hu, Nat.add_zero]
        refine ⟨by omega, ?_⟩
        rw [show cnt (fun i => !T.testBit i) n + 1 - cnt u n = cnt (fun i => !T.testBit i) n - cnt u n + 1 by omega, Nat.pow_succ, Nat.mul_assoc]
theorem kw_no {T p : Nat} {u : Nat → Bool} {n i : Nat} (hi : i < n) (hu : u i = true) (ht : T.testBit i = true) : xit (kw T p u) n 0 1 = 0 := by
  have key : ∀ m k w, k ≤ i → i < k + m → xit (kw T p u) m k w = 0 := by
    intro m
    induction m with
    | zero => intro k w h1 h2; omega
    | succ m ih =>
      intro k w h1 h2
      by_cases e : k = i
      · subst e
        rw [xit, show kw T p u k w = 0 by unfold kw; rw [if_pos ht, if_pos hu, Nat.mul_zero]]
        exact kw_0 T p u m (k + 1)
      · exact ih (k + 1) _ (by omega) (by omega)
  exact key n 0 1 (by omega) (by omega)
theorem pop_tb {x n : Nat} (hn : n ≤ 8) (hx : x < 2 ^ n) : pop x = cnt (fun i => x.testBit i) n := by
  have e : x = bset (fun i => x.testBit i) n := by
    apply Nat.eq_of_testBit_eq
    intro j
    rw [bset_bit]
    by_cases h : j < n
    · simp [h]
    · rw [Nat.testBit_lt_two_pow (Nat.lt_of_lt_of_le hx (Nat.pow_le_pow_right (n := 2) (by decide) (by omega)))]
      simp [h]
  exact (congrArg pop e).trans (pop_bset _ hn)
theorem pop_unt (T : Nat) {n : Nat} (hn : n ≤ 6) : pop (unt n T) = cnt (fun i => !T.testBit i) n := by rw [unt_b]; exact pop_bset _ (by omega)
/-- what the class adds for a set -/
def fC (kd bo wo : Nat → Nat) (n T p : Nat) (L : Nat → Nat) (V : (Nat → Nat) → Nat) (x : Nat) : Nat := if x ^^^ (x &&& unt n T) = 0 then p ^ pop x * (12 - p) ^ (pop (unt n T) - pop x) * V (xit (cst kd bo wo n (fun i => x.testBit i)) n 0 (T, L)).2 else 0
theorem sub_unt {x n T : Nat} (hx : x < 2 ^ n) : (x ^^^ (x &&& unt n T) = 0) ↔ ∀ i, i < n → x.testBit i = true → T.testBit i = false := by
  constructor
  · intro h i hi hb
    have := congrArg (fun z => z.testBit i) h
    simp only [Nat.testBit_xor, Nat.testBit_and, unt_bit, Nat.zero_testBit, hb, hi, decide_true, Bool.true_and] at this
    cases ht : T.testBit i
    · rfl
    · rw [ht] at this; simp at this
  · intro h
    apply Nat.eq_of_testBit_eq
    intro i
    simp only [Nat.testBit_xor, Nat.testBit_and, unt_bit, Nat.zero_testBit]
    by_cases hi : i < n
    · cases hb : x.testBit i
      · rfl
      · simp [hi, h i hi hb]
    · rw [Nat.testBit_lt_two_pow (Nat.lt_of_lt_of_le hx (Nat.pow_le_pow_right (n := 2) (by decide) (by omega)))]
      simp
theorem fC_sum {kd bo wo : Nat → Nat} {n T p : Nat} (hn : n ≤ 6) {L : Nat → Nat} {V : (Nat → Nat) → Nat} : sumN (fC kd bo wo n T p L V) (2 ^ n) = Sk kd bo wo n T p V n 0 (T, L) := by
  rw [← Nat.one_mul (Sk kd bo wo n T p V n 0 (T, L)), ← Sk_sum]
  refine sumN_congr (fun x hx => ?_)
  have e0 : (fun j => x.testBit (j - 0)) = fun j => x.testBit j := rfl
  rw [e0, kst_pr]
  show _ = xit (kw T p (fun j => x.testBit j)) n 0 1 * V (xit (cst kd bo wo n (fun j => x.testBit j)) n 0 (T, L)).2
  unfold fC
  by_cases hs : x ^^^ (x &&& unt n T) = 0
  · rw [if_pos hs, pop_tb (by omega) hx, pop_unt T hn, (kw_val n ((sub_unt hx).mp hs)).2]
  · rw [if_neg hs]
    have : ∃ i, i < n ∧ x.testBit i = true ∧ T.testBit i = true := by
      refine Classical.byContradiction (fun hq => hs ((sub_unt hx).mpr (fun i hi hb => ?_)))
      cases ht : T.testBit i
      · rfl
      · exact absurd ⟨i, hi, hb, ht⟩ hq
    obtain ⟨i, hi, hb, ht⟩ := this
    rw [kw_no hi hb ht, Nat.zero_mul]
def fM (kd bo wo : Nat → Nat) (n T p : Nat) (L : Nat → Nat) (V : (Nat → Nat) → Nat) (x : Nat) : Nat := (xit (mst kd bo wo n p (fun j => x.testBit j)) n 0 ((T, L), 1)).2 * V (xit (mst kd bo wo n p (fun j => x.testBit j)) n 0 ((T, L), 1)).1.2
theorem fM_sum {kd bo wo : Nat → Nat} {n T p : Nat} {L : Nat → Nat} {V : (Nat → Nat) → Nat} : sumN (fM kd bo wo n T p L V) (2 ^ n) = Sm kd bo wo n p V n 0 (T, L) := by
  rw [← Nat.one_mul (Sm kd bo wo n p V n 0 (T, L)), ← Sm_sum]
  exact sumN_congr (fun x hx => rfl)
/-- in lowest terms both are one -/
theorem low_same {kd bo wo : Nat → Nat} {n T p : Nat} (hn : n ≤ 6) (hp : p ≤ 12) {L : Nat → Nat} {V : (Nat → Nat) → Nat} : sumN (fM kd bo wo n T p L V) (2 ^ n) / Nat.gcd (sumN (fM kd bo wo n T p L V) (2 ^ n)) (12 ^ n) = sumN (fC kd bo wo n T p L V) (2 ^ n) / Nat.gcd (sumN (fC kd bo wo n T p L V) (2 ^ n)) (12 ^ pop (unt n T)) ∧ 12 ^ n / Nat.gcd (sumN (fM kd bo wo n T p L V) (2 ^ n)) (12 ^ n) = 12 ^ pop (unt n T) / Nat.gcd (sumN (fC kd bo wo n T p L V) (2 ^ n)) (12 ^ pop (unt n T)) := by
  have e1 : sumN (fM kd bo wo n T p L V) (2 ^ n) = 12 ^ kt T n 0 * sumN (fC kd bo wo n T p L V) (2 ^ n) := by
    rw [fM_sum, fC_sum hn]
    exact Sm_Sk hp n 0 (T, L) (fun j _ => rfl)
  have e2 : 12 ^ n = 12 ^ kt T n 0 * 12 ^ pop (unt n T) := by
    rw [← Nat.pow_add, pop_unt T hn, kt_cnt, xit_cnt, cnt_not]
  have h0 : 0 < 12 ^ kt T n 0 := Nat.pow_pos (by decide)
  rw [e1, e2, Nat.gcd_mul_left, Nat.mul_div_mul_left _ _ h0, Nat.mul_div_mul_left _ _ h0]
  exact ⟨rfl, rfl⟩
