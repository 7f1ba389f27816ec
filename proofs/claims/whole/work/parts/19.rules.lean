-- rules with a receiver that is not a number written out
section RS
variable {ex : xO} {t : xT} {d pc : Nat} {ls st : List xV} {o : xV × xH} {c : Nat → Nat → Int} {b : Bool}
theorem Rn.getI {i nx P X Y W : Nat} {V : Int} {a : Nat} (he : xfind t pc = some (.getfield i, nx, P, X, Y, 0, W, V)) (hs : a < 71 ∧ (xS a).1 = 0 ∧ (xS a).2.1 = X) (kk : Rn ex t d nx ls (xI (c a Y) :: st) (hp c b) o) : Rn ex t d pc ls (xA a :: st) (hp c b) o := by
  refine Rn.A he (q := (nx, ls, xI (c a Y) :: st)) ?_ kk
  simp only [xstA]
  rw [if_pos hs]
theorem Rn.getR {i nx P X Y W : Nat} {V : Int} {a j : Nat} (he : xfind t pc = some (.getfield i, nx, P, X, Y, 2, W, V)) (hs : a < 71 ∧ (xS a).1 = 0 ∧ (xS a).2.1 = X) (hj : xR b a Y = some j) (kk : Rn ex t d nx ls (xA j :: st) (hp c b) o) : Rn ex t d pc ls (xA a :: st) (hp c b) o := by
  refine Rn.A he (q := (nx, ls, xA j :: st)) ?_ kk
  simp only [xstA]
  rw [if_pos hs]
  simp [hj]
theorem Rn.putI {i nx P X Y W : Nat} {V v : Int} {a : Nat} (he : xfind t pc = some (.putfield i, nx, P, X, Y, 0, W, V)) (hs : a < 71 ∧ (xS a).1 = 0 ∧ (xS a).2.1 = X) (kk : Rn ex t d nx ls st (hp (xup c a Y v) b) o) : Rn ex t d pc ls (xI v :: xA a :: st) (hp c b) o := by
  refine Rn.B he rfl (q := (nx, st, hp (xup c a Y v) b)) ?_ kk
  simp only [xstB]
  rw [if_pos hs]
theorem Rn.callV {i nx P X Y Z W a : Nat} {V : Int} {as : List xV} {v : xV} {h' : xH} (he : xfind t pc = some (.invokevirtual i, nx, P, X, Y, Z, W, V)) (hs : a < 71 ∧ (xS a).1 = 0 ∧ ((xS a).2.1 : Int) = V) (hb : (Nat.ble 2 Y || Nat.blt st.length Z || Nat.blt W (xent (st.take Z).reverse).length) = false) (ht : (st.take Z).reverse = xA a :: as) (h8 : Nat.ble (xcat (st.drop Z)) 8 = true)
    (ha : Rn ex (xtb X) d 0 (xpad W (xent (xA a :: as))) [] (hp c b) (v, h')) (k : Rn ex t (d + 1) nx ls (xpush v (st.drop Z)) h' o) : Rn ex t (d + 1) pc ls st (hp c b) o := by
  refine Rn.call (q := (X, xA a :: as, st.drop Z)) he rfl rfl rfl ?_ ha k
  unfold xcal
  dsimp only
  rw [hb]
  simp only [cond_false]
  rw [ht]
  dsimp only
  rw [if_pos ⟨hs.1, hs.2.1, hs.2.2, Nat.le_of_ble_eq_true h8⟩]
theorem Rn.retZ {nx P X : Nat} {r : Nat × Nat × Nat × Int} {v v' : Int} {h : xH} (he : xfind t pc = some (.ireturn, nx, P, X, r)) (h01 : v = 0 ∨ v = 1) (hv : v = v') : Rn ex t d pc ls [xI v] h (xI v', h) := by
  obtain ⟨r1, r2, r3, r4⟩ := r
  refine Rn.ret he rfl rfl (v := xI v) ?_ (by rw [hv]) rfl
  simp only [xret]
  rw [if_pos (Or.inr h01)]
theorem x_01 (P : Prop) [Decidable P] : (if P then (1 : Int) else 0) = 0 ∨ (if P then (1 : Int) else 0) = 1 := by
  by_cases h : P <;> simp [h]
end RS
theorem x_ifc {α : Type} {P Q : Prop} [Decidable P] [Decidable Q] (h : P ↔ Q) {a b : α} : (if P then a else b) = (if Q then a else b) := by
  by_cases hp : P
  · rw [if_pos hp, if_pos (h.mp hp)]
  · rw [if_neg hp, if_neg (fun q => hp (h.mpr q))]
theorem xS_row {k : Nat} (hk : k < 6) : 22 + 2 * k < 71 ∧ (xS (22 + 2 * k)).1 = 0 ∧ (xS (22 + 2 * k)).2.1 = 6 := by
  match k, hk with
  | 0, _ => decide
  | 1, _ => decide
  | 2, _ => decide
  | 3, _ => decide
  | 4, _ => decide
  | 5, _ => decide
  | k + 6, h => omega
theorem xS_pl {k : Nat} (hk : k < 6) : 23 + 2 * k < 71 ∧ xS (23 + 2 * k) = (1, 0, 40) := by
  match k, hk with
  | 0, _ => decide
  | 1, _ => decide
  | 2, _ => decide
  | 3, _ => decide
  | 4, _ => decide
  | 5, _ => decide
  | k + 6, h => omega
theorem xR_row {b : Bool} {k : Nat} (hk : k < 6) : xR b 1 k = some (22 + 2 * k) ∧ xR b (22 + 2 * k) 1 = some (23 + 2 * k) := by
  match k, hk with
  | 0, _ => exact ⟨rfl, rfl⟩
  | 1, _ => exact ⟨rfl, rfl⟩
  | 2, _ => exact ⟨rfl, rfl⟩
  | 3, _ => exact ⟨rfl, rfl⟩
  | 4, _ => exact ⟨rfl, rfl⟩
  | 5, _ => exact ⟨rfl, rfl⟩
  | k + 6, h => omega
theorem xS_txt {k : Nat} (hk : k < 4) : 34 + 2 * k < 71 ∧ (xS (34 + 2 * k)).1 = 0 ∧ (xS (34 + 2 * k)).2.1 = 7 := by
  match k, hk with
  | 0, _ => decide
  | 1, _ => decide
  | 2, _ => decide
  | 3, _ => decide
  | k + 4, h => omega
theorem xS_by {k : Nat} (hk : k < 4) : 35 + 2 * k < 71 ∧ xS (35 + 2 * k) = (1, 1, 60) := by
  match k, hk with
  | 0, _ => decide
  | 1, _ => decide
  | 2, _ => decide
  | 3, _ => decide
  | k + 4, h => omega
theorem xR_txt {b : Bool} {k : Nat} (hk : k < 4) : xR b 2 k = some (34 + 2 * k) ∧ xR b (34 + 2 * k) 1 = some (35 + 2 * k) := by
  match k, hk with
  | 0, _ => exact ⟨rfl, rfl⟩
  | 1, _ => exact ⟨rfl, rfl⟩
  | 2, _ => exact ⟨rfl, rfl⟩
  | 3, _ => exact ⟨rfl, rfl⟩
  | k + 4, h => omega
theorem xS_kpt {k : Nat} (hk : k < 3) : 42 + 4 * k < 71 ∧ (xS (42 + 4 * k)).1 = 0 ∧ (xS (42 + 4 * k)).2.1 = 1 := by
  match k, hk with
  | 0, _ => decide
  | 1, _ => decide
  | 2, _ => decide
  | k + 3, h => omega
theorem xS_kpa {k j : Nat} (hk : k < 3) (hj : j < 3) : 43 + 4 * k + j < 71 ∧ xS (43 + 4 * k + j) = (1, 0, 41) := by
  match k, hk, j, hj with
  | 0, _, 0, _ => decide
  | 0, _, 1, _ => decide
  | 0, _, 2, _ => decide
  | 1, _, 0, _ => decide
  | 1, _, 1, _ => decide
  | 1, _, 2, _ => decide
  | 2, _, 0, _ => decide
  | 2, _, 1, _ => decide
  | 2, _, 2, _ => decide
  | k + 3, h, _, _ => omega
  | _, _, k + 3, h => omega
theorem xR_kpt {b : Bool} {k : Nat} (hk : k < 3) : xR b 11 k = some (42 + 4 * k) ∧ xR b (42 + 4 * k) 1 = some (43 + 4 * k) ∧ xR b (42 + 4 * k) 2 = some (44 + 4 * k) ∧ xR b (42 + 4 * k) 3 = some (45 + 4 * k) := by
  match k, hk with
  | 0, _ => exact ⟨rfl, rfl, rfl, rfl⟩
  | 1, _ => exact ⟨rfl, rfl, rfl, rfl⟩
  | 2, _ => exact ⟨rfl, rfl, rfl, rfl⟩
  | k + 3, h => omega
theorem x_nat6 {r : Int} {n : Nat} (h : 0 ≤ w32 r ∧ w32 r < n) : ∃ k : Nat, k < n ∧ w32 r = (k : Int) := ⟨(w32 r).toNat, by omega, by omega⟩
