-- the state, seen from both sides
def pS (n : Nat) (kd bo wo : Nat → Nat) (D T Mo : Nat) (L : Nat → Nat) : Prop := gok n kd bo wo ∧ D ≤ 40 ∧ T < 2 ^ n ∧ l9 L ∧ Mo ≤ D
def cS (c : Nat → Nat → Int) (b : Bool) (n : Nat) (kd bo wo : Nat → Nat) (D T Mo : Nat) (L : Nat → Nat) : Prop := cG c b n kd bo wo ∧ c 7 0 = D ∧ c 9 D = T ∧ pk (c 8 D) L ∧ c 10 D = Mo
def mS (c : Nat → Nat → Int) (n : Nat) (kd bo wo : Nat → Nat) (D T Mo : Nat) (L : Nat → Nat) : Prop := mG c n kd bo wo ∧ c 55 29 = D ∧ c 55 2 = T ∧ (∀ j, j < 8 → c 55 (3 + j) = (L j : Nat)) ∧ c 55 1 = Mo
theorem Inv_St {c : Nat → Nat → Int} {b : Bool} (hI : Inv c b) : ∃ (n : Nat) (kd bo wo : Nat → Nat) (D T Mo : Nat) (L : Nat → Nat), pS n kd bo wo D T Mo L ∧ cS c b n kd bo wo D T Mo L ∧ mS c n kd bo wo D T Mo L := by
  obtain ⟨n, hG, ⟨D, h1, h2, h3, h4, ⟨h5, h5a, h5b⟩, ⟨h6, h6a, h6b⟩, -⟩, -⟩ := hI.2.2.2.2
  obtain ⟨kd, bo, wo, ho, hM, hC⟩ := iGrn_G hG
  rw [Nat.zero_add] at h3 h5 h5a h5b h6 h6a h6b
  have hl : ∀ j, j < 8 → lv (c 8 D) j = c 55 (3 + j) ∧ 0 ≤ c 55 (3 + j) ∧ c 55 (3 + j) ≤ 9 := fun j hj => by have := h4 j hj; rw [Nat.zero_add] at this; exact this
  have hTn : (c 55 2).toNat < 2 ^ n := by
    have e : ((2 ^ n : Nat) : Int) = (2 : Int) ^ n := by push_cast; rfl
    omega
  refine ⟨n, kd, bo, wo, D, (c 55 2).toNat, (c 55 1).toNat, fun j => (c 55 (3 + j)).toNat, ⟨ho, h1, hTn, fun j hj => ?_, by omega⟩, ⟨hC, h2, by omega, fun j hj => ?_, by omega⟩, ⟨hM, h3, by omega, fun j hj => ?_, by omega⟩⟩
  · have := hl j hj
    show (c 55 (3 + j)).toNat ≤ 9
    omega
  · have := hl j hj
    show _ = (((c 55 (3 + j)).toNat : Nat) : Int)
    omega
  · have := hl j hj
    show _ = (((c 55 (3 + j)).toNat : Nat) : Int)
    omega
theorem mS_fr {c c' : Nat → Nat → Int} {n D T Mo : Nat} {kd bo wo L : Nat → Nat} (h : ∀ k, c' 55 k = c 55 k) (hm : mS c n kd bo wo D T Mo L) : mS c' n kd bo wo D T Mo L := by
  obtain ⟨hM, d29, t2, l55, m1⟩ := hm
  exact ⟨⟨by rw [h]; exact hM.1, fun i hi => by rw [h, h, h]; exact hM.2 i hi⟩, by rw [h]; exact d29, by rw [h]; exact t2, fun j hj => by rw [h]; exact l55 j hj, by rw [h]; exact m1⟩
theorem cS_fr {c c' : Nat → Nat → Int} {b : Bool} {n D T Mo : Nat} {kd bo wo L : Nat → Nat} (h : ∀ a k, (7 ≤ a ∧ a ≤ 10) ∨ (gid b ≤ a ∧ a ≤ gid b + 3) → c' a k = c a k) (hm : cS c b n kd bo wo D T Mo L) : cS c' b n kd bo wo D T Mo L := by
  obtain ⟨hC, d7, t9, hL, m10⟩ := hm
  exact ⟨cG_fr (fun a k ha => h a k (by omega)) hC, by rw [h _ _ (by omega)]; exact d7, by rw [h _ _ (by omega)]; exact t9, by rw [h _ _ (by omega)]; exact hL, by rw [h _ _ (by omega)]; exact m10⟩
/-- what neither side's answers show -/
def scr (a : Nat) : Prop := (3 ≤ a ∧ a ≤ 6) ∨ a = 12 ∨ (61 ≤ a ∧ a ≤ 70)
theorem Inv_scr {c c' : Nat → Nat → Int} {b : Bool} (h : ∀ a k, ¬ scr a → c' a k = c a k) (hI : Inv c b) : Inv c' b := by
  have hg := gid_in b
  exact Inv_fr (fun a k ha => h a k (by unfold scr; omega)) hI
theorem Ag_scr {ex : xO} {mc lc mm lm : Nat} {as : List xV} {d : Nat} {c c1 c2 : Nat → Nat → Int} {b : Bool} (hI : Inv c b) (v : Int) (h1 : An ex (d + 20) mc lc (xA 0 :: as) (hp c b) (xI v, hp c1 b)) (h2 : An ex (d + 20) mm lm (xA 54 :: as) (hp c1 b) (xI v, hp c2 b)) (hf : ∀ a k, ¬ scr a → c2 a k = c a k) :
    ∃ v1 v2 c1 b1 c2 b2, An ex (d + 20) mc lc (xA 0 :: as) (hp c b) (xI v1, hp c1 b1) ∧ An ex (d + 20) mm lm (xA 54 :: as) (hp c1 b1) (xI v2, hp c2 b2) ∧ w32 v1 = w32 v2 ∧ Inv c2 b2 :=
  ⟨v, v, c1, b, c2, b, h1, h2, rfl, Inv_scr hf hI⟩
theorem Ag_ask {ex : xO} {mc lc mm lm : Nat} {as : List xV} {d : Nat} {c c1 c2 : Nat → Nat → Int} {b : Bool} (hI : Inv c b) (r v : Int) (h1 : An ex (d + 20) mc lc (xA 0 :: as) (hp c b) (xI r, hp c1 b)) (h2 : An ex (d + 20) mm lm (xA 54 :: as) (hp c1 b) (xI r, hp c2 b)) (hf : ∀ a k, ¬ scr a → c2 a k = xup (xup c 0 10 v) 54 7 v a k) :
    ∃ v1 v2 c1 b1 c2 b2, An ex (d + 20) mc lc (xA 0 :: as) (hp c b) (xI v1, hp c1 b1) ∧ An ex (d + 20) mm lm (xA 54 :: as) (hp c1 b1) (xI v2, hp c2 b2) ∧ w32 v1 = w32 v2 ∧ Inv c2 b2 :=
  ⟨r, r, c1, b, c2, b, h1, h2, rfl, Inv_scr hf (Inv_ask hI v)⟩
theorem z_in {k m : Nat} (h : k < m) (hm : m < 2147483648) : 0 ≤ w32 (k : Int) ∧ w32 (k : Int) < w32 (m : Int) := by rw [x_wn (by omega), x_wn hm]; omega
theorem z_in' {k m : Nat} (h : k < m) (hm : m < 2147483648) : 0 ≤ w32 (k : Int) ∧ w32 (k : Int) < (m : Int) := by rw [x_wn (by omega)]; omega
theorem z_no {a : Int} {m : Nat} (ha : w32 a = a) (hm : m < 2147483648) (h : ¬ (0 ≤ a ∧ a < (m : Int))) : ¬ (0 ≤ w32 a ∧ w32 a < w32 (m : Int)) := by rw [ha, x_wn hm]; exact h
theorem z_no' {a : Int} {m : Nat} (ha : w32 a = a) (h : ¬ (0 ≤ a ∧ a < (m : Int))) : ¬ (0 ≤ w32 a ∧ w32 a < (m : Int)) := by rw [ha]; exact h
theorem z_in9 {k m : Nat} (h : k ≤ m) (hm : m < 1000) : w64 0 ≤ w64 (w32 (k : Int)) ∧ w64 (w32 (k : Int)) ≤ w64 (m : Int) := (x_in9 (by omega)).mpr (by rw [x_wn (by omega)]; omega)
theorem z_no9 {a : Int} {m : Nat} (ha : w32 a = a) (hm : m < 1000) (h : ¬ (0 ≤ a ∧ a < (m : Int) + 1)) : ¬ (w64 0 ≤ w64 (w32 a) ∧ w64 (w32 a) ≤ w64 (m : Int)) := fun q => h (by have := (x_in9 (by omega)).mp q; rw [ha] at this; exact this)
theorem z_ne0 {n : Nat} (h : n ≠ 0) (hn : n ≤ 6) : w32 (n : Int) ≠ 0 := fun q => h ((y_eq0 (by omega)).mp q)
