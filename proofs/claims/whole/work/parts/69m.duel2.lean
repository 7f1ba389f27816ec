-- duel: the model, the method
def fr1 (c0 c : Nat → Nat → Int) : Prop := ∀ a z, a ≠ 63 → a ≠ 68 → a ≠ 69 → a ≠ 70 → c a z = c0 a z
def kp (k : Nat) (c c2 : Nat → Nat → Int) : Prop := ∀ j, j < k → c2 68 j = c 68 j ∧ c2 69 j = c 69 j ∧ c2 70 j = c 70 j
theorem kp_t {k : Nat} {c c1 c2 : Nat → Nat → Int} (h : kp k c c1) (g : kp k c1 c2) : kp k c c2 := fun j hj => ⟨(g j hj).1.trans (h j hj).1, (g j hj).2.1.trans (h j hj).2.1, (g j hj).2.2.trans (h j hj).2.2⟩
theorem kp_d {k k' : Nat} {c c1 : Nat → Nat → Int} (hk : k ≤ k') (h : kp k' c c1) : kp k c c1 := fun j hj => h j (by omega)
theorem kp_u {k a z : Nat} {v : Int} {c : Nat → Nat → Int} (h : k ≤ z) : kp k c (xup c a z v) := fun j hj => ⟨xup_n _ _ (by omega), xup_n _ _ (by omega), xup_n _ _ (by omega)⟩
theorem kp_l {k : Nat} {L : Nat → Nat} {c : Nat → Nat → Int} : kp k c (lf c L) := fun j hj => ⟨lf_out _ _ (by decide), lf_out _ _ (by decide), lf_out _ _ (by decide)⟩
theorem fr1_u {c0 c : Nat → Nat → Int} {a z : Nat} {v : Int} (h : fr1 c0 c) (ha : 68 ≤ a ∧ a ≤ 70) : fr1 c0 (xup c a z v) := fun a' z' g1 g2 g3 g4 => by rw [xup_n _ _ (by omega)]; exact h a' z' g1 g2 g3 g4
theorem fr1_l {c0 c : Nat → Nat → Int} {L : Nat → Nat} (h : fr1 c0 c) : fr1 c0 (lf c L) := fun a z g1 g2 g3 g4 => by rw [lf_out _ _ g1]; exact h a z g1 g2 g3 g4
theorem fr1_55 {c0 c : Nat → Nat → Int} (h : fr1 c0 c) (z : Nat) : c 55 z = c0 55 z := h 55 z (by decide) (by decide) (by decide) (by decide)
theorem l214u {ex : xO} {d : Nat} {b : Bool} {n : Nat} {kd bo wo : Nat → Nat} (ho : gok n kd bo wo) {c0 : Nat → Nat → Int} (hM : mG c0 n kd bo wo) {T : Nat} {L : Nat → Nat} (t2 : c0 55 2 = (T : Nat)) (l55 : ∀ j, j < 8 → c0 55 (3 + j) = (L j : Nat)) (hT : T < 64) (h9 : l9 L) {N : Nat} (hN : N ≤ 4) {V : Int} {Q : (Nat → Nat → Int) → Prop} {k i : Nat} {tr : Nat → Nat} {a v : Int} {c : Nat → Nat → Int} {u5 u7 u8 : xV} (kN : k < N) (hi : i ≤ n) (htr : ∀ j, j < k → tr j ≤ n) (hfr : fr1 c0 c) (hpre : ∀ j, j < k → c 70 j = (tr j : Nat)) (h68 : c 68 k = (i : Nat)) (h69 : c 69 k = a) (ha : bd a) (hv : bd v) (cont : ∀ c2 (y7 : Int), fr1 c0 c2 → kp k c c2 → c2 69 k = mm (decide (k % 2 = 0)) a v → ∃ e, Rn ex xt214 (d + 8) 117 [xA 54, xI (N : Int), xI (k : Int), xI v, xI 0, xI (((osw kd bo wo n T L tr k).1 : Nat) : Int), xI 0, xI y7, xI ((i + 1 : Nat) : Int)] [] (hp c2 b) (xI V, hp e b) ∧ Q e) : ∃ e, Rn ex xt214 (d + 8) 209 [xA 54, xI (N : Int), xI (((k + 1 : Nat) : Int) + -1), xI v, xI 0, u5, xI 1, u7, u8] [] (hp c b) (xI V, hp e b) ∧ Q e := by
  have hn := ho.1
  have k4 : k ≤ 4 := by omega
  have k5 : k < 5 := by omega
  have k31 : k < 2147483648 := by omega
  have k1k : k < 1000 := by omega
  have i31 : i < 2147483648 := by omega
  have N31 : N < 2147483648 := by omega
  have kN0 : k ≠ N := by omega
  have kNw : w32 (k : Int) ≠ w32 (N : Int) := fun h => kN0 ((y_eq N31 k31).mp h)
  have k0 : 0 ≤ w32 (k : Int) := by rw [x_wn k31]; omega
  have i0 : 0 ≤ w32 (i : Int) := by rw [x_wn i31]; omega
  have wa := bd_w ha
  have wv := bd_w hv
  rw [show ((k + 1 : Nat) : Int) + -1 = (k : Int) by omega]
  have go : ∀ (x y7 : Int), mm (decide (k % 2 = 0)) a v = x → ∃ e, Rn ex xt214 (d + 8) 117 [xA 54, xI (N : Int), xI (k : Int), xI v, xI 0, xI (((osw kd bo wo n T L tr k).1 : Nat) : Int), xI 0, xI y7, xI ((i + 1 : Nat) : Int)] [] (hp (xup (lf (xup c 69 k x) (osw kd bo wo n T L tr k).2) 69 k x) b) (xI V, hp e b) ∧ Q e := fun x y7 hx => cont _ y7 (fr1_u (fr1_l (fr1_u hfr (by decide))) (by decide)) (kp_t (kp_u (Nat.le_refl k)) (kp_t kp_l (kp_u (Nat.le_refl k)))) (by rw [hx, xup_s])
  by_cases he : k % 2 = 0
  · have pe : (decide (k % 2 = 0)) = true := decide_eq_true he
    rw [pe] at go
    by_cases lt : a < v
    · have hx : mm true a v = v := if_pos lt
      have nb : ¬ w32 v ≤ w32 a := by rw [wa, wv]; omega
      have hf2 : fr1 c0 (xup c 69 k v) := fr1_u hfr (by decide)
      have hMc : mG (xup c 69 k v) n kd bo wo := mG_fr hn (fun z _ => fr1_55 hf2 z) hM
      obtain ⟨e, q, f⟩ := go v 1 hx
      refine ⟨e, ?_, f⟩
      refine Rn.run 1 (ls' := [_, _, _, _, _, _, _, _, _]) (st' := [_]) rfl ?_
      refine Rn.ge0 rfl (fun e210 => ?_) (fun e210 => absurd e210 (by exact fun h => h k0))
      refine Rn.run 3 (ls' := [_, _, _, _, _, _, _, _, _]) (st' := [_]) rfl ?_
      refine Rn.ne0 rfl (fun e222 => absurd e222 (by decide)) (fun e222 => ?_)
      refine Rn.run 3 (ls' := [_, _, _, _, _, _, _, _, _]) (st' := [_]) rfl ?_
      refine Rn.ne0 rfl (fun e228 => absurd e228 (by exact fun h => h ((x_m2 k1k).mpr he))) (fun e228 => ?_)
      refine Rn.run 4 (ls' := [_, _, _, _, _, _, _, _, _]) (st' := [_, _, _]) rfl ?_
      refine Rn.ald rfl ⟨by decide, rfl⟩ (k) (x_wn k31) k5 ?_
      rw [h69]
      refine Rn.le2 rfl (fun e238 => absurd e238 (by exact nb)) (fun e238 => ?_)
      refine Rn.run 7 (ls' := [_, _, _, _, _, _, _, _, _]) (st' := [_, _, _]) rfl ?_
      refine Rn.eq0 rfl (fun e273 => absurd e273 (by decide)) (fun e273 => ?_)
      refine Rn.run 2 (ls' := [_, _, _, _, _, _, _, _, _]) (st' := [_, _, _]) rfl ?_
      refine Rn.ast rfl ⟨by decide, rfl⟩ (k) (x_wn k31) k5 ?_
      refine Rn.run 2 (ls' := [_, _, _, _, _, _, _, _, _]) (st' := [_]) rfl ?_
      refine Rn.ne0 rfl (fun e16 => absurd e16 (by decide)) (fun e16 => ?_)
      refine Rn.run 2 (ls' := [_, _, _, _, _, _, _, _, _]) (st' := [_, _]) rfl ?_
      refine Rn.call rfl rfl rfl rfl rfl (c213 ho hMc (by rw [fr1_55 hf2]; exact t2) (fun j hj => by rw [fr1_55 hf2]; exact l55 j hj) hT h9 k4 (fun j hj => ⟨by rw [xup_n _ _ (Or.inl (by decide))]; exact hpre j hj, htr j hj⟩)) ?_
      refine Rn.run 3 (ls' := [_, _, _, _, _, _, _, _, _]) (st' := [_, _]) rfl ?_
      refine Rn.ne2 rfl (fun e28 => ?_) (fun e28 => absurd e28 (by exact fun h => h kNw))
      refine Rn.run 3 (ls' := [_, _, _, _, _, _, _, _, _]) (st' := [_]) rfl ?_
      refine Rn.eq0 rfl (fun e40 => ?_) (fun e40 => absurd e40 (by decide))
      refine Rn.run 3 (ls' := [_, _, _, _, _, _, _, _, _]) (st' := [_]) rfl ?_
      refine Rn.ne0 rfl (fun e60 => absurd e60 (by exact fun h => h ((x_m2 k1k).mpr he))) (fun e60 => ?_)
      refine Rn.run 9 (ls' := [_, _, _, _, _, _, _, _, _]) (st' := [_, _, _, _]) rfl ?_
      refine Rn.ald rfl ⟨by decide, rfl⟩ (k) (x_wn k31) k5 ?_
      rw [lf_out _ _ (by decide), xup_n _ _ (Or.inl (by decide)), h68]
      refine Rn.ge0 rfl (fun e81 => ?_) (fun e81 => absurd e81 (by exact fun h => h i0))
      refine Rn.run 3 (ls' := [_, _, _, _, _, _, _, _, _]) (st' := [_, _, _, _]) rfl ?_
      refine Rn.ald rfl ⟨by decide, rfl⟩ (k) (x_wn k31) k5 ?_
      rw [lf_out _ _ (by decide), xup_s]
      refine Rn.ast rfl ⟨by decide, rfl⟩ (k) (x_wn k31) k5 ?_
      refine Rn.run 3 (ls' := [_, _, _, _, _, _, _, _, _]) (st' := [_, _]) rfl ?_
      refine Rn.ald rfl ⟨by decide, rfl⟩ (k) (x_wn k31) k5 ?_
      rw [xup_n _ _ (Or.inl (by decide)), lf_out _ _ (by decide), xup_n _ _ (Or.inl (by decide)), h68]
      refine Rn.run 3 (ls' := [_, _, _, _, _, _, _, _, _]) (st' := []) rfl ?_
      exact q
    · have hx : mm true a v = a := if_neg lt
      have nb : w32 v ≤ w32 a := by rw [wa, wv]; omega
      have hf2 : fr1 c0 (xup c 69 k a) := fr1_u hfr (by decide)
      have hMc : mG (xup c 69 k a) n kd bo wo := mG_fr hn (fun z _ => fr1_55 hf2 z) hM
      obtain ⟨e, q, f⟩ := go a 1 hx
      refine ⟨e, ?_, f⟩
      refine Rn.run 1 (ls' := [_, _, _, _, _, _, _, _, _]) (st' := [_]) rfl ?_
      refine Rn.ge0 rfl (fun e210 => ?_) (fun e210 => absurd e210 (by exact fun h => h k0))
      refine Rn.run 3 (ls' := [_, _, _, _, _, _, _, _, _]) (st' := [_]) rfl ?_
      refine Rn.ne0 rfl (fun e222 => absurd e222 (by decide)) (fun e222 => ?_)
      refine Rn.run 3 (ls' := [_, _, _, _, _, _, _, _, _]) (st' := [_]) rfl ?_
      refine Rn.ne0 rfl (fun e228 => absurd e228 (by exact fun h => h ((x_m2 k1k).mpr he))) (fun e228 => ?_)
      refine Rn.run 4 (ls' := [_, _, _, _, _, _, _, _, _]) (st' := [_, _, _]) rfl ?_
      refine Rn.ald rfl ⟨by decide, rfl⟩ (k) (x_wn k31) k5 ?_
      rw [h69]
      refine Rn.le2 rfl (fun e238 => ?_) (fun e238 => absurd e238 (by exact fun h => h nb))
      refine Rn.run 7 (ls' := [_, _, _, _, _, _, _, _, _]) (st' := [_, _, _]) rfl ?_
      refine Rn.eq0 rfl (fun e273 => ?_) (fun e273 => absurd e273 (by decide))
      refine Rn.run 3 (ls' := [_, _, _, _, _, _, _, _, _]) (st' := [_, _, _, _]) rfl ?_
      refine Rn.ald rfl ⟨by decide, rfl⟩ (k) (x_wn k31) k5 ?_
      rw [h69]
      refine Rn.ast rfl ⟨by decide, rfl⟩ (k) (x_wn k31) k5 ?_
      refine Rn.run 2 (ls' := [_, _, _, _, _, _, _, _, _]) (st' := [_]) rfl ?_
      refine Rn.ne0 rfl (fun e16 => absurd e16 (by decide)) (fun e16 => ?_)
      refine Rn.run 2 (ls' := [_, _, _, _, _, _, _, _, _]) (st' := [_, _]) rfl ?_
      refine Rn.call rfl rfl rfl rfl rfl (c213 ho hMc (by rw [fr1_55 hf2]; exact t2) (fun j hj => by rw [fr1_55 hf2]; exact l55 j hj) hT h9 k4 (fun j hj => ⟨by rw [xup_n _ _ (Or.inl (by decide))]; exact hpre j hj, htr j hj⟩)) ?_
      refine Rn.run 3 (ls' := [_, _, _, _, _, _, _, _, _]) (st' := [_, _]) rfl ?_
      refine Rn.ne2 rfl (fun e28 => ?_) (fun e28 => absurd e28 (by exact fun h => h kNw))
      refine Rn.run 3 (ls' := [_, _, _, _, _, _, _, _, _]) (st' := [_]) rfl ?_
      refine Rn.eq0 rfl (fun e40 => ?_) (fun e40 => absurd e40 (by decide))
      refine Rn.run 3 (ls' := [_, _, _, _, _, _, _, _, _]) (st' := [_]) rfl ?_
      refine Rn.ne0 rfl (fun e60 => absurd e60 (by exact fun h => h ((x_m2 k1k).mpr he))) (fun e60 => ?_)
      refine Rn.run 9 (ls' := [_, _, _, _, _, _, _, _, _]) (st' := [_, _, _, _]) rfl ?_
      refine Rn.ald rfl ⟨by decide, rfl⟩ (k) (x_wn k31) k5 ?_
      rw [lf_out _ _ (by decide), xup_n _ _ (Or.inl (by decide)), h68]
      refine Rn.ge0 rfl (fun e81 => ?_) (fun e81 => absurd e81 (by exact fun h => h i0))
      refine Rn.run 3 (ls' := [_, _, _, _, _, _, _, _, _]) (st' := [_, _, _, _]) rfl ?_
      refine Rn.ald rfl ⟨by decide, rfl⟩ (k) (x_wn k31) k5 ?_
      rw [lf_out _ _ (by decide), xup_s]
      refine Rn.ast rfl ⟨by decide, rfl⟩ (k) (x_wn k31) k5 ?_
      refine Rn.run 3 (ls' := [_, _, _, _, _, _, _, _, _]) (st' := [_, _]) rfl ?_
      refine Rn.ald rfl ⟨by decide, rfl⟩ (k) (x_wn k31) k5 ?_
      rw [xup_n _ _ (Or.inl (by decide)), lf_out _ _ (by decide), xup_n _ _ (Or.inl (by decide)), h68]
      refine Rn.run 3 (ls' := [_, _, _, _, _, _, _, _, _]) (st' := []) rfl ?_
      exact q
  · have pe : (decide (k % 2 = 0)) = false := decide_eq_false he
    rw [pe] at go
    by_cases lt : v < a
    · have hx : mm false a v = v := if_pos lt
      have nb : ¬ w32 a ≤ w32 v := by rw [wa, wv]; omega
      have hf2 : fr1 c0 (xup c 69 k v) := fr1_u hfr (by decide)
      have hMc : mG (xup c 69 k v) n kd bo wo := mG_fr hn (fun z _ => fr1_55 hf2 z) hM
      obtain ⟨e, q, f⟩ := go v 0 hx
      refine ⟨e, ?_, f⟩
      refine Rn.run 1 (ls' := [_, _, _, _, _, _, _, _, _]) (st' := [_]) rfl ?_
      refine Rn.ge0 rfl (fun e210 => ?_) (fun e210 => absurd e210 (by exact fun h => h k0))
      refine Rn.run 3 (ls' := [_, _, _, _, _, _, _, _, _]) (st' := [_]) rfl ?_
      refine Rn.ne0 rfl (fun e222 => absurd e222 (by decide)) (fun e222 => ?_)
      refine Rn.run 3 (ls' := [_, _, _, _, _, _, _, _, _]) (st' := [_]) rfl ?_
      refine Rn.ne0 rfl (fun e228 => ?_) (fun e228 => absurd e228 (by exact fun h => h (fun q => he ((x_m2 k1k).mp q))))
      refine Rn.run 4 (ls' := [_, _, _, _, _, _, _, _, _]) (st' := [_, _, _]) rfl ?_
      refine Rn.ald rfl ⟨by decide, rfl⟩ (k) (x_wn k31) k5 ?_
      rw [h69]
      refine Rn.ge2 rfl (fun e256 => absurd e256 (by exact nb)) (fun e256 => ?_)
      refine Rn.run 7 (ls' := [_, _, _, _, _, _, _, _, _]) (st' := [_, _, _]) rfl ?_
      refine Rn.eq0 rfl (fun e273 => absurd e273 (by decide)) (fun e273 => ?_)
      refine Rn.run 2 (ls' := [_, _, _, _, _, _, _, _, _]) (st' := [_, _, _]) rfl ?_
      refine Rn.ast rfl ⟨by decide, rfl⟩ (k) (x_wn k31) k5 ?_
      refine Rn.run 2 (ls' := [_, _, _, _, _, _, _, _, _]) (st' := [_]) rfl ?_
      refine Rn.ne0 rfl (fun e16 => absurd e16 (by decide)) (fun e16 => ?_)
      refine Rn.run 2 (ls' := [_, _, _, _, _, _, _, _, _]) (st' := [_, _]) rfl ?_
      refine Rn.call rfl rfl rfl rfl rfl (c213 ho hMc (by rw [fr1_55 hf2]; exact t2) (fun j hj => by rw [fr1_55 hf2]; exact l55 j hj) hT h9 k4 (fun j hj => ⟨by rw [xup_n _ _ (Or.inl (by decide))]; exact hpre j hj, htr j hj⟩)) ?_
      refine Rn.run 3 (ls' := [_, _, _, _, _, _, _, _, _]) (st' := [_, _]) rfl ?_
      refine Rn.ne2 rfl (fun e28 => ?_) (fun e28 => absurd e28 (by exact fun h => h kNw))
      refine Rn.run 3 (ls' := [_, _, _, _, _, _, _, _, _]) (st' := [_]) rfl ?_
      refine Rn.eq0 rfl (fun e40 => ?_) (fun e40 => absurd e40 (by decide))
      refine Rn.run 3 (ls' := [_, _, _, _, _, _, _, _, _]) (st' := [_]) rfl ?_
      refine Rn.ne0 rfl (fun e60 => ?_) (fun e60 => absurd e60 (by exact fun h => h (fun q => he ((x_m2 k1k).mp q))))
      refine Rn.run 8 (ls' := [_, _, _, _, _, _, _, _, _]) (st' := [_, _, _, _]) rfl ?_
      refine Rn.ald rfl ⟨by decide, rfl⟩ (k) (x_wn k31) k5 ?_
      rw [lf_out _ _ (by decide), xup_n _ _ (Or.inl (by decide)), h68]
      refine Rn.ge0 rfl (fun e81 => ?_) (fun e81 => absurd e81 (by exact fun h => h i0))
      refine Rn.run 3 (ls' := [_, _, _, _, _, _, _, _, _]) (st' := [_, _, _, _]) rfl ?_
      refine Rn.ald rfl ⟨by decide, rfl⟩ (k) (x_wn k31) k5 ?_
      rw [lf_out _ _ (by decide), xup_s]
      refine Rn.ast rfl ⟨by decide, rfl⟩ (k) (x_wn k31) k5 ?_
      refine Rn.run 3 (ls' := [_, _, _, _, _, _, _, _, _]) (st' := [_, _]) rfl ?_
      refine Rn.ald rfl ⟨by decide, rfl⟩ (k) (x_wn k31) k5 ?_
      rw [xup_n _ _ (Or.inl (by decide)), lf_out _ _ (by decide), xup_n _ _ (Or.inl (by decide)), h68]
      refine Rn.run 3 (ls' := [_, _, _, _, _, _, _, _, _]) (st' := []) rfl ?_
      exact q
    · have hx : mm false a v = a := if_neg lt
      have nb : w32 a ≤ w32 v := by rw [wa, wv]; omega
      have hf2 : fr1 c0 (xup c 69 k a) := fr1_u hfr (by decide)
      have hMc : mG (xup c 69 k a) n kd bo wo := mG_fr hn (fun z _ => fr1_55 hf2 z) hM
      obtain ⟨e, q, f⟩ := go a 0 hx
      refine ⟨e, ?_, f⟩
      refine Rn.run 1 (ls' := [_, _, _, _, _, _, _, _, _]) (st' := [_]) rfl ?_
      refine Rn.ge0 rfl (fun e210 => ?_) (fun e210 => absurd e210 (by exact fun h => h k0))
      refine Rn.run 3 (ls' := [_, _, _, _, _, _, _, _, _]) (st' := [_]) rfl ?_
      refine Rn.ne0 rfl (fun e222 => absurd e222 (by decide)) (fun e222 => ?_)
      refine Rn.run 3 (ls' := [_, _, _, _, _, _, _, _, _]) (st' := [_]) rfl ?_
      refine Rn.ne0 rfl (fun e228 => ?_) (fun e228 => absurd e228 (by exact fun h => h (fun q => he ((x_m2 k1k).mp q))))
      refine Rn.run 4 (ls' := [_, _, _, _, _, _, _, _, _]) (st' := [_, _, _]) rfl ?_
      refine Rn.ald rfl ⟨by decide, rfl⟩ (k) (x_wn k31) k5 ?_
      rw [h69]
      refine Rn.ge2 rfl (fun e256 => ?_) (fun e256 => absurd e256 (by exact fun h => h nb))
      refine Rn.run 6 (ls' := [_, _, _, _, _, _, _, _, _]) (st' := [_, _, _]) rfl ?_
      refine Rn.eq0 rfl (fun e273 => ?_) (fun e273 => absurd e273 (by decide))
      refine Rn.run 3 (ls' := [_, _, _, _, _, _, _, _, _]) (st' := [_, _, _, _]) rfl ?_
      refine Rn.ald rfl ⟨by decide, rfl⟩ (k) (x_wn k31) k5 ?_
      rw [h69]
      refine Rn.ast rfl ⟨by decide, rfl⟩ (k) (x_wn k31) k5 ?_
      refine Rn.run 2 (ls' := [_, _, _, _, _, _, _, _, _]) (st' := [_]) rfl ?_
      refine Rn.ne0 rfl (fun e16 => absurd e16 (by decide)) (fun e16 => ?_)
      refine Rn.run 2 (ls' := [_, _, _, _, _, _, _, _, _]) (st' := [_, _]) rfl ?_
      refine Rn.call rfl rfl rfl rfl rfl (c213 ho hMc (by rw [fr1_55 hf2]; exact t2) (fun j hj => by rw [fr1_55 hf2]; exact l55 j hj) hT h9 k4 (fun j hj => ⟨by rw [xup_n _ _ (Or.inl (by decide))]; exact hpre j hj, htr j hj⟩)) ?_
      refine Rn.run 3 (ls' := [_, _, _, _, _, _, _, _, _]) (st' := [_, _]) rfl ?_
      refine Rn.ne2 rfl (fun e28 => ?_) (fun e28 => absurd e28 (by exact fun h => h kNw))
      refine Rn.run 3 (ls' := [_, _, _, _, _, _, _, _, _]) (st' := [_]) rfl ?_
      refine Rn.eq0 rfl (fun e40 => ?_) (fun e40 => absurd e40 (by decide))
      refine Rn.run 3 (ls' := [_, _, _, _, _, _, _, _, _]) (st' := [_]) rfl ?_
      refine Rn.ne0 rfl (fun e60 => ?_) (fun e60 => absurd e60 (by exact fun h => h (fun q => he ((x_m2 k1k).mp q))))
      refine Rn.run 8 (ls' := [_, _, _, _, _, _, _, _, _]) (st' := [_, _, _, _]) rfl ?_
      refine Rn.ald rfl ⟨by decide, rfl⟩ (k) (x_wn k31) k5 ?_
      rw [lf_out _ _ (by decide), xup_n _ _ (Or.inl (by decide)), h68]
      refine Rn.ge0 rfl (fun e81 => ?_) (fun e81 => absurd e81 (by exact fun h => h i0))
      refine Rn.run 3 (ls' := [_, _, _, _, _, _, _, _, _]) (st' := [_, _, _, _]) rfl ?_
      refine Rn.ald rfl ⟨by decide, rfl⟩ (k) (x_wn k31) k5 ?_
      rw [lf_out _ _ (by decide), xup_s]
      refine Rn.ast rfl ⟨by decide, rfl⟩ (k) (x_wn k31) k5 ?_
      refine Rn.run 3 (ls' := [_, _, _, _, _, _, _, _, _]) (st' := [_, _]) rfl ?_
      refine Rn.ald rfl ⟨by decide, rfl⟩ (k) (x_wn k31) k5 ?_
      rw [xup_n _ _ (Or.inl (by decide)), lf_out _ _ (by decide), xup_n _ _ (Or.inl (by decide)), h68]
      refine Rn.run 3 (ls' := [_, _, _, _, _, _, _, _, _]) (st' := []) rfl ?_
      exact q
theorem l214 {ex : xO} {d : Nat} {b : Bool} {n : Nat} {kd bo wo : Nat → Nat} (ho : gok n kd bo wo) {c0 : Nat → Nat → Int} (hM : mG c0 n kd bo wo) {T : Nat} {L : Nat → Nat} (t2 : c0 55 2 = (T : Nat)) (l55 : ∀ j, j < 8 → c0 55 (3 + j) = (L j : Nat)) (hT : T < 64) (h9 : l9 L) {N : Nat} (hN : N ≤ 4) {V : Int} {Q : (Nat → Nat → Int) → Prop} (h2 : N % 2 = 0) : ∀ (m k : Nat) (tr : Nat → Nat) (c : Nat → Nat → Int) (x3 : Int) (u5 u6 u7 u8 : xV), k + m = N → (∀ j, j < k → tr j ≤ n) → (osw kd bo wo n T L tr k).1 < 2 ^ n → l9 (osw kd bo wo n T L tr k).2 → fr1 c0 c → (∀ j, j < k → c 70 j = (tr j : Nat)) → c 68 k = -1 → (∀ c2 (u5 u7 u8 : xV), fr1 c0 c2 → kp k c c2 → ∃ e, Rn ex xt214 (d + 8) 209 [xA 54, xI (N : Int), xI ((k : Int) + -1), xI (ld kd bo wo n m (osw kd bo wo n T L tr k)), xI 0, u5, xI 1, u7, u8] [] (hp c2 b) (xI V, hp e b) ∧ Q e) → ∃ e, Rn ex xt214 (d + 8) 14 [xA 54, xI (N : Int), xI (k : Int), xI x3, xI 0, u5, u6, u7, u8] [] (hp c b) (xI V, hp e b) ∧ Q e := by
  have hn := ho.1
  intro m
  induction m with
  | zero =>
    intro k tr c x3 u5 u6 u7 u8 hkm htr hs hl9 hfr hpre h68 cont
    obtain rfl : k = N := by omega
    have k4 : k ≤ 4 := hN
    have s6 := p64 hn hs
    have hMc : mG c n kd bo wo := mG_fr hn (fun z _ => fr1_55 hfr z) hM
    obtain ⟨e, q, f⟩ := cont (lf (lf c (osw kd bo wo n T L tr k).2) (mo kd bo n (osw kd bo wo n T L tr k).1 1 (osw kd bo wo n T L tr k).2)) (xI (((osw kd bo wo n T L tr k).1 : Nat) : Int)) u7 u8 (fr1_l (fr1_l hfr)) (kp_t kp_l kp_l)
    refine ⟨e, ?_, f⟩
    refine Rn.run 1 (ls' := [_, _, _, _, _, _, _, _, _]) (st' := [_]) rfl ?_
    refine Rn.ne0 rfl (fun e16 => absurd e16 (by decide)) (fun e16 => ?_)
    refine Rn.run 2 (ls' := [_, _, _, _, _, _, _, _, _]) (st' := [_, _]) rfl ?_
    refine Rn.call rfl rfl rfl rfl rfl (c213 ho hMc (by rw [fr1_55 hfr]; exact t2) (fun j hj => by rw [fr1_55 hfr]; exact l55 j hj) hT h9 k4 (fun j hj => ⟨hpre j hj, htr j hj⟩)) ?_
    refine Rn.run 3 (ls' := [_, _, _, _, _, _, _, _, _]) (st' := [_, _]) rfl ?_
    refine Rn.ne2 rfl (fun e28 => absurd e28 (by exact fun h => h rfl)) (fun e28 => ?_)
    refine Rn.run 4 (ls' := [_, _, _, _, _, _, _, _, _]) (st' := [_]) rfl ?_
    refine Rn.eq0 rfl (fun e40 => absurd e40 (by decide)) (fun e40 => ?_)
    refine Rn.run 2 (ls' := [_, _, _, _, _, _, _, _, _]) (st' := [_, _]) rfl ?_
    refine Rn.call rfl rfl rfl rfl rfl (c169 ho (mG_lf hMc) s6 hl9 (fun j hj => lf_in _ _ hj)) ?_
    refine Rn.run 1 (ls' := [_, _, _, _, _, _, _, _, _]) (st' := [_]) rfl ?_
    refine Rn.call rfl rfl rfl rfl rfl (c212 (fun j hj => lf_in _ _ hj)) ?_
    refine Rn.run 3 (ls' := [_, _, _, _, _, _, _, _, _]) (st' := [_]) rfl ?_
    refine Rn.eq0 rfl (fun e203 => absurd e203 (by decide)) (fun e203 => ?_)
    refine Rn.run 1 (ls' := [_, _, _, _, _, _, _, _, _]) (st' := []) rfl ?_
    exact q
  | succ m ih =>
    intro k tr c x3 u5 u6 u7 u8 hkm htr hs hl9 hfr hpre h68 cont
    have k4 : k ≤ 4 := by omega
    have k5 : k < 5 := by omega
    have k15 : k + 1 < 5 := by omega
    have kN1 : k < N := by omega
    have k31 : k < 2147483648 := by omega
    have k1k : k < 1000 := by omega
    have k131 : k + 1 < 2147483648 := by omega
    have n31 : n < 2147483648 := by omega
    have n131 : n + 1 < 2147483648 := by omega
    have N31 : N < 2147483648 := by omega
    have kN0 : k ≠ N := by omega
    have kNw : w32 (k : Int) ≠ w32 (N : Int) := fun h => kN0 ((y_eq N31 k31).mp h)
    have bL := ld_bd ho m (osw kd bo wo n T L tr k) hl9
    have inner : ∀ (w i : Nat) (a : Int) (c : Nat → Nat → Int) (x3 y7 : Int), i + w = n → bd a → fr1 c0 c → (∀ j, j < k → c 70 j = (tr j : Nat)) → c 69 k = a → (∀ c2 (u5 u7 u8 : xV), fr1 c0 c2 → kp k c c2 → ∃ e, Rn ex xt214 (d + 8) 209 [xA 54, xI (N : Int), xI ((k : Int) + -1), xI (mm (decide (k % 2 = 0)) (xit (ldf (decide (k % 2 = 0)) (can kd n (osw kd bo wo n T L tr k).1) (fun i => ld kd bo wo n m ((osw kd bo wo n T L tr k).1 ||| 2 ^ i, tl kd bo wo i (osw kd bo wo n T L tr k).2))) w i a) (ld kd bo wo n m (osw kd bo wo n T L tr k))), xI 0, u5, xI 1, u7, u8] [] (hp c2 b) (xI V, hp e b) ∧ Q e) → ∃ e, Rn ex xt214 (d + 8) 117 [xA 54, xI (N : Int), xI (k : Int), xI x3, xI 0, xI (((osw kd bo wo n T L tr k).1 : Nat) : Int), xI 0, xI y7, xI (i : Int)] [] (hp c b) (xI V, hp e b) ∧ Q e := by
      intro w
      induction w with
      | zero =>
        intro i a c x3 y7 hi ha hfr hpre h69 cont
        obtain rfl : i = n := by omega
        have hMc : mG c i kd bo wo := mG_fr hn (fun z _ => fr1_55 hfr z) hM
        have hM2 : mG (xup c 68 k (i : Nat)) i kd bo wo := mG_fr hn (fun z _ => xup_n _ _ (by omega)) hMc
        have os := (osw_s kd bo wo i T L tr k i).trans (if_neg (Nat.lt_irrefl i))
        have ch := ih (k + 1) (exn tr k i) (xup (xup (xup c 68 k (i : Nat)) 70 k (i : Nat)) 68 (k + 1) (-1)) a (xI (((osw kd bo wo i T L tr k).1 : Nat) : Int)) (xI 0) (xI y7) (xI (i : Int)) (by omega) (fun j hj => by
            unfold exn
            by_cases ej : j = k
            · rw [if_pos ej]; exact Nat.le_refl _
            · rw [if_neg ej]; exact htr j (by omega)) (by rw [os]; exact hs) (by rw [os]; exact hl9) (fr1_u (fr1_u (fr1_u hfr (by decide)) (by decide)) (by decide)) (fun j hj => by
            rw [xup_n _ _ (by omega)]
            unfold exn
            by_cases ej : j = k
            · rw [ej, xup_s, if_pos rfl]
            · rw [xup_n _ _ (by omega), xup_n _ _ (by omega), if_neg ej]; exact hpre j (by omega)) (xup_s _ _ _ _)
        rw [os] at ch
        obtain ⟨e, q, f⟩ := ch (fun c2 w5 w7 w8 f2 p2 => by
          have pk0 := p2 k (Nat.lt_succ_self k)
          have c68 : c2 68 k = (i : Nat) := by rw [pk0.1, xup_n _ _ (by omega), xup_n _ _ (by omega), xup_s]
          have c69 : c2 69 k = a := by rw [pk0.2.1, xup_n _ _ (by omega), xup_n _ _ (by omega), xup_n _ _ (by omega)]; exact h69
          have kc : kp k c c2 := kp_t (kp_t (kp_u (Nat.le_refl k)) (kp_t (kp_u (Nat.le_refl k)) (kp_u (Nat.le_succ k)))) (kp_d (Nat.le_succ k) p2)
          refine l214u (tr := tr) ho hM t2 l55 hT h9 hN kN1 (Nat.le_refl i) htr f2 (fun j hj => by rw [(kc j hj).2.2]; exact hpre j hj) c68 c69 ha bL (fun c3 y7 f3 k3 e3 => ?_)
          have hM3 : mG c3 i kd bo wo := mG_fr hn (fun z _ => fr1_55 f3 z) hM
          have hM4 : mG (xup c3 68 k ((i + 1 : Nat) : Int)) i kd bo wo := mG_fr hn (fun z _ => xup_n _ _ (by omega)) hM3
          have ngt : ¬ w32 ((i + 1 : Nat) : Int) ≤ w32 (i : Int) := fun h => absurd ((y_ge n31 n131).mp h) (by omega)
          obtain ⟨e, q, f⟩ := cont (xup c3 68 k ((i + 1 : Nat) : Int)) (xI (((osw kd bo wo i T L tr k).1 : Nat) : Int)) (xI y7) (xI ((i + 1 : Nat) : Int)) (fr1_u f3 (by decide)) (kp_t kc (kp_t k3 (kp_u (Nat.le_refl k))))
          refine ⟨e, ?_, f⟩
          refine Rn.run 4 (ls' := [_, _, _, _, _, _, _, _, _]) (st' := [_, _, _]) rfl ?_
          refine Rn.ald rfl ⟨by decide, rfl⟩ (0) rfl (by decide) ?_
          rw [hM3.1]
          refine Rn.ge2 rfl (fun e125 => ?_) (fun e125 => absurd e125 (by exact fun h => h ((y_ge n131 n31).mpr (Nat.le_succ i))))
          refine Rn.run 4 (ls' := [_, _, _, _, _, _, _, _, _]) (st' := [_, _, _]) rfl ?_
          refine Rn.ast rfl ⟨by decide, rfl⟩ (k) (x_wn k31) k5 ?_
          refine Rn.run 4 (ls' := [_, _, _, _, _, _, _, _, _]) (st' := [_, _, _]) rfl ?_
          refine Rn.ald rfl ⟨by decide, rfl⟩ (0) rfl (by decide) ?_
          rw [hM4.1]
          refine Rn.le2 rfl (fun e161 => absurd e161 (by exact ngt)) (fun e161 => ?_)
          refine Rn.run 6 (ls' := [_, _, _, _, _, _, _, _, _]) (st' := [_, _]) rfl ?_
          refine Rn.ald rfl ⟨by decide, rfl⟩ (k) (x_wn k31) k5 ?_
          rw [xup_n _ _ (Or.inl (by decide)), e3]
          refine Rn.run 2 (ls' := [_, _, _, _, _, _, _, _, _]) (st' := [_]) rfl ?_
          refine Rn.ne0 rfl (fun e180 => ?_) (fun e180 => absurd e180 (by decide))
          refine Rn.run 1 (ls' := [_, _, _, _, _, _, _, _, _]) (st' := [_]) rfl ?_
          refine Rn.eq0 rfl (fun e203 => absurd e203 (by decide)) (fun e203 => ?_)
          refine Rn.run 1 (ls' := [_, _, _, _, _, _, _, _, _]) (st' := []) rfl ?_
          exact q)
        refine ⟨e, ?_, f⟩
        refine Rn.run 4 (ls' := [_, _, _, _, _, _, _, _, _]) (st' := [_, _, _]) rfl ?_
        refine Rn.ald rfl ⟨by decide, rfl⟩ (0) rfl (by decide) ?_
        rw [hMc.1]
        refine Rn.ge2 rfl (fun e125 => ?_) (fun e125 => absurd e125 (by exact fun h => h ((y_ge n31 n31).mpr (Nat.le_refl _))))
        refine Rn.run 4 (ls' := [_, _, _, _, _, _, _, _, _]) (st' := [_, _, _]) rfl ?_
        refine Rn.ast rfl ⟨by decide, rfl⟩ (k) (x_wn k31) k5 ?_
        refine Rn.run 4 (ls' := [_, _, _, _, _, _, _, _, _]) (st' := [_, _, _]) rfl ?_
        refine Rn.ald rfl ⟨by decide, rfl⟩ (0) rfl (by decide) ?_
        rw [hM2.1]
        refine Rn.le2 rfl (fun e161 => ?_) (fun e161 => absurd e161 (by exact fun h => h ((y_ge n31 n31).mpr (Nat.le_refl _))))
        refine Rn.run 5 (ls' := [_, _, _, _, _, _, _, _, _]) (st' := [_, _]) rfl ?_
        refine Rn.ald rfl ⟨by decide, rfl⟩ (k) (x_wn k31) k5 ?_
        rw [xup_n _ _ (Or.inl (by decide)), h69]
        refine Rn.run 2 (ls' := [_, _, _, _, _, _, _, _, _]) (st' := [_]) rfl ?_
        refine Rn.ne0 rfl (fun e180 => absurd e180 (by decide)) (fun e180 => ?_)
        refine Rn.run 4 (ls' := [_, _, _, _, _, _, _, _, _]) (st' := [_, _, _]) rfl ?_
        refine Rn.ast rfl ⟨by decide, rfl⟩ (k) (x_wn k31) k5 ?_
        refine Rn.run 5 (ls' := [_, _, _, _, _, _, _, _, _]) (st' := [_, _, _]) rfl ?_
        refine Rn.ast rfl ⟨by decide, rfl⟩ (k + 1) (x_wn k131) k15 ?_
        refine Rn.run 1 (ls' := [_, _, _, _, _, _, _, _, _]) (st' := [_]) rfl ?_
        refine Rn.eq0 rfl (fun e203 => ?_) (fun e203 => absurd e203 (by decide))
        refine Rn.run 1 (ls' := [_, _, _, _, _, _, _, _, _]) (st' := []) rfl ?_
        exact q
      | succ w ihw =>
        intro i a c x3 y7 hi ha hfr hpre h69 cont
        have iin : i < n := by omega
        have i31 : i < 2147483648 := by omega
        have ni : ¬ w32 (n : Int) ≤ w32 (i : Int) := fun h => absurd ((y_ge i31 n31).mp h) (Nat.not_le.mpr iin)
        have h3 := ho.2 i iin
        have hMc : mG c n kd bo wo := mG_fr hn (fun z _ => fr1_55 hfr z) hM
        have hM2 : mG (xup c 68 k (i : Nat)) n kd bo wo := mG_fr hn (fun z _ => xup_n _ _ (by omega)) hMc
        by_cases hk : can kd n (osw kd bo wo n T L tr k).1 i = true
        · have l9c := tl_9 (kd := kd) h3.2.2 h3.2.1 hl9
          have bv := ld_bd ho m ((osw kd bo wo n T L tr k).1 ||| 2 ^ i, tl kd bo wo i (osw kd bo wo n T L tr k).2) l9c
          have os := (osw_s kd bo wo n T L tr k i).trans (if_pos iin)
          have ch := ih (k + 1) (exn tr k i) (xup (xup (xup c 68 k (i : Nat)) 70 k (i : Nat)) 68 (k + 1) (-1)) a (xI (((osw kd bo wo n T L tr k).1 : Nat) : Int)) (xI 0) (xI y7) (xI (i : Int)) (by omega) (fun j hj => by
              unfold exn
              by_cases ej : j = k
              · rw [if_pos ej]; exact Nat.le_of_lt iin
              · rw [if_neg ej]; exact htr j (by omega)) (by rw [os]; exact orlt hs iin) (by rw [os]; exact l9c) (fr1_u (fr1_u (fr1_u hfr (by decide)) (by decide)) (by decide)) (fun j hj => by
              rw [xup_n _ _ (by omega)]
              unfold exn
              by_cases ej : j = k
              · rw [ej, xup_s, if_pos rfl]
              · rw [xup_n _ _ (by omega), xup_n _ _ (by omega), if_neg ej]; exact hpre j (by omega)) (xup_s _ _ _ _)
          rw [os] at ch
          obtain ⟨e, q, f⟩ := ch (fun c2 w5 w7 w8 f2 p2 => by
            have pk0 := p2 k (Nat.lt_succ_self k)
            have c68 : c2 68 k = (i : Nat) := by rw [pk0.1, xup_n _ _ (by omega), xup_n _ _ (by omega), xup_s]
            have c69 : c2 69 k = a := by rw [pk0.2.1, xup_n _ _ (by omega), xup_n _ _ (by omega), xup_n _ _ (by omega)]; exact h69
            have kc : kp k c c2 := kp_t (kp_t (kp_u (Nat.le_refl k)) (kp_t (kp_u (Nat.le_refl k)) (kp_u (Nat.le_succ k)))) (kp_d (Nat.le_succ k) p2)
            refine l214u (tr := tr) ho hM t2 l55 hT h9 hN kN1 (Nat.le_of_lt iin) htr f2 (fun j hj => by rw [(kc j hj).2.2]; exact hpre j hj) c68 c69 ha bv (fun c3 y7 f3 k3 e3 => ?_)
            have kc3 := kp_t kc k3
            refine ihw (i + 1) _ c3 _ y7 (by omega) (mm_bd ha bv) f3 (fun j hj => by rw [(kc3 j hj).2.2]; exact hpre j hj) e3 (fun c4 v5 v7 v8 f4 k4 => ?_)
            have r := cont c4 v5 v7 v8 f4 (kp_t kc3 k4)
            rw [xit, show ldf (decide (k % 2 = 0)) (can kd n (osw kd bo wo n T L tr k).1) (fun i => ld kd bo wo n m ((osw kd bo wo n T L tr k).1 ||| 2 ^ i, tl kd bo wo i (osw kd bo wo n T L tr k).2)) i a = mm (decide (k % 2 = 0)) a (ld kd bo wo n m ((osw kd bo wo n T L tr k).1 ||| 2 ^ i, tl kd bo wo i (osw kd bo wo n T L tr k).2)) from if_pos hk] at r
            exact r)
          refine ⟨e, ?_, f⟩
          refine Rn.run 4 (ls' := [_, _, _, _, _, _, _, _, _]) (st' := [_, _, _]) rfl ?_
          refine Rn.ald rfl ⟨by decide, rfl⟩ (0) rfl (by decide) ?_
          rw [hMc.1]
          refine Rn.ge2 rfl (fun e125 => absurd e125 (by exact ni)) (fun e125 => ?_)
          refine Rn.run 3 (ls' := [_, _, _, _, _, _, _, _, _]) (st' := [_, _, _]) rfl ?_
          refine Rn.call rfl rfl rfl rfl rfl (c165 ho hMc iin hs) ?_
          refine Rn.neB rfl (fun e136 => ?_) (fun e136 => absurd e136 (by exact fun h => h hk))
          refine Rn.run 4 (ls' := [_, _, _, _, _, _, _, _, _]) (st' := [_, _, _]) rfl ?_
          refine Rn.ast rfl ⟨by decide, rfl⟩ (k) (x_wn k31) k5 ?_
          refine Rn.run 4 (ls' := [_, _, _, _, _, _, _, _, _]) (st' := [_, _, _]) rfl ?_
          refine Rn.ald rfl ⟨by decide, rfl⟩ (0) rfl (by decide) ?_
          rw [hM2.1]
          refine Rn.le2 rfl (fun e161 => ?_) (fun e161 => absurd e161 (by exact fun h => h ((y_ge n31 i31).mpr (Nat.le_of_lt iin))))
          refine Rn.run 5 (ls' := [_, _, _, _, _, _, _, _, _]) (st' := [_, _]) rfl ?_
          refine Rn.ald rfl ⟨by decide, rfl⟩ (k) (x_wn k31) k5 ?_
          rw [xup_n _ _ (Or.inl (by decide)), h69]
          refine Rn.run 2 (ls' := [_, _, _, _, _, _, _, _, _]) (st' := [_]) rfl ?_
          refine Rn.ne0 rfl (fun e180 => absurd e180 (by decide)) (fun e180 => ?_)
          refine Rn.run 4 (ls' := [_, _, _, _, _, _, _, _, _]) (st' := [_, _, _]) rfl ?_
          refine Rn.ast rfl ⟨by decide, rfl⟩ (k) (x_wn k31) k5 ?_
          refine Rn.run 5 (ls' := [_, _, _, _, _, _, _, _, _]) (st' := [_, _, _]) rfl ?_
          refine Rn.ast rfl ⟨by decide, rfl⟩ (k + 1) (x_wn k131) k15 ?_
          refine Rn.run 1 (ls' := [_, _, _, _, _, _, _, _, _]) (st' := [_]) rfl ?_
          refine Rn.eq0 rfl (fun e203 => ?_) (fun e203 => absurd e203 (by decide))
          refine Rn.run 1 (ls' := [_, _, _, _, _, _, _, _, _]) (st' := []) rfl ?_
          exact q
        · obtain ⟨e, q, f⟩ := ihw (i + 1) a c x3 y7 (by omega) ha hfr hpre h69 (fun c4 v5 v7 v8 f4 k4 => by
            have r := cont c4 v5 v7 v8 f4 k4
            rw [xit, show ldf (decide (k % 2 = 0)) (can kd n (osw kd bo wo n T L tr k).1) (fun i => ld kd bo wo n m ((osw kd bo wo n T L tr k).1 ||| 2 ^ i, tl kd bo wo i (osw kd bo wo n T L tr k).2)) i a = a from if_neg hk] at r
            exact r)
          refine ⟨e, ?_, f⟩
          refine Rn.run 4 (ls' := [_, _, _, _, _, _, _, _, _]) (st' := [_, _, _]) rfl ?_
          refine Rn.ald rfl ⟨by decide, rfl⟩ (0) rfl (by decide) ?_
          rw [hMc.1]
          refine Rn.ge2 rfl (fun e125 => absurd e125 (by exact ni)) (fun e125 => ?_)
          refine Rn.run 3 (ls' := [_, _, _, _, _, _, _, _, _]) (st' := [_, _, _]) rfl ?_
          refine Rn.call rfl rfl rfl rfl rfl (c165 ho hMc iin hs) ?_
          refine Rn.neB rfl (fun e136 => absurd e136 (by exact hk)) (fun e136 => ?_)
          refine Rn.run 2 (ls' := [_, _, _, _, _, _, _, _, _]) (st' := []) rfl ?_
          exact q
    have hMc : mG c n kd bo wo := mG_fr hn (fun z _ => fr1_55 hfr z) hM
    have pp : (decide ((m + 1) % 2 = 0)) = (decide (k % 2 = 0)) := by
      by_cases he : k % 2 = 0
      · rw [decide_eq_true he, decide_eq_true (show (m + 1) % 2 = 0 by omega)]
      · rw [decide_eq_false he, decide_eq_false (show ¬ (m + 1) % 2 = 0 by omega)]
    have lfar := ld_far ho m (osw kd bo wo n T L tr k) hl9
    rw [pp] at lfar
    have fin : ∀ y7 : Int, ∃ e, Rn ex xt214 (d + 8) 117 [xA 54, xI (N : Int), xI (k : Int), xI x3, xI 0, xI (((osw kd bo wo n T L tr k).1 : Nat) : Int), xI 0, xI y7, xI ((0 : Nat) : Int)] [] (hp (xup (lf c (osw kd bo wo n T L tr k).2) 69 k (far (decide (k % 2 = 0)))) b) (xI V, hp e b) ∧ Q e := fun y7 => inner n 0 (far (decide (k % 2 = 0))) _ x3 y7 (Nat.zero_add n) (far_bd _) (fr1_u (fr1_l hfr) (by decide)) (fun j hj => by rw [xup_n _ _ (by omega), lf_out _ _ (by decide)]; exact hpre j hj) (xup_s _ _ _ _) (fun c2 u5 u7 u8 f2 k2 => by
      rw [lfar]
      exact cont c2 u5 u7 u8 f2 (kp_t kp_l (kp_t (kp_u (Nat.le_refl k)) k2)))
    by_cases he : k % 2 = 0
    · rw [decide_eq_true he, show far true = -1000000 from rfl] at fin
      obtain ⟨e, q, f⟩ := fin 1
      refine ⟨e, ?_, f⟩
      refine Rn.run 1 (ls' := [_, _, _, _, _, _, _, _, _]) (st' := [_]) rfl ?_
      refine Rn.ne0 rfl (fun e16 => absurd e16 (by decide)) (fun e16 => ?_)
      refine Rn.run 2 (ls' := [_, _, _, _, _, _, _, _, _]) (st' := [_, _]) rfl ?_
      refine Rn.call rfl rfl rfl rfl rfl (c213 ho hMc (by rw [fr1_55 hfr]; exact t2) (fun j hj => by rw [fr1_55 hfr]; exact l55 j hj) hT h9 k4 (fun j hj => ⟨hpre j hj, htr j hj⟩)) ?_
      refine Rn.run 3 (ls' := [_, _, _, _, _, _, _, _, _]) (st' := [_, _]) rfl ?_
      refine Rn.ne2 rfl (fun e28 => ?_) (fun e28 => absurd e28 (by exact fun h => h kNw))
      refine Rn.run 3 (ls' := [_, _, _, _, _, _, _, _, _]) (st' := [_]) rfl ?_
      refine Rn.eq0 rfl (fun e40 => ?_) (fun e40 => absurd e40 (by decide))
      refine Rn.run 3 (ls' := [_, _, _, _, _, _, _, _, _]) (st' := [_]) rfl ?_
      refine Rn.ne0 rfl (fun e60 => absurd e60 (by exact fun h => h ((x_m2 k1k).mpr he))) (fun e60 => ?_)
      refine Rn.run 9 (ls' := [_, _, _, _, _, _, _, _, _]) (st' := [_, _, _, _]) rfl ?_
      refine Rn.ald rfl ⟨by decide, rfl⟩ (k) (x_wn k31) k5 ?_
      rw [lf_out _ _ (by decide), h68]
      refine Rn.ge0 rfl (fun e81 => absurd e81 (by decide)) (fun e81 => ?_)
      refine Rn.run 1 (ls' := [_, _, _, _, _, _, _, _, _]) (st' := [_, _, _]) rfl ?_
      refine Rn.eq0 rfl (fun e86 => absurd e86 (by decide)) (fun e86 => ?_)
      refine Rn.run 2 (ls' := [_, _, _, _, _, _, _, _, _]) (st' := [_, _, _]) rfl ?_
      refine Rn.ast rfl ⟨by decide, rfl⟩ (k) (x_wn k31) k5 ?_
      refine Rn.run 3 (ls' := [_, _, _, _, _, _, _, _, _]) (st' := [_, _]) rfl ?_
      refine Rn.ald rfl ⟨by decide, rfl⟩ (k) (x_wn k31) k5 ?_
      rw [xup_n _ _ (Or.inl (by decide)), lf_out _ _ (by decide), h68]
      refine Rn.run 3 (ls' := [_, _, _, _, _, _, _, _, _]) (st' := []) rfl ?_
      exact q
    · rw [decide_eq_false he, show far false = 1000000 from rfl] at fin
      obtain ⟨e, q, f⟩ := fin 0
      refine ⟨e, ?_, f⟩
      refine Rn.run 1 (ls' := [_, _, _, _, _, _, _, _, _]) (st' := [_]) rfl ?_
      refine Rn.ne0 rfl (fun e16 => absurd e16 (by decide)) (fun e16 => ?_)
      refine Rn.run 2 (ls' := [_, _, _, _, _, _, _, _, _]) (st' := [_, _]) rfl ?_
      refine Rn.call rfl rfl rfl rfl rfl (c213 ho hMc (by rw [fr1_55 hfr]; exact t2) (fun j hj => by rw [fr1_55 hfr]; exact l55 j hj) hT h9 k4 (fun j hj => ⟨hpre j hj, htr j hj⟩)) ?_
      refine Rn.run 3 (ls' := [_, _, _, _, _, _, _, _, _]) (st' := [_, _]) rfl ?_
      refine Rn.ne2 rfl (fun e28 => ?_) (fun e28 => absurd e28 (by exact fun h => h kNw))
      refine Rn.run 3 (ls' := [_, _, _, _, _, _, _, _, _]) (st' := [_]) rfl ?_
      refine Rn.eq0 rfl (fun e40 => ?_) (fun e40 => absurd e40 (by decide))
      refine Rn.run 3 (ls' := [_, _, _, _, _, _, _, _, _]) (st' := [_]) rfl ?_
      refine Rn.ne0 rfl (fun e60 => ?_) (fun e60 => absurd e60 (by exact fun h => h (fun q => he ((x_m2 k1k).mp q))))
      refine Rn.run 8 (ls' := [_, _, _, _, _, _, _, _, _]) (st' := [_, _, _, _]) rfl ?_
      refine Rn.ald rfl ⟨by decide, rfl⟩ (k) (x_wn k31) k5 ?_
      rw [lf_out _ _ (by decide), h68]
      refine Rn.ge0 rfl (fun e81 => absurd e81 (by decide)) (fun e81 => ?_)
      refine Rn.run 1 (ls' := [_, _, _, _, _, _, _, _, _]) (st' := [_, _, _]) rfl ?_
      refine Rn.eq0 rfl (fun e86 => ?_) (fun e86 => absurd e86 (by decide))
      refine Rn.run 2 (ls' := [_, _, _, _, _, _, _, _, _]) (st' := [_, _, _]) rfl ?_
      refine Rn.ast rfl ⟨by decide, rfl⟩ (k) (x_wn k31) k5 ?_
      refine Rn.run 3 (ls' := [_, _, _, _, _, _, _, _, _]) (st' := [_, _]) rfl ?_
      refine Rn.ald rfl ⟨by decide, rfl⟩ (k) (x_wn k31) k5 ?_
      rw [xup_n _ _ (Or.inl (by decide)), lf_out _ _ (by decide), h68]
      refine Rn.run 3 (ls' := [_, _, _, _, _, _, _, _, _]) (st' := []) rfl ?_
      exact q
theorem c214 {ex : xO} {d : Nat} {c : Nat → Nat → Int} {b : Bool} {n D T Mo : Nat} {kd bo wo L : Nat → Nat} (hP : pS n kd bo wo D T Mo L) (hm : mS c n kd bo wo D T Mo L) {N : Nat} (hN : N ≤ 4) (h2 : N % 2 = 0) : ∃ e, An ex (d + 8) 214 9 [xA 54, xI (N : Int)] (hp c b) (xI (ld kd bo wo n N (T, L)), hp e b) ∧ fr1 c e := by
  obtain ⟨ho, h40, hT, h9, hMo⟩ := hP
  obtain ⟨hM, d29, t2, l55, m1⟩ := hm
  have hn := ho.1
  have hT6 := p64 hn hT
  obtain ⟨e, q, f⟩ := l214 (ex := ex) (d := d) (b := b) (c0 := c) ho hM t2 l55 hT6 h9 hN (V := ld kd bo wo n N (T, L)) (Q := fun e => fr1 c e) h2 N 0 (fun _ => 0) (xup c 68 0 (-1)) 0 xU xU xU xU (Nat.zero_add N) (fun j hj => absurd hj (Nat.not_lt_zero j)) hT h9 (fr1_u (fun _ _ _ _ _ _ => rfl) (by decide)) (fun j hj => absurd hj (Nat.not_lt_zero j)) (xup_s _ _ _ _) (fun c2 u5 u7 u8 f2 k2 => by
    refine ⟨c2, ?_, f2⟩
    refine Rn.run 1 (ls' := [_, _, _, _, _, _, _, _, _]) (st' := [_]) rfl ?_
    refine Rn.ge0 rfl (fun e210 => absurd e210 (by decide)) (fun e210 => ?_)
    refine Rn.run 4 (ls' := [_, _, _, _, _, _, _, _, _]) (st' := [_]) rfl ?_
    refine Rn.ne0 rfl (fun e222 => ?_) (fun e222 => absurd e222 (by decide))
    refine Rn.run 2 (ls' := [_, _, _, _, _, _, _, _, _]) (st' := [_]) rfl ?_
    refine Rn.ne0 rfl (fun e16 => ?_) (fun e16 => absurd e16 (by decide))
    refine Rn.run 1 (ls' := [_, _, _, _, _, _, _, _, _]) (st' := [_]) rfl ?_
    exact Rn.ret rfl rfl rfl rfl rfl rfl)
  refine ⟨e, ?_, f⟩
  refine Rn.run 6 (ls' := [_, _, _, _, _, _, _, _, _]) (st' := [_, _, _]) rfl ?_
  refine Rn.ast rfl ⟨by decide, rfl⟩ (0) rfl (by decide) ?_
  refine Rn.run 4 (ls' := [_, _, _, _, _, _, _, _, _]) (st' := []) rfl ?_
  exact q
theorem k89_b1 {ex : xO} {d : Nat} {c : Nat → Nat → Int} {b : Bool}  {a1 : Int} (h1 : w32 a1 = a1) (q1 : ¬ (0 ≤ a1 ∧ a1 < 3)) : An ex (d + 20) 89 2 [xA 0, xI a1] (hp c b) (xI (-1), hp (c) b) := by
  refine Rn.run 2 (ls' := [_, _]) (st' := [_, _]) rfl ?_
  refine Rn.call rfl rfl rfl rfl rfl (c100) ?_
  refine Rn.neB rfl (fun e5 => absurd e5 (by exact (z_no (m := 3) h1 (by omega) q1))) (fun e5 => ?_)
  refine Rn.run 1 (ls' := [_, _]) (st' := [_]) rfl ?_
  exact Rn.ret rfl rfl rfl rfl rfl rfl
theorem k215_b1 {ex : xO} {d : Nat} {c : Nat → Nat → Int} {b : Bool}  {a1 : Int} (h1 : w32 a1 = a1) (q1 : ¬ (0 ≤ a1 ∧ a1 < 3)) : An ex (d + 20) 215 2 [xA 54, xI a1] (hp c b) (xI (-1), hp (c) b) := by
  refine Rn.run 4 (ls' := [_, _]) (st' := [_, _, _]) rfl ?_
  refine Rn.call rfl rfl rfl rfl rfl (c131) ?_
  refine Rn.neB rfl (fun e9 => absurd e9 (by exact (z_no9 (m := 2) h1 (by decide) q1))) (fun e9 => ?_)
  refine Rn.run 1 (ls' := [_, _]) (st' := [_]) rfl ?_
  exact Rn.ret rfl rfl rfl rfl rfl rfl
theorem k89_st {ex : xO} {d : Nat} {c : Nat → Nat → Int} {b : Bool} {n D T Mo : Nat} {kd bo wo L : Nat → Nat} (hP : pS n kd bo wo D T Mo L) (hc : cS c b n kd bo wo D T Mo L) {t : Nat} (ht : t < 3) (h0 : n = 0) : An ex (d + 20) 89 2 [xA 0, xI (t : Int)] (hp c b) (xI (-4), hp (c) b) := by
  obtain ⟨ho, h40, hT, h9, hMo⟩ := hP
  obtain ⟨hC, d7, t9, hL, m10⟩ := hc
  have hn := ho.1
  have hT6 := p64 hn hT
  refine Rn.run 2 (ls' := [_, _]) (st' := [_, _]) rfl ?_
  refine Rn.call rfl rfl rfl rfl rfl (c100) ?_
  refine Rn.neB rfl (fun e5 => ?_) (fun e5 => absurd e5 (by exact fun h => h (z_in (m := 3) ht (by omega))))
  refine Rn.run 1 (ls' := [_, _]) (st' := [_]) rfl ?_
  refine Rn.getR rfl ⟨by decide, rfl, rfl⟩ (j := gid b) (rfl) ?_
  refine Rn.getI rfl (xS_g b) ?_
  rw [hC.1]
  refine Rn.ne0 rfl (fun e17 => absurd e17 (by rw [h0]; decide)) (fun e17 => ?_)
  refine Rn.run 1 (ls' := [_, _]) (st' := [_]) rfl ?_
  exact Rn.ret rfl rfl rfl rfl rfl rfl
theorem k215_st {ex : xO} {d : Nat} {c : Nat → Nat → Int} {b : Bool} {n D T Mo : Nat} {kd bo wo L : Nat → Nat} (hP : pS n kd bo wo D T Mo L) (hm : mS c n kd bo wo D T Mo L) {t : Nat} (ht : t < 3) (h0 : n = 0) : An ex (d + 20) 215 2 [xA 54, xI (t : Int)] (hp c b) (xI (-4), hp (c) b) := by
  obtain ⟨ho, h40, hT, h9, hMo⟩ := hP
  obtain ⟨hM, d29, t2, l55, m1⟩ := hm
  have hn := ho.1
  have hT6 := p64 hn hT
  have t2 : t ≤ 2 := by omega
  refine Rn.run 4 (ls' := [_, _]) (st' := [_, _, _]) rfl ?_
  refine Rn.call rfl rfl rfl rfl rfl (c131) ?_
  refine Rn.neB rfl (fun e9 => ?_) (fun e9 => absurd e9 (by exact fun h => h (z_in9 (m := 2) t2 (by decide))))
  refine Rn.run 3 (ls' := [_, _]) (st' := [_, _]) rfl ?_
  refine Rn.ald rfl ⟨by decide, rfl⟩ (0) rfl (by decide) ?_
  rw [hM.1]
  refine Rn.ne0 rfl (fun e20 => absurd e20 (by rw [h0]; decide)) (fun e20 => ?_)
  refine Rn.run 1 (ls' := [_, _]) (st' := [_]) rfl ?_
  exact Rn.ret rfl rfl rfl rfl rfl rfl
theorem k89_ok {ex : xO} {d : Nat} {c : Nat → Nat → Int} {b : Bool} {n D T Mo : Nat} {kd bo wo L : Nat → Nat} (hP : pS n kd bo wo D T Mo L) (hc : cS c b n kd bo wo D T Mo L) {t : Nat} (ht : t < 3) (h0 : n ≠ 0) : An ex (d + 20) 89 2 [xA 0, xI (t : Int)] (hp c b) (xI 1, hp (xup c 0 10 (ld kd bo wo n (2 * t) (T, L))) b) := by
  obtain ⟨ho, h40, hT, h9, hMo⟩ := hP
  obtain ⟨hC, d7, t9, hL, m10⟩ := hc
  have hn := ho.1
  have hT6 := p64 hn hT
  have q := c127 (ex := ex) ho hC (2 * t) (d + 13 - 2 * t) T (c 8 D) L (by omega) hT6 hL h9
  rw [show d + 13 - 2 * t + 2 * t + 6 = d + 19 by omega] at q
  refine Rn.run 2 (ls' := [_, _]) (st' := [_, _]) rfl ?_
  refine Rn.call rfl rfl rfl rfl rfl (c100) ?_
  refine Rn.neB rfl (fun e5 => ?_) (fun e5 => absurd e5 (by exact fun h => h (z_in (m := 3) ht (by omega))))
  refine Rn.run 1 (ls' := [_, _]) (st' := [_]) rfl ?_
  refine Rn.getR rfl ⟨by decide, rfl, rfl⟩ (j := gid b) (rfl) ?_
  refine Rn.getI rfl (xS_g b) ?_
  rw [hC.1]
  refine Rn.ne0 rfl (fun e17 => ?_) (fun e17 => absurd e17 (by exact fun h => h (z_ne0 h0 hn)))
  refine Rn.run 2 (ls' := [_, _]) (st' := [_, _]) rfl ?_
  refine Rn.getR rfl ⟨by decide, rfl, rfl⟩ (j := gid b) (rfl) ?_
  refine Rn.run 3 (ls' := [_, _]) (st' := [_, _, _]) rfl ?_
  rw [show (2 : Int) * (t : Int) = ((2 * t : Nat) : Int) by omega]
  refine Rn.run 2 (ls' := [_, _]) (st' := [_, _, _, _]) rfl ?_
  refine Rn.call rfl rfl rfl rfl rfl (c10 d7 h40) ?_
  refine Rn.run 2 (ls' := [_, _]) (st' := [_, _, _, _, _]) rfl ?_
  refine Rn.call rfl rfl rfl rfl rfl (c11 d7 h40) ?_
  rw [t9]
  refine Rn.call rfl rfl rfl rfl rfl (q) ?_
  refine Rn.call rfl rfl rfl rfl rfl (c102) ?_
  exact Rn.ret rfl rfl rfl rfl rfl rfl
theorem k215_ok {ex : xO} {d : Nat} {c : Nat → Nat → Int} {b : Bool} {n D T Mo : Nat} {kd bo wo L : Nat → Nat} (hP : pS n kd bo wo D T Mo L) (hm : mS c n kd bo wo D T Mo L) {t : Nat} (ht : t < 3) (h0 : n ≠ 0) : ∃ e, An ex (d + 20) 215 2 [xA 54, xI (t : Int)] (hp c b) (xI 1, hp (xup e 54 7 (ld kd bo wo n (2 * t) (T, L))) b) ∧ fr1 c e := by
  obtain ⟨ho, h40, hT, h9, hMo⟩ := hP
  obtain ⟨hM, d29, t2, l55, m1⟩ := hm
  have hn := ho.1
  have hT6 := p64 hn hT
  have t3 : t ≤ 2 := by omega
  obtain ⟨e, q, f⟩ := c214 (ex := ex) (d := d + 11) (b := b) (c := c) ⟨ho, h40, hT, h9, hMo⟩ ⟨hM, d29, t2, l55, m1⟩ (N := 2 * t) (by omega) (by omega)
  refine ⟨e, ?_, f⟩
  refine Rn.run 4 (ls' := [_, _]) (st' := [_, _, _]) rfl ?_
  refine Rn.call rfl rfl rfl rfl rfl (c131) ?_
  refine Rn.neB rfl (fun e9 => ?_) (fun e9 => absurd e9 (by exact fun h => h (z_in9 (m := 2) t3 (by decide))))
  refine Rn.run 3 (ls' := [_, _]) (st' := [_, _]) rfl ?_
  refine Rn.ald rfl ⟨by decide, rfl⟩ (0) rfl (by decide) ?_
  rw [hM.1]
  refine Rn.ne0 rfl (fun e20 => ?_) (fun e20 => absurd e20 (by exact fun h => h (z_ne0 h0 hn)))
  refine Rn.run 5 (ls' := [_, _]) (st' := [_, _, _]) rfl ?_
  rw [show (2 : Int) * (t : Int) = ((2 * t : Nat) : Int) by omega]
  refine Rn.call rfl rfl rfl rfl rfl (q) ?_
  refine Rn.call rfl rfl rfl rfl rfl (c135) ?_
  exact Rn.ret rfl rfl rfl rfl rfl rfl
theorem g_duel {ex : xO} (a1 : Int) (h1 : w32 a1 = a1) : AgI ex 89 2 215 2 [xI a1] := by
  intro d c b hI
  obtain ⟨n, kd, bo, wo, D, T, Mo, L, hP, hc, hm⟩ := Inv_St hI
  by_cases q1 : 0 ≤ a1 ∧ a1 < 3
  case neg => exact Ag_same hI (-1) (k89_b1 h1 q1) (k215_b1 h1 q1)
  obtain ⟨t, ht, rfl⟩ : ∃ j : Nat, j < 3 ∧ a1 = (j : Int) := ⟨a1.toNat, by omega, by omega⟩
  by_cases h0 : n = 0
  · exact Ag_same hI (-4) (k89_st hP hc ht h0) (k215_st hP hm ht h0)
  · obtain ⟨e, r, f⟩ := k215_ok (ex := ex) (d := d) (b := b) (c := xup c 0 10 (ld kd bo wo n (2 * t) (T, L))) hP (mS_fr (fun z => xup_n _ _ (by omega)) hm) ht h0
    refine Ag_ask hI 1 (ld kd bo wo n (2 * t) (T, L)) (k89_ok hP hc ht h0) r (fun a z h => ?_)
    by_cases ha : a = 54 ∧ z = 7
    · rw [ha.1, ha.2, xup_s, xup_s]
    · rw [xup_n _ _ (by omega), xup_n _ _ (by omega)]
      exact f a z (fun q => h (by unfold scr; omega)) (fun q => h (by unfold scr; omega)) (fun q => h (by unfold scr; omega)) (fun q => h (by unfold scr; omega))
