-- the steps that may change the heap
theorem x_HRset {B : Nat} {D : va_G} {κ : Nat → ClassId} {K S F : Nat} {sh : Nat → Nat × Nat × Nat} {c c' : Nat → Nat → Int} {rf rf' : Nat → Nat → Option Nat} {H H' : Heap} {a : Nat} (hH : xHR B D κ (K, S, F, sh, c, rf) H) (z : H'.size = H.size) (oq : ∀ q, q ≠ B + a → H'[q]? = H[q]?)
    (hc : ∀ i, i ≠ a → c' i = c i) (hr : ∀ i, i ≠ a → rf' i = rf i) (ha : xcell B D κ sh c' rf' H' a) : xHR B D κ (K, S, F, sh, c', rf') H' := by
  refine ⟨fun h => z.trans (hH.1 h), fun i hi => ?_⟩
  by_cases hia : i = a
  · subst hia
    exact ha
  · have h1 := hH.2 i hi
    have hq : H'[B + i]? = H[B + i]? := oq _ (by omega)
    have e1 : ∀ ci, xfv B c' rf' ci i = xfv B c rf ci i := fun ci => by funext k; simp only [xfv, hc i hia, hr i hia]
    have e2 : ∀ kd, xav B c' rf' kd i = xav B c rf kd i := fun kd => by funext k; simp only [xav, hc i hia, hr i hia]
    refine ⟨fun h => ?_, fun h h2 => ?_⟩
    · show t_OB _ _ _ _ H' (xfv B c' rf' (sh i).2.1 i)
      rw [e1]
      exact (h1.1 h).kept hq
    · show H'[B + i]? = some (arrV _ _ (xav B c' rf' (sh i).2.1 i))
      rw [e2, hq]
      exact h1.2 h h2
theorem x_xup_ne {α : Type} (f : Nat → Nat → α) (a j : Nat) (v : α) (i : Nat) (h : i ≠ a) : xup f a j v i = f i := by
  funext k
  simp [xup, h]
theorem x_xrow_ne {α : Type} (f : Nat → Nat → α) (a : Nat) (g : Nat → α) (i : Nat) (h : i ≠ a) : xrow f a g i = f i := by
  funext k
  simp [xrow, h]
set_option maxRecDepth 100000 in
theorem x_tyk : ∀ ci, ci < 10 → ∀ k, k < 25 → (xtyO ci k = .int ∨ xtyO ci k = .long ∨ defaultValue (xtyO ci k) = .null ∧ (xtyO ci k ≠ .int ∧ xtyO ci k ≠ .long)) := by decide +kernel
theorem x_born (B : Nat) (c : Nat → Nat → Int) (rf : Nat → Nat → Option Nat) (K ci k : Nat) (h1 : ci < 10) (h2 : k < 25) : defaultValue (xtyO ci k) = xfv B (xrow c K (fun _ => 0)) (xrow rf K (fun _ => none)) ci K k := by
  rcases x_tyk ci h1 k h2 with h | h | h
  · simp [xfv, h, xrow, defaultValue]
  · simp [xfv, h, xrow, defaultValue]
  · rw [h.1]
    unfold xfv
    split
    · rename_i h9; exact absurd h9 h.2.1
    · rename_i h9; exact absurd h9 h.2.2
    · simp [xrow, va_rf]
theorem x_nf25 : ∀ ci, ci < 10 → xnf ci ≤ 25 := by decide +kernel
theorem x_HRpush {B : Nat} {D : va_G} {κ : Nat → ClassId} {K S S' F : Nat} {sh : Nat → Nat × Nat × Nat} {c : Nat → Nat → Int} {rf : Nat → Nat → Option Nat} {H H' : Heap} {w : Nat × Nat × Nat} (hH : xHR B D κ (K, S, F, sh, c, rf) H) (hz : H.size = B + K) (z : H'.size = H.size + 1) (oq : ∀ q, q < H.size → H'[q]? = H[q]?)
    (ha : xcell B D κ (fun i => if i = K then w else sh i) (xrow c K (fun _ => 0)) (xrow rf K (fun _ => none)) H' K) : xHR B D κ (K + 1, S', F, (fun i => if i = K then w else sh i), xrow c K (fun _ => 0), xrow rf K (fun _ => none)) H' := by
  refine ⟨fun h => by rw [z, hz]; rfl, fun i hi => ?_⟩
  by_cases hia : i = K
  · subst hia
    exact ha
  · have hi : i < K := by dsimp only at hi; omega
    have h1 := hH.2 i hi
    have hq : H'[B + i]? = H[B + i]? := oq _ (by omega)
    have e1 : ∀ ci, xfv B (xrow c K (fun _ => 0)) (xrow rf K (fun _ => none)) ci i = xfv B c rf ci i := fun ci => by funext k; simp only [xfv, xrow, if_neg hia]
    have e2 : ∀ kd, xav B (xrow c K (fun _ => 0)) (xrow rf K (fun _ => none)) kd i = xav B c rf kd i := fun kd => by funext k; simp only [xav, xrow, if_neg hia]
    dsimp only at h1
    unfold xcell at h1 ⊢
    dsimp only
    rw [if_neg hia]
    refine ⟨fun h => ?_, fun h h2 => ?_⟩
    · rw [e1]
      exact (h1.1 h).kept hq
    · rw [e2, hq]
      exact h1.2 h h2
section XB
variable {p : Program} {l : Launch} {e : Env} {R : Room} {s : State} {m : MethodId} {args : Array Value} {below : List Frame} {meth : Method} {c : Code} {H : Heap} {locs : List Loc} {cells slots : Nat} {Q : State → Prop}
variable {ex : xO} {ea : Nat → Nat} {B : Nat} {D : va_G} {κ : Nat → ClassId} {own : String} {bytes : ByteArray} {mL : Nat} {rt : Option FieldType} {nm : String}
theorem x_nn {z : Int} (h : 0 ≤ w32 z) : ¬ Int32.ofInt z < 0 := fun q => by
  rw [x_0, x_lt] at q
  have : w32 0 = 0 := rfl
  omega
theorem x_RA (St : xSt ex ea B D κ s) : s.vm.findClass ("[" ++ (FieldType.int).toString) = some (κ 0) ∧ s.vm.findClass ("[" ++ (FieldType.byte).toString) = some (κ 1) ∧ s.vm.findClass ("[" ++ (FieldType.boolean).toString) = some (κ 2) :=
  ⟨(St.1.2 0 _ rfl).2, (St.1.2 1 _ rfl).2, (St.1.2 2 _ rfl).2⟩
theorem x_RAo (St : xSt ex ea B D κ s) : ∀ k, 3 ≤ k → k ≤ 5 → ∃ (kA : Class) (comp : ClassId), s.vm.classes[κ k]? = some kA ∧ kA.kind = .array comp (.object (xcn (xkc k))) ∧ s.vm.findClass (xcn (xkc k)) = some comp ∧ s.vm.findClass ("[" ++ (FieldType.object (xcn (xkc k))).toString) = some (κ k) := by
  intro k h1 h2
  have h6 : k = 3 ∨ k = 4 ∨ k = 5 := by omega
  rcases h6 with rfl | rfl | rfl
  · exact (St.1.2 3 _ rfl).2
  · exact (St.1.2 4 _ rfl).2
  · exact (St.1.2 5 _ rfl).2
theorem x_xatyR : ∀ k, 3 ≤ k → k ≤ 5 → xaty k = .object (xcn (xkc k)) := by
  intro k h1 h2
  have h6 : k = 3 ∨ k = 4 ∨ k = 5 := by omega
  rcases h6 with rfl | rfl | rfl <;> rfl
theorem x_over : ∀ k, 3 ≤ k → k ≤ 5 → Cond.arrayOver (.object (xcn (xkc k))) ∈ lw_tbl := by
  intro k h1 h2
  have h6 : k = 3 ∨ k = 4 ∨ k = 5 := by omega
  rcases h6 with rfl | rfl | rfl <;> decide +kernel
theorem x_acls : Cond.arrayClass .int ∈ lw_tbl ∧ Cond.arrayClass .byte ∈ lw_tbl ∧ Cond.arrayClass .boolean ∈ lw_tbl ∧ Cond.native arraycopyName ∈ lw_tbl ∧ Cond.static arraycopyName ∈ lw_tbl ∧ Cond.initialized "java/lang/System" ∈ lw_tbl := by decide +kernel
theorem x_insw {X : Nat} (h : X < 10) {w : vw_C} (hw : vwCl[X]? = some w) (h03 : X ≠ 0 ∧ X ≠ 3) : Cond.instantiable w.1 w.2.2 ∈ xws ∧ Cond.initialized w.1 ∈ xws := by
  rcases x_inst X h with h1 | h1 | h1
  · exact absurd h1 h03.1
  · exact absurd h1 h03.2
  · unfold xins at h1
    rw [hw] at h1
    simp only [Bool.and_eq_true, List.contains_iff_mem] at h1
    exact ⟨x_wm h1.1.1 h1.1.2, x_wm h1.2 rfl⟩
set_option maxHeartbeats 4000000 in
set_option maxRecDepth 100000 in
theorem xB_ok (Fr : xFr p s m args meth c own bytes mL rt nm) (St : xSt ex ea B D κ s) {e0 : xE} {d pc : Nat} (he : xokE own bytes rt nm pc e0 = true) {st : List xV} {h : xH} {q : Nat × List xV × xH} (hs : xstB e0 d st h = some q) {la : Array Slot}
    (hsz : la.size = mL) (hH : xHR B D κ h H) (hS : va_S (fun q => B ≤ q) s.heap H locs) (hRf : d ≤ R.frames) (hRl : 64 * d ≤ R.locals) {K0 S0 : Nat} (hcK : K0 + cells = h.1) (hcS : S0 + slots = h.2.1) (hR1 : q.2.2.1 ≤ K0 + R.cells) (hR2 : q.2.2.2.1 ≤ S0 + R.slots)
    (kk : ∀ (H' : Heap) (locs' : List Loc) (cells' slots' : Nat), xHR B D κ q.2.2 H' → va_S (fun q => B ≤ q) s.heap H' locs' → K0 + cells' = q.2.2.1 → S0 + slots' = q.2.2.2.1 → W p l e R s m args below meth c H' locs' cells' slots' Q (F0 m q.1 la (q.2.1.map (xval B ea)))) :
    W p l e R s m args below meth c H locs cells slots Q (F0 m pc la (st.map (xval B ea))) := by
  obtain ⟨ins, nx, P, X, Y, Z, W0, V⟩ := e0
  obtain ⟨K, S, F, sh, cc, rf⟩ := h
  obtain ⟨hx, hb, hr, hml, hown, hts, hlk, hnm⟩ := Fr
  cases ins <;> first | (exact absurd hs (by simp [xstB])) | skip
  case iastore =>
    obtain ⟨hd, hn, hk⟩ := x_okE he (fun _ _ _ _ h => by cases h)
    subst hn
    simp only [xstB] at hs
    split at hs
    · rename_i x i a r K S F sh cc rf heq
      cases heq
      split at hs
      · rename_i hc
        obtain ⟨h1, h2, h3, h5⟩ := hc
        obtain ⟨v1, v2, v3⟩ := x_in h5
        cases hs
        have hcell := (hH.2 a h1).2 h2 (by dsimp only; omega)
        have ha := x_arr St 0 (by omega)
        dsimp only at hcell h3
        rw [h3] at hcell
        refine W.iast hx hb hcell (ha _ _) (fun h => by cases h) (by rw [arrV_size]; exact v1) rfl rfl hd fun H1 e1 z1 o1 => ?_
        refine kk H1 _ _ _ (x_HRset hH z1 o1 (x_xup_ne _ _ _ _) (fun _ _ => rfl) ⟨fun z => by rw [h2] at z; cases z, fun _ _ => ?_⟩) (hS.put z1 o1 (Nat.le_add_right _ _)) hcK hcS
        rw [h3, e1, arrV_store, x_clamp]
        congr 2
        funext k
        simp only [updV, xav, xup]
        by_cases hq : k = (w32 i).toNat <;> simp [hq]
      · cases hs
    · cases hs
  case bastore =>
    obtain ⟨hd, hn, hk⟩ := x_okE he (fun _ _ _ _ h => by cases h)
    subst hn
    simp only [xstB] at hs
    split at hs
    · rename_i x i a r K S F sh cc rf heq
      cases heq
      split at hs
      · rename_i hc
        obtain ⟨h1, h2, h5⟩ := hc
        obtain ⟨v1, v2, v3⟩ := x_in h5
        split at hs
        · rename_i h3
          cases hs
          have hcell := (hH.2 a h1).2 h2 (by dsimp only; omega)
          have ha := x_arr St 1 (by omega)
          dsimp only at hcell h3
          rw [h3] at hcell
          refine W.bast hx hb hcell (ha _ _) (fun h => by cases h) (by rw [arrV_size]; exact v1) rfl rfl hd fun H1 e1 z1 o1 => ?_
          refine kk H1 _ _ _ (x_HRset hH z1 o1 (x_xup_ne _ _ _ _) (fun _ _ => rfl) ⟨fun z => by rw [h2] at z; cases z, fun _ _ => ?_⟩) (hS.put z1 o1 (Nat.le_add_right _ _)) hcK hcS
          rw [h3, e1, arrV_store, x_clamp, narrow_byte, x_i2b]
          congr 2
          funext k
          simp only [updV, xav, xup]
          by_cases hq : k = (w32 i).toNat <;> simp [hq]
        · split at hs
          · rename_i h3
            obtain ⟨h3, hx01⟩ := h3
            cases hs
            have hcell := (hH.2 a h1).2 h2 (by dsimp only; omega)
            have ha := x_arr St 2 (by omega)
            dsimp only at hcell h3
            rw [h3] at hcell
            have hnb : narrow .boolean (.int (Int32.ofInt x)) = .int (Int32.ofInt x) := by rcases hx01 with rfl | rfl <;> rfl
            refine W.zast hx hb hcell (ha _ _) (fun h => by cases h) (by rw [arrV_size]; exact v1) rfl rfl hd fun H1 e1 z1 o1 => ?_
            refine kk H1 _ _ _ (x_HRset hH z1 o1 (x_xup_ne _ _ _ _) (fun _ _ => rfl) ⟨fun z => by rw [h2] at z; cases z, fun _ _ => ?_⟩) (hS.put z1 o1 (Nat.le_add_right _ _)) hcK hcS
            rw [h3, e1, arrV_store, x_clamp, hnb]
            congr 2
            funext k
            simp only [updV, xav, xup]
            by_cases hq : k = (w32 i).toNat <;> simp [hq]
          · cases hs
      · cases hs
    · cases hs
  case aastore =>
    obtain ⟨hd, hn, hk⟩ := x_okE he (fun _ _ _ _ h => by cases h)
    subst hn
    simp only [xstB] at hs
    split at hs
    · rename_i b i a r K S F sh cc rf heq
      cases heq
      split at hs
      · rename_i hc
        obtain ⟨h1, hb1, h2, h3, h4, h5, h6, h7⟩ := hc
        obtain ⟨v1, v2, v3⟩ := x_in h5
        cases hs
        have hcell := (hH.2 a h1).2 h2 h4
        obtain ⟨kA, comp, k1, k2, k3, k4⟩ := x_RAo St _ h3 h4
        obtain ⟨cellV, g1, g2, g3, -⟩ := (hH.2 b hb1).1 h6
        dsimp only at g2 g1 hcell
        rw [h7] at g2
        have hci : ∃ w : vw_C, vwCl[xkc (sh a).2.1]? = some w ∧ w.1 = xcn (xkc (sh a).2.1) := by
          have h8 : (sh a).2.1 = 3 ∨ (sh a).2.1 = 4 ∨ (sh a).2.1 = 5 := by omega
          rcases h8 with h8 | h8 | h8 <;> rw [h8] <;> exact ⟨_, rfl, rfl⟩
        obtain ⟨w, hw, hw1⟩ := hci
        have hcls := (St.1.1 _ w hw).2
        rw [hw1] at hcls
        have hcomp : comp = D.1 (xkc (sh a).2.1) := Option.some.inj (k3.symm.trans hcls.1)
        subst hcomp
        obtain ⟨kC, hkC, -⟩ := hcls.2
        refine W.aast hx hb hcell (fun q h => by cases h) (fun h => by cases h) k1 k2 rfl hkC ⟨x_nn v3, by rw [arrV_size, x_clamp]; exact v2⟩ g1 (fun q h => by rw [g3] at h; cases h) (by rw [g2]; exact hkC) (by rw [g2]; exact va_assign hcls) rfl rfl hd fun H1 e1 z1 o1 => ?_
        refine kk H1 _ _ _ (x_HRset hH z1 o1 (fun _ _ => rfl) (x_xup_ne _ _ _ _) ⟨fun z => by rw [h2] at z; cases z, fun _ _ => ?_⟩) (hS.put z1 o1 (Nat.le_add_right _ _)) hcK hcS
        rw [e1, arrV_store, x_clamp]
        congr 2
        funext k
        simp only [updV, xav, xup]
        rw [if_neg (by omega)]
        by_cases hq : k = (w32 i).toNat <;> simp [hq, va_rf]
        all_goals first | rfl | (intro h9; omega) | skip
      · cases hs
    · cases hs
  all_goals sorry
end XB
