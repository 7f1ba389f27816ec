-- the steps that may change the heap
theorem x_HRset {B : Nat} {D : va_G} {κ : Nat → ClassId} {K S F : Nat} {sh : Nat → Nat × Nat × Nat} {c c' : Nat → Nat → Int} {rf rf' : Nat → Nat → Option Nat} {H H' : Heap} {a : Nat} (hH : xHR B D κ (K, S, F, sh, c, rf) H) (z : H'.size = H.size) (oq : ∀ q, q ≠ B + a → H'[q]? = H[q]?)
    (hc : ∀ i, i ≠ a → c' i = c i) (hr : ∀ i, i ≠ a → rf' i = rf i) (ha : xcell B D κ sh c' rf' H' a) : xHR B D κ (K, S, F, sh, c', rf') H' := by
  refine ⟨fun h => z.trans (hH.1 h), fun i hi => ?_⟩
  by_cases hia : i = a
  · subst hia
    exact ha
  · have h1 := hH.2 i hi
    have hq : H'[B + i]? = H[B + i]? := oq _ (by omega)
    have e1 : ∀ ci, xfv B c' rf' ci i = xfv B c rf ci i := fun ci => by funext k; simp only [xfv, hc i hia, hr i hia]
    have e2 : ∀ kd, xav B c' rf' kd i = xav B c rf kd i := fun kd => by funext k; simp only [xav, hc i hia, hr i hia]
    refine ⟨fun h => ?_, fun h h2 => ?_⟩
    · show t_OB _ _ _ _ H' (xfv B c' rf' (sh i).2.1 i)
      rw [e1]
      exact (h1.1 h).kept hq
    · show H'[B + i]? = some (arrV _ _ (xav B c' rf' (sh i).2.1 i))
      rw [e2, hq]
      exact h1.2 h h2
theorem x_xup_ne {α : Type} (f : Nat → Nat → α) (a j : Nat) (v : α) (i : Nat) (h : i ≠ a) : xup f a j v i = f i := by
  funext k
  simp [xup, h]
theorem x_xrow_ne {α : Type} (f : Nat → Nat → α) (a : Nat) (g : Nat → α) (i : Nat) (h : i ≠ a) : xrow f a g i = f i := by
  funext k
  simp [xrow, h]
set_option maxRecDepth 100000 in
theorem x_tyk : ∀ ci, ci < 10 → ∀ k, k < 25 → (xtyO ci k = .int ∨ xtyO ci k = .long ∨ defaultValue (xtyO ci k) = .null ∧ (xtyO ci k ≠ .int ∧ xtyO ci k ≠ .long)) := by decide +kernel
theorem x_born (B : Nat) (c : Nat → Nat → Int) (rf : Nat → Nat → Option Nat) (K ci k : Nat) (h1 : ci < 10) (h2 : k < 25) : defaultValue (xtyO ci k) = xfv B (xrow c K (fun _ => 0)) (xrow rf K (fun _ => none)) ci K k := by
  rcases x_tyk ci h1 k h2 with h | h | h
  · simp [xfv, h, xrow, defaultValue]
  · simp [xfv, h, xrow, defaultValue]
  · rw [h.1]
    unfold xfv
    split
    · rename_i h9; exact absurd h9 h.2.1
    · rename_i h9; exact absurd h9 h.2.2
    · simp [xrow, va_rf]
theorem x_nf25 : ∀ ci, ci < 10 → xnf ci ≤ 25 := by decide +kernel
theorem x_HRpush {B : Nat} {D : va_G} {κ : Nat → ClassId} {K S S' F : Nat} {sh : Nat → Nat × Nat × Nat} {c : Nat → Nat → Int} {rf : Nat → Nat → Option Nat} {H H' : Heap} (hH : xHR B D κ (K, S, F, sh, c, rf) H) (hz : H.size = B + K) (z : H'.size = H.size + 1) (oq : ∀ q, q < H.size → H'[q]? = H[q]?)
    (ha : xcell B D κ sh (xrow c K (fun _ => 0)) (xrow rf K (fun _ => none)) H' K) : xHR B D κ (K + 1, S', F, sh, xrow c K (fun _ => 0), xrow rf K (fun _ => none)) H' := by
  refine ⟨fun h => by rw [z, hz]; rfl, fun i hi => ?_⟩
  by_cases hia : i = K
  · subst hia
    exact ha
  · have hi : i < K := by dsimp only at hi; omega
    have h1 := hH.2 i hi
    have hq : H'[B + i]? = H[B + i]? := oq _ (by omega)
    have e1 : ∀ ci, xfv B (xrow c K (fun _ => 0)) (xrow rf K (fun _ => none)) ci i = xfv B c rf ci i := fun ci => by funext k; simp only [xfv, xrow, if_neg hia]
    have e2 : ∀ kd, xav B (xrow c K (fun _ => 0)) (xrow rf K (fun _ => none)) kd i = xav B c rf kd i := fun kd => by funext k; simp only [xav, xrow, if_neg hia]
    dsimp only at h1
    unfold xcell at h1 ⊢
    refine ⟨fun h => ?_, fun h h2 => ?_⟩
    · rw [e1]
      exact (h1.1 h).kept hq
    · rw [e2, hq]
      exact h1.2 h h2
section XB
variable {p : Program} {l : Launch} {e : Env} {R : Room} {s : State} {m : MethodId} {args : Array Value} {below : List Frame} {meth : Method} {c : Code} {H : Heap} {locs : List Loc} {cells slots : Nat} {Q : State → Prop}
variable {ex : xO} {ea : Nat → Nat} {B : Nat} {D : va_G} {κ : Nat → ClassId} {own : String} {bytes : ByteArray} {mL : Nat} {rt : Option FieldType} {nm : String}
theorem x_nn {z : Int} (h : 0 ≤ w32 z) : ¬ Int32.ofInt z < 0 := fun q => by
  rw [x_0, x_lt] at q
  have : w32 0 = 0 := rfl
  omega
theorem x_RA (St : xSt ex ea B D κ s) : s.vm.findClass ("[" ++ (FieldType.int).toString) = some (κ 0) ∧ s.vm.findClass ("[" ++ (FieldType.byte).toString) = some (κ 1) ∧ s.vm.findClass ("[" ++ (FieldType.boolean).toString) = some (κ 2) :=
  ⟨(St.1.2 0 _ rfl).2, (St.1.2 1 _ rfl).2, (St.1.2 2 _ rfl).2⟩
theorem x_RAo (St : xSt ex ea B D κ s) : ∀ k, 3 ≤ k → k ≤ 5 → ∃ (kA : Class) (comp : ClassId), s.vm.classes[κ k]? = some kA ∧ kA.kind = .array comp (.object (xcn (xkc k))) ∧ s.vm.findClass (xcn (xkc k)) = some comp ∧ s.vm.findClass ("[" ++ (FieldType.object (xcn (xkc k))).toString) = some (κ k) := by
  intro k h1 h2
  have h6 : k = 3 ∨ k = 4 ∨ k = 5 := by omega
  rcases h6 with rfl | rfl | rfl
  · exact (St.1.2 3 _ rfl).2
  · exact (St.1.2 4 _ rfl).2
  · exact (St.1.2 5 _ rfl).2
theorem x_xatyR : ∀ k, 3 ≤ k → k ≤ 5 → xaty k = .object (xcn (xkc k)) := by
  intro k h1 h2
  have h6 : k = 3 ∨ k = 4 ∨ k = 5 := by omega
  rcases h6 with rfl | rfl | rfl <;> rfl
theorem x_over : ∀ k, 3 ≤ k → k ≤ 5 → Cond.arrayOver (.object (xcn (xkc k))) ∈ lw_tbl := by
  intro k h1 h2
  have h6 : k = 3 ∨ k = 4 ∨ k = 5 := by omega
  rcases h6 with rfl | rfl | rfl <;> decide +kernel
theorem x_acls : Cond.arrayClass .int ∈ lw_tbl ∧ Cond.arrayClass .byte ∈ lw_tbl ∧ Cond.arrayClass .boolean ∈ lw_tbl ∧ Cond.native arraycopyName ∈ lw_tbl ∧ Cond.static arraycopyName ∈ lw_tbl ∧ Cond.initialized "java/lang/System" ∈ lw_tbl := by decide +kernel
theorem x_insw {X : Nat} (h : X < 10) {w : vw_C} (hw : vwCl[X]? = some w) (h03 : X ≠ 0 ∧ X ≠ 3) : Cond.instantiable w.1 w.2.2 ∈ xws ∧ Cond.initialized w.1 ∈ xws := by
  rcases x_inst X h with h1 | h1 | h1
  · exact absurd h1 h03.1
  · exact absurd h1 h03.2
  · unfold xins at h1
    rw [hw] at h1
    simp only [Bool.and_eq_true, List.contains_iff_mem] at h1
    exact ⟨x_wm h1.1.1 h1.1.2, x_wm h1.2 rfl⟩
set_option maxHeartbeats 4000000 in
set_option maxRecDepth 100000 in
theorem xB_ok (Fr : xFr p s m args meth c own bytes mL rt nm) (St : xSt ex ea B D κ s) {e0 : xE} {d pc : Nat} (he : xokE own bytes rt nm pc e0 = true) {st : List xV} {h : xH} {q : Nat × List xV × xH} (hs : xstB e0 d st h = some q) {la : Array Slot}
    (hsz : la.size = mL) (hH : xHR B D κ h H) (hS : va_S (fun q => B ≤ q) s.heap H locs) (hRf : d ≤ R.frames) (hRl : 64 * d ≤ R.locals) {K0 S0 : Nat} (hcK : K0 + cells = h.1) (hcS : S0 + slots = h.2.1) (hR1 : q.2.2.1 ≤ K0 + R.cells) (hR2 : q.2.2.2.1 ≤ S0 + R.slots)
    (kk : ∀ (H' : Heap) (locs' : List Loc) (cells' slots' : Nat), xHR B D κ q.2.2 H' → va_S (fun q => B ≤ q) s.heap H' locs' → K0 + cells' = q.2.2.1 → S0 + slots' = q.2.2.2.1 → W p l e R s m args below meth c H' locs' cells' slots' Q (F0 m q.1 la (q.2.1.map (xval B ea)))) :
    W p l e R s m args below meth c H locs cells slots Q (F0 m pc la (st.map (xval B ea))) := by
  obtain ⟨ins, nx, P, X, Y, Z, W0, V⟩ := e0
  obtain ⟨K, S, F, sh, cc, rf⟩ := h
  obtain ⟨hx, hb, hr, hml, hown, hts, hlk, hnm⟩ := Fr
  cases ins <;> first | (simp [xstB] at hs; done) | skip
  case iastore =>
    obtain ⟨hd, hn, hk⟩ := x_okE he (fun _ _ _ _ h => by cases h)
    subst hn
    simp only [xstB] at hs
    split at hs
    · rename_i x i a r K S F sh cc rf heq
      cases heq
      split at hs
      · rename_i hc
        obtain ⟨h1, h2, h3, h5⟩ := hc
        obtain ⟨v1, v2, v3⟩ := x_in h5
        cases hs
        have hcell := (hH.2 a h1).2 h2 (by dsimp only; omega)
        have ha := x_arr St 0 (by omega)
        dsimp only at hcell h3
        rw [h3] at hcell
        refine W.iast hx hb hcell (ha _ _) (fun h => by cases h) (by rw [arrV_size]; exact v1) rfl rfl hd fun H1 e1 z1 o1 => ?_
        refine kk H1 _ _ _ (x_HRset hH z1 o1 (x_xup_ne _ _ _ _) (fun _ _ => rfl) ⟨fun z => (by rw [h2] at z; cases z), fun _ _ => ?_⟩) (hS.put z1 o1 (Nat.le_add_right _ _)) hcK hcS
        rw [h3, e1, arrV_store, x_clamp]
        congr 2
        funext k
        simp only [updV, xav, xup]
        by_cases hq : k = (w32 i).toNat <;> simp [hq]
      · cases hs
    · cases hs
  case bastore =>
    obtain ⟨hd, hn, hk⟩ := x_okE he (fun _ _ _ _ h => by cases h)
    subst hn
    simp only [xstB] at hs
    split at hs
    · rename_i x i a r K S F sh cc rf heq
      cases heq
      split at hs
      · rename_i hc
        obtain ⟨h1, h2, h5⟩ := hc
        obtain ⟨v1, v2, v3⟩ := x_in h5
        split at hs
        · rename_i h3
          cases hs
          have hcell := (hH.2 a h1).2 h2 (by dsimp only; omega)
          have ha := x_arr St 1 (by omega)
          dsimp only at hcell h3
          rw [h3] at hcell
          refine W.bast hx hb hcell (ha _ _) (fun h => by cases h) (by rw [arrV_size]; exact v1) rfl rfl hd fun H1 e1 z1 o1 => ?_
          refine kk H1 _ _ _ (x_HRset hH z1 o1 (x_xup_ne _ _ _ _) (fun _ _ => rfl) ⟨fun z => (by rw [h2] at z; cases z), fun _ _ => ?_⟩) (hS.put z1 o1 (Nat.le_add_right _ _)) hcK hcS
          rw [h3, e1, arrV_store, x_clamp, narrow_byte, x_i2b]
          congr 2
          funext k
          simp only [updV, xav, xup]
          by_cases hq : k = (w32 i).toNat <;> simp [hq]
        · split at hs
          · rename_i h3
            obtain ⟨h3, hx01⟩ := h3
            cases hs
            have hcell := (hH.2 a h1).2 h2 (by dsimp only; omega)
            have ha := x_arr St 2 (by omega)
            dsimp only at hcell h3
            rw [h3] at hcell
            have hnb : narrow .boolean (.int (Int32.ofInt x)) = .int (Int32.ofInt x) := by rcases hx01 with rfl | rfl <;> rfl
            refine W.zast hx hb hcell (ha _ _) (fun h => by cases h) (by rw [arrV_size]; exact v1) rfl rfl hd fun H1 e1 z1 o1 => ?_
            refine kk H1 _ _ _ (x_HRset hH z1 o1 (x_xup_ne _ _ _ _) (fun _ _ => rfl) ⟨fun z => (by rw [h2] at z; cases z), fun _ _ => ?_⟩) (hS.put z1 o1 (Nat.le_add_right _ _)) hcK hcS
            rw [h3, e1, arrV_store, x_clamp, hnb]
            congr 2
            funext k
            simp only [updV, xav, xup]
            by_cases hq : k = (w32 i).toNat <;> simp [hq]
          · cases hs
      · cases hs
    · cases hs
  case aastore =>
    obtain ⟨hd, hn, hk⟩ := x_okE he (fun _ _ _ _ h => by cases h)
    subst hn
    simp only [xstB] at hs
    split at hs
    · rename_i b i a r K S F sh cc rf heq
      cases heq
      split at hs
      · rename_i hc
        obtain ⟨h1, hb1, h2, h3, h4, h5, h6, h7⟩ := hc
        obtain ⟨v1, v2, v3⟩ := x_in h5
        cases hs
        have hcell := (hH.2 a h1).2 h2 h4
        obtain ⟨kA, comp, k1, k2, k3, k4⟩ := x_RAo St _ h3 h4
        obtain ⟨cellV, g1, g2, g3, -⟩ := (hH.2 b hb1).1 h6
        dsimp only at g2 g1 hcell
        rw [h7] at g2
        have hci : ∃ w : vw_C, vwK[xkc (sh a).2.1]? = some w ∧ w.1 = xcn (xkc (sh a).2.1) := by
          have h8 : (sh a).2.1 = 3 ∨ (sh a).2.1 = 4 ∨ (sh a).2.1 = 5 := by omega
          rcases h8 with h8 | h8 | h8 <;> rw [h8] <;> exact ⟨_, rfl, rfl⟩
        obtain ⟨w, hw, hw1⟩ := hci
        have hcls := (St.1.1 _ w hw).2
        rw [hw1] at hcls
        have hcomp : comp = D.1 (xkc (sh a).2.1) := Option.some.inj (k3.symm.trans hcls.1)
        subst hcomp
        obtain ⟨kC, hkC, -⟩ := hcls.2
        refine W.aast hx hb hcell (fun q h => by cases h) (fun h => by cases h) k1 k2 rfl hkC ⟨x_nn v3, by rw [arrV_size, x_clamp]; exact v2⟩ g1 (fun q h => by rw [g3] at h; cases h) (by rw [g2]; exact hkC) (by rw [g2]; exact va_assign hcls) rfl rfl hd fun H1 e1 z1 o1 => ?_
        refine kk H1 _ _ _ (x_HRset hH z1 o1 (fun _ _ => rfl) (x_xup_ne _ _ _ _) ⟨fun z => (by rw [h2] at z; cases z), fun _ _ => ?_⟩) (hS.put z1 o1 (Nat.le_add_right _ _)) hcK hcS
        rw [e1, arrV_store, x_clamp]
        congr 2
        funext k
        have h9 : ¬ (sh a).2.1 ≤ 2 := by omega
        simp only [updV, xav, xup, if_neg h9]
        by_cases hq : k = (w32 i).toNat <;> simp [hq, va_rf]
      · cases hs
    · cases hs
  case putfield i =>
    obtain ⟨hd, hn, hk⟩ := x_okE he (fun _ _ _ _ h => by cases h)
    subst hn
    simp only [xlnk, Bool.and_eq_true] at hk
    obtain ⟨w, hw, hY, hP, hZ⟩ := x_fl hk.1
    simp only [xstB] at hs
    split at hs
    · rename_i v a r K S F sh cc rf heq
      cases heq
      split at hs
      · rename_i hc
        obtain ⟨h1, h2, h3⟩ := hc
        have hob := (hH.2 a h1).1 h2
        dsimp only at hob
        rw [h3] at hob
        have hnf : xnf X = w.2.2 := by simp only [xnf, hw]
        rw [hnf] at hob
        have hlink := hts _ (x_ws hP rfl)
        have hK0 := x_K hw (show 0 < w.2.2 by omega)
        have hap := va_apart (own := own) hts (x_lays X _ hw) (xtyO X) (x_tyok X _ hw) (x_nm X _ hw) St.1 hK0
        obtain ⟨cell, q1, q2, q3, q4⟩ := hob
        obtain ⟨hSl, hfc, kC, hkC, hkind⟩ := St.1.1 X _ (x_K hw (by omega))
        obtain ⟨cf, kf, fi, f, hi, hsl⟩ := hSl Y hY
        have hlay := hts _ (x_lays X _ hw _ (u_in_lay hY))
        have hst := (u_facts hfc hkC (u_lays hts (x_lays X _ hw) hY) hi).1
        have key : ∃ (c' : Nat → Nat → Int) (rf' : Nat → Nat → Option Nat), q = (pc + 3, r, (K, S, F, sh, c', rf')) ∧ (∀ i, i ≠ a → c' i = cc i) ∧ (∀ i, i ≠ a → rf' i = rf i) ∧ narrow (xtyO X Y) (xval B ea v) = xval B ea v ∧ fits (xtyO X Y) (xval B ea v) = true ∧ ∀ k, updV (xfv B cc rf X a) Y (xval B ea v) k = xfv B c' rf' X a k := by
          rcases hZ with ⟨z, ty⟩ | ⟨z, ty⟩ | ⟨z, ty, tn⟩
          · subst z
            split at hs
            · cases hs
              refine ⟨_, _, rfl, x_xup_ne _ _ _ _, fun _ _ => rfl, by rw [ty]; rfl, by rw [ty]; rfl, fun k => ?_⟩
              by_cases hq : k = Y
              · subst hq
                simp [updV, xfv, xup, ty, xval]
              · simp [updV, xfv, xup, hq]
            · omega
            · omega
            · cases hs
          · subst z
            split at hs
            · omega
            · cases hs
              refine ⟨_, _, rfl, x_xup_ne _ _ _ _, fun _ _ => rfl, by rw [ty]; rfl, by rw [ty]; rfl, fun k => ?_⟩
              by_cases hq : k = Y
              · subst hq
                simp [updV, xfv, xup, ty, xval]
              · simp [updV, xfv, xup, hq]
            · omega
            · cases hs
          · subst z
            split at hs
            · omega
            · omega
            · rename_i b
              cases hs
              refine ⟨_, _, rfl, fun _ _ => rfl, x_xup_ne _ _ _ _, (tn _).1, (tn _).2, fun k => ?_⟩
              by_cases hq : k = Y
              · subst hq
                rw [ty]
                simp [updV, xup, xval, va_rf]
              · simp [updV, xfv, xup, hq]
            · cases hs
        obtain ⟨c', rf', rfl, hc', hr', hnar, hfit, hup⟩ := key
        have fin : ∀ H' : Heap, H'[B + a]? = some (cell.setSlot (D.2 X Y) (xval B ea v)) → H'.size = H.size → (∀ q, q ≠ B + a → H'[q]? = H[q]?) → xHR B D κ (K, S, F, sh, c', rf') H' := by
          intro H' e1 e2 e3
          refine x_HRset hH e2 e3 hc' hr' ⟨fun _ => ?_, fun z => (by rw [h2] at z; cases z)⟩
          rw [h3, hnf]
          exact t_OB.to (V := updV (xfv B cc rf X a) Y (xval B ea v)) ⟨_, e1, q2, q3, t_set q4 hap hY _⟩ (fun j _ => hup j)
        have hW := hk.2
        cases W0 with
        | zero =>
          have hfin : (w.2.1 Y).2.2.2 = false := by
            have : xfin X Y = false := by simpa using hW
            simpa [xfin, hw] using this
          unfold u_lay at hlay
          rw [if_neg (by rw [hfin]; decide)] at hlay
          have h6 := u_store hfc hkC hkind hlay hi (x_tyok X _ hw Y hY) hnar hfit
          refine W.putK hx hb (f := f) ⟨hown, hlink, ⟨_, _, _, hi⟩, hst⟩ (by rw [q2]; exact h6) q1 q3 (by rw [hsl]; exact k2_hasslot (q4 Y hY)) rfl rfl hd fun H' e1 e2 e3 => ?_
          rw [hsl] at e1
          exact kk H' _ _ _ (fin H' e1 e2 e3) (hS.put e2 e3 (Nat.le_add_right _ _)) hcK hcS
        | succ n =>
          simp only [Bool.and_eq_true, decide_eq_true_eq] at hW
          have hfin : (w.2.1 Y).2.2.2 = true := by simpa [xfin, hw] using hW.1.1
          have hdecl : (w.2.1 Y).1 = own := by simpa [xfcl, hw] using hW.2
          unfold u_lay at hlay
          rw [if_pos hfin] at hlay
          have hcf : m.cls = cf := by
            obtain ⟨_, _, c', _, _, _, -, -, hf', -, -, -, hown2, -⟩ := Cond.laysFinal_spec hlay
            have e1 : c' = cf := by have := hi.symm.trans hf'; simp at this; exact this.1.symm
            rw [hdecl] at hown2
            rw [← e1]; exact Option.some.inj (hown.symm.trans hown2)
          have h6 := u_fits hfc hkC hkind (Or.inr hlay) hi (x_tyok X _ hw Y hY) hnar hfit
          refine W.putFinK hx hb hown hlink hi hst hcf ((hnm hW.1.2).trans hW.1.2) (by rw [q2]; exact h6) q1 q3 (by rw [hsl]; exact k2_hasslot (q4 Y hY)) rfl rfl hd fun H' e1 e2 e3 => ?_
          rw [hsl] at e1
          exact kk H' _ _ _ (fin H' e1 e2 e3) (hS.put e2 e3 (Nat.le_add_right _ _)) hcK hcS
      · cases hs
    · cases hs
  case new i =>
    obtain ⟨hd, hn, hk⟩ := x_okE he (fun _ _ _ _ h => by cases h)
    subst hn
    simp only [xlnk, Bool.and_eq_true, decide_eq_true_eq] at hk
    obtain ⟨⟨hP, hWn⟩, hX10⟩ := hk
    have hX10 : X < 10 := Nat.le_of_ble_eq_true hX10
    have hWn : W0 = xnf X := Nat.eq_of_beq_eq_true hWn
    simp only [xstB] at hs
    split at hs
    · rename_i hF
      obtain ⟨hF, hW9, hshK⟩ := hF
      cases hs
      have h03 : X ≠ 0 ∧ X ≠ 3 := by
        refine ⟨fun z => ?_, fun z => ?_⟩
        · subst z; rw [hWn] at hW9; exact absurd hW9 (by decide)
        · subst z; rw [hWn] at hW9; exact absurd hW9 (by decide)
      have hz : H.size = B + K := hH.1 hF
      have hw0 : ∃ w : vw_C, vwCl[X]? = some w := by
        match X, hX10 with
        | 0, _ => exact ⟨_, rfl⟩
        | 1, _ => exact ⟨_, rfl⟩
        | 2, _ => exact ⟨_, rfl⟩
        | 3, _ => exact ⟨_, rfl⟩
        | 4, _ => exact ⟨_, rfl⟩
        | 5, _ => exact ⟨_, rfl⟩
        | 6, _ => exact ⟨_, rfl⟩
        | 7, _ => exact ⟨_, rfl⟩
        | 8, _ => exact ⟨_, rfl⟩
        | 9, _ => exact ⟨_, rfl⟩
        | k + 10, h => omega
      obtain ⟨w, hw⟩ := hw0
      have hnf : xnf X = w.2.2 := by simp only [xnf, hw]
      have hcn : xcn X = w.1 := by simp only [xcn, hw]
      rw [hcn] at hP
      obtain ⟨hin1, hin2⟩ := x_insw hX10 hw h03
      have hKn := St.1.1 X _ (x_K hw (by omega))
      have hR1' : K + 1 ≤ K0 + R.cells := hR1
      have hR2' : S + W0 ≤ S0 + R.slots := hR2
      dsimp only at hcK hcS
      refine W.newcK hx hb hown (hts _ (x_ws hP rfl)) (hts _ hin1) (hts _ hin2) rfl hd (by omega) (by rw [hWn, hnf] at hR2'; omega) hKn.2.1 rfl fun H1 kC hkC e1 z1 o1 => ?_
      have hcell : xcell B D κ sh (xrow cc K (fun _ => 0)) (xrow rf K (fun _ => none)) H1 K := by
        unfold xcell
        rw [hshK]
        refine ⟨fun _ => ?_, fun z => by simp at z⟩
        dsimp only
        rw [hnf, ← hz]
        exact (u_born (xtyO X) hts (x_lays X _ hw) hKn hkC e1 (x_tyok X _ hw)).to (fun j hj => x_born B cc rf K X j hX10 (by have := x_nf25 X hX10; omega))
      have k := kk H1 locs (cells + 1) (slots + W0) (x_HRpush hH hz z1 o1 hcell) ⟨by rw [z1]; exact Nat.le_succ_of_le hS.1, fun q g1 g2 => (o1 q (Nat.lt_of_lt_of_le g1 hS.1)).trans (hS.2.1 q g1 g2), hS.2.2⟩ (by show K0 + (cells + 1) = K + 1; omega) (by show S0 + (slots + W0) = S + W0; omega)
      simp only [List.map_cons, xval, ← hz] at k
      rw [hWn, hnf] at k
      exact k
    · cases hs
  case newarray at0 =>
    obtain ⟨hd, hn, hk⟩ := x_okE he (fun _ _ _ _ h => by cases h)
    subst hn
    simp only [xstB] at hs
    split at hs
    · rename_i n r K S F sh cc rf heq
      cases heq
      split at hs
      · rename_i hc
        obtain ⟨hF, hn0, hn1, hshK⟩ := hc
        cases hs
        have hz : H.size = B + K := hH.1 hF
        have hR1' : K + 1 ≤ K0 + R.cells := hR1
        have hR2' : S + (w32 n).toNat ≤ S0 + R.slots := hR2
        dsimp only at hcK hcS
        have key : Cond.arrayClass (newarray.typeOf at0) ∈ lw_tbl ∧ s.vm.findClass ("[" ++ (newarray.typeOf at0).toString) = some (κ X) ∧ X ≤ 2 ∧ (∀ j, defaultValue (newarray.typeOf at0) = xav B (xrow cc K (fun _ => 0)) (xrow rf K (fun _ => none)) X K j) ∧ componentBytes (newarray.typeOf at0) ≤ 4 := by
          have hk' := hk
          simp only [xlnk] at hk'
          cases at0 <;> first | (simp at hk'; done) | skip
          · have : X = 2 := Nat.eq_of_beq_eq_true hk'
            subst this
            exact ⟨x_acls.2.2.1, (x_RA St).2.2, by omega, fun j => by simp [xav, xrow]; rfl, by decide⟩
          · have : X = 1 := Nat.eq_of_beq_eq_true hk'
            subst this
            exact ⟨x_acls.2.1, (x_RA St).2.1, by omega, fun j => by simp [xav, xrow]; rfl, by decide⟩
          · have : X = 0 := Nat.eq_of_beq_eq_true hk'
            subst this
            exact ⟨x_acls.1, (x_RA St).1, by omega, fun j => by simp [xav, xrow]; rfl, by decide⟩
        obtain ⟨k1, k2, k3, k4, k5⟩ := key
        refine va_newaK hx hb (hts _ (x_wm k1 rfl)) rfl hd rfl (x_nn hn0) (x_clamp n) (Nat.le_trans (Nat.mul_le_mul (show (w32 n).toNat ≤ 100000 by omega) k5) (by decide)) (by omega) (by omega) rfl fun H1 cA e1 z1 o1 hAr hNm => ?_
        have hcA : cA = κ X := Option.some.inj (hNm.symm.trans k2)
        subst hcA
        have hcell : xcell B D κ sh (xrow cc K (fun _ => 0)) (xrow rf K (fun _ => none)) H1 K := by
          unfold xcell
          rw [hshK]
          refine ⟨fun z => by simp at z, fun _ _ => ?_⟩
          dsimp only
          rw [← hz, e1]
          congr 2
          funext j
          exact k4 j
        have k := kk H1 locs (cells + 1) (slots + (w32 n).toNat) (x_HRpush hH hz z1 o1 hcell) ⟨by rw [z1]; exact Nat.le_succ_of_le hS.1, fun q g1 g2 => (o1 q (Nat.lt_of_lt_of_le g1 hS.1)).trans (hS.2.1 q g1 g2), hS.2.2⟩ (by show K0 + (cells + 1) = K + 1; omega) (by show S0 + (slots + (w32 n).toNat) = S + (w32 n).toNat; omega)
        simp only [List.map_cons, xval, ← hz] at k
        exact k
      · cases hs
    · cases hs
  case anewarray i =>
    obtain ⟨hd, hn, hk⟩ := x_okE he (fun _ _ _ _ h => by cases h)
    subst hn
    simp only [xlnk, Bool.and_eq_true, decide_eq_true_eq] at hk
    obtain ⟨⟨hP, hX3⟩, hX5⟩ := hk
    have hX3 : 3 ≤ X := Nat.le_of_ble_eq_true hX3
    have hX5 : X ≤ 5 := Nat.le_of_ble_eq_true hX5
    simp only [xstB] at hs
    split at hs
    · rename_i n r K S F sh cc rf heq
      cases heq
      split at hs
      · rename_i hc
        obtain ⟨hF, hn0, hn1, hshK⟩ := hc
        cases hs
        have hz : H.size = B + K := hH.1 hF
        have hR1' : K + 1 ≤ K0 + R.cells := hR1
        have hR2' : S + (w32 n).toNat ≤ S0 + R.slots := hR2
        dsimp only at hcK hcS
        obtain ⟨kA0, comp0, -, -, -, hNk⟩ := x_RAo St X hX3 hX5
        refine W.anew hx hb hown (hts _ (x_ws hP rfl)) (va_AO.use (St.2.1 _ (x_over X hX3 hX5) rfl)) rfl hd rfl (x_nn hn0) (by rw [x_clamp]; omega) (by omega) (by rw [x_clamp]; omega) fun cA kA comp f1 f2 f3 f4 => ?_
        have hcA : cA = κ X := Option.some.inj (f1.symm.trans hNk)
        subst hcA
        generalize hH1 : H.push ({ cls := κ X, slots := Array.replicate (Int32.ofInt n).toNatClampNeg .null, vm := .none } : Cell) = H1
        have z1 : H1.size = H.size + 1 := by rw [← hH1, Array.size_push]
        have e1 : H1[H.size]? = some (arrV (κ X) (w32 n).toNat (fun _ => .null)) := by rw [← hH1, Array.getElem?_push_size, ← arrV_new, x_clamp]
        have o1 : ∀ q : Nat, q < H.size → H1[q]? = H[q]? := fun q hq => by rw [← hH1, Array.getElem?_push, if_neg (Nat.ne_of_lt hq)]
        have hcell : xcell B D κ sh (xrow cc K (fun _ => 0)) (xrow rf K (fun _ => none)) H1 K := by
          unfold xcell
          rw [hshK]
          refine ⟨fun z => by simp at z, fun _ _ => ?_⟩
          dsimp only
          rw [← hz, e1]
          congr 2
          funext j
          simp only [xav]
          rw [if_neg (by omega)]
          simp [xrow, va_rf]
        have k := kk H1 locs (cells + 1) (slots + (w32 n).toNat) (x_HRpush hH hz z1 o1 hcell) ⟨by rw [z1]; exact Nat.le_succ_of_le hS.1, fun q g1 g2 => (o1 q (Nat.lt_of_lt_of_le g1 hS.1)).trans (hS.2.1 q g1 g2), hS.2.2⟩ (by show K0 + (cells + 1) = K + 1; omega) (by show S0 + (slots + (w32 n).toNat) = S + (w32 n).toNat; omega)
        simp only [List.map_cons, xval, ← hz] at k
        rw [x_clamp]
        exact k
      · cases hs
    · cases hs
  case invokestatic i =>
    obtain ⟨hd, hn, hk⟩ := x_okE he (fun _ _ _ _ h => by cases h)
    subst hn
    simp only [xstB] at hs
    split at hs
    · rename_i n dp b sp a r K S F sh cc rf heq
      cases heq
      split at hs
      · rename_i hc
        obtain ⟨⟨hd0, hcr⟩, ⟨ha1, ha2, ha3⟩, ⟨hb1, hb2, hb3⟩, ⟨hn0, hs0, hp0⟩, hl1, hl2⟩ := hc
        cases hs
        have hk2 : decide (lw_tbl[P]? = some (Cond.methodLink own i arraycopyName)) = true := hk
        simp only [decide_eq_true_eq] at hk2
        have hc0 := (hH.2 a ha1).2 ha2 (by dsimp only; omega)
        have hc1 := (hH.2 b hb1).2 hb2 (by dsimp only; omega)
        dsimp only at hc0 hc1 ha3 hb3
        rw [ha3] at hc0
        rw [hb3] at hc1
        have hAr := x_arr St 0 (by omega)
        have hnw : nativeFrameWords "java/lang/System" "arraycopy" 5 ≤ 30 := by decide +kernel
        intro T hT X0
        obtain ⟨-, k0, hk0, cm0, hkk0⟩ := hAr (sh a).2.2 (xav B cc rf 0 a)
        obtain ⟨-, k1, hk1, cm1, hkk1⟩ := hAr (sh b).2.2 (xav B cc rf 0 b)
        obtain ⟨vm', X', step⟩ := X0.arraycopy hx hown (hts _ (x_ws hk2 rfl)) (hts _ (x_wm x_acls.2.2.2.1 rfl)) (hts _ (x_wm x_acls.2.2.2.2.1 rfl)) (hts _ (x_wm x_acls.2.2.2.2.2 rfl)) (src := B + a) (dst := B + b) (cs := arrV (κ 0) (sh a).2.2 (xav B cc rf 0 a)) (cd := arrV (κ 0) (sh b).2.2 (xav B cc rf 0 b)) (srcPos := Int32.ofInt sp) (destPos := Int32.ofInt dp) (n := Int32.ofInt n) (by rw [hT]; exact hc0) (by rw [hT]; exact hc1)
          (fun _ h => by cases h) (fun _ h => by cases h) (fun h => by cases h) (fun h => by cases h) hk0 hk1 hkk0 hkk1 (by rfl) (x_nn hs0) (x_nn hp0) (x_nn hn0)
          (by rw [x_w32, x_w32, arrV_size]; omega) (by rw [x_w32, x_w32, arrV_size]; omega)
          (fun vm₁ _ j hj => by
            have e : (arrV (κ 0) (sh a).2.2 (xav B cc rf 0 a)).slots.getD ((Int32.ofInt sp).toNatClampNeg + j) .null = .int (Int32.ofInt (cc a ((Int32.ofInt sp).toNatClampNeg + j))) := by
              rw [Array.getD_eq_getD_getElem?, arrV_read _ _ (by rw [x_clamp] at hj ⊢; omega)]
              rfl
            refine ⟨?_, ?_⟩
            · rw [e]; rfl
            · rw [e]; exact trivial)
          (g := F0 m pc la ((xI n :: xI dp :: xA b :: xI sp :: xA a :: r).map (xval B ea))) rfl (by rw [hml]; exact hsz) (rest := r.map (xval B ea)) rfl (by rw [hb]; exact hd) (by omega) (by show 2 * 0 + ((r.map (xval B ea)).map fun v => v.category).sum + _ ≤ _; rw [x_catS]; omega)
        have e1 : copied (arrV (κ 0) (sh a).2.2 (xav B cc rf 0 a)) (arrV (κ 0) (sh b).2.2 (xav B cc rf 0 b)) (Int32.ofInt sp) (Int32.ofInt dp) (Int32.ofInt n) = arrV (κ 0) (sh b).2.2 (xav B (xrow cc b (xcp (cc a) (cc b) (w32 sp).toNat (w32 dp).toNat (w32 n).toNat)) rf 0 b) := by
          have := va_copied (fun z : Int => Value.int (Int32.ofInt z)) (κ 0) (κ 0) (n0 := (sh a).2.2) (n1 := (sh b).2.2) (sp := (w32 sp).toNat) (dp := (w32 dp).toNat) (n := (w32 n).toNat) (cc a) (cc b) (by omega)
          unfold copied
          rw [x_clamp, x_clamp, x_clamp]
          refine this.trans ?_
          congr 1
          funext j
          simp only [xav, xrow, xcp, va_cpy]
          simp
        rw [e1] at X' step
        have hl : B + b < H.size := (Array.getElem?_eq_some_iff.mp hc1).1
        generalize hcD : arrV (κ 0) (sh b).2.2 (xav B (xrow cc b (xcp (cc a) (cc b) (w32 sp).toNat (w32 dp).toNat (w32 n).toNat)) rf 0 b) = cD at X' step
        have hheap : ((T.setVm vm').setCell (B + b) cD).heap = H.setIfInBounds (B + b) cD := by rw [← hT]; rfl
        have oq : ∀ q : Nat, q ≠ B + b → (H.setIfInBounds (B + b) cD)[q]? = H[q]? := fun q hq => by simp [Array.getElem?_setIfInBounds, Ne.symm hq]
        obtain ⟨t, a1, b1⟩ := kk (H.setIfInBounds (B + b) cD) _ _ _ (x_HRset hH (by simp) oq (x_xrow_ne _ _ _) (fun _ _ => rfl) ⟨fun z => (by rw [hb2] at z; cases z), fun _ _ => by
            rw [hb3, hcD]
            simp [Array.getElem?_setIfInBounds, hl]⟩) ⟨by simp; exact hS.1, fun q g1 g2 => by
            rw [oq q (fun e => g2 (by rw [e]; exact Nat.le_add_right _ _))]
            exact hS.2.1 q g1 g2, fun q hq => by
            rcases List.mem_append.mp hq with h | h
            · exact hS.2.2 q h
            · obtain ⟨z, -, hz⟩ := List.mem_map.mp h
              rw [← hz]
              exact Nat.le_add_right _ _⟩ hcK hcS _ hheap X'
        exact ⟨t, step t a1, b1⟩
      · cases hs
    · cases hs
end XB
