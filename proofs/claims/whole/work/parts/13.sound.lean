-- the contract of every method, out of the small machine
set_option maxRecDepth 100000 in
theorem xvi : (xtabs.all fun t => t.all fun c => c.2.all fun q => match q.2.1 with | .invokevirtual _ => !xini q.2.2.2.2.1 | _ => true) = true := by decide +kernel
set_option maxRecDepth 100000 in
theorem xin0 : (xms.all fun q => !(decide (q.1.name = "<init>")) || decide (q.2.2.2.1 = none)) = true := by decide +kernel
set_option maxRecDepth 100000 in
theorem xnst : (xms.all fun q => q.2.2.2.2.2.2.1 || Nat.blt 0 (xnf q.2.2.2.2.2.1)) = true := by decide +kernel
theorem x_cal {e : xE} {st : List xV} {h : xH} {q : Nat × List xV × List xV} (hc : xcal e st h = some q) : ∃ i, e.2.2.2.2.2.1 ≤ st.length ∧ e.2.2.2.2.1 < 2 ∧ q.1 = e.2.2.2.1 ∧ (st.take e.2.2.2.2.2.1).reverse = q.2.1 ∧ q.2.2 = st.drop e.2.2.2.2.2.1 ∧ (xent q.2.1).length ≤ e.2.2.2.2.2.2.1 ∧ xcat q.2.2 ≤ 8 ∧
    (e.1 = .invokestatic i ∨ (e.1 = .invokevirtual i ∧ ∃ a as, q.2.1 = xA a :: as ∧ a < h.1 ∧ (h.2.2.2.1 a).1 = 0 ∧ ((h.2.2.2.1 a).2.1 : Int) = e.2.2.2.2.2.2.2) ∨ (e.1 = .invokespecial i ∧ ∃ a as, q.2.1 = xA a :: as)) := by
  obtain ⟨ins, nx, P, X, Y, Z, W0, V⟩ := e
  obtain ⟨K, S, F, sh, cc, rf⟩ := h
  unfold xcal at hc
  dsimp only at hc ⊢
  cases hb : (Nat.ble 2 Y || Nat.blt st.length Z || Nat.blt W0 (xent (st.take Z).reverse).length) with
  | true => rw [hb] at hc; cases hc
  | false =>
    rw [hb] at hc
    simp only [Bool.or_eq_false_iff] at hb
    obtain ⟨⟨hb1, hb2⟩, hb3⟩ := hb
    have hb1 : ¬ 2 ≤ Y := fun z => by rw [Nat.ble_eq_true_of_le z] at hb1; cases hb1
    have hb2 : ¬ st.length + 1 ≤ Z := fun z => by unfold Nat.blt at hb2; rw [Nat.ble_eq_true_of_le z] at hb2; cases hb2
    have hb3 : ¬ W0 + 1 ≤ (xent (st.take Z).reverse).length := fun z => by unfold Nat.blt at hb3; rw [Nat.ble_eq_true_of_le z] at hb3; cases hb3
    simp only [cond_false] at hc
    split at hc
    · rename_i i
      split at hc
      · rename_i h8
        cases hc
        exact ⟨i, by omega, by omega, rfl, rfl, rfl, by show (xent (st.take Z).reverse).length ≤ W0; omega, h8, Or.inl rfl⟩
      · cases hc
    · rename_i i
      split at hc
      · rename_i a as K S F sh cc rf h1 heq
        cases heq
        split at hc
        · rename_i h8
          cases hc
          refine ⟨i, by omega, by omega, rfl, h1, rfl, by show (xent (xA a :: as)).length ≤ W0; rw [← h1]; omega, h8.2.2.2, Or.inr (Or.inl ⟨rfl, a, as, rfl, h8.1, h8.2.1, h8.2.2.1⟩)⟩
        · cases hc
      · cases hc
    · rename_i i
      split at hc
      · rename_i a as h1
        split at hc
        · rename_i h8
          cases hc
          exact ⟨i, by omega, by omega, rfl, h1, rfl, by show (xent (xA a :: as)).length ≤ W0; rw [← h1]; omega, h8, Or.inr (Or.inr ⟨rfl, a, as, rfl⟩)⟩
        · cases hc
      · cases hc
    · cases hc
def xCon (l : Launch) (ex : xO) (ea : Nat → Nat) (B : Nat) (D : va_G) (κ : Nat → ClassId) (n d : Nat) : Prop := ∀ (mi : Nat) (q : xM) (as : List xV) (h : xH) (r : xV) (h' : xH), xms[mi]? = some q → mi < 240 → q.1.cls ≠ "java/lang/Math" → (xent as).length ≤ q.2.2.1 → xexec ex n d (xtb mi) 0 (xpad q.2.2.1 (xent as)) [] h = some (r, h') →
  Met l q.1 (Cond.code q.1 q.2.1 q.2.2.1 q.2.2.2.1 :: xws) (xrm d h h') (xP ex ea B D κ as h) (xQ ea B D κ r h') (h'.1 - h.1) (h'.2.1 - h.2.1) (fun a => B ≤ a)
section XC
variable {p : Program} {l : Launch} {e : Env} {R : Room} {s : State} {m : MethodId} {args : Array Value} {below : List Frame} {meth : Method} {c : Code} {H : Heap} {locs : List Loc} {cells slots : Nat} {Q : State → Prop}
variable {ex : xO} {ea : Nat → Nat} {B : Nat} {D : va_G} {κ : Nat → ClassId} {own : String} {bytes : ByteArray} {mL : Nat} {rt : Option FieldType} {nm : String}
theorem x_callW {mc ms pc : Nat} {la : Array Slot} {st0 rest : List Value} {r : xV} {h1 : xH} {a : Array Value} (hr : va_Run p l e R s m args below meth c H locs cells slots mc ms (F0 m pc la st0) rest (xQ ea B D κ r h1 a) (fun a => B ≤ a)) (hS : va_S (fun q => B ≤ q) s.heap H locs)
    (kk : ∀ (H1 : Heap) (locs1 : List Loc), xHR B D κ h1 H1 → va_S (fun q => B ≤ q) s.heap H1 locs1 → W p l e R s m args below meth c H1 locs1 (cells + mc) (slots + ms) Q (F0 m (pc + 3) la ((xout B ea r).toList ++ rest))) : W p l e R s m args below meth c H locs cells slots Q (F0 m pc la st0) := by
  intro T hT X
  obtain ⟨v, st₀, t, T', L, h0, X', hL, e1, e2, ⟨hv, hHR, hz, hk⟩, stp⟩ := hr T hT X
  cases hv
  rw [h0] at hz hk
  obtain ⟨t2, a1, b1⟩ := kk T'.heap (locs ++ L) (by rw [e1]; exact hHR) ⟨Nat.le_trans hS.1 (by rw [e1]; exact hz), fun q g1 g2 => by rw [e1, hk q (Nat.lt_of_lt_of_le g1 hS.1) g2]; exact hS.2.1 q g1 g2, fun q hq => by
      rcases List.mem_append.mp hq with h | h
      · exact hS.2.2 q h
      · exact hL q h⟩ T' rfl X'
  exact ⟨t2, stp t2 a1, b1⟩
theorem x_preS (St : xSt ex ea B D κ s) (hS : va_S (fun q => B ≤ q) s.heap H locs) {h : xH} (hH : xHR B D κ h H) (as : List xV) : PreS s H (xP ex ea B D κ as h) (as.map (xval B ea)) :=
  ⟨x_blind, fun U hU hW => ⟨rfl, x_St_moved St hW (by rw [hU]; exact hS.1) (fun q g1 g2 => by rw [hU]; exact hS.2.1 q g1 g2), by rw [hU]; exact hH⟩⟩
set_option maxHeartbeats 4000000 in
set_option maxRecDepth 100000 in
theorem xC_ok {n d : Nat} (hcon : xCon l ex ea B D κ n d)  (Fr : xFr p s m args meth c own bytes mL rt nm) (St : xSt ex ea B D κ s) {e0 : xE} {pc : Nat} (he : xokE own bytes rt nm pc e0 = true) {st : List xV} {h h1 : xH} {r : xV} {q : Nat × List xV × List xV} (hc : xcal e0 st h = some q) (hvi : ∀ i, e0.1 = .invokevirtual i → xini e0.2.2.2.1 = false) {la : Array Slot} (hsz : la.size = mL)
    (hx1 : xexec ex n d (xtb q.1) 0 (xpad e0.2.2.2.2.2.2.1 (xent q.2.1)) [] h = some (r, h1)) (hH : xHR B D κ h H) (hS : va_S (fun q => B ≤ q) s.heap H locs) (hRf : d + 1 ≤ R.frames) (hRl : 64 * (d + 1) ≤ R.locals) {K0 S0 : Nat} (hcK : K0 + cells = h.1) (hcS : S0 + slots = h.2.1) (hR1 : h1.1 ≤ K0 + R.cells) (hR2 : h1.2.1 ≤ S0 + R.slots)
    (kk : ∀ (H' : Heap) (locs' : List Loc) (cells' slots' : Nat), xHR B D κ h1 H' → va_S (fun q => B ≤ q) s.heap H' locs' → K0 + cells' = h1.1 → S0 + slots' = h1.2.1 → W p l e R s m args below meth c H' locs' cells' slots' Q (F0 m e0.2.1 la ((xpush r q.2.2).map (xval B ea)))) :
    W p l e R s m args below meth c H locs cells slots Q (F0 m pc la (st.map (xval B ea))) := by
  obtain ⟨i, c1, c2, c3, c4, c5, c6, c7, c8⟩ := x_cal hc
  obtain ⟨ins, nx, P, X, Y, Z, W0, V⟩ := e0
  obtain ⟨X9, as, rest⟩ := q
  dsimp only at c1 c2 c3 c4 c5 c6 c7 c8 hx1 kk
  have c3 : X = X9 := c3.symm
  subst c3
  obtain ⟨hx, hb, hr, hml, hown, hts, hlk, hnm⟩ := Fr
  have hmono := x_mono ex n d _ _ _ _ _ _ _ hx1
  have hst : st.map (xval B ea) = (as.map (xval B ea)).reverse ++ rest.map (xval B ea) := by
    rw [← List.map_reverse, ← c4, List.reverse_reverse, c5, ← List.map_append, List.take_append_drop]
  have hlenA : as.length = Z := by rw [← c4]; simp; omega
  have hW8 : 2 * (F0 m pc la (st.map (xval B ea))).monitorRoom + ((rest.map (xval B ea)).map fun v => v.category).sum ≤ 8 := lv_room (by rw [x_catS]; exact c7)
  have hins : ∀ a b c d, ins ≠ .tableswitch a b c d := by
    rcases c8 with h | ⟨h, -⟩ | ⟨h, -⟩ <;> rw [h] <;> intros <;> simp
  obtain ⟨hd, hn, hk⟩ := x_okE he hins
  have hfin : ∀ (H1 : Heap) (locs1 : List Loc), xHR B D κ h1 H1 → va_S (fun q => B ≤ q) s.heap H1 locs1 → nx = pc + 3 → W p l e R s m args below meth c H1 locs1 (cells + (h1.1 - h.1)) (slots + (h1.2.1 - h.2.1)) Q (F0 m (pc + 3) la ((xout B ea r).toList ++ rest.map (xval B ea))) := by
    intro H1 locs1 g1 g2 g3
    rw [x_push, ← g3]
    exact kk H1 locs1 _ _ g1 g2 (by omega) (by omega)
  -- the callee
  have key : ∀ stt : Bool, xml own i P X Y Z W0 V stt = true → ∃ q1 : xM, xms[X]? = some q1 ∧ xmok q1 = true ∧ X < 240 ∧ q1.1.cls ≠ "java/lang/Math" ∧ q1.2.2.2.2.2.2.1 = stt ∧ Z = q1.2.2.2.2.1 ∧ W0 = q1.2.2.1 ∧ V = (q1.2.2.2.2.2.1 : Int) ∧ ((Y = 0 ∧ lw_tbl[P]? = some (Cond.methodLink own i q1.1)) ∨ (Y = 1 ∧ ∃ ho, lw_tbl[P]? = some (Cond.methodLinkNest own i q1.1 ho))) := by
    intro stt hm
    unfold xml at hm
    cases hq : xms[X]? with
    | none => rw [hq] at hm; cases hm
    | some q1 =>
      rw [hq] at hm
      obtain ⟨y, by1, mL1, rt1, np, ci, st1, p1, p2, p3, p4⟩ := q1
      simp only [Bool.and_eq_true, beq_iff_eq, decide_eq_true_eq] at hm
      obtain ⟨⟨⟨⟨⟨⟨m1, m2⟩, m3⟩, m4⟩, m5⟩, m6⟩, m7⟩ := hm
      have hX : X < 240 := Nat.le_of_ble_eq_true m6
      refine ⟨_, rfl, x_mok hq hX, hX, m2, m1, Nat.eq_of_beq_eq_true m3, Nat.eq_of_beq_eq_true m4, m5, ?_⟩
      match Y, c2, m7 with
      | 0, _, m7 => exact Or.inl ⟨rfl, by simpa using m7⟩
      | 1, _, m7 =>
        refine Or.inr ⟨rfl, ?_⟩
        have m8 : (match lw_tbl[P]? with
          | some (Cond.methodLinkNest o j z _) => decide (o = own) && decide (j = i) && decide (z = y)
          | _ => false) = true := m7
        split at m8
        · rename_i o j z ho hP
          simp only [Bool.and_eq_true, decide_eq_true_eq] at m8
          obtain ⟨⟨rfl, rfl⟩, rfl⟩ := m8
          exact ⟨ho, hP⟩
        · cases m8
      | k + 2, h, _ => omega
  have fin2 : ∀ stt : Bool, xml own i P X Y Z W0 V stt = true → ∀ q1 : xM, xms[X]? = some q1 → True := fun _ _ _ _ => trivial
  have room : (xrm d h h1).frames + 1 ≤ R.frames ∧ ∀ k, k ≤ 40 → 8 + (k + 11) + (xrm d h h1).locals ≤ R.locals := ⟨hRf, fun k hk => by show 8 + (k + 11) + 64 * d ≤ R.locals; omega⟩
  have hf : cells + (h1.1 - h.1) ≤ R.cells ∧ slots + (h1.2.1 - h.2.1) ≤ R.slots := ⟨by omega, by omega⟩
  rcases c8 with hins0 | ⟨hins0, a, as', ha, hK1, hsh, hcl⟩ | ⟨hins0, a, as', ha⟩
  · subst hins0
    have hm : xml own i P X Y Z W0 V true = true := by
      simp only [xlnk] at hk
      split at hk
      · omega
      · omega
      · omega
      · exact hk
    obtain ⟨⟨y, by1, mL1, rt1, np, ci, st1, p1, p2, p3, p4⟩, hq1, hok, hX, hMa, hst1, hZ, hWm, hV, hlinkc⟩ := key true hm
    dsimp only at hst1 hZ hWm hV hMa hlinkc
    subst hst1
    have hM := hcon X _ as h r h1 hq1 hX hMa (by dsimp only; omega) (by dsimp only; rw [← hWm]; exact hx1)
    simp only [xmok, Bool.or_eq_true, Bool.and_eq_true, decide_eq_true_eq, cond_true] at hok
    rcases hok with hok | hok
    · exact absurd hok hMa
    obtain ⟨⟨⟨⟨⟨⟨o1, o2⟩, o3⟩, o4⟩, o5⟩, o6⟩, o7, o8⟩ := hok
    simp only [xnoH, Bool.and_eq_true, decide_eq_true_eq] at o3
    have hG : GoodIn xws (Cond.code y by1 mL1 rt1 :: xws) := fun w hw => by
      rcases List.mem_cons.mp hw with rfl | hw
      · exact x_goodIn _ (x_ws o1 rfl)
      · exact x_goodIn _ hw
    have hmL : mL1 ≤ 40 := Nat.le_of_ble_eq_true o5
    refine x_callW (a := (as.map (xval B ea)).toArray) (rest := rest.map (xval B ea)) ?_ hS (fun H1 locs1 g1 g2 => hfin H1 locs1 g1 g2 hn)
    rcases hlinkc with ⟨-, hP⟩ | ⟨-, ho, hP⟩
    · exact va_runS (own := own) (index := i) (bytes := by1) (maxL := mL1) (ret := rt1) (n := np) (As := as.map (xval B ea)) ⟨hx, hb, hml, hown, hts⟩ hM ⟨callB_of np hts hG rfl rfl rfl (hts _ (x_ws o2 rfl)) (hts _ (x_ws hP rfl)) ⟨o3.1, o3.2, o8⟩ ⟨room.1, room.2 _ hmL⟩, hts _ (x_ws o7 rfl)⟩ (x_preS St hS hH as) rfl (by rw [List.length_map, hlenA, hZ]) hsz hst hW8 hd hf
    · exact va_runSN (own := own) (host := ho) (index := i) (bytes := by1) (maxL := mL1) (ret := rt1) (n := np) (As := as.map (xval B ea)) ⟨hx, hb, hml, hown, hts⟩ hM ⟨va_cnB np hts hG rfl rfl rfl (St.2.1 _ (List.mem_of_getElem? hP) rfl) (hts _ (x_ws o2 rfl)) ⟨o3.1, o3.2, o8⟩ ⟨room.1, room.2 _ hmL⟩, hts _ (x_ws o7 rfl), trivial⟩ (x_preS St hS hH as) rfl (by rw [List.length_map, hlenA, hZ]) hsz hst hW8 hd hf
  · subst hins0
    subst ha
    have hm : xml own i P X Y Z W0 V false = true := hk
    obtain ⟨⟨y, by1, mL1, rt1, np, ci, st1, p1, p2, p3, p4⟩, hq1, hok, hX, hMa, hst1, hZ, hWm, hV, hlinkc⟩ := key false hm
    dsimp only at hst1 hZ hWm hV hMa hlinkc
    subst hst1
    have hM := hcon X _ (xA a :: as') h r h1 hq1 hX hMa (by dsimp only; omega) (by dsimp only; rw [← hWm]; exact hx1)
    simp only [xmok, Bool.or_eq_true, Bool.and_eq_true, decide_eq_true_eq, cond_false] at hok
    rcases hok with hok | hok
    · exact absurd hok hMa
    obtain ⟨⟨⟨⟨⟨⟨o1, o2⟩, o3⟩, o4⟩, o5⟩, o6⟩, ⟨⟨⟨o7, o8⟩, o9⟩, o10⟩, o11⟩ := hok
    simp only [xnoH, Bool.and_eq_true, decide_eq_true_eq] at o3
    have hG : GoodIn xws (Cond.code y by1 mL1 rt1 :: xws) := fun w hw => by
      rcases List.mem_cons.mp hw with rfl | hw
      · exact x_goodIn _ (x_ws o1 rfl)
      · exact x_goodIn _ hw
    have hmL : mL1 ≤ 40 := Nat.le_of_ble_eq_true o5
    have hci10 : ci < 10 := Nat.le_of_ble_eq_true o10
    refine x_callW (a := ((xA a :: as').map (xval B ea)).toArray) (rest := rest.map (xval B ea)) ?_ hS (fun H1 locs1 g1 g2 => hfin H1 locs1 g1 g2 hn)
    have hcls : (h.2.2.2.1 a).2.1 = ci := by omega
    obtain ⟨cell, g1, g2, g3, -⟩ := (hH.2 a hK1).1 hsh
    rw [hcls] at g2
    have hw0 : ∃ w : vw_C, vwCl[ci]? = some w := by
      match ci, hci10 with
      | 0, _ => exact ⟨_, rfl⟩
      | 1, _ => exact ⟨_, rfl⟩
      | 2, _ => exact ⟨_, rfl⟩
      | 3, _ => exact ⟨_, rfl⟩
      | 4, _ => exact ⟨_, rfl⟩
      | 5, _ => exact ⟨_, rfl⟩
      | 6, _ => exact ⟨_, rfl⟩
      | 7, _ => exact ⟨_, rfl⟩
      | 8, _ => exact ⟨_, rfl⟩
      | 9, _ => exact ⟨_, rfl⟩
      | k + 10, h => omega
    obtain ⟨w, hw⟩ := hw0
    have hcn : xcn ci = w.1 := by simp only [xcn, hw]
    have hN0 : 0 < w.2.2 := by
      have h9 := List.all_eq_true.mp xnst _ (List.mem_of_getElem? hq1)
      simp only [Bool.false_or] at h9
      have h10 : 0 < xnf ci := Nat.le_of_ble_eq_true h9
      simpa [xnf, hw] using h10
    have hclassAt := (St.1.1 ci _ (x_K hw hN0)).2
    have hfc : s.vm.findClass y.cls = some cell.cls := by rw [g2, ← o9, hcn]; exact hclassAt.1
    have hpre : PreV s H y.cls (B + a) (xP ex ea B D κ (xA a :: as') h) (as'.map (xval B ea)) := ⟨x_blind, ⟨cell, g1, by rw [g3]; rfl, hfc⟩, (x_preS St hS hH (xA a :: as')).2⟩
    have hst' : (F0 m pc la (st.map (xval B ea))).stack = (as'.map (xval B ea)).reverse ++ Value.ref (B + a) :: rest.map (xval B ea) := by
      show st.map (xval B ea) = _
      rw [hst]
      simp [xval]
    have hn1 : (parseMethodDescriptor y.desc).map (fun d => d.parameters.length) = some as'.length := by
      cases hp : parseMethodDescriptor y.desc with
      | none => rw [hp] at o8; cases o8
      | some dd =>
        rw [hp] at o8
        simp only [Option.map_some, Option.some.injEq] at o8 ⊢
        simp only [List.length_cons] at hlenA
        omega
    have hself : y.name = "<init>" ∨ lw_tbl[p3]? = some (Cond.selects y.cls y y) := by
      rcases o11 with h9 | h9
      · exact Or.inl h9
      · exact Or.inr h9
    have hsel : (Cond.selects y.cls y y).before args s = true := by
      rcases hself with h9 | h9
      · have h10 := hvi i rfl
        simp [xini, hq1, h9] at h10
      · exact hts _ (x_ws h9 rfl)
    rcases hlinkc with ⟨-, hP⟩ | ⟨-, ho, hP⟩
    · exact va_runV (own := own) (C := y.cls) (index := i) (bytes := by1) (maxL := mL1) (ret := rt1) (n := as'.length) (As := as'.map (xval B ea)) ⟨hx, hb, hml, hown, hts⟩ hM ⟨callB_of as'.length hts hG rfl rfl rfl (hts _ (x_ws o2 rfl)) (hts _ (x_ws hP rfl)) ⟨o3.1, o3.2, hn1⟩ ⟨room.1, room.2 _ hmL⟩, hts _ (x_ws o7 rfl), hsel⟩ hpre rfl (by rw [List.length_map]) hsz hst' hW8 hd hf
    · exact va_runVN (own := own) (C := y.cls) (host := ho) (index := i) (bytes := by1) (maxL := mL1) (ret := rt1) (n := as'.length) (As := as'.map (xval B ea)) ⟨hx, hb, hml, hown, hts⟩ hM ⟨va_cnB as'.length hts hG rfl rfl rfl (St.2.1 _ (List.mem_of_getElem? hP) rfl) (hts _ (x_ws o2 rfl)) ⟨o3.1, o3.2, hn1⟩ ⟨room.1, room.2 _ hmL⟩, hts _ (x_ws o7 rfl), hsel⟩ hpre rfl (by rw [List.length_map]) hsz hst' hW8 hd hf
  · subst hins0
    subst ha
    have hm : xml own i P X Y Z W0 V false = true ∧ xini X = true := by
      simp only [xlnk] at hk
      have hY : Nat.beq Y 8 = false := by
        match Y, c2 with
        | 0, _ => rfl
        | 1, _ => rfl
        | k + 2, h => omega
      rw [hY] at hk
      simpa using hk
    obtain ⟨⟨y, by1, mL1, rt1, np, ci, st1, p1, p2, p3, p4⟩, hq1, hok, hX, hMa, hst1, hZ, hWm, hV, hlinkc⟩ := key false hm.1
    dsimp only at hst1 hZ hWm hV hMa hlinkc
    subst hst1
    have hname : y.name = "<init>" := by simpa [xini, hq1] using hm.2
    have hrt : rt1 = none := by
      have h9 := List.all_eq_true.mp xin0 _ (List.mem_of_getElem? hq1)
      simpa [hname] using h9
    subst hrt
    have hM := hcon X _ (xA a :: as') h r h1 hq1 hX hMa (by dsimp only; omega) (by dsimp only; rw [← hWm]; exact hx1)
    simp only [xmok, Bool.or_eq_true, Bool.and_eq_true, decide_eq_true_eq, cond_false] at hok
    rcases hok with hok | hok
    · exact absurd hok hMa
    obtain ⟨⟨⟨⟨⟨⟨o1, o2⟩, o3⟩, o4⟩, o5⟩, o6⟩, ⟨⟨⟨o7, o8⟩, o9⟩, o10⟩, o11⟩ := hok
    simp only [xnoH, Bool.and_eq_true, decide_eq_true_eq] at o3
    have hG : GoodIn xws (Cond.code y by1 mL1 none :: xws) := fun w hw => by
      rcases List.mem_cons.mp hw with rfl | hw
      · exact x_goodIn _ (x_ws o1 rfl)
      · exact x_goodIn _ hw
    have hmL : mL1 ≤ 40 := Nat.le_of_ble_eq_true o5
    refine x_callW (a := ((xA a :: as').map (xval B ea)).toArray) (rest := rest.map (xval B ea)) ?_ hS (fun H1 locs1 g1 g2 => hfin H1 locs1 g1 g2 hn)
    have hst' : (F0 m pc la (st.map (xval B ea))).stack = (as'.map (xval B ea)).reverse ++ Value.ref (B + a) :: rest.map (xval B ea) := by
      show st.map (xval B ea) = _
      rw [hst]
      simp [xval]
    have hn1 : (parseMethodDescriptor y.desc).map (fun d => d.parameters.length) = some as'.length := by
      cases hp : parseMethodDescriptor y.desc with
      | none => rw [hp] at o8; cases o8
      | some dd =>
        rw [hp] at o8
        simp only [Option.map_some, Option.some.injEq] at o8 ⊢
        simp only [List.length_cons] at hlenA
        omega
    rcases hlinkc with ⟨-, hP⟩ | ⟨-, ho, hP⟩
    · exact va_runI (own := own) (index := i) (bytes := by1) (maxL := mL1) (n := as'.length) (As := as'.map (xval B ea)) (b := B + a) ⟨hx, hb, hml, hown, hts⟩ hM ⟨callB_of as'.length hts hG rfl rfl rfl (hts _ (x_ws o2 rfl)) (hts _ (x_ws hP rfl)) ⟨o3.1, o3.2, hn1⟩ ⟨room.1, room.2 _ hmL⟩, hname, hts _ (x_ws o7 rfl)⟩ (x_preS St hS hH (xA a :: as')) rfl (by rw [List.length_map]) hsz hst' hW8 hd hf
    · exact va_runIN (own := own) (host := ho) (index := i) (bytes := by1) (maxL := mL1) (n := as'.length) (As := as'.map (xval B ea)) (b := B + a) ⟨hx, hb, hml, hown, hts⟩ hM ⟨va_cnB as'.length hts hG rfl rfl rfl (St.2.1 _ (List.mem_of_getElem? hP) rfl) (hts _ (x_ws o2 rfl)) ⟨o3.1, o3.2, hn1⟩ ⟨room.1, room.2 _ hmL⟩, hname, hts _ (x_ws o7 rfl)⟩ (x_preS St hS hH (xA a :: as')) rfl (by rw [List.length_map]) hsz hst' hW8 hd hf
/-- what stands at a return -/
def xRet (p : Program) (l : Launch) (e : Env) (R : Room) (s : State) (m : MethodId) (args : Array Value) (below : List Frame) (meth : Method) (c : Code) (Q : State → Prop) (ea : Nat → Nat) (B : Nat) (D : va_G) (κ : Nat → ClassId) (own : String) (bytes : ByteArray) (rt : Option FieldType) (nm : String) (K0 S0 : Nat) (r : xV) (h' : xH) : Prop :=
  ∀ (H' : Heap) (locs' : List Loc) (cells' slots' pc' : Nat) (la' : Array Slot) (e' : xE) (st' : List xV), xokE own bytes rt nm pc' e' = true → xret e' st' = some r → xHR B D κ h' H' → va_S (fun q => B ≤ q) s.heap H' locs' → K0 + cells' = h'.1 → S0 + slots' = h'.2.1 → W p l e R s m args below meth c H' locs' cells' slots' Q (F0 m pc' la' (st'.map (xval B ea)))
end XC
theorem x_vi {mi : Nat} {pc : Nat} {e : xE} (h : xfind (xtb mi) pc = some e) : ∀ i, e.1 = .invokevirtual i → xini e.2.2.2.1 = false := by
  intro i hi
  unfold xtb at h
  cases ht : xtabs[mi]? with
  | none => rw [ht] at h; cases h
  | some t =>
    rw [ht] at h
    obtain ⟨c, h2, h3⟩ := x_find h
    have h4 := List.all_eq_true.mp (List.all_eq_true.mp (List.all_eq_true.mp xvi t (List.mem_of_getElem? ht)) c h2) (pc, e) h3
    obtain ⟨ins, r⟩ := e
    dsimp only at hi h4 ⊢
    subst hi
    simpa using h4
set_option maxHeartbeats 4000000 in
theorem x_body (l : Launch) (ex : xO) (ea : Nat → Nat) (B : Nat) (D : va_G) (κ : Nat → ClassId) : ∀ (n : Nat), (∀ k d, k < n → xCon l ex ea B D κ k d) → ∀ (d : Nat) {p : Program} {e : Env} {R : Room} {s : State} {m : MethodId} {args : Array Value} {below : List Frame} {meth : Method} {c : Code} {H : Heap} {locs : List Loc} {cells slots : Nat} {Q : State → Prop} {mi : Nat} {q : xM} (_ : xms[mi]? = some q)
    (_ : xFr p s m args meth c q.1.cls q.2.1 q.2.2.1 q.2.2.2.1 q.1.name) (_ : xSt ex ea B D κ s) {pc : Nat} {ls st : List xV} {h : xH} {r : xV} {h' : xH} (_ : xexec ex n d (xtb mi) pc ls st h = some (r, h')) {la : Array Slot} (_ : xLS B ea q.2.2.1 ls la) (_ : xHR B D κ h H) (_ : va_S (fun q => B ≤ q) s.heap H locs) (_ : d ≤ R.frames) (_ : 64 * d ≤ R.locals)
    {K0 S0 : Nat} (_ : K0 + cells = h.1) (_ : S0 + slots = h.2.1) (_ : h'.1 ≤ K0 + R.cells) (_ : h'.2.1 ≤ S0 + R.slots) (_ : xRet p l e R s m args below meth c Q ea B D κ q.1.cls q.2.1 q.2.2.2.1 q.1.name K0 S0 r h'), W p l e R s m args below meth c H locs cells slots Q (F0 m pc la (st.map (xval B ea))) := by
  intro n
  induction n with
  | zero => intro _ d p e R s m args below meth c H locs cells slots Q mi q hq Fr St pc ls st h r h' hx; cases hx
  | succ n ih =>
    intro hcon d p e R s m args below meth c H locs cells slots Q mi q hq Fr St pc ls st h r h' hx la hL hH hS hRf hRl K0 S0 hcK hcS hR1 hR2 hret
    have ih := ih (fun k d hk => hcon k d (Nat.lt_succ_of_lt hk))
    unfold xexec at hx
    cases he : xfind (xtb mi) pc with
    | none => rw [he] at hx; cases hx
    | some e0 =>
      rw [he] at hx
      dsimp only at hx
      have hok := x_tab hq he
      cases hA : xstA ex e0 d ls st h with
      | some a =>
        rw [hA] at hx
        have hm := x_mono ex n d _ _ _ _ _ _ _ hx
        exact xA_ok Fr St hok hA hL hH hS hRf hRl (by omega) (by omega) (fun la' hL' => ih d hq Fr St hx hL' hH hS hRf hRl hcK hcS hR1 hR2 hret)
      | none =>
        rw [hA] at hx
        dsimp only at hx
        cases hB : xstB e0 d st h with
        | some b =>
          rw [hB] at hx
          have hm := x_mono ex n d _ _ _ _ _ _ _ hx
          exact xB_ok Fr St hok hB hL.2.1 hH hS hRf hRl hcK hcS (by omega) (by omega) (fun H' locs' cells' slots' g1 g2 g3 g4 => ih d hq Fr St hx hL g1 g2 hRf hRl g3 g4 hR1 hR2 hret)
        | none =>
          rw [hB] at hx
          dsimp only at hx
          cases hR : xret e0 st with
          | some v =>
            rw [hR] at hx
            cases hx
            exact hret H locs cells slots pc la e0 st hok hR hH hS hcK hcS
          | none =>
            rw [hR] at hx
            dsimp only at hx
            cases hC : xcal e0 st h with
            | none => rw [hC] at hx; cases hx
            | some a =>
              rw [hC] at hx
              cases d with
              | zero => cases hx
              | succ d =>
                dsimp only at hx
                cases hX : xexec ex n d (xtb a.1) 0 (xpad e0.2.2.2.2.2.2.1 (xent a.2.1)) [] h with
                | none => rw [hX] at hx; cases hx
                | some o =>
                  rw [hX] at hx
                  obtain ⟨r1, h1⟩ := o
                  have hm := x_mono ex n (d + 1) _ _ _ _ _ _ _ hx
                  dsimp only at hm
                  exact xC_ok (hcon n d (Nat.lt_succ_self n)) Fr St hok hC (x_vi he) hL.2.1 hX hH hS hRf hRl hcK hcS (by omega) (by omega) (fun H' locs' cells' slots' g1 g2 g3 g4 => ih (d + 1) hq Fr St hx hL g1 g2 hRf hRl g3 g4 hR1 hR2 hret)
set_option maxHeartbeats 4000000 in
theorem x_con (l : Launch) (ex : xO) (ea : Nat → Nat) (B : Nat) (D : va_G) (κ : Nat → ClassId) : ∀ n d, xCon l ex ea B D κ n d := by
  intro n
  induction n using Nat.strongRecOn with
  | _ n ih =>
    intro d mi q as h r h' hq hmi hMa hlen hx
    have hok := x_mok hq hmi
    have hm := x_mono ex n d _ _ _ _ _ _ _ hx
    obtain ⟨y, by1, mL1, rt1, np, ci, st1, p1, p2, p3, p4⟩ := q
    dsimp only at hMa hlen hx
    have hplain : plainName y.cls = true := by
      simp only [xmok, Bool.or_eq_true, Bool.and_eq_true, decide_eq_true_eq] at hok
      rcases hok with hok | hok
      · exact absurd hok hMa
      · exact hok.1.1.1.2
    refine Met.ofW (cc := by1) (maxL := mL1) (ret := rt1) hplain rfl ?_
    intro p e s m args below meth c s₁ B0 hml hv
    obtain ⟨rfl, hSt, hH⟩ := hv
    have hx0 := B0.exec
    have hb := B0.bytes
    have hr := B0.returns
    have hts := atoms_spec (ws := Cond.code y by1 mL1 rt1 :: xws) B0.pre
    have hown : s.vm.findClass y.cls = some m.cls := findClass_of_methodNamed B0.named
    have hlocks := B0.notSynchronized
    have hname : meth.name = y.name := (name_of_methodNamed B0.named B0.method).1
    rw [lg_entry_eq]
    refine x_body l ex ea B D κ n (fun k d hk => ih k hk d) d hq ⟨hx0, hb, hr, hml, hown, fun w hw => hts w (List.mem_cons_of_mem _ hw), hlocks, fun _ => hname⟩ hSt (st := []) hx (x_entry B ea as hlen) hH va_S.rf (Nat.le_refl d) (Nat.le_refl (64 * d)) (K0 := h.1) (S0 := h.2.1) rfl rfl (by show h'.1 ≤ h.1 + (h'.1 - h.1); omega) (by show h'.2.1 ≤ h.2.1 + (h'.2.1 - h.2.1); omega) ?_
    intro H' locs' cells' slots' pc' la' e' st' g1 g2 g3 g4 g5 g6
    have hc' : cells' = h'.1 - h.1 := by omega
    have hs' : slots' = h'.2.1 - h.2.1 := by omega
    subst hc'
    subst hs'
    obtain ⟨ins, nx, P, X, Y, Z, W0, V⟩ := e'
    dsimp only at g1
    unfold xret at g2
    dsimp only at g2
    split at g2
    · rename_i v
      obtain ⟨hd, -, hk⟩ := x_okE g1 (fun _ _ _ _ h => by cases h)
      split at g2
      · rename_i hv
        cases g2
        simp only [xlnk] at hk
        match X, hk, hv with
        | 0, hk, _ =>
          simp only [decide_eq_true_eq] at hk
          exact W.iret hx0 hb (hr.trans hk) (fun t ht hW => ⟨rfl, by rw [ht]; exact g3, g4.F ht⟩) g4.2.2 hd hlocks
        | 1, hk, hv =>
          simp only [decide_eq_true_eq] at hk
          exact W.zret hx0 hb (hr.trans hk) (by rcases hv with h9 | rfl | rfl; cases h9; rfl; rfl) (fun t ht hW => ⟨rfl, by rw [ht]; exact g3, g4.F ht⟩) g4.2.2 hd hlocks
        | k + 2, hk, _ => cases hk
      · cases g2
    · rename_i v
      obtain ⟨hd, -, hk⟩ := x_okE g1 (fun _ _ _ _ h => by cases h)
      cases g2
      simp only [xlnk, decide_eq_true_eq] at hk
      exact W.lret hx0 hb (hr.trans hk) (fun t ht hW => ⟨rfl, by rw [ht]; exact g3, g4.F ht⟩) g4.2.2 hd hlocks
    · obtain ⟨hd, -, hk⟩ := x_okE g1 (fun _ _ _ _ h => by cases h)
      cases g2
      simp only [xlnk, decide_eq_true_eq] at hk
      exact W.vret hx0 hb (hr.trans hk) (fun t ht hW => ⟨rfl, by rw [ht]; exact g3, g4.F ht⟩) g4.2.2 hd hlocks
    · cases g2
