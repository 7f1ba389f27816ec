/-! THE CLAIM OUT OF ONE WALK OF THE LAW'S BODY. Your part is whole_start (and what it stands on); all else here is the same for every law, but numbers. -/
def R_law : String := "LimeDeathsLaw"
def lw_P (b : Addr) (xs : List Int32) (args : Array Value) (s : State) : Prop := args = #[.ref b] ∧ s.IntsAt b xs ∧ xs.length ≤ 3072 ∧ (Jvm.Cond.and given_1 narrow_1).before args s = true
def lw_Q (_ : Array Value) (s : State) (o : Outcome) (t : State) : Prop := o = .returned (some (.int 1)) ∧ Framed s o t [] 600000 7302250
def lw_Z (below : List Frame) (a : Array Value) (s : State) : State → Prop := fun t => ∃ o, t.status = .running ∧ Ended t below o ∧ lw_Q a s o t
/-- the law's own end, with 1 on the stack, nothing written that was there before, its room as the claim has it -/
theorem lw_ret {p : Program} {l : Launch} {e : Env} {s : State} {m : MethodId} {below : List Frame} {meth : Method} {c : Code} {b : Nat} (hx : p.tables.exec = Jvm.exec) (hb : c.code = code) (hr : meth.sig.returnType = ret) (hlocks : meth.locks = false) {pc : Nat} {H : Heap} {ls : Array Slot} (hdg : decode code pc = .ok (.ireturn, 1)) : W p l e room_1 s m #[Value.ref b] below meth c H [] 600000 7302250 (lw_Z below #[Value.ref b] s) (F0 m pc ls [.int 1]) := by
  intro T hT X
  obtain ⟨fs, hret, hrun, hended, hW, hframe⟩ := X.leave (v := some (.int 1)) (hlocks := hlocks) (fun h => by rw [hr] at h; cases h)
  have hmeth' : T.vm.method? m = some meth := X.method'
  refine ⟨T.setFrames fs, ?_, .returned (some (.int 1)), hrun, hended, rfl, ⟨_, rfl⟩, hW, hframe⟩
  jvm_step X.here [X.here.top, hx, hb, hdg, hmeth', hr, ret, narrow_b1]
  (try refine ⟨rfl, ?_⟩); (try refine ⟨rfl, ?_⟩)
  first | (intro acts; rw [hret _ acts rfl rfl rfl]) | rw [hret _ _ rfl rfl rfl]
  exact Steps.refl _
/-- what holds at the law's entry: the machine, the code, the tables' words (any of lw_tbl by 'hts w (by decide +kernel)'), the script of L ints xs at the cell b, what the Statement gives of the start (any of its parts by flat_of_before) -/
def lw_At (p : Program) (s : State) (m : MethodId) (meth : Method) (c : Code) (b L : Nat) (xs : Nat → Int32) : Prop :=
  p.tables.exec = Jvm.exec ∧ c.code = code ∧ meth.sig.returnType = ret ∧ c.maxLocals = 4 ∧ s.vm.findClass R_law = some m.cls ∧ (∀ w ∈ lw_tbl, w.before #[Value.ref b] s = true) ∧ va_X b L xs s s.heap ∧ b < s.heap.size ∧ meth.locks = false ∧ (Jvm.Cond.and given_1 narrow_1).before #[Value.ref b] s = true
def xmL : xM := (yL_law, cL_law, 4, (Option.some Jvm.ClassFile.FieldType.boolean), 1, 99, true, 0, 0, 0, 81)
theorem x_kn1 {args : Array Value} {s : State} (hts : ∀ w ∈ lw_tbl, w.before args s = true) : ∃ (cC : ClassId) (iS : Nat → Nat), u_Kn s RX1 TX1 4 cC iS := u_known (n := 4) hts (fun w hw => (x_lay1 w hw).1) (hts (.instantiable RX1 4) (by decide +kernel))
theorem x_kn2 {args : Array Value} {s : State} (hts : ∀ w ∈ lw_tbl, w.before args s = true) : ∃ (cC : ClassId) (iS : Nat → Nat), u_Kn s RX2 TX2 6 cC iS := u_known (n := 6) hts (fun w hw => (x_lay2 w hw).1) (hts (.instantiable RX2 6) (by decide +kernel))
theorem x_kn4 {args : Array Value} {s : State} (hts : ∀ w ∈ lw_tbl, w.before args s = true) : ∃ (cC : ClassId) (iS : Nat → Nat), u_Kn s RX4 TX4 6 cC iS := u_known (n := 6) hts (fun w hw => (x_lay4 w hw).1) (hts (.instantiable RX4 6) (by decide +kernel))
theorem x_kn5 {args : Array Value} {s : State} (hts : ∀ w ∈ lw_tbl, w.before args s = true) : ∃ (cC : ClassId) (iS : Nat → Nat), u_Kn s RX5 TX5 2 cC iS := u_known (n := 2) hts (fun w hw => (x_lay5 w hw).1) (hts (.instantiable RX5 2) (by decide +kernel))
theorem x_kn6 {args : Array Value} {s : State} (hts : ∀ w ∈ lw_tbl, w.before args s = true) : ∃ (cC : ClassId) (iS : Nat → Nat), u_Kn s RX6 TX6 2 cC iS := u_known (n := 2) hts (fun w hw => (x_lay6 w hw).1) (hts (.instantiable RX6 2) (by decide +kernel))
theorem x_kn7 {args : Array Value} {s : State} (hts : ∀ w ∈ lw_tbl, w.before args s = true) : ∃ (cC : ClassId) (iS : Nat → Nat), u_Kn s RX7 TX7 2 cC iS := u_known (n := 2) hts (fun w hw => (x_lay7 w hw).1) (hts (.instantiable RX7 2) (by decide +kernel))
theorem x_kn8 {args : Array Value} {s : State} (hts : ∀ w ∈ lw_tbl, w.before args s = true) : ∃ (cC : ClassId) (iS : Nat → Nat), u_Kn s RX8 TX8 14 cC iS := u_known (n := 14) hts (fun w hw => (x_lay8 w hw).1) (hts (.instantiable RX8 14) (by decide +kernel))
theorem x_kn9 {args : Array Value} {s : State} (hts : ∀ w ∈ lw_tbl, w.before args s = true) : ∃ (cC : ClassId) (iS : Nat → Nat), u_Kn s RX9 TX9 25 cC iS := u_known (n := 25) hts (fun w hw => (x_lay9 w hw).1) (hts (.instantiable RX9 25) (by decide +kernel))
theorem x_ka {args : Array Value} {s : State} {ty : FieldType} (hts : ∀ w ∈ lw_tbl, w.before args s = true) (h : Cond.arrayClass ty ∈ lw_tbl) (hRA : ∀ cA : ClassId, s.vm.findClass ("[" ++ ty.toString) = some cA → va_RA s cA ty) : ∃ cA : ClassId, ArrOfT s cA ty ∧ va_RA s cA ty := by
  obtain ⟨cA, k, comp, h1, h2, h3⟩ := Cond.arrayClass_spec (hts _ h)
  exact ⟨cA, fun n z => ⟨fun k h => (by cases h), k, h2, comp, h3⟩, hRA cA h1⟩
theorem x_kr {args : Array Value} {s : State} {C : String} (hts : ∀ w ∈ lw_tbl, w.before args s = true) (h : Cond.arrayOver (.object C) ∈ lw_tbl) : ∃ cA : ClassId, ArrOfT s cA (.object C) ∧ va_RA s cA (.object C) := by
  obtain ⟨comp, cA, k, h1, h2, h3, h4, h5⟩ := Cond.arrayOver_spec (hts _ h)
  exact ⟨cA, fun n z => ⟨fun k h => (by cases h), k, h3, comp, h4⟩, k, comp, h3, h4, h1, h5⟩
set_option maxHeartbeats 4000000 in
set_option maxRecDepth 100000 in
theorem whole_start {p : Program} {e : Env} {s : State} {m : MethodId} {below : List Frame} {meth : Method} {c : Code} (l : Launch) {b L : Nat} {xs : Nat → Int32} (hL : L ≤ 3072) (C0 : lw_At p s m meth c b L xs) : W p l e room_1 s m #[Value.ref b] below meth c s.heap [] 0 0 (lw_Z below #[Value.ref b] s) (entryFrame m ([Value.ref b] : List Value).toArray 4) := by
  obtain ⟨hx, hb, hr, hml, hown, hts, hX, hbl, hlocks, hgv⟩ := id C0
  have hxw : ∀ w ∈ xws, w.before #[Value.ref b] s = true := fun w hw => hts w (List.mem_filter.mp hw).1
  have hA : ∀ a : Nat, a < s.heap.size → ¬ (fun q : Nat => s.heap.size ≤ q) a := fun a h => Nat.not_le.mpr h
  have kn : ∀ ci : Nat, ∃ f : ClassId × (Nat → Nat), ∀ q : vw_C, vwK[ci]? = some q → u_Kn s q.1 q.2.1 q.2.2 f.1 f.2 := by
    intro ci
    match ci with
    | 0 => obtain ⟨a, i, h⟩ := x_kn1 hts; exact ⟨(a, i), fun q hq => by cases hq; exact h⟩
    | 1 => obtain ⟨a, i, h⟩ := x_kn1 hts; exact ⟨(a, i), fun q hq => by cases hq; exact h⟩
    | 2 => obtain ⟨a, i, h⟩ := x_kn2 hts; exact ⟨(a, i), fun q hq => by cases hq; exact h⟩
    | 3 => obtain ⟨a, i, h⟩ := x_kn1 hts; exact ⟨(a, i), fun q hq => by cases hq; exact h⟩
    | 4 => obtain ⟨a, i, h⟩ := x_kn4 hts; exact ⟨(a, i), fun q hq => by cases hq; exact h⟩
    | 5 => obtain ⟨a, i, h⟩ := x_kn5 hts; exact ⟨(a, i), fun q hq => by cases hq; exact h⟩
    | 6 => obtain ⟨a, i, h⟩ := x_kn6 hts; exact ⟨(a, i), fun q hq => by cases hq; exact h⟩
    | 7 => obtain ⟨a, i, h⟩ := x_kn7 hts; exact ⟨(a, i), fun q hq => by cases hq; exact h⟩
    | 8 => obtain ⟨a, i, h⟩ := x_kn8 hts; exact ⟨(a, i), fun q hq => by cases hq; exact h⟩
    | 9 => obtain ⟨a, i, h⟩ := x_kn9 hts; exact ⟨(a, i), fun q hq => by cases hq; exact h⟩
    | k + 10 => exact ⟨(0, fun _ => 0), fun q hq => by simp [vwK] at hq⟩
  obtain ⟨f, hf⟩ := Classical.axiomOfChoice kn
  have ka : ∀ k : Nat, ∃ cA : ClassId, k ≤ 5 → ArrOfT s cA (xaty k) ∧ va_RA s cA (xaty k) := by
    intro k
    match k with
    | 0 => obtain ⟨cA, h⟩ := x_ka (ty := .int) hts x_acls.1 (fun _ h => h); exact ⟨cA, fun _ => h⟩
    | 1 => obtain ⟨cA, h⟩ := x_ka (ty := .byte) hts x_acls.2.1 (fun _ h => h); exact ⟨cA, fun _ => h⟩
    | 2 => obtain ⟨cA, h⟩ := x_ka (ty := .boolean) hts x_acls.2.2.1 (fun _ h => h); exact ⟨cA, fun _ => h⟩
    | 3 => obtain ⟨cA, h⟩ := x_kr hts (x_over 3 (by decide) (by decide)); exact ⟨cA, fun _ => h⟩
    | 4 => obtain ⟨cA, h⟩ := x_kr hts (x_over 4 (by decide) (by decide)); exact ⟨cA, fun _ => h⟩
    | 5 => obtain ⟨cA, h⟩ := x_kr hts (x_over 5 (by decide) (by decide)); exact ⟨cA, fun _ => h⟩
    | k + 6 => exact ⟨0, fun h => by omega⟩
  obtain ⟨κ, hκ⟩ := Classical.axiomOfChoice ka
  have hs := flat_of_before _ hgv
  have harr : (Cond.arrayOf (.static "LimeDeaths$Kinds" "LETTERS" "[I") .int).before #[Value.ref b] s = true := hs _ (by decide +kernel)
  have hlen := va_eqt (hs (Cond.eq (.length (.static "LimeDeaths$Kinds" "LETTERS" "[I")) (.int 6)) (by decide +kernel))
  have hel : ∀ j : Nat, j < 6 → (Term.elem (.static "LimeDeaths$Kinds" "LETTERS" "[I") (.int (Int32.ofNat j))).eval #[Value.ref b] s none [] s = some (.int (Int32.ofInt (xlet j))) := by
    intro j hj
    match j, hj with
    | 0, _ => exact va_eqt (hs (Cond.eq (.elem (.static "LimeDeaths$Kinds" "LETTERS" "[I") (.int 0)) (.int 100)) (by decide +kernel))
    | 1, _ => exact va_eqt (hs (Cond.eq (.elem (.static "LimeDeaths$Kinds" "LETTERS" "[I") (.int 1)) (.int 103)) (by decide +kernel))
    | 2, _ => exact va_eqt (hs (Cond.eq (.elem (.static "LimeDeaths$Kinds" "LETTERS" "[I") (.int 2)) (.int 102)) (by decide +kernel))
    | 3, _ => exact va_eqt (hs (Cond.eq (.elem (.static "LimeDeaths$Kinds" "LETTERS" "[I") (.int 3)) (.int 98)) (by decide +kernel))
    | 4, _ => exact va_eqt (hs (Cond.eq (.elem (.static "LimeDeaths$Kinds" "LETTERS" "[I") (.int 4)) (.int 115)) (by decide +kernel))
    | 5, _ => exact va_eqt (hs (Cond.eq (.elem (.static "LimeDeaths$Kinds" "LETTERS" "[I") (.int 5)) (.int 107)) (by decide +kernel))
    | k + 6, h => omega
  obtain ⟨t, ht, hT⟩ := va_Tof (A := fun q : Nat => s.heap.size ≤ q) (N := 6) (by decide) harr hlen hel hA
  have hZ := va_Zref (A := fun q : Nat => s.heap.size ≤ q) (hts (.laysStatic "LimeDeaths$Kinds" "LETTERS" "[I") (by decide +kernel)) (hts (.initialized "LimeDeaths$Kinds") (by decide +kernel)) ht hA
  obtain ⟨n, h', hex, hk1, hk2⟩ := x_law L (fun j => (xs j).toInt) hL (fun j => by show w32 (xs j).toInt = (xs j).toInt; rw [← x_w32, x_toI])
  have St : xSt (xexO L (fun j => (xs j).toInt)) (fun j => if j = 0 then b else t) s.heap.size (fun ci => (f ci).1, fun ci => (f ci).2) κ s := by
    refine ⟨⟨fun ci q hq => hf ci q hq, fun k q hq => ?_⟩, fun w hw hbad => ?_, Nat.le_refl _, hZ, hT, ?_, hbl⟩
    · match k, hq with
      | 0, hq => cases hq; exact hκ 0 (by decide)
      | 1, hq => cases hq; exact hκ 1 (by decide)
      | 2, hq => cases hq; exact hκ 2 (by decide)
      | 3, hq => cases hq; exact hκ 3 (by decide)
      | 4, hq => cases hq; exact hκ 4 (by decide)
      | 5, hq => cases hq; exact hκ 5 (by decide)
      | k + 6, hq => simp [xtys] at hq
    · have h8 := hts w hw
      cases w <;> first | (simp [xbad] at hbad; done) | skip
      case methodLinkNest => exact va_Nw.of rfl h8
      case arrayOver ty =>
        cases ty <;> first | (simp [xbad] at hbad; done) | exact va_AO.of h8
    · show va_X b L (fun j => Int32.ofInt (xs j).toInt) s s.heap
      simp only [x_toI]
      exact hX
  have e0 : entryFrame m ([Value.ref b] : List Value).toArray 4 = F0 m 0 ((lg_sl (([xX 0] : List xV).map (xval s.heap.size (fun j => if j = 0 then b else t))) ++ List.replicate (4 - (lg_sl (([xX 0] : List xV).map (xval s.heap.size (fun j => if j = 0 then b else t)))).length) Slot.unset).toArray) [] := lg_entry_eq m _ 4
  rw [e0]
  refine x_body l (xexO L (fun j => (xs j).toInt)) (fun j => if j = 0 then b else t) s.heap.size (fun ci => (f ci).1, fun ci => (f ci).2) κ n (fun k d _ => x_con l _ _ _ _ _ k d) 25 (mi := 240) (q := xmL) rfl ⟨hx, hb, hr, hml, hown, hxw, hlocks, fun h => absurd h (by decide)⟩ St (st := []) hex (x_entry _ _ [xX 0] (by decide)) ⟨fun _ => rfl, fun i hi => absurd hi (Nat.not_lt_zero i)⟩ va_S.rf (by decide) (by decide) (K0 := 0) (S0 := 0) rfl rfl (by show h'.1 ≤ 0 + 600000; omega) (by show h'.2.1 ≤ 0 + 7302250; omega) ?_
  intro H' locs' cells' slots' pc' la' e' st' g1 g2 g3 g4 g5 g6
  obtain ⟨ins, nx, P, X, Y, Z, W0, V⟩ := e'
  unfold xret at g2
  dsimp only at g2
  split at g2
  · rename_i v
    obtain ⟨hd, -, -⟩ := x_okE g1 (fun _ _ _ _ h => by cases h)
    split at g2
    · cases g2
      refine va_forget (fun q hq => g4.2.2 q hq) (W.widen (k := 600000) (n := 7302250) (by omega) (by omega) ?_)
      exact lw_ret hx hb hr hlocks hd
    · cases g2
  · cases g2
  · cases g2
  · cases g2
set_option maxHeartbeats 4000000 in
theorem lw_walk (l : Launch) (b : Addr) (xs : List Int32) : MetFree l x (headSpec (Jvm.Cond.code x code maxLocals ret :: tables_1) room_1) (lw_P b xs) (fun _ _ _ _ _ => True) lw_Q := by
  refine MetFree.of_bodyS (code := code) (maxLocals := maxLocals) (ret := ret) (by decide) ?_ ?_
  · intro args s m h hn
    obtain ⟨meth, c, h1, h2, h3, h4, h5, h6, -, -⟩ := Cond.code_spec hn (atoms_spec (ws := Jvm.Cond.code x code maxLocals ret :: tables_1) h _ List.mem_cons_self)
    exact ⟨meth, c, h1, h2, h3, h4, h5, h6⟩
  · intro p e s m args below meth c s₁ B hml0 hP _
    obtain ⟨rfl, hx, hbd, hgv⟩ := hP
    obtain ⟨scr, harrAt, hlist, hof, hsmall⟩ := hx
    obtain ⟨hcb, hkn, -, -⟩ := State.arrayAt?_spec harrAt
    have hown : s.vm.findClass R_law = some m.cls := findClass_of_methodNamed B.named
    have hts0 : ∀ c ∈ (Jvm.Cond.code x code maxLocals ret :: tables_1), c.before #[Value.ref b] s = true := atoms_spec (ws := Jvm.Cond.code x code maxLocals ret :: tables_1) B.pre
    have hts : ∀ w ∈ lw_tbl, w.before #[Value.ref b] s = true := k2_hts_sels lw_privs (fun w hw => hts0 w (List.mem_cons_of_mem _ hw)) lw_privs_ok
    have hml : c.maxLocals = 4 := B.maxLocals_eq (hts0 _ List.mem_cons_self)
    have X₀ : Stand p l e room_1 s m #[Value.ref b] below meth c s₁ [] 0 0 := Stand.of_body B
    have hh0 : s₁.heap = s.heap := by rw [B.state]; rfl
    have hsz : scr.slots.size = xs.length := by rw [← Array.length_toList, hlist, List.length_map]
    have hval : ∀ j : Nat, j < xs.length → scr.slots[j]? = some (.int (xs.getD j 0)) := fun j hj => by
      rw [← Array.getElem?_toList, hlist]
      simp [hj]
    have hbl : b < s.heap.size := (Array.getElem?_eq_some_iff.mp hcb).1
    have hX : va_X b xs.length (fun j => xs.getD j 0) s s.heap := ⟨scr, hcb, hof, hkn, hsz, hval⟩
    have K : W p l e room_1 s m #[Value.ref b] below meth c s₁.heap [] 0 0 (lw_Z below #[Value.ref b] s) (entryFrame m ([Value.ref b] : List Value).toArray 4) := by
      rw [hh0]
      exact whole_start l hbd ⟨B.exec, B.bytes, B.returns, hml, hown, hts, hX, hbl, B.notSynchronized, hgv⟩
    obtain ⟨t, a1, o, b1, b2, b3⟩ := K s₁ rfl X₀
    exact ⟨t, o, a1, b1, b2, b3⟩
theorem lw_pre_spec {args : Array Value} {s : State} (h : (Jvm.Cond.and given_1 narrow_1).before args s = true) (hr : rest_1_c.before args s = true) : ∃ (b : Addr) (xs : List Int32), lw_P b xs args s := by
  have hs := flat_of_before _ h
  have hq := flat_of_before _ hr
  have hc : (Cond.count 1).before args s = true := hs _ (by decide +kernel)
  have harr : (Cond.arrayOf (.arg 0) .int).before args s = true := hs _ (by decide +kernel)
  have hle : (Cond.le (.length (.arg 0)) (.int 3072)).before args s = true := hs _ (by decide +kernel)
  have hlen : (Cond.isInt (.length (.arg 0))).before args s = true := hq _ (by decide +kernel)
  have hall : (Cond.all (.arg 0) (.isInt (.elem (.arg 0) (.index 0)))).before args s = true := hq _ (by decide +kernel)
  obtain ⟨b, xs, hb, hx⟩ := State.ints_of_pre rfl harr hlen hall
  have hsm : xs.length < 2 ^ 31 := hx.choose_spec.2.2.2
  have hev : (Term.length (.arg 0)).eval args s none [] s = some (.int xs.length.toInt32) := hx.length_eval hb
  have hv := Cond.le_ints hev (show (Term.int 3072).eval args s none [] s = some (.int 3072) from rfl)
  have hd : xs.length.toInt32 ≤ 3072 := by
    simpa [Cond.before, Cond.holds, hv] using hle
  have hN : xs.length ≤ 3072 := (Int32.ofNat_le_ofNat hsm (by decide)).mp (show Int32.ofNat xs.length ≤ Int32.ofNat 3072 from hd)
  exact ⟨b, xs, Cond.one_arg hc (show args[0]? = some (.ref b) from hb), hx, hN, h⟩
theorem lw_comes (l : Launch) : Comes l x (Jvm.Cond.code x code maxLocals ret :: tables_1) room_1 (fun tb e args s => Calls_1 tb e args s ∧ rest_1 tb e args s ∧ Pre_1 tb e args s)
    (fun _ _ args s o t => lw_Q args s o t) := by
  intro p e ha hc hk s m args below hf hfit hheap happ hpre
  obtain ⟨b, xs, hP⟩ := lw_pre_spec hpre.2.2 hpre.2.1
  obtain ⟨k, o, h1, h2, h3, hQ⟩ := lw_walk l b xs p e ha hc hk s m args below hf ((Spec.applies_iff_loose hf).mp happ).1 hP trivial
  exact ⟨k, o, h1, h2, h3, hQ⟩
theorem lw_frame {s t : State} {o : Outcome} {args : Array Value} (h : Framed s o t [] 600000 7302250) :
    Framed s o t (fieldLocs frame_1_writes args s ++ arrayLocs frame_1_arrays args s ++ staticLocs frame_1_statics s) 600000 7302250 := h
theorem lw_limb (L : Cond) (hL : ∀ (args : Array Value) (s t : State), L.after args s (.returned (some (.int 1))) t = true) :
    ArmFor flags0 classFile x code maxLocals ret World_1 tables_1 room_1 Calls_1 rest_1 Pre_1
      (fun tb e a s o t => postC L tb e a s o t ∧ Framed s o t (fieldLocs frame_1_writes a s ++ arrayLocs frame_1_arrays a s ++ staticLocs frame_1_statics s) 600000 7302250) := by
  intro l _ _ _ p e ha hc hk s m args below hf hfit hheap happ hpre
  obtain ⟨k, o, h1, h2, h3, rfl, hF⟩ := lw_comes l p e ha hc hk s m args below hf hfit hheap happ hpre
  exact ⟨k, _, h1, h2, h3, hL args s _, lw_frame hF⟩
theorem i_vc : Claimed_1_1 ∧ Claimed_1_2 := ⟨lw_limb limb_1_1 (fun args s t => by simp [limb_1_1, Cond.after, Cond.holds, Cond.value]), lw_limb limb_1_2 (fun args s t => Cond.after_iff.mpr (by
  first | (rw [show limb_1_2 = Cond.eq .result (.int 1) from rfl, Cond.eq_ints (x := 1) (y := 1) rfl rfl]; simp; done) | (simp [limb_1_2, Cond.value, Term.eval]; done)))⟩

