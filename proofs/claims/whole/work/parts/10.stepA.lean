theorem x_fl {own : String} {i P X Y Z : Nat} (h : xfl own i P X Y Z = true) : ∃ q : vw_C, vwCl[X]? = some q ∧ Y < q.2.2 ∧ lw_tbl[P]? = some (Cond.fieldLink own i (q.2.1 Y).1 (q.2.1 Y).2.1 (q.2.1 Y).2.2.1) ∧
    ((Z = 0 ∧ xtyO X Y = .int) ∨ (Z = 1 ∧ xtyO X Y = .long) ∨ (Z = 2 ∧ (∀ (B : Nat) (c : Nat → Nat → Int) (rf : Nat → Nat → Option Nat) (a : Nat), xfv B c rf X a Y = va_rf ((rf a Y).map (fun j => B + j))) ∧ ∀ a : Nat, narrow (xtyO X Y) (.ref a) = .ref a ∧ fits (xtyO X Y) (.ref a) = true)) := by
  unfold xfl at h
  cases hq : vwCl[X]? with
  | none => rw [hq] at h; cases h
  | some q =>
    rw [hq] at h
    simp only [Bool.and_eq_true, decide_eq_true_eq] at h
    refine ⟨q, rfl, h.1.1, h.1.2, ?_⟩
    have h2 := h.2
    cases ht : xtyO X Y with
    | int => rw [ht] at h2; exact Or.inl ⟨Nat.eq_of_beq_eq_true h2, rfl⟩
    | long => rw [ht] at h2; exact Or.inr (Or.inl ⟨Nat.eq_of_beq_eq_true h2, rfl⟩)
    | array t => rw [ht] at h2; exact Or.inr (Or.inr ⟨Nat.eq_of_beq_eq_true h2, fun B c rf a => by simp only [xfv, ht], fun a => ⟨rfl, rfl⟩⟩)
    | object t => rw [ht] at h2; exact Or.inr (Or.inr ⟨Nat.eq_of_beq_eq_true h2, fun B c rf a => by simp only [xfv, ht], fun a => ⟨rfl, rfl⟩⟩)
    | _ => rw [ht] at h2; cases h2
theorem x_nat (n : Nat) : (n : Nat).toInt32 = Int32.ofInt (n : Int) := rfl
set_option maxRecDepth 100000 in
theorem x_oi : (Cond.code Lib.objectInit ⟨#[0xb1]⟩ 1 none ∈ lw_tbl ∧ Cond.instanceMethod Lib.objectInit ∈ lw_tbl) := by decide +kernel
set_option maxRecDepth 100000 in
theorem x_mm : (Cond.static Lib.Math.max.name ∈ lw_tbl ∧ Cond.initialized "java/lang/Math" ∈ lw_tbl ∧ Cond.code Lib.Math.max.name Lib.Math.max.code 2 (some .int) ∈ lw_tbl ∧ Cond.static Lib.Math.min.name ∈ lw_tbl ∧ Cond.code Lib.Math.min.name Lib.Math.min.code 2 (some .int) ∈ lw_tbl) := by decide +kernel
theorem x_wm {w : Cond} (h : w ∈ lw_tbl) (hg : goodWord w = true) : w ∈ xws := List.mem_filter.mpr ⟨h, hg⟩
section XA
variable {p : Program} {l : Launch} {e : Env} {R : Room} {s : State} {m : MethodId} {args : Array Value} {below : List Frame} {meth : Method} {c : Code} {H : Heap} {locs : List Loc} {cells slots : Nat} {Q : State → Prop}
variable {ex : xO} {ea : Nat → Nat} {B : Nat} {D : va_G} {κ : Nat → ClassId} {own : String} {bytes : ByteArray} {mL : Nat} {rt : Option FieldType} {nm : String}
theorem x_arr (St : xSt ex ea B D κ s) : ∀ k, k ≤ 5 → ArrOfT s (κ k) (xaty k) := by
  intro k hk
  match k, hk with
  | 0, _ => exact (St.1.2 0 _ rfl).1
  | 1, _ => exact (St.1.2 1 _ rfl).1
  | 2, _ => exact (St.1.2 2 _ rfl).1
  | 3, _ => exact (St.1.2 3 _ rfl).1
  | 4, _ => exact (St.1.2 4 _ rfl).1
  | 5, _ => exact (St.1.2 5 _ rfl).1
  | k + 6, h => omega
set_option maxHeartbeats 4000000 in
set_option maxRecDepth 100000 in
theorem xA_ok (Fr : xFr p s m args meth c own bytes mL rt nm) (St : xSt ex ea B D κ s) {e0 : xE} {d pc : Nat} (he : xokE own bytes rt nm pc e0 = true) {ls st : List xV} {h : xH} {q : xS3} (hs : xstA ex e0 d ls st h = some q) {la : Array Slot}
    (hL : xLS B ea mL ls la) (hH : xHR B D κ h H) (hS : va_S (fun q => B ≤ q) s.heap H locs) (hRf : d ≤ R.frames) (hRl : 64 * d ≤ R.locals) (hRc : cells ≤ R.cells) (hRs : slots ≤ R.slots)
    (kk : ∀ la', xLS B ea mL q.2.1 la' → W p l e R s m args below meth c H locs cells slots Q (F0 m q.1 la' (q.2.2.map (xval B ea)))) :
    W p l e R s m args below meth c H locs cells slots Q (F0 m pc la (st.map (xval B ea))) := by
  obtain ⟨ins, nx, P, X, Y, Z, W0, V⟩ := e0
  obtain ⟨K, S, F, sh, cc, rf⟩ := h
  obtain ⟨hx, hb, hr, hml, hown, hts, hlk, hnm⟩ := Fr
  have hlen := hL.1
  have hsz : la.size = mL := hL.2.1
  cases ins <;> first | (simp [xstA] at hs; done) | skip
  case aaload =>
    obtain ⟨hd, hn, hk⟩ := x_okE he (fun _ _ _ _ h => by cases h)
    subst hn
    simp only [xstA] at hs
    split at hs
    · rename_i i a r
      split at hs
      · rename_i hc
        obtain ⟨h1, h2, h3, h4, h5⟩ := hc
        obtain ⟨v1, v2, v3⟩ := x_in h5
        have hcell := (hH.2 a h1).2 h2 h4
        have kv : W p l e R s m args below meth c H locs cells slots Q (F0 m (pc + 1) la (va_rf ((rf a (w32 i).toNat).map (fun j => B + j)) :: r.map (xval B ea))) := by
          cases hr0 : rf a (w32 i).toNat with
          | none => rw [hr0] at hs; cases hs; exact kk la hL
          | some j => rw [hr0] at hs; cases hs; exact kk la hL
        refine W.aald hx hb hcell (x_arr St _ h4 _ _) ?_ (fun h => by cases h) (by rw [arrV_size]; exact v1) (by rw [x_clamp, arrV_read _ _ v2]; simp only [xav]; rw [if_neg (by omega)]) rfl rfl hd kv
        have h6 : (sh a).2.1 = 3 ∨ (sh a).2.1 = 4 ∨ (sh a).2.1 = 5 := by omega
        rcases h6 with h6 | h6 | h6 <;> rw [h6] <;> rfl
      · cases hs
    · cases hs
  case aload i =>
    obtain ⟨hd, hn, hk⟩ := x_okE he (fun _ _ _ _ h => by cases h)
    subst hn
    obtain ⟨v, h1, h2, rfl⟩ := x_ld hs
    obtain ⟨hu, a, ha⟩ := x_isR h2 B ea
    have k := kk la hL
    simp only [List.map_cons, ha] at k
    exact lv_aload hx hb hd (by rw [x_lsAt hL h1 hu, ha]) k
  case aload_n i =>
    obtain ⟨hd, hn, hk⟩ := x_okE he (fun _ _ _ _ h => by cases h)
    subst hn
    obtain ⟨v, h1, h2, rfl⟩ := x_ld hs
    obtain ⟨hu, a, ha⟩ := x_isR h2 B ea
    have k := kk la hL
    simp only [List.map_cons, ha] at k
    exact lv_aload_n hx hb hd rfl (by rw [x_lsAt hL h1 hu, ha]) k
  case arraylength =>
    obtain ⟨hd, hn, hk⟩ := x_okE he (fun _ _ _ _ h => by cases h)
    subst hn
    simp only [xstA] at hs
    split at hs
    · rename_i a r
      split at hs
      · rename_i hc
        obtain ⟨h1, h2, h3⟩ := hc
        cases hs
        exact W.alen hx hb ((hH.2 a h1).2 h2 h3) (x_arr St _ h3 _ _) (by rw [arrV_size]; exact x_nat _) rfl rfl hd (kk la hL)
      · cases hs
    · rename_i j r
      split at hs
      · rename_i hj
        subst hj
        cases hs
        refine va_slen hx hb St.2.2.2.2.2.1 (Nat.lt_of_lt_of_le St.2.2.2.2.2.2 St.2.2.1) (Nat.not_le.mpr St.2.2.2.2.2.2) hS hd (kk la hL)
      · cases hs
    · cases hs
  case astore i =>
    obtain ⟨hd, hn, hk⟩ := x_okE he (fun _ _ _ _ h => by cases h)
    subst hn
    obtain ⟨v, r, rfl, h2, h3, rfl⟩ := x_st hs
    obtain ⟨hu, a, ha⟩ := x_isR h2 B ea
    simp only [List.map_cons, ha]
    exact lv_astore hx hb hd hL.2 (by omega) rfl (fun la' hl => kk la' (x_set1 hlen (by omega) (by rw [ha]; exact hl)))
  case astore_n i =>
    obtain ⟨hd, hn, hk⟩ := x_okE he (fun _ _ _ _ h => by cases h)
    subst hn
    obtain ⟨v, r, rfl, h2, h3, rfl⟩ := x_st hs
    obtain ⟨hu, a, ha⟩ := x_isR h2 B ea
    simp only [List.map_cons, ha]
    exact lv_astore_n hx hb hd rfl hL.2 (by omega) rfl (fun la' hl => kk la' (x_set1 hlen (by omega) (by rw [ha]; exact hl)))
  case baload =>
    obtain ⟨hd, hn, hk⟩ := x_okE he (fun _ _ _ _ h => by cases h)
    subst hn
    simp only [xstA] at hs
    split at hs
    · rename_i i a r
      split at hs
      · rename_i hc
        obtain ⟨h1, h2, h3, h5⟩ := hc
        obtain ⟨v1, v2, v3⟩ := x_in h5
        cases hs
        rcases h3 with h3 | h3
        · have hcell := (hH.2 a h1).2 h2 (by dsimp only; omega)
          have ha := x_arr St 1 (by omega)
          dsimp only at hcell h3
          rw [h3] at hcell
          exact W.bald hx hb hcell (ha _ _) (fun h => by cases h) (by rw [arrV_size]; exact v1) (by rw [x_clamp, arrV_read _ _ v2]; rfl) rfl rfl hd (kk la hL)
        · have hcell := (hH.2 a h1).2 h2 (by dsimp only; omega)
          have ha := x_arr St 2 (by omega)
          dsimp only at hcell h3
          rw [h3] at hcell
          exact W.zald hx hb hcell (ha _ _) (fun h => by cases h) (by rw [arrV_size]; exact v1) (by rw [x_clamp, arrV_read _ _ v2]; rfl) rfl rfl hd (kk la hL)
      · cases hs
    · cases hs
  case bipush n =>
    obtain ⟨hd, hn, hk⟩ := x_okE he (fun _ _ _ _ h => by cases h)
    subst hn
    simp only [xlnk, Bool.and_eq_true, decide_eq_true_eq] at hk
    cases hs
    exact lv_bipush hx hb hd (x_bi n hk.1 hk.2) (kk la hL)
  case dup =>
    obtain ⟨hd, hn, hk⟩ := x_okE he (fun _ _ _ _ h => by cases h)
    subst hn
    simp only [xstA] at hs
    split at hs
    · rename_i v r
      cases hv : xisL v with
      | true => rw [hv] at hs; cases hs
      | false =>
        rw [hv] at hs
        cases hs
        exact lv_dup hx hb hd (by rw [x_cat, hv]; rfl) (kk la hL)
    · cases hs
  case dup2 =>
    obtain ⟨hd, hn, hk⟩ := x_okE he (fun _ _ _ _ h => by cases h)
    subst hn
    simp only [xstA] at hs
    split at hs
    · rename_i v w r
      cases hv : xisL v with
      | true => rw [hv] at hs; cases hs
      | false =>
        cases hw : xisL w with
        | true => rw [hv, hw] at hs; cases hs
        | false =>
          rw [hv, hw] at hs
          cases hs
          exact lv_dup2_11 hx hb hd (by rw [x_cat, hv]; rfl) (by rw [x_cat, hw]; rfl) (kk la hL)
    · cases hs
  case getfield i =>
    obtain ⟨hd, hn, hk⟩ := x_okE he (fun _ _ _ _ h => by cases h)
    subst hn
    simp only [xlnk] at hk
    obtain ⟨w, hw, hY, hP, hZ⟩ := x_fl hk
    simp only [xstA] at hs
    split at hs
    · rename_i a r
      split at hs
      · rename_i hc
        obtain ⟨h1, h2, h3⟩ := hc
        have hob := (hH.2 a h1).1 h2
        dsimp only at hob
        rw [h3] at hob
        have hnf : xnf X = w.2.2 := by simp only [xnf, hw]
        rw [hnf] at hob
        have hlink := hts _ (x_ws hP rfl)
        obtain ⟨cell, q1, q2, q3, q4⟩ := hob
        obtain ⟨hSl, hfc, kC, hkC, hkind⟩ := St.1.1 X _ (x_K hw (by omega))
        obtain ⟨cf, kf, fi, f, hi, hsl⟩ := hSl Y hY
        have kv : W p l e R s m args below meth c H locs cells slots Q (F0 m (pc + 3) la (xfv B cc rf X a Y :: r.map (xval B ea))) := by
          rcases hZ with ⟨z, t⟩ | ⟨z, t⟩ | ⟨z, t, -⟩
          · subst z
            cases hs
            simp only [xfv, t]
            exact kk la hL
          · subst z
            cases hs
            simp only [xfv, t]
            exact kk la hL
          · subst z
            rw [t]
            cases hr0 : rf a Y with
            | none => rw [hr0] at hs; cases hs; exact kk la hL
            | some j => rw [hr0] at hs; cases hs; exact kk la hL
        exact W.getf hx hb hown hlink hi (u_facts hfc hkC (u_lays hts (x_lays X _ hw) hY) hi).1 q1 (by rw [q3]; exact fun h => by cases h) (by rw [hsl]; exact q4 Y hY) rfl rfl hd kv
      · cases hs
    · cases hs
  case getstatic i =>
    obtain ⟨hd, hn, hk⟩ := x_okE he (fun _ _ _ _ h => by cases h)
    subst hn
    simp only [xlnk, decide_eq_true_eq] at hk
    cases hs
    exact va_gets hx hb St.2.2.2.1 hS hown (hts _ (x_ws hk rfl)) (fun _ h => h) hd (kk la hL)
  case goto o =>
    obtain ⟨hd, hn, hk⟩ := x_okE he (fun _ _ _ _ h => by cases h)
    subst hn
    simp only [xlnk, decide_eq_true_eq] at hk
    cases hs
    exact lv_goto hx hb hd hk (kk la hL)
  case i2b =>
    obtain ⟨hd, hn, hk⟩ := x_okE he (fun _ _ _ _ h => by cases h)
    subst hn
    simp only [xstA] at hs
    split at hs
    · cases hs
      exact lv_i2b hx hb hd (x_i2b _) (kk la hL)
    · cases hs
  case i2l =>
    obtain ⟨hd, hn, hk⟩ := x_okE he (fun _ _ _ _ h => by cases h)
    subst hn
    simp only [xstA] at hs
    split at hs
    · cases hs
      exact lv_i2l hx hb hd (x_i2l _) (kk la hL)
    · cases hs
  case iadd =>
    obtain ⟨hd, hn, hk⟩ := x_okE he (fun _ _ _ _ h => by cases h)
    subst hn
    obtain ⟨a, b, r, rfl, rfl⟩ := x_o2 hs
    have k := kk la hL
    simp only [List.map_cons, xval, x_add] at k
    exact lv_iadd hx hb hd k
  case iaload =>
    obtain ⟨hd, hn, hk⟩ := x_okE he (fun _ _ _ _ h => by cases h)
    subst hn
    simp only [xstA] at hs
    split at hs
    · rename_i i a r
      split at hs
      · rename_i hc
        obtain ⟨h1, h2, h3, h5⟩ := hc
        obtain ⟨v1, v2, v3⟩ := x_in h5
        cases hs
        have hcell := (hH.2 a h1).2 h2 (by dsimp only; omega)
        have ha := x_arr St 0 (by omega)
        dsimp only at hcell h3
        rw [h3] at hcell
        exact W.iald hx hb hcell (ha _ _) (fun h => by cases h) (by rw [arrV_size]; exact v1) (by rw [x_clamp, arrV_read _ _ v2]; rfl) rfl rfl hd (kk la hL)
      · cases hs
    · rename_i i j r
      split at hs
      · rename_i hc
        obtain ⟨hj, h5⟩ := hc
        obtain ⟨v1, v2, v3⟩ := x_in h5
        cases hs
        have hj : j = 0 ∨ j = 1 := by omega
        rcases hj with rfl | rfl
        · have k := kk la hL
          refine va_sld hx hb St.2.2.2.2.2.1 (Nat.lt_of_lt_of_le St.2.2.2.2.2.2 St.2.2.1) (Nat.not_le.mpr St.2.2.2.2.2.2) hS v1 hd ?_
          rw [x_clamp]
          exact k
        · exact va_ti hx hb St.2.2.2.2.1 hS v1 (v := xval B ea (xI ((ex 1).2 (w32 i).toNat))) (by simp only [x_clamp]; rfl) hd (kk la hL)
      · cases hs
    · cases hs
  case iand =>
    obtain ⟨hd, hn, hk⟩ := x_okE he (fun _ _ _ _ h => by cases h)
    subst hn
    obtain ⟨a, b, r, rfl, rfl⟩ := x_o2 hs
    have k := kk la hL
    simp only [List.map_cons, xval, x_and] at k
    exact lv_iand hx hb hd k
  case imul =>
    obtain ⟨hd, hn, hk⟩ := x_okE he (fun _ _ _ _ h => by cases h)
    subst hn
    obtain ⟨a, b, r, rfl, rfl⟩ := x_o2 hs
    have k := kk la hL
    simp only [List.map_cons, xval, x_mul] at k
    exact lv_imul hx hb hd k
  case ior =>
    obtain ⟨hd, hn, hk⟩ := x_okE he (fun _ _ _ _ h => by cases h)
    subst hn
    obtain ⟨a, b, r, rfl, rfl⟩ := x_o2 hs
    have k := kk la hL
    simp only [List.map_cons, xval, x_or] at k
    exact lv_ior hx hb hd k
  case ishl =>
    obtain ⟨hd, hn, hk⟩ := x_okE he (fun _ _ _ _ h => by cases h)
    subst hn
    obtain ⟨a, b, r, rfl, rfl⟩ := x_o2 hs
    have k := kk la hL
    simp only [List.map_cons, xval, x_shl] at k
    exact lv_ishl hx hb hd k
  case ishr =>
    obtain ⟨hd, hn, hk⟩ := x_okE he (fun _ _ _ _ h => by cases h)
    subst hn
    obtain ⟨a, b, r, rfl, rfl⟩ := x_o2 hs
    have k := kk la hL
    simp only [List.map_cons, xval, x_shr] at k
    exact lv_ishr hx hb hd k
  case isub =>
    obtain ⟨hd, hn, hk⟩ := x_okE he (fun _ _ _ _ h => by cases h)
    subst hn
    obtain ⟨a, b, r, rfl, rfl⟩ := x_o2 hs
    have k := kk la hL
    simp only [List.map_cons, xval, x_sub] at k
    exact lv_isub hx hb hd k
  case ixor =>
    obtain ⟨hd, hn, hk⟩ := x_okE he (fun _ _ _ _ h => by cases h)
    subst hn
    obtain ⟨a, b, r, rfl, rfl⟩ := x_o2 hs
    have k := kk la hL
    simp only [List.map_cons, xval, x_xor] at k
    exact lv_ixor hx hb hd k
  case iushr =>
    obtain ⟨hd, hn, hk⟩ := x_okE he (fun _ _ _ _ h => by cases h)
    subst hn
    obtain ⟨a, b, r, rfl, rfl⟩ := x_o2 hs
    exact lv_iushr hx hb hd (x_ushr a b).symm (kk la hL)
  case ladd =>
    obtain ⟨hd, hn, hk⟩ := x_okE he (fun _ _ _ _ h => by cases h)
    subst hn
    obtain ⟨a, b, r, rfl, rfl⟩ := x_o2L hs
    have k := kk la hL
    simp only [List.map_cons, xval, x_addL] at k
    exact lv_ladd hx hb hd k
  case lmul =>
    obtain ⟨hd, hn, hk⟩ := x_okE he (fun _ _ _ _ h => by cases h)
    subst hn
    obtain ⟨a, b, r, rfl, rfl⟩ := x_o2L hs
    have k := kk la hL
    simp only [List.map_cons, xval, x_mulL] at k
    exact lv_lmul hx hb hd k
  case iconst n =>
    obtain ⟨hd, hn, hk⟩ := x_okE he (fun _ _ _ _ h => by cases h)
    subst hn
    cases hs
    exact lv_iconst hx hb hd rfl (kk la hL)
  case sipush n =>
    obtain ⟨hd, hn, hk⟩ := x_okE he (fun _ _ _ _ h => by cases h)
    subst hn
    simp only [xlnk, Bool.and_eq_true, decide_eq_true_eq] at hk
    cases hs
    exact lv_sipush hx hb hd (x_si n hk.1 hk.2) (kk la hL)
  case lconst n =>
    obtain ⟨hd, hn, hk⟩ := x_okE he (fun _ _ _ _ h => by cases h)
    subst hn
    cases hs
    exact lv_lconst hx hb hd (by rcases n with ⟨n, hn⟩; match n, hn with | 0, _ => rfl | 1, _ => rfl) (kk la hL)
  case ldc i =>
    obtain ⟨hd, hn, hk⟩ := x_okE he (fun _ _ _ _ h => by cases h)
    subst hn
    simp only [xlnk, decide_eq_true_eq] at hk
    cases hs
    exact lv_ldc hx hb hown (hts _ (x_ws hk rfl)) hd (kk la hL)
  case ldc_w i =>
    obtain ⟨hd, hn, hk⟩ := x_okE he (fun _ _ _ _ h => by cases h)
    subst hn
    simp only [xlnk, decide_eq_true_eq] at hk
    cases hs
    exact lv_ldcw hx hb hown (hts _ (x_ws hk rfl)) hd (kk la hL)
  case ldc2_w i =>
    obtain ⟨hd, hn, hk⟩ := x_okE he (fun _ _ _ _ h => by cases h)
    subst hn
    simp only [xlnk, decide_eq_true_eq] at hk
    cases hs
    exact lv_ldc2 hx hb hown (hts _ (x_ws hk rfl)) hd (kk la hL)
  case idiv =>
    obtain ⟨hd, hn, hk⟩ := x_okE he (fun _ _ _ _ h => by cases h)
    subst hn
    simp only [xstA] at hs
    split at hs
    · rename_i b a r
      split at hs
      · cases hs
      · rename_i hz
        cases hs
        have k := kk la hL
        simp only [List.map_cons, xval, x_div] at k
        exact lv_idiv hx hb hd (fun z => hz ((x_eq0 b).mp z)) k
    · cases hs
  case irem =>
    obtain ⟨hd, hn, hk⟩ := x_okE he (fun _ _ _ _ h => by cases h)
    subst hn
    simp only [xstA] at hs
    split at hs
    · rename_i b a r
      split at hs
      · cases hs
      · rename_i hz
        cases hs
        have k := kk la hL
        simp only [List.map_cons, xval, x_rem] at k
        exact lv_irem hx hb hd (fun z => hz ((x_eq0 b).mp z)) k
    · cases hs
  case ldiv =>
    obtain ⟨hd, hn, hk⟩ := x_okE he (fun _ _ _ _ h => by cases h)
    subst hn
    simp only [xstA] at hs
    split at hs
    · rename_i b a r
      split at hs
      · cases hs
      · rename_i hz
        cases hs
        have k := kk la hL
        simp only [List.map_cons, xval, x_divL] at k
        exact lv_ldiv hx hb hd (fun z => hz ((x_eqL0 b).mp z)) k
    · cases hs
  case lrem =>
    obtain ⟨hd, hn, hk⟩ := x_okE he (fun _ _ _ _ h => by cases h)
    subst hn
    simp only [xstA] at hs
    split at hs
    · rename_i b a r
      split at hs
      · cases hs
      · rename_i hz
        cases hs
        have k := kk la hL
        simp only [List.map_cons, xval, x_remL] at k
        exact lv_lrem hx hb hd (fun z => hz ((x_eqL0 b).mp z)) k
    · cases hs
  case lcmp =>
    obtain ⟨hd, hn, hk⟩ := x_okE he (fun _ _ _ _ h => by cases h)
    subst hn
    simp only [xstA] at hs
    split at hs
    · rename_i b a r
      cases hs
      have k := kk la hL
      simp only [List.map_cons, xval, ← x_cmp] at k
      exact W.lcmp hx hb hd k
    · cases hs
  case ineg =>
    obtain ⟨hd, hn, hk⟩ := x_okE he (fun _ _ _ _ h => by cases h)
    subst hn
    simp only [xstA] at hs
    split at hs
    · cases hs
      have k := kk la hL
      simp only [List.map_cons, xval, x_neg] at k
      exact lv_ineg hx hb hd k
    · cases hs
  case l2i =>
    obtain ⟨hd, hn, hk⟩ := x_okE he (fun _ _ _ _ h => by cases h)
    subst hn
    simp only [xstA] at hs
    split at hs
    · cases hs
      exact lv_l2i hx hb hd (x_l2i _) (kk la hL)
    · cases hs
  case pop =>
    obtain ⟨hd, hn, hk⟩ := x_okE he (fun _ _ _ _ h => by cases h)
    subst hn
    simp only [xstA] at hs
    split at hs
    · rename_i v r
      cases hv : xisL v with
      | true => rw [hv] at hs; cases hs
      | false =>
        rw [hv] at hs
        cases hs
        exact lv_pop hx hb hd (by rw [x_cat, hv]; rfl) (kk la hL)
    · cases hs
  case iload i =>
    obtain ⟨hd, hn, hk⟩ := x_okE he (fun _ _ _ _ h => by cases h)
    subst hn
    obtain ⟨v, h1, h2, rfl⟩ := x_ld hs
    obtain ⟨x, rfl⟩ := x_isI h2
    exact lv_iload hx hb hd (x_lsAt hL h1 (by simp)) (kk la hL)
  case iload_n i =>
    obtain ⟨hd, hn, hk⟩ := x_okE he (fun _ _ _ _ h => by cases h)
    subst hn
    obtain ⟨v, h1, h2, rfl⟩ := x_ld hs
    obtain ⟨x, rfl⟩ := x_isI h2
    exact lv_iload_n hx hb hd rfl (x_lsAt hL h1 (by simp)) (kk la hL)
  case lload i =>
    obtain ⟨hd, hn, hk⟩ := x_okE he (fun _ _ _ _ h => by cases h)
    subst hn
    obtain ⟨v, h1, h2, rfl⟩ := x_ld hs
    obtain ⟨x, rfl⟩ := x_isL h2
    exact lv_lload hx hb hd (x_lsAt hL h1 (by simp)) (kk la hL)
  case lload_n i =>
    obtain ⟨hd, hn, hk⟩ := x_okE he (fun _ _ _ _ h => by cases h)
    subst hn
    obtain ⟨v, h1, h2, rfl⟩ := x_ld hs
    obtain ⟨x, rfl⟩ := x_isL h2
    exact lv_lload_n hx hb hd rfl (x_lsAt hL h1 (by simp)) (kk la hL)
  case istore i =>
    obtain ⟨hd, hn, hk⟩ := x_okE he (fun _ _ _ _ h => by cases h)
    subst hn
    obtain ⟨v, r, rfl, h2, h3, rfl⟩ := x_st hs
    obtain ⟨x, rfl⟩ := x_isI h2
    exact lv_istore hx hb hd hL.2 (by omega) rfl (fun la' hl => kk la' (x_set1 hlen (by omega) hl))
  case istore_n i =>
    obtain ⟨hd, hn, hk⟩ := x_okE he (fun _ _ _ _ h => by cases h)
    subst hn
    obtain ⟨v, r, rfl, h2, h3, rfl⟩ := x_st hs
    obtain ⟨x, rfl⟩ := x_isI h2
    exact lv_istore_n hx hb hd rfl hL.2 (by omega) rfl (fun la' hl => kk la' (x_set1 hlen (by omega) hl))
  case lstore i =>
    obtain ⟨hd, hn, hk⟩ := x_okE he (fun _ _ _ _ h => by cases h)
    subst hn
    obtain ⟨v, r, rfl, h2, h3, rfl⟩ := x_st2 hs
    obtain ⟨x, rfl⟩ := x_isL h2
    exact lv_lstore hx hb hd hL.2 (by omega) rfl (fun la' hl => kk la' (x_set2 hlen (by omega) hl))
  case lstore_n i =>
    obtain ⟨hd, hn, hk⟩ := x_okE he (fun _ _ _ _ h => by cases h)
    subst hn
    obtain ⟨v, r, rfl, h2, h3, rfl⟩ := x_st2 hs
    obtain ⟨x, rfl⟩ := x_isL h2
    exact lv_lstore_n hx hb hd rfl hL.2 (by omega) rfl (fun la' hl => kk la' (x_set2 hlen (by omega) hl))
  case iinc i n =>
    obtain ⟨hd, hn, hk⟩ := x_okE he (fun _ _ _ _ h => by cases h)
    subst hn
    simp only [xstA] at hs
    split at hs
    · rename_i a ha
      cases hs
      obtain ⟨z, hz⟩ := List.getElem?_of_mem (x_lvp.mpr ⟨xI a, ha, by simp, rfl⟩ : (i, xval B ea (xI a)) ∈ xlvp B ea ls)
      have hi : i < mL := by have := (List.getElem?_eq_some_iff.mp ha).1; omega
      exact lv_iinc hx hb hd hL.2 hz (x_add a n).symm hi rfl (fun la' hl => kk la' (x_set1 hlen hi hl))
    · cases hs
  case ifCond cn off =>
    obtain ⟨hd, hn, hk⟩ := x_okE he (fun _ _ _ _ h => by cases h)
    subst hn
    simp only [xlnk, decide_eq_true_eq] at hk
    simp only [xstA] at hs
    split at hs
    · rename_i a r
      cases hs
      have kT : xcnd cn (w32 a) 0 = true → W p l e R s m args below meth c H locs cells slots Q (F0 m X la (r.map (xval B ea))) := fun h => by
        have k := kk la hL
        simp only [h, cond_true] at k
        exact k
      have kF : xcnd cn (w32 a) 0 = false → W p l e R s m args below meth c H locs cells slots Q (F0 m (pc + 3) la (r.map (xval B ea))) := fun h => by
        have k := kk la hL
        simp only [h, cond_false] at k
        exact k
      cases cn
      case eq => exact lv_if_eq hx hb hd hk (fun h => kT (decide_eq_true ((x_eq0 a).mp h))) (fun h => kF (decide_eq_false (fun z => h ((x_eq0 a).mpr z))))
      case ne => exact lv_if_ne hx hb hd hk (fun h => kT (decide_eq_true (fun z => h ((x_eq0 a).mpr z)))) (fun h => kF (decide_eq_false (fun z => z ((x_eq0 a).mp h))))
      case lt => exact lv_if_lt hx hb hd hk (fun h => kT (decide_eq_true ((x_lt a 0).mp h))) (fun h => kF (decide_eq_false (fun z => h ((x_lt a 0).mpr z))))
      case ge => exact lv_if_ge hx hb hd hk (fun h => kT (decide_eq_true ((x_le 0 a).mp h))) (fun h => kF (decide_eq_false (fun z => h ((x_le 0 a).mpr z))))
      case gt => exact lv_if_gt hx hb hd hk (fun h => kT (decide_eq_true ((x_lt 0 a).mp h))) (fun h => kF (decide_eq_false (fun z => h ((x_lt 0 a).mpr z))))
      case le => exact lv_if_le hx hb hd hk (fun h => kT (decide_eq_true ((x_le a 0).mp h))) (fun h => kF (decide_eq_false (fun z => h ((x_le a 0).mpr z))))
    · cases hs
  case if_icmp cn off =>
    obtain ⟨hd, hn, hk⟩ := x_okE he (fun _ _ _ _ h => by cases h)
    subst hn
    simp only [xlnk, decide_eq_true_eq] at hk
    simp only [xstA] at hs
    split at hs
    · rename_i b a r
      cases hs
      have kT : xcnd cn (w32 a) (w32 b) = true → W p l e R s m args below meth c H locs cells slots Q (F0 m X la (r.map (xval B ea))) := fun h => by
        have k := kk la hL
        simp only [h, cond_true] at k
        exact k
      have kF : xcnd cn (w32 a) (w32 b) = false → W p l e R s m args below meth c H locs cells slots Q (F0 m (pc + 3) la (r.map (xval B ea))) := fun h => by
        have k := kk la hL
        simp only [h, cond_false] at k
        exact k
      cases cn
      case eq => exact lv_icmp_eq hx hb hd hk (fun h => kT (decide_eq_true ((x_eq a b).mp h))) (fun h => kF (decide_eq_false (fun z => h ((x_eq a b).mpr z))))
      case ne => exact lv_icmp_ne hx hb hd hk (fun h => kT (decide_eq_true (fun z => h ((x_eq a b).mpr z)))) (fun h => kF (decide_eq_false (fun z => z ((x_eq a b).mp h))))
      case lt => exact lv_icmp_lt hx hb hd hk (fun h => kT (decide_eq_true ((x_lt a b).mp h))) (fun h => kF (decide_eq_false (fun z => h ((x_lt a b).mpr z))))
      case ge => exact lv_icmp_ge hx hb hd hk (fun h => kT (decide_eq_true ((x_le b a).mp h))) (fun h => kF (decide_eq_false (fun z => h ((x_le b a).mpr z))))
      case gt => exact lv_icmp_gt hx hb hd hk (fun h => kT (decide_eq_true ((x_lt b a).mp h))) (fun h => kF (decide_eq_false (fun z => h ((x_lt b a).mpr z))))
      case le => exact lv_icmp_le hx hb hd hk (fun h => kT (decide_eq_true ((x_le a b).mp h))) (fun h => kF (decide_eq_false (fun z => h ((x_le a b).mpr z))))
    · cases hs
  case invokespecial i =>
    obtain ⟨hd, hn, hk⟩ := x_okE he (fun _ _ _ _ h => by cases h)
    subst hn
    simp only [xstA] at hs
    split at hs
    · rename_i a r
      split at hs
      · rename_i hc
        cases hs
        have hk2 : decide (lw_tbl[P]? = some (Cond.methodLink own i Lib.objectInit)) = true := hk
        simp only [decide_eq_true_eq] at hk2
        exact W.objInit hx hb hown (hts _ (x_ws hk2 rfl)) (hts _ (x_wm x_oi.2 rfl)) (hts _ (x_wm x_oi.1 rfl)) rfl (by rw [hml]; exact hsz) rfl hd (by omega) (by show 2 * 0 + ((r.map (xval B ea)).map fun v => v.category).sum + 12 ≤ R.locals; rw [x_catS]; omega) (kk la hL)
      · cases hs
    · cases hs
  case invokestatic i =>
    obtain ⟨hd, hn, hk⟩ := x_okE he (fun _ _ _ _ h => by cases h)
    subst hn
    simp only [xstA] at hs
    split at hs
    · rename_i b a r
      split at hs
      · rename_i hc
        cases hs
        have hk2 : decide (lw_tbl[P]? = some (Cond.methodLink own i Lib.Math.max.name)) = true := hk
        simp only [decide_eq_true_eq] at hk2
        have k := kk la hL
        refine va_mmax hx hb (by rw [hml, hsz]) hown (hts _ (x_ws hk2 rfl)) (hts _ (x_wm x_mm.1 rfl)) (hts _ (x_wm x_mm.2.1 rfl)) (hts _ (x_wm x_mm.2.2.1 rfl)) (by omega) (by rw [x_catS]; omega) hRc hRs hd ?_
        simp only [x_lt]
        rw [show (if w32 a < w32 b then Int32.ofInt b else Int32.ofInt a) = Int32.ofInt (if w32 a < w32 b then b else a) by split <;> rfl]
        exact k
      · cases hs
    · rename_i b a r
      split at hs
      · rename_i hc
        cases hs
        have hk2 : decide (lw_tbl[P]? = some (Cond.methodLink own i Lib.Math.min.name)) = true := hk
        simp only [decide_eq_true_eq] at hk2
        have k := kk la hL
        refine va_mmin hx hb (by rw [hml, hsz]) hown (hts _ (x_ws hk2 rfl)) (hts _ (x_wm x_mm.2.2.2.1 rfl)) (hts _ (x_wm x_mm.2.1 rfl)) (hts _ (x_wm x_mm.2.2.2.2 rfl)) (by omega) (by rw [x_catS]; omega) hRc hRs hd ?_
        simp only [x_lt]
        rw [show (if w32 b < w32 a then Int32.ofInt b else Int32.ofInt a) = Int32.ofInt (if w32 b < w32 a then b else a) by split <;> rfl]
        exact k
      · cases hs
    · cases hs
  case tableswitch df lo hi offs =>
    simp only [xokE, Bool.and_eq_true, decide_eq_true_eq] at he
    obtain ⟨⟨⟨hd, hX⟩, hdf⟩, hof⟩ := he
    have hX : X = pc := Nat.eq_of_beq_eq_true hX
    subst hX
    simp only [xstA] at hs
    split at hs
    · rename_i a r
      split at hs
      · rename_i hc
        cases hs
        exact lv_tableOut hx hb hd (by rw [x_w32]; exact hc) (by rw [Int.toNat_of_nonneg (by omega)]) (kk la hL)
      · rename_i hc
        split at hs
        · rename_i o ho
          cases hs
          have ho0 : 0 ≤ o := by
            have h1 := List.all_eq_true.mp hof o (List.mem_of_getElem? (by rw [Array.getElem?_toList]; exact ho))
            simpa using h1
          exact lv_tableIn hx hb hd (by rw [x_w32]; omega) (by rw [x_w32]; omega) (by rw [x_w32]; exact ho) (by rw [Int.toNat_of_nonneg (by omega)]) (kk la hL)
        · cases hs
    · cases hs
end XA
