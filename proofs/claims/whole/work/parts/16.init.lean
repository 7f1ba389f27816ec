-- THE CONSTRUCTORS, BY EVALUATION (a heap a stage)
def x_c0 : Nat → Nat → Int := xrow (fun _ _ => 0) 0 (fun _ => 0)
def x_r0 : Nat → Nat → Option Nat := xrow (fun _ _ => none) 0 (fun _ => none)
def x_c1 : Nat → Nat → Int := (xup (xup (xrow (xrow (xrow x_c0 1 (fun _ => 0)) 2 (fun _ => 0)) 3 (fun _ => 0)) 3 0 (0)) 3 1 (-9))
def x_r1 : Nat → Nat → Option Nat := (xrow (xup (xrow (xup (xrow x_r0 1 (fun _ => none)) 0 0 (some 1)) 2 (fun _ => none)) 0 1 (some 2)) 3 (fun _ => none))
def x_c2 : Nat → Nat → Int := (xup (xup (xup (xup (xrow (xrow (xrow x_c1 4 (fun _ => 0)) 5 (fun _ => 0)) 6 (fun _ => 0)) 4 2 (0)) 4 3 (-9)) 4 4 (0)) 4 5 (0))
def x_r2 : Nat → Nat → Option Nat := (xup (xrow (xup (xrow (xrow (xup x_r1 0 2 (some 3)) 4 (fun _ => none)) 5 (fun _ => none)) 4 0 (some 5)) 6 (fun _ => none)) 4 1 (some 6))
def x_c3 : Nat → Nat → Int := (xrow (xrow (xrow (xup (xrow x_c2 7 (fun _ => 0)) 7 0 (-1)) 8 (fun _ => 0)) 9 (fun _ => 0)) 10 (fun _ => 0))
def x_r3 : Nat → Nat → Option Nat := (xup (xrow (xup (xrow (xup (xrow (xrow (xup x_r2 0 3 (some 4)) 7 (fun _ => none)) 8 (fun _ => none)) 7 1 (some 8)) 9 (fun _ => none)) 7 2 (some 9)) 10 (fun _ => none)) 7 3 (some 10))
def x_c4 : Nat → Nat → Int := (xrow (xrow (xrow (xup (xup (xup (xrow (xrow (xrow (xrow x_c3 11 (fun _ => 0)) 12 (fun _ => 0)) 13 (fun _ => 0)) 14 (fun _ => 0)) 14 0 (0)) 14 1 (0)) 14 2 (0)) 15 (fun _ => 0)) 16 (fun _ => 0)) 17 (fun _ => 0))
def x_r4 : Nat → Nat → Option Nat := (xup (xrow (xup (xrow (xup (xrow (xrow (xup (xrow (xup (xrow (xup (xrow (xup x_r3 0 4 (some 7)) 11 (fun _ => none)) 0 5 (some 11)) 12 (fun _ => none)) 0 6 (some 12)) 13 (fun _ => none)) 0 7 (some 13)) 14 (fun _ => none)) 15 (fun _ => none)) 14 3 (some 15)) 16 (fun _ => none)) 14 4 (some 16)) 17 (fun _ => none)) 14 5 (some 17))
def x_c5 : Nat → Nat → Int := (xrow (xrow (xrow (xup (xup (xup (xrow x_c4 18 (fun _ => 0)) 18 0 (0)) 18 1 (0)) 18 2 (0)) 19 (fun _ => 0)) 20 (fun _ => 0)) 21 (fun _ => 0))
def x_r5 : Nat → Nat → Option Nat := (xup (xrow (xup (xrow (xup (xrow (xrow (xup x_r4 0 8 (some 14)) 18 (fun _ => none)) 19 (fun _ => none)) 18 3 (some 19)) 20 (fun _ => none)) 18 4 (some 20)) 21 (fun _ => none)) 18 5 (some 21))
def x_c6 : Nat → Nat → Int := (xrow (xup (xrow (xup (xup (xup (xup x_c5 0 10 (0)) 0 11 (0)) 0 12 (1)) 0 13 (0)) 22 (fun _ => 0)) 22 0 (-1)) 23 (fun _ => 0))
def x_r6 : Nat → Nat → Option Nat := (xup (xrow (xrow (xup x_r5 0 9 (some 18)) 22 (fun _ => none)) 23 (fun _ => none)) 22 1 (some 23))
def x_c7 : Nat → Nat → Int := (xrow (xup (xrow x_c6 24 (fun _ => 0)) 24 0 (-1)) 25 (fun _ => 0))
def x_r7 : Nat → Nat → Option Nat := (xup (xrow (xrow (xup x_r6 1 0 (some 22)) 24 (fun _ => none)) 25 (fun _ => none)) 24 1 (some 25))
def x_c8 : Nat → Nat → Int := (xrow (xup (xrow x_c7 26 (fun _ => 0)) 26 0 (-1)) 27 (fun _ => 0))
def x_r8 : Nat → Nat → Option Nat := (xup (xrow (xrow (xup x_r7 1 1 (some 24)) 26 (fun _ => none)) 27 (fun _ => none)) 26 1 (some 27))
def x_c9 : Nat → Nat → Int := (xrow (xup (xrow x_c8 28 (fun _ => 0)) 28 0 (-1)) 29 (fun _ => 0))
def x_r9 : Nat → Nat → Option Nat := (xup (xrow (xrow (xup x_r8 1 2 (some 26)) 28 (fun _ => none)) 29 (fun _ => none)) 28 1 (some 29))
def x_c10 : Nat → Nat → Int := (xrow (xup (xrow x_c9 30 (fun _ => 0)) 30 0 (-1)) 31 (fun _ => 0))
def x_r10 : Nat → Nat → Option Nat := (xup (xrow (xrow (xup x_r9 1 3 (some 28)) 30 (fun _ => none)) 31 (fun _ => none)) 30 1 (some 31))
def x_c11 : Nat → Nat → Int := (xrow (xup (xrow x_c10 32 (fun _ => 0)) 32 0 (-1)) 33 (fun _ => 0))
def x_r11 : Nat → Nat → Option Nat := (xup (xrow (xrow (xup x_r10 1 4 (some 30)) 32 (fun _ => none)) 33 (fun _ => none)) 32 1 (some 33))
def x_c12 : Nat → Nat → Int := (xrow (xup (xrow x_c11 34 (fun _ => 0)) 34 0 (-1)) 35 (fun _ => 0))
def x_r12 : Nat → Nat → Option Nat := (xup (xrow (xrow (xup x_r11 1 5 (some 32)) 34 (fun _ => none)) 35 (fun _ => none)) 34 1 (some 35))
def x_c13 : Nat → Nat → Int := (xrow (xup (xrow x_c12 36 (fun _ => 0)) 36 0 (-1)) 37 (fun _ => 0))
def x_r13 : Nat → Nat → Option Nat := (xup (xrow (xrow (xup x_r12 2 0 (some 34)) 36 (fun _ => none)) 37 (fun _ => none)) 36 1 (some 37))
def x_c14 : Nat → Nat → Int := (xrow (xup (xrow x_c13 38 (fun _ => 0)) 38 0 (-1)) 39 (fun _ => 0))
def x_r14 : Nat → Nat → Option Nat := (xup (xrow (xrow (xup x_r13 2 1 (some 36)) 38 (fun _ => none)) 39 (fun _ => none)) 38 1 (some 39))
def x_c15 : Nat → Nat → Int := (xrow (xup (xrow x_c14 40 (fun _ => 0)) 40 0 (-1)) 41 (fun _ => 0))
def x_r15 : Nat → Nat → Option Nat := (xup (xrow (xrow (xup x_r14 2 2 (some 38)) 40 (fun _ => none)) 41 (fun _ => none)) 40 1 (some 41))
def x_c16 : Nat → Nat → Int := (xrow (xrow (xrow (xup (xrow x_c15 42 (fun _ => 0)) 42 0 (-1)) 43 (fun _ => 0)) 44 (fun _ => 0)) 45 (fun _ => 0))
def x_r16 : Nat → Nat → Option Nat := (xup (xrow (xup (xrow (xup (xrow (xrow (xup x_r15 2 3 (some 40)) 42 (fun _ => none)) 43 (fun _ => none)) 42 1 (some 43)) 44 (fun _ => none)) 42 2 (some 44)) 45 (fun _ => none)) 42 3 (some 45))
def x_c17 : Nat → Nat → Int := (xrow (xrow (xrow (xup (xrow x_c16 46 (fun _ => 0)) 46 0 (-1)) 47 (fun _ => 0)) 48 (fun _ => 0)) 49 (fun _ => 0))
def x_r17 : Nat → Nat → Option Nat := (xup (xrow (xup (xrow (xup (xrow (xrow (xup x_r16 11 0 (some 42)) 46 (fun _ => none)) 47 (fun _ => none)) 46 1 (some 47)) 48 (fun _ => none)) 46 2 (some 48)) 49 (fun _ => none)) 46 3 (some 49))
def x_c18 : Nat → Nat → Int := (xrow (xrow (xrow (xup (xrow x_c17 50 (fun _ => 0)) 50 0 (-1)) 51 (fun _ => 0)) 52 (fun _ => 0)) 53 (fun _ => 0))
def x_r18 : Nat → Nat → Option Nat := (xup (xrow (xup (xrow (xup (xrow (xrow (xup x_r17 11 1 (some 46)) 50 (fun _ => none)) 51 (fun _ => none)) 50 1 (some 51)) 52 (fun _ => none)) 50 2 (some 52)) 53 (fun _ => none)) 50 3 (some 53))
def x_c19 : Nat → Nat → Int := (xup (xup (xup (xup x_c18 7 0 (0)) 8 0 (0)) 9 0 (0)) 10 0 (0))
def x_r19 : Nat → Nat → Option Nat := (xup x_r18 11 2 (some 50))
def x_c20 : Nat → Nat → Int := x_c19
def x_r20 : Nat → Nat → Option Nat := x_r19
def x_c21 : Nat → Nat → Int := (xrow x_c20 54 (fun _ => 0))
def x_r21 : Nat → Nat → Option Nat := (xrow x_r20 54 (fun _ => none))
def x_c22 : Nat → Nat → Int := (xup (xup (xup (xup (xup (xup (xup (xup (xup (xup (xrow (xrow (xrow (xrow (xrow (xrow (xrow (xrow (xrow (xrow (xup (xrow (xrow (xrow (xrow (xrow (xrow x_c21 55 (fun _ => 0)) 56 (fun _ => 0)) 57 (fun _ => 0)) 58 (fun _ => 0)) 59 (fun _ => 0)) 60 (fun _ => 0)) 54 9 (1)) 61 (fun _ => 0)) 62 (fun _ => 0)) 63 (fun _ => 0)) 64 (fun _ => 0)) 65 (fun _ => 0)) 66 (fun _ => 0)) 67 (fun _ => 0)) 68 (fun _ => 0)) 69 (fun _ => 0)) 70 (fun _ => 0)) 56 0 (-1)) 56 1 (-1)) 56 2 (-1)) 56 3 (-1)) 56 4 (-1)) 56 5 (-1)) 58 0 (-1)) 58 1 (-1)) 58 2 (-1)) 58 3 (-1))
def x_r22 : Nat → Nat → Option Nat := (xup (xrow (xup (xrow (xup (xrow (xup (xrow (xup (xrow (xup (xrow (xup (xrow (xup (xrow (xup (xrow (xup (xrow (xup (xrow (xup (xrow (xup (xrow (xup (xrow (xup (xrow (xup (xrow x_r21 55 (fun _ => none)) 54 0 (some 55)) 56 (fun _ => none)) 54 1 (some 56)) 57 (fun _ => none)) 54 2 (some 57)) 58 (fun _ => none)) 54 3 (some 58)) 59 (fun _ => none)) 54 4 (some 59)) 60 (fun _ => none)) 54 6 (some 60)) 61 (fun _ => none)) 54 10 (some 61)) 62 (fun _ => none)) 54 15 (some 62)) 63 (fun _ => none)) 54 16 (some 63)) 64 (fun _ => none)) 54 17 (some 64)) 65 (fun _ => none)) 54 18 (some 65)) 66 (fun _ => none)) 54 19 (some 66)) 67 (fun _ => none)) 54 20 (some 67)) 68 (fun _ => none)) 54 21 (some 68)) 69 (fun _ => none)) 54 22 (some 69)) 70 (fun _ => none)) 54 23 (some 70))
set_option maxRecDepth 100000 in
set_option maxHeartbeats 4000000 in
theorem x_init1 (ex : xO) : An ex 24 56 2 [xA 0] (1, 14, 0, xS, x_c0, x_r0) (xU, (54, 1119, 0, xS, x_c20, x_r20)) := by
  refine Rn.run 13 rfl ?_
  refine Rn.call (h' := (4, 26, 0, xS, x_c1, x_r1)) rfl rfl rfl rfl rfl ⟨14, rfl⟩ ?_
  refine Rn.run 4 rfl ?_
  refine Rn.call (h' := (7, 44, 0, xS, x_c2, x_r2)) rfl rfl rfl rfl rfl ⟨28, rfl⟩ ?_
  refine Rn.run 4 rfl ?_
  refine Rn.call (h' := (11, 171, 0, xS, x_c3, x_r3)) rfl rfl rfl rfl rfl ⟨23, rfl⟩ ?_
  refine Rn.run 16 rfl ?_
  refine Rn.call (h' := (18, 214, 0, xS, x_c4, x_r4)) rfl rfl rfl rfl rfl ⟨29, rfl⟩ ?_
  refine Rn.run 4 rfl ?_
  refine Rn.call (h' := (22, 238, 0, xS, x_c5, x_r5)) rfl rfl rfl rfl rfl ⟨29, rfl⟩ ?_
  refine Rn.run 23 rfl ?_
  refine Rn.call (h' := (24, 280, 0, xS, x_c6, x_r6)) rfl rfl rfl rfl rfl ⟨15, rfl⟩ ?_
  refine Rn.run 11 rfl ?_
  refine Rn.call (h' := (26, 322, 0, xS, x_c7, x_r7)) rfl rfl rfl rfl rfl ⟨15, rfl⟩ ?_
  refine Rn.run 11 rfl ?_
  refine Rn.call (h' := (28, 364, 0, xS, x_c8, x_r8)) rfl rfl rfl rfl rfl ⟨15, rfl⟩ ?_
  refine Rn.run 11 rfl ?_
  refine Rn.call (h' := (30, 406, 0, xS, x_c9, x_r9)) rfl rfl rfl rfl rfl ⟨15, rfl⟩ ?_
  refine Rn.run 11 rfl ?_
  refine Rn.call (h' := (32, 448, 0, xS, x_c10, x_r10)) rfl rfl rfl rfl rfl ⟨15, rfl⟩ ?_
  refine Rn.run 11 rfl ?_
  refine Rn.call (h' := (34, 490, 0, xS, x_c11, x_r11)) rfl rfl rfl rfl rfl ⟨15, rfl⟩ ?_
  refine Rn.run 16 rfl ?_
  refine Rn.call (h' := (36, 552, 0, xS, x_c12, x_r12)) rfl rfl rfl rfl rfl ⟨15, rfl⟩ ?_
  refine Rn.run 11 rfl ?_
  refine Rn.call (h' := (38, 614, 0, xS, x_c13, x_r13)) rfl rfl rfl rfl rfl ⟨15, rfl⟩ ?_
  refine Rn.run 11 rfl ?_
  refine Rn.call (h' := (40, 676, 0, xS, x_c14, x_r14)) rfl rfl rfl rfl rfl ⟨15, rfl⟩ ?_
  refine Rn.run 11 rfl ?_
  refine Rn.call (h' := (42, 738, 0, xS, x_c15, x_r15)) rfl rfl rfl rfl rfl ⟨15, rfl⟩ ?_
  refine Rn.run 16 rfl ?_
  refine Rn.call (h' := (46, 865, 0, xS, x_c16, x_r16)) rfl rfl rfl rfl rfl ⟨23, rfl⟩ ?_
  refine Rn.run 11 rfl ?_
  refine Rn.call (h' := (50, 992, 0, xS, x_c17, x_r17)) rfl rfl rfl rfl rfl ⟨23, rfl⟩ ?_
  refine Rn.run 11 rfl ?_
  refine Rn.call (h' := (54, 1119, 0, xS, x_c18, x_r18)) rfl rfl rfl rfl rfl ⟨23, rfl⟩ ?_
  refine Rn.run 9 rfl ?_
  refine Rn.call (h' := (54, 1119, 0, xS, x_c19, x_r19)) rfl rfl rfl rfl rfl ⟨24, rfl⟩ ?_
  refine Rn.run (h' := (54, 1119, 0, xS, x_c20, x_r20)) 0 rfl ?_
  exact Rn.ret rfl rfl rfl rfl rfl rfl
set_option maxRecDepth 100000 in
set_option maxHeartbeats 4000000 in
theorem x_init2 (ex : xO) : An ex 24 130 2 [xA 54] (55, 1144, 0, xS, x_c21, x_r21) (xU, (71, 3590, 0, xS, x_c22, x_r22)) := by
  refine Rn.run (h' := (71, 3590, 0, xS, x_c22, x_r22)) 179 rfl ?_
  exact Rn.ret rfl rfl rfl rfl rfl rfl
def x_cD : Nat → Nat → Int := x_c22
def x_rD : Nat → Nat → Option Nat := x_r22
set_option maxRecDepth 100000 in
theorem x_init (ex : xO) (o : xV × xH) (hr : Rn ex xt240 25 18 [xX 0, xA 0, xA 54, xI 0] [] (71, 3590, 0, xS, x_cD, x_rD) o) : Rn ex (xtb 240) 25 0 (xpad 4 (xent [xX 0])) [] x_h0 o := by
  refine Rn.run (h' := (1, 14, 0, xS, x_c0, x_r0)) 2 rfl ?_
  refine Rn.call rfl rfl rfl rfl rfl (x_init1 ex) ?_
  refine Rn.run (h' := (55, 1144, 0, xS, x_c21, x_r21)) 3 rfl ?_
  refine Rn.call rfl rfl rfl rfl rfl (x_init2 ex) ?_
  refine Rn.run 3 rfl ?_
  exact hr
set_option maxRecDepth 100000 in
set_option maxHeartbeats 4000000 in
theorem x_rEq : x_rD = xR false := by
  funext a k
  match a with
  | 0 => match k with
    | 0 => rfl
    | 1 => rfl
    | 2 => rfl
    | 3 => rfl
    | 4 => rfl
    | 5 => rfl
    | 6 => rfl
    | 7 => rfl
    | 8 => rfl
    | 9 => rfl
    | k + 10 => rfl
  | 1 => match k with
    | 0 => rfl
    | 1 => rfl
    | 2 => rfl
    | 3 => rfl
    | 4 => rfl
    | 5 => rfl
    | k + 6 => rfl
  | 2 => match k with
    | 0 => rfl
    | 1 => rfl
    | 2 => rfl
    | 3 => rfl
    | k + 4 => rfl
  | 3 => rfl
  | 4 => match k with
    | 0 => rfl
    | 1 => rfl
    | k + 2 => rfl
  | 5 => rfl
  | 6 => rfl
  | 7 => match k with
    | 0 => rfl
    | 1 => rfl
    | 2 => rfl
    | 3 => rfl
    | k + 4 => rfl
  | 8 => rfl
  | 9 => rfl
  | 10 => rfl
  | 11 => match k with
    | 0 => rfl
    | 1 => rfl
    | 2 => rfl
    | k + 3 => rfl
  | 12 => rfl
  | 13 => rfl
  | 14 => match k with
    | 0 => rfl
    | 1 => rfl
    | 2 => rfl
    | 3 => rfl
    | 4 => rfl
    | 5 => rfl
    | k + 6 => rfl
  | 15 => rfl
  | 16 => rfl
  | 17 => rfl
  | 18 => match k with
    | 0 => rfl
    | 1 => rfl
    | 2 => rfl
    | 3 => rfl
    | 4 => rfl
    | 5 => rfl
    | k + 6 => rfl
  | 19 => rfl
  | 20 => rfl
  | 21 => rfl
  | 22 => match k with
    | 0 => rfl
    | 1 => rfl
    | k + 2 => rfl
  | 23 => rfl
  | 24 => match k with
    | 0 => rfl
    | 1 => rfl
    | k + 2 => rfl
  | 25 => rfl
  | 26 => match k with
    | 0 => rfl
    | 1 => rfl
    | k + 2 => rfl
  | 27 => rfl
  | 28 => match k with
    | 0 => rfl
    | 1 => rfl
    | k + 2 => rfl
  | 29 => rfl
  | 30 => match k with
    | 0 => rfl
    | 1 => rfl
    | k + 2 => rfl
  | 31 => rfl
  | 32 => match k with
    | 0 => rfl
    | 1 => rfl
    | k + 2 => rfl
  | 33 => rfl
  | 34 => match k with
    | 0 => rfl
    | 1 => rfl
    | k + 2 => rfl
  | 35 => rfl
  | 36 => match k with
    | 0 => rfl
    | 1 => rfl
    | k + 2 => rfl
  | 37 => rfl
  | 38 => match k with
    | 0 => rfl
    | 1 => rfl
    | k + 2 => rfl
  | 39 => rfl
  | 40 => match k with
    | 0 => rfl
    | 1 => rfl
    | k + 2 => rfl
  | 41 => rfl
  | 42 => match k with
    | 0 => rfl
    | 1 => rfl
    | 2 => rfl
    | 3 => rfl
    | k + 4 => rfl
  | 43 => rfl
  | 44 => rfl
  | 45 => rfl
  | 46 => match k with
    | 0 => rfl
    | 1 => rfl
    | 2 => rfl
    | 3 => rfl
    | k + 4 => rfl
  | 47 => rfl
  | 48 => rfl
  | 49 => rfl
  | 50 => match k with
    | 0 => rfl
    | 1 => rfl
    | 2 => rfl
    | 3 => rfl
    | k + 4 => rfl
  | 51 => rfl
  | 52 => rfl
  | 53 => rfl
  | 54 => match k with
    | 0 => rfl
    | 1 => rfl
    | 2 => rfl
    | 3 => rfl
    | 4 => rfl
    | 5 => rfl
    | 6 => rfl
    | 7 => rfl
    | 8 => rfl
    | 9 => rfl
    | 10 => rfl
    | 11 => rfl
    | 12 => rfl
    | 13 => rfl
    | 14 => rfl
    | 15 => rfl
    | 16 => rfl
    | 17 => rfl
    | 18 => rfl
    | 19 => rfl
    | 20 => rfl
    | 21 => rfl
    | 22 => rfl
    | 23 => rfl
    | k + 24 => rfl
  | 55 => rfl
  | 56 => rfl
  | 57 => rfl
  | 58 => rfl
  | 59 => rfl
  | 60 => rfl
  | 61 => rfl
  | 62 => rfl
  | 63 => rfl
  | 64 => rfl
  | 65 => rfl
  | 66 => rfl
  | 67 => rfl
  | 68 => rfl
  | 69 => rfl
  | 70 => rfl
  | a + 71 => simp [x_rD, x_r0, x_r1, x_r2, x_r3, x_r4, x_r5, x_r6, x_r7, x_r8, x_r9, x_r10, x_r11, x_r12, x_r13, x_r14, x_r15, x_r16, x_r17, x_r18, x_r19, x_r20, x_r21, x_r22, xrow, xup, xR]
