-- stubs: public methods of which agreement is not yet proved
theorem g_fault {ex : xO} (a1 : Int) (h1 : w32 a1 = a1) : AgI ex 65 3 157 2 [xI a1] := sorry
theorem g_green {ex : xO} (a1 : Int) (h1 : w32 a1 = a1) : AgI ex 66 5 158 3 [xI a1] := sorry
theorem g_bough {ex : xO} (a1 a2 : Int) (h1 : w32 a1 = a1) (h2 : w32 a2 = a2) : AgI ex 67 3 173 3 [xI a1, xI a2] := sorry
theorem g_death {ex : xO} (a1 a2 : Int) (h1 : w32 a1 = a1) (h2 : w32 a2 = a2) : AgI ex 68 3 175 3 [xI a1, xI a2] := sorry
theorem g_mark {ex : xO} (a1 a2 : Int) (h1 : w32 a1 = a1) (h2 : w32 a2 = a2) : AgI ex 69 4 178 4 [xI a1, xI a2] := sorry
theorem g_morning {ex : xO} : AgI ex 70 1 181 1 [] := sorry
theorem g_tell {ex : xO} (a1 : Int) (h1 : w32 a1 = a1) : AgI ex 71 2 183 2 [xI a1] := sorry
theorem g_water {ex : xO} (a1 a2 : Int) (h1 : w32 a1 = a1) (h2 : w32 a2 = a2) : AgI ex 72 3 185 3 [xI a1, xI a2] := sorry
theorem g_prune {ex : xO} (a1 : Int) (h1 : w32 a1 = a1) : AgI ex 73 3 186 3 [xI a1] := sorry
theorem g_undo {ex : xO} (a1 : Int) (h1 : w32 a1 = a1) : AgI ex 74 3 187 5 [xI a1] := sorry
theorem g_keep {ex : xO} (a1 : Int) (h1 : w32 a1 = a1) : AgI ex 75 2 188 2 [xI a1] := sorry
theorem g_on {ex : xO} (a1 : Int) (h1 : w32 a1 = a1) : AgI ex 76 2 189 2 [xI a1] := sorry
theorem g_leaves {ex : xO} (a1 : Int) (h1 : w32 a1 = a1) : AgI ex 78 3 191 4 [xI a1] := sorry
theorem g_bare {ex : xO} (a1 : Int) (h1 : w32 a1 = a1) : AgI ex 79 5 192 3 [xI a1] := sorry
theorem g_round {ex : xO} (a1 a2 : Int) (h1 : w32 a1 = a1) (h2 : w32 a2 = a2) : AgI ex 80 4 196 8 [xI a1, xI a2] := sorry
theorem g_plan {ex : xO} (a1 a2 a3 : Int) (h1 : w32 a1 = a1) (h2 : w32 a2 = a2) (h3 : w32 a3 = a3) : AgI ex 81 5 198 5 [xI a1, xI a2, xI a3] := sorry
theorem g_about {ex : xO} (a1 a2 : Int) (h1 : w32 a1 = a1) (h2 : w32 a2 = a2) : AgI ex 82 7 202 7 [xI a1, xI a2] := sorry
theorem g_sure {ex : xO} (a1 a2 : Int) (h1 : w32 a1 = a1) (h2 : w32 a2 = a2) : AgI ex 83 7 203 7 [xI a1, xI a2] := sorry
theorem g_next {ex : xO} (a1 a2 : Int) (h1 : w32 a1 = a1) (h2 : w32 a2 = a2) : AgI ex 84 8 204 12 [xI a1, xI a2] := sorry
theorem g_worths {ex : xO} (a1 a2 : Int) (h1 : w32 a1 = a1) (h2 : w32 a2 = a2) : AgI ex 85 6 207 6 [xI a1, xI a2] := sorry
theorem g_kinds {ex : xO} (a1 a2 : Int) (h1 : w32 a1 = a1) (h2 : w32 a2 = a2) : AgI ex 86 6 208 6 [xI a1, xI a2] := sorry
theorem g_sets {ex : xO} (a1 : Int) (h1 : w32 a1 = a1) : AgI ex 87 6 210 5 [xI a1] := sorry
theorem g_surely {ex : xO} (a1 : Int) (h1 : w32 a1 = a1) : AgI ex 88 7 211 6 [xI a1] := sorry
theorem g_duel {ex : xO} (a1 : Int) (h1 : w32 a1 = a1) : AgI ex 89 2 215 2 [xI a1] := sorry
theorem g_odds {ex : xO} (a1 a2 a3 : Int) (h1 : w32 a1 = a1) (h2 : w32 a2 = a2) (h3 : w32 a3 = a3) : AgI ex 90 8 218 9 [xI a1, xI a2, xI a3] := sorry
theorem g_mid {ex : xO} (a1 : Int) (h1 : w32 a1 = a1) : AgI ex 91 6 219 7 [xI a1] := sorry
theorem g_lots {ex : xO} (a1 a2 : Int) (h1 : w32 a1 = a1) (h2 : w32 a2 = a2) : AgI ex 92 6 220 9 [xI a1, xI a2] := sorry
theorem g_count {ex : xO} (a1 : Int) (h1 : w32 a1 = a1) : AgI ex 96 2 230 2 [xI a1] := sorry
theorem g_digest {ex : xO} : AgL ex 99 5 234 3 [] := sorry
