set_option maxRecDepth 100000 in
theorem xok80 : xokT yX8_round.cls cX8_round (Option.some Jvm.ClassFile.FieldType.int) yX8_round.name xt80 = true := by decide +kernel
set_option maxRecDepth 100000 in
theorem xok81 : xokT yX8_plan.cls cX8_plan (Option.some Jvm.ClassFile.FieldType.int) yX8_plan.name xt81 = true := by decide +kernel
set_option maxRecDepth 100000 in
theorem xok82 : xokT yX8_about.cls cX8_about (Option.some Jvm.ClassFile.FieldType.int) yX8_about.name xt82 = true := by decide +kernel
set_option maxRecDepth 100000 in
theorem xok83 : xokT yX8_sure.cls cX8_sure (Option.some Jvm.ClassFile.FieldType.int) yX8_sure.name xt83 = true := by decide +kernel
set_option maxRecDepth 100000 in
theorem xok84 : xokT yX8_next.cls cX8_next (Option.some Jvm.ClassFile.FieldType.int) yX8_next.name xt84 = true := by decide +kernel
set_option maxRecDepth 100000 in
theorem xok85 : xokT yX8_worths.cls cX8_worths (Option.some Jvm.ClassFile.FieldType.int) yX8_worths.name xt85 = true := by decide +kernel
set_option maxRecDepth 100000 in
theorem xok86 : xokT yX8_kinds.cls cX8_kinds (Option.some Jvm.ClassFile.FieldType.int) yX8_kinds.name xt86 = true := by decide +kernel
set_option maxRecDepth 100000 in
theorem xok87 : xokT yX8_sets.cls cX8_sets (Option.some Jvm.ClassFile.FieldType.int) yX8_sets.name xt87 = true := by decide +kernel
set_option maxRecDepth 100000 in
theorem xok88 : xokT yX8_surely.cls cX8_surely (Option.some Jvm.ClassFile.FieldType.int) yX8_surely.name xt88 = true := by decide +kernel
set_option maxRecDepth 100000 in
theorem xok89 : xokT yX8_duel.cls cX8_duel (Option.some Jvm.ClassFile.FieldType.int) yX8_duel.name xt89 = true := by decide +kernel
set_option maxRecDepth 100000 in
theorem xok90 : xokT yX8_odds.cls cX8_odds (Option.some Jvm.ClassFile.FieldType.int) yX8_odds.name xt90 = true := by decide +kernel
set_option maxRecDepth 100000 in
theorem xok91 : xokT yX8_mid.cls cX8_mid (Option.some Jvm.ClassFile.FieldType.int) yX8_mid.name xt91 = true := by decide +kernel
set_option maxRecDepth 100000 in
theorem xok92 : xokT yX8_lots.cls cX8_lots (Option.some Jvm.ClassFile.FieldType.int) yX8_lots.name xt92 = true := by decide +kernel
set_option maxRecDepth 100000 in
theorem xok93 : xokT yX8_asked.cls cX8_asked (Option.some Jvm.ClassFile.FieldType.int) yX8_asked.name xt93 = true := by decide +kernel
set_option maxRecDepth 100000 in
theorem xok94 : xokT yX8_upper.cls cX8_upper (Option.some Jvm.ClassFile.FieldType.long) yX8_upper.name xt94 = true := by decide +kernel
set_option maxRecDepth 100000 in
theorem xok95 : xokT yX8_lower.cls cX8_lower (Option.some Jvm.ClassFile.FieldType.long) yX8_lower.name xt95 = true := by decide +kernel
set_option maxRecDepth 100000 in
theorem xok96 : xokT yX8_count.cls cX8_count (Option.some Jvm.ClassFile.FieldType.int) yX8_count.name xt96 = true := by decide +kernel
set_option maxRecDepth 100000 in
theorem xok97 : xokT yX8_finding.cls cX8_finding (Option.some Jvm.ClassFile.FieldType.int) yX8_finding.name xt97 = true := by decide +kernel
set_option maxRecDepth 100000 in
theorem xok98 : xokT yX8_findings.cls cX8_findings (Option.some Jvm.ClassFile.FieldType.int) yX8_findings.name xt98 = true := by decide +kernel
set_option maxRecDepth 100000 in
theorem xok99 : xokT yX8_digest.cls cX8_digest (Option.some Jvm.ClassFile.FieldType.long) yX8_digest.name xt99 = true := by decide +kernel
set_option maxRecDepth 100000 in
theorem xok100 : xokT yX8_isWithin.cls cX8_isWithin (Option.some Jvm.ClassFile.FieldType.boolean) yX8_isWithin.name xt100 = true := by decide +kernel
set_option maxRecDepth 100000 in
theorem xok101 : xokT yX8_find.cls cX8_find (Option.some Jvm.ClassFile.FieldType.int) yX8_find.name xt101 = true := by decide +kernel
set_option maxRecDepth 100000 in
theorem xok102 : xokT yX8_say.cls cX8_say (Option.some Jvm.ClassFile.FieldType.int) yX8_say.name xt102 = true := by decide +kernel
set_option maxRecDepth 100000 in
theorem xok103 : xokT yX8_setRatio.cls cX8_setRatio (Option.none : Option Jvm.ClassFile.FieldType) yX8_setRatio.name xt103 = true := by decide +kernel
set_option maxRecDepth 100000 in
theorem xok104 : xokT yX8_greatestDivisor.cls cX8_greatestDivisor (Option.some Jvm.ClassFile.FieldType.long) yX8_greatestDivisor.name xt104 = true := by decide +kernel
set_option maxRecDepth 100000 in
theorem xok105 : xokT yX8_power.cls cX8_power (Option.some Jvm.ClassFile.FieldType.long) yX8_power.name xt105 = true := by decide +kernel
set_option maxRecDepth 100000 in
theorem xok106 : xokT yX8_rowRefusal.cls cX8_rowRefusal (Option.some Jvm.ClassFile.FieldType.int) yX8_rowRefusal.name xt106 = true := by decide +kernel
set_option maxRecDepth 100000 in
theorem xok107 : xokT yX8_placeRefusal.cls cX8_placeRefusal (Option.some Jvm.ClassFile.FieldType.int) yX8_placeRefusal.name xt107 = true := by decide +kernel
set_option maxRecDepth 100000 in
theorem xok108 : xokT yX8_textRefusal.cls cX8_textRefusal (Option.some Jvm.ClassFile.FieldType.int) yX8_textRefusal.name xt108 = true := by decide +kernel
set_option maxRecDepth 100000 in
theorem xok109 : xokT yX8_watchRefusal.cls cX8_watchRefusal (Option.some Jvm.ClassFile.FieldType.int) yX8_watchRefusal.name xt109 = true := by decide +kernel
set_option maxRecDepth 100000 in
theorem xok110 : xokT yX8_pairsRefusal.cls cX8_pairsRefusal (Option.some Jvm.ClassFile.FieldType.int) yX8_pairsRefusal.name xt110 = true := by decide +kernel
set_option maxRecDepth 100000 in
theorem xok111 : xokT yX8_worthRefusal.cls cX8_worthRefusal (Option.some Jvm.ClassFile.FieldType.int) yX8_worthRefusal.name xt111 = true := by decide +kernel
set_option maxRecDepth 100000 in
theorem xok112 : xokT yX8_leavesAt.cls cX8_leavesAt (Option.some Jvm.ClassFile.FieldType.int) yX8_leavesAt.name xt112 = true := by decide +kernel
set_option maxRecDepth 100000 in
theorem xok113 : xokT yX8_factOf.cls cX8_factOf (Option.some Jvm.ClassFile.FieldType.int) yX8_factOf.name xt113 = true := by decide +kernel
set_option maxRecDepth 100000 in
theorem xok114 : xokT yX8_fewestForNine.cls cX8_fewestForNine (Option.some Jvm.ClassFile.FieldType.int) yX8_fewestForNine.name xt114 = true := by decide +kernel
set_option maxRecDepth 100000 in
theorem xok115 : xokT yX8_rowsThere.cls cX8_rowsThere (Option.some Jvm.ClassFile.FieldType.int) yX8_rowsThere.name xt115 = true := by decide +kernel
set_option maxRecDepth 100000 in
theorem xok116 : xokT yX8_textsThere.cls cX8_textsThere (Option.some Jvm.ClassFile.FieldType.int) yX8_textsThere.name xt116 = true := by decide +kernel
set_option maxRecDepth 100000 in
theorem xok117 : xokT yX8_keptThere.cls cX8_keptThere (Option.some Jvm.ClassFile.FieldType.int) yX8_keptThere.name xt117 = true := by decide +kernel
set_option maxRecDepth 100000 in
theorem xok118 : xokT yX8_doMorning.cls cX8_doMorning (Option.none : Option Jvm.ClassFile.FieldType) yX8_doMorning.name xt118 = true := by decide +kernel
set_option maxRecDepth 100000 in
theorem xok119 : xokT yX8_doTelling.cls cX8_doTelling (Option.none : Option Jvm.ClassFile.FieldType) yX8_doTelling.name xt119 = true := by decide +kernel
