set_option maxRecDepth 100000 in
theorem xok200 : xokT yX9_areFigures.cls cX9_areFigures (Option.some Jvm.ClassFile.FieldType.boolean) yX9_areFigures.name xt200 = true := by decide +kernel
set_option maxRecDepth 100000 in
theorem xok201 : xokT yX9_laysFits.cls cX9_laysFits (Option.some Jvm.ClassFile.FieldType.int) yX9_laysFits.name xt201 = true := by decide +kernel
set_option maxRecDepth 100000 in
theorem xok202 : xokT yX9_about.cls cX9_about (Option.some Jvm.ClassFile.FieldType.int) yX9_about.name xt202 = true := by decide +kernel
set_option maxRecDepth 100000 in
theorem xok203 : xokT yX9_sure.cls cX9_sure (Option.some Jvm.ClassFile.FieldType.int) yX9_sure.name xt203 = true := by decide +kernel
set_option maxRecDepth 100000 in
theorem xok204 : xokT yX9_next.cls cX9_next (Option.some Jvm.ClassFile.FieldType.int) yX9_next.name xt204 = true := by decide +kernel
set_option maxRecDepth 100000 in
theorem xok205 : xokT yX9_againstPairs.cls cX9_againstPairs (Option.some Jvm.ClassFile.FieldType.int) yX9_againstPairs.name xt205 = true := by decide +kernel
set_option maxRecDepth 100000 in
theorem xok206 : xokT yX9_answersSo.cls cX9_answersSo (Option.some Jvm.ClassFile.FieldType.boolean) yX9_answersSo.name xt206 = true := by decide +kernel
set_option maxRecDepth 100000 in
theorem xok207 : xokT yX9_worths.cls cX9_worths (Option.some Jvm.ClassFile.FieldType.int) yX9_worths.name xt207 = true := by decide +kernel
set_option maxRecDepth 100000 in
theorem xok208 : xokT yX9_kinds.cls cX9_kinds (Option.some Jvm.ClassFile.FieldType.int) yX9_kinds.name xt208 = true := by decide +kernel
set_option maxRecDepth 100000 in
theorem xok209 : xokT yX9_worthOf.cls cX9_worthOf (Option.some Jvm.ClassFile.FieldType.int) yX9_worthOf.name xt209 = true := by decide +kernel
set_option maxRecDepth 100000 in
theorem xok210 : xokT yX9_sets.cls cX9_sets (Option.some Jvm.ClassFile.FieldType.int) yX9_sets.name xt210 = true := by decide +kernel
set_option maxRecDepth 100000 in
theorem xok211 : xokT yX9_surely.cls cX9_surely (Option.some Jvm.ClassFile.FieldType.int) yX9_surely.name xt211 = true := by decide +kernel
set_option maxRecDepth 100000 in
theorem xok212 : xokT yX9_evensMore.cls cX9_evensMore (Option.some Jvm.ClassFile.FieldType.int) yX9_evensMore.name xt212 = true := by decide +kernel
set_option maxRecDepth 100000 in
theorem xok213 : xokT yX9_tellsTurns.cls cX9_tellsTurns (Option.some Jvm.ClassFile.FieldType.int) yX9_tellsTurns.name xt213 = true := by decide +kernel
set_option maxRecDepth 100000 in
theorem xok214 : xokT yX9_playsOut.cls cX9_playsOut (Option.some Jvm.ClassFile.FieldType.int) yX9_playsOut.name xt214 = true := by decide +kernel
set_option maxRecDepth 100000 in
theorem xok215 : xokT yX9_duel.cls cX9_duel (Option.some Jvm.ClassFile.FieldType.int) yX9_duel.name xt215 = true := by decide +kernel
set_option maxRecDepth 100000 in
theorem xok216 : xokT yX9_chancesOf.cls cX9_chancesOf (Option.some Jvm.ClassFile.FieldType.long) yX9_chancesOf.name xt216 = true := by decide +kernel
set_option maxRecDepth 100000 in
theorem xok217 : xokT yX9_down.cls cX9_down (Option.some Jvm.ClassFile.FieldType.long) yX9_down.name xt217 = true := by decide +kernel
set_option maxRecDepth 100000 in
theorem xok218 : xokT yX9_odds.cls cX9_odds (Option.some Jvm.ClassFile.FieldType.int) yX9_odds.name xt218 = true := by decide +kernel
set_option maxRecDepth 100000 in
theorem xok219 : xokT yX9_mid.cls cX9_mid (Option.some Jvm.ClassFile.FieldType.int) yX9_mid.name xt219 = true := by decide +kernel
set_option maxRecDepth 100000 in
theorem xok220 : xokT yX9_lots.cls cX9_lots (Option.some Jvm.ClassFile.FieldType.int) yX9_lots.name xt220 = true := by decide +kernel
set_option maxRecDepth 100000 in
theorem xok221 : xokT yX9_asked.cls cX9_asked (Option.some Jvm.ClassFile.FieldType.int) yX9_asked.name xt221 = true := by decide +kernel
set_option maxRecDepth 100000 in
theorem xok222 : xokT yX9_upper.cls cX9_upper (Option.some Jvm.ClassFile.FieldType.long) yX9_upper.name xt222 = true := by decide +kernel
set_option maxRecDepth 100000 in
theorem xok223 : xokT yX9_lower.cls cX9_lower (Option.some Jvm.ClassFile.FieldType.long) yX9_lower.name xt223 = true := by decide +kernel
set_option maxRecDepth 100000 in
theorem xok224 : xokT yX9_rowsThere.cls cX9_rowsThere (Option.some Jvm.ClassFile.FieldType.int) yX9_rowsThere.name xt224 = true := by decide +kernel
set_option maxRecDepth 100000 in
theorem xok225 : xokT yX9_textsThere.cls cX9_textsThere (Option.some Jvm.ClassFile.FieldType.int) yX9_textsThere.name xt225 = true := by decide +kernel
set_option maxRecDepth 100000 in
theorem xok226 : xokT yX9_greensKept.cls cX9_greensKept (Option.some Jvm.ClassFile.FieldType.int) yX9_greensKept.name xt226 = true := by decide +kernel
set_option maxRecDepth 100000 in
theorem xok227 : xokT yX9_canNow.cls cX9_canNow (Option.some Jvm.ClassFile.FieldType.int) yX9_canNow.name xt227 = true := by decide +kernel
set_option maxRecDepth 100000 in
theorem xok228 : xokT yX9_bareNow.cls cX9_bareNow (Option.some Jvm.ClassFile.FieldType.int) yX9_bareNow.name xt228 = true := by decide +kernel
set_option maxRecDepth 100000 in
theorem xok229 : xokT yX9_goods.cls cX9_goods (Option.some Jvm.ClassFile.FieldType.int) yX9_goods.name xt229 = true := by decide +kernel
set_option maxRecDepth 100000 in
theorem xok230 : xokT yX9_count.cls cX9_count (Option.some Jvm.ClassFile.FieldType.int) yX9_count.name xt230 = true := by decide +kernel
set_option maxRecDepth 100000 in
theorem xok231 : xokT yX9_finding.cls cX9_finding (Option.some Jvm.ClassFile.FieldType.int) yX9_finding.name xt231 = true := by decide +kernel
set_option maxRecDepth 100000 in
theorem xok232 : xokT yX9_findings.cls cX9_findings (Option.some Jvm.ClassFile.FieldType.int) yX9_findings.name xt232 = true := by decide +kernel
set_option maxRecDepth 100000 in
theorem xok233 : xokT yX9_mix.cls cX9_mix (Option.none : Option Jvm.ClassFile.FieldType) yX9_mix.name xt233 = true := by decide +kernel
set_option maxRecDepth 100000 in
theorem xok234 : xokT yX9_digest.cls cX9_digest (Option.some Jvm.ClassFile.FieldType.long) yX9_digest.name xt234 = true := by decide +kernel
set_option maxRecDepth 100000 in
theorem xok235 : xokT yJ6_bitCount_0f7a4.cls cJ6_bitCount_0f7a4 (Option.some Jvm.ClassFile.FieldType.int) yJ6_bitCount_0f7a4.name xt235 = true := by decide +kernel
set_option maxRecDepth 100000 in
theorem xok236 : xokT yJ9_max_7cf53.cls cJ9_max_7cf53 (Option.some Jvm.ClassFile.FieldType.int) yJ9_max_7cf53.name xt236 = true := by decide +kernel
set_option maxRecDepth 100000 in
theorem xok237 : xokT yJ9_min_7cf53.cls cJ9_min_7cf53 (Option.some Jvm.ClassFile.FieldType.int) yJ9_min_7cf53.name xt237 = true := by decide +kernel
set_option maxRecDepth 100000 in
theorem xok238 : xokT yJ7_fill_53178.cls cJ7_fill_53178 (Option.none : Option Jvm.ClassFile.FieldType) yJ7_fill_53178.name xt238 = true := by decide +kernel
set_option maxRecDepth 100000 in
theorem xok239 : xokT yJ7_fill_031fb.cls cJ7_fill_031fb (Option.none : Option Jvm.ClassFile.FieldType) yJ7_fill_031fb.name xt239 = true := by decide +kernel
