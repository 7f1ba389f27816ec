set_option maxRecDepth 100000 in
theorem xok160 : xokT yX9_good.cls cX9_good (Option.some Jvm.ClassFile.FieldType.int) yX9_good.name xt160 = true := by decide +kernel
set_option maxRecDepth 100000 in
theorem xok161 : xokT yX9_toldBy.cls cX9_toldBy (Option.some Jvm.ClassFile.FieldType.int) yX9_toldBy.name xt161 = true := by decide +kernel
set_option maxRecDepth 100000 in
theorem xok162 : xokT yX9_toldOf.cls cX9_toldOf (Option.some Jvm.ClassFile.FieldType.int) yX9_toldOf.name xt162 = true := by decide +kernel
set_option maxRecDepth 100000 in
theorem xok163 : xokT yX9_all.cls cX9_all (Option.some Jvm.ClassFile.FieldType.int) yX9_all.name xt163 = true := by decide +kernel
set_option maxRecDepth 100000 in
theorem xok164 : xokT yX9_kings.cls cX9_kings (Option.some Jvm.ClassFile.FieldType.int) yX9_kings.name xt164 = true := by decide +kernel
set_option maxRecDepth 100000 in
theorem xok165 : xokT yX9_canBe.cls cX9_canBe (Option.some Jvm.ClassFile.FieldType.boolean) yX9_canBe.name xt165 = true := by decide +kernel
set_option maxRecDepth 100000 in
theorem xok166 : xokT yX9_haunting.cls cX9_haunting (Option.some Jvm.ClassFile.FieldType.int) yX9_haunting.name xt166 = true := by decide +kernel
set_option maxRecDepth 100000 in
theorem xok167 : xokT yX9_haunted.cls cX9_haunted (Option.some Jvm.ClassFile.FieldType.int) yX9_haunted.name xt167 = true := by decide +kernel
set_option maxRecDepth 100000 in
theorem xok168 : xokT yX9_tries.cls cX9_tries (Option.none : Option Jvm.ClassFile.FieldType) yX9_tries.name xt168 = true := by decide +kernel
set_option maxRecDepth 100000 in
theorem xok169 : xokT yX9_greens.cls cX9_greens (Option.none : Option Jvm.ClassFile.FieldType) yX9_greens.name xt169 = true := by decide +kernel
set_option maxRecDepth 100000 in
theorem xok170 : xokT yX9_leafAll.cls cX9_leafAll (Option.some Jvm.ClassFile.FieldType.int) yX9_leafAll.name xt170 = true := by decide +kernel
set_option maxRecDepth 100000 in
theorem xok171 : xokT yX9_leavesNow.cls cX9_leavesNow (Option.some Jvm.ClassFile.FieldType.int) yX9_leavesNow.name xt171 = true := by decide +kernel
set_option maxRecDepth 100000 in
theorem xok172 : xokT yX9_deathsOf.cls cX9_deathsOf (Option.some Jvm.ClassFile.FieldType.int) yX9_deathsOf.name xt172 = true := by decide +kernel
set_option maxRecDepth 100000 in
theorem xok173 : xokT yX9_bough.cls cX9_bough (Option.some Jvm.ClassFile.FieldType.int) yX9_bough.name xt173 = true := by decide +kernel
set_option maxRecDepth 100000 in
theorem xok174 : xokT yX9_deathOf.cls cX9_deathOf (Option.some Jvm.ClassFile.FieldType.int) yX9_deathOf.name xt174 = true := by decide +kernel
set_option maxRecDepth 100000 in
theorem xok175 : xokT yX9_death.cls cX9_death (Option.some Jvm.ClassFile.FieldType.int) yX9_death.name xt175 = true := by decide +kernel
set_option maxRecDepth 100000 in
theorem xok176 : xokT yX9_fewestFor9.cls cX9_fewestFor9 (Option.some Jvm.ClassFile.FieldType.int) yX9_fewestFor9.name xt176 = true := by decide +kernel
set_option maxRecDepth 100000 in
theorem xok177 : xokT yX9_goodsAbout.cls cX9_goodsAbout (Option.some Jvm.ClassFile.FieldType.int) yX9_goodsAbout.name xt177 = true := by decide +kernel
set_option maxRecDepth 100000 in
theorem xok178 : xokT yX9_mark.cls cX9_mark (Option.some Jvm.ClassFile.FieldType.int) yX9_mark.name xt178 = true := by decide +kernel
set_option maxRecDepth 100000 in
theorem xok179 : xokT yX9_minds.cls cX9_minds (Option.none : Option Jvm.ClassFile.FieldType) yX9_minds.name xt179 = true := by decide +kernel
set_option maxRecDepth 100000 in
theorem xok180 : xokT yX9_passes.cls cX9_passes (Option.none : Option Jvm.ClassFile.FieldType) yX9_passes.name xt180 = true := by decide +kernel
set_option maxRecDepth 100000 in
theorem xok181 : xokT yX9_morning.cls cX9_morning (Option.some Jvm.ClassFile.FieldType.int) yX9_morning.name xt181 = true := by decide +kernel
set_option maxRecDepth 100000 in
theorem xok182 : xokT yX9_toldNow.cls cX9_toldNow (Option.none : Option Jvm.ClassFile.FieldType) yX9_toldNow.name xt182 = true := by decide +kernel
set_option maxRecDepth 100000 in
theorem xok183 : xokT yX9_tell.cls cX9_tell (Option.some Jvm.ClassFile.FieldType.int) yX9_tell.name xt183 = true := by decide +kernel
set_option maxRecDepth 100000 in
theorem xok184 : xokT yX9_waters.cls cX9_waters (Option.none : Option Jvm.ClassFile.FieldType) yX9_waters.name xt184 = true := by decide +kernel
set_option maxRecDepth 100000 in
theorem xok185 : xokT yX9_water.cls cX9_water (Option.some Jvm.ClassFile.FieldType.int) yX9_water.name xt185 = true := by decide +kernel
set_option maxRecDepth 100000 in
theorem xok186 : xokT yX9_prune.cls cX9_prune (Option.some Jvm.ClassFile.FieldType.int) yX9_prune.name xt186 = true := by decide +kernel
set_option maxRecDepth 100000 in
theorem xok187 : xokT yX9_undo.cls cX9_undo (Option.some Jvm.ClassFile.FieldType.int) yX9_undo.name xt187 = true := by decide +kernel
set_option maxRecDepth 100000 in
theorem xok188 : xokT yX9_keep.cls cX9_keep (Option.some Jvm.ClassFile.FieldType.int) yX9_keep.name xt188 = true := by decide +kernel
set_option maxRecDepth 100000 in
theorem xok189 : xokT yX9_on.cls cX9_on (Option.some Jvm.ClassFile.FieldType.int) yX9_on.name xt189 = true := by decide +kernel
set_option maxRecDepth 100000 in
theorem xok190 : xokT yX9_answers.cls cX9_answers (Option.some Jvm.ClassFile.FieldType.int) yX9_answers.name xt190 = true := by decide +kernel
set_option maxRecDepth 100000 in
theorem xok191 : xokT yX9_leaves.cls cX9_leaves (Option.some Jvm.ClassFile.FieldType.int) yX9_leaves.name xt191 = true := by decide +kernel
set_option maxRecDepth 100000 in
theorem xok192 : xokT yX9_bare.cls cX9_bare (Option.some Jvm.ClassFile.FieldType.int) yX9_bare.name xt192 = true := by decide +kernel
set_option maxRecDepth 100000 in
theorem xok193 : xokT yX9_tellsOrder.cls cX9_tellsOrder (Option.some Jvm.ClassFile.FieldType.int) yX9_tellsOrder.name xt193 = true := by decide +kernel
set_option maxRecDepth 100000 in
theorem xok194 : xokT yX9_keepsOrder.cls cX9_keepsOrder (Option.none : Option Jvm.ClassFile.FieldType) yX9_keepsOrder.name xt194 = true := by decide +kernel
set_option maxRecDepth 100000 in
theorem xok195 : xokT yX9_laysOrder.cls cX9_laysOrder (Option.none : Option Jvm.ClassFile.FieldType) yX9_laysOrder.name xt195 = true := by decide +kernel
set_option maxRecDepth 100000 in
theorem xok196 : xokT yX9_round.cls cX9_round (Option.some Jvm.ClassFile.FieldType.int) yX9_round.name xt196 = true := by decide +kernel
set_option maxRecDepth 100000 in
theorem xok197 : xokT yX9_plans.cls cX9_plans (Option.some Jvm.ClassFile.FieldType.boolean) yX9_plans.name xt197 = true := by decide +kernel
set_option maxRecDepth 100000 in
theorem xok198 : xokT yX9_plan.cls cX9_plan (Option.some Jvm.ClassFile.FieldType.int) yX9_plan.name xt198 = true := by decide +kernel
set_option maxRecDepth 100000 in
theorem xok199 : xokT yX9_againstLeaves.cls cX9_againstLeaves (Option.some Jvm.ClassFile.FieldType.int) yX9_againstLeaves.name xt199 = true := by decide +kernel
