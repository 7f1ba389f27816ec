set_option maxRecDepth 100000 in
theorem xok120 : xokT yX8_doWatering.cls cX8_doWatering (Option.none : Option Jvm.ClassFile.FieldType) yX8_doWatering.name xt120 = true := by decide +kernel
set_option maxRecDepth 100000 in
theorem xok121 : xokT yX8_doPruning.cls cX8_doPruning (Option.none : Option Jvm.ClassFile.FieldType) yX8_doPruning.name xt121 = true := by decide +kernel
set_option maxRecDepth 100000 in
theorem xok122 : xokT yX8_doNothing.cls cX8_doNothing (Option.none : Option Jvm.ClassFile.FieldType) yX8_doNothing.name xt122 = true := by decide +kernel
set_option maxRecDepth 100000 in
theorem xok123 : xokT yX8_doByLot.cls cX8_doByLot (Option.none : Option Jvm.ClassFile.FieldType) yX8_doByLot.name xt123 = true := by decide +kernel
set_option maxRecDepth 100000 in
theorem xok124 : xokT yX8_fitsWatch.cls cX8_fitsWatch (Option.some Jvm.ClassFile.FieldType.boolean) yX8_fitsWatch.name xt124 = true := by decide +kernel
set_option maxRecDepth 100000 in
theorem xok125 : xokT yX8_greatestPart.cls cX8_greatestPart (Option.some Jvm.ClassFile.FieldType.int) yX8_greatestPart.name xt125 = true := by decide +kernel
set_option maxRecDepth 100000 in
theorem xok126 : xokT yX8_fitsPairs.cls cX8_fitsPairs (Option.some Jvm.ClassFile.FieldType.boolean) yX8_fitsPairs.name xt126 = true := by decide +kernel
set_option maxRecDepth 100000 in
theorem xok127 : xokT yX8_leadAfter.cls cX8_leadAfter (Option.some Jvm.ClassFile.FieldType.int) yX8_leadAfter.name xt127 = true := by decide +kernel
set_option maxRecDepth 100000 in
theorem xok128 : xokT yX8_boughsIfTold.cls cX8_boughsIfTold (Option.some Jvm.ClassFile.FieldType.int) yX8_boughsIfTold.name xt128 = true := by decide +kernel
set_option maxRecDepth 100000 in
theorem xok129 : xokT yX8_weightOf.cls cX8_weightOf (Option.some Jvm.ClassFile.FieldType.long) yX8_weightOf.name xt129 = true := by decide +kernel
set_option maxRecDepth 100000 in
theorem xok130 : xokT yX9_init.cls cX9_init (Option.none : Option Jvm.ClassFile.FieldType) yX9_init.name xt130 = true := by decide +kernel
set_option maxRecDepth 100000 in
theorem xok131 : xokT yX9_in.cls cX9_in (Option.some Jvm.ClassFile.FieldType.boolean) yX9_in.name xt131 = true := by decide +kernel
set_option maxRecDepth 100000 in
theorem xok132 : xokT yX9_has.cls cX9_has (Option.some Jvm.ClassFile.FieldType.boolean) yX9_has.name xt132 = true := by decide +kernel
set_option maxRecDepth 100000 in
theorem xok133 : xokT yX9_ones.cls cX9_ones (Option.some Jvm.ClassFile.FieldType.int) yX9_ones.name xt133 = true := by decide +kernel
set_option maxRecDepth 100000 in
theorem xok134 : xokT yX9_finds.cls cX9_finds (Option.some Jvm.ClassFile.FieldType.int) yX9_finds.name xt134 = true := by decide +kernel
set_option maxRecDepth 100000 in
theorem xok135 : xokT yX9_tells.cls cX9_tells (Option.some Jvm.ClassFile.FieldType.int) yX9_tells.name xt135 = true := by decide +kernel
set_option maxRecDepth 100000 in
theorem xok136 : xokT yX9_tellsPart.cls cX9_tellsPart (Option.some Jvm.ClassFile.FieldType.int) yX9_tellsPart.name xt136 = true := by decide +kernel
set_option maxRecDepth 100000 in
theorem xok137 : xokT yX9_bring.cls cX9_bring (Option.none : Option Jvm.ClassFile.FieldType) yX9_bring.name xt137 = true := by decide +kernel
set_option maxRecDepth 100000 in
theorem xok138 : xokT yX9_isRow.cls cX9_isRow (Option.some Jvm.ClassFile.FieldType.boolean) yX9_isRow.name xt138 = true := by decide +kernel
set_option maxRecDepth 100000 in
theorem xok139 : xokT yX9_isText.cls cX9_isText (Option.some Jvm.ClassFile.FieldType.boolean) yX9_isText.name xt139 = true := by decide +kernel
set_option maxRecDepth 100000 in
theorem xok140 : xokT yX9_isDeath.cls cX9_isDeath (Option.some Jvm.ClassFile.FieldType.boolean) yX9_isDeath.name xt140 = true := by decide +kernel
set_option maxRecDepth 100000 in
theorem xok141 : xokT yX9_isBough.cls cX9_isBough (Option.some Jvm.ClassFile.FieldType.boolean) yX9_isBough.name xt141 = true := by decide +kernel
set_option maxRecDepth 100000 in
theorem xok142 : xokT yX9_row.cls cX9_row (Option.some Jvm.ClassFile.FieldType.int) yX9_row.name xt142 = true := by decide +kernel
set_option maxRecDepth 100000 in
theorem xok143 : xokT yX9_lay.cls cX9_lay (Option.some Jvm.ClassFile.FieldType.int) yX9_lay.name xt143 = true := by decide +kernel
set_option maxRecDepth 100000 in
theorem xok144 : xokT yX9_at.cls cX9_at (Option.some Jvm.ClassFile.FieldType.int) yX9_at.name xt144 = true := by decide +kernel
set_option maxRecDepth 100000 in
theorem xok145 : xokT yX9_tear.cls cX9_tear (Option.some Jvm.ClassFile.FieldType.int) yX9_tear.name xt145 = true := by decide +kernel
set_option maxRecDepth 100000 in
theorem xok146 : xokT yX9_copy.cls cX9_copy (Option.some Jvm.ClassFile.FieldType.int) yX9_copy.name xt146 = true := by decide +kernel
set_option maxRecDepth 100000 in
theorem xok147 : xokT yX9_mean.cls cX9_mean (Option.some Jvm.ClassFile.FieldType.int) yX9_mean.name xt147 = true := by decide +kernel
set_option maxRecDepth 100000 in
theorem xok148 : xokT yX9_text.cls cX9_text (Option.some Jvm.ClassFile.FieldType.int) yX9_text.name xt148 = true := by decide +kernel
set_option maxRecDepth 100000 in
theorem xok149 : xokT yX9_put.cls cX9_put (Option.some Jvm.ClassFile.FieldType.int) yX9_put.name xt149 = true := by decide +kernel
set_option maxRecDepth 100000 in
theorem xok150 : xokT yX9_here.cls cX9_here (Option.some Jvm.ClassFile.FieldType.int) yX9_here.name xt150 = true := by decide +kernel
set_option maxRecDepth 100000 in
theorem xok151 : xokT yX9_kindOf.cls cX9_kindOf (Option.some Jvm.ClassFile.FieldType.int) yX9_kindOf.name xt151 = true := by decide +kernel
set_option maxRecDepth 100000 in
theorem xok152 : xokT yX9_takes.cls cX9_takes (Option.some Jvm.ClassFile.FieldType.boolean) yX9_takes.name xt152 = true := by decide +kernel
set_option maxRecDepth 100000 in
theorem xok153 : xokT yX9_takesTree.cls cX9_takesTree (Option.some Jvm.ClassFile.FieldType.boolean) yX9_takesTree.name xt153 = true := by decide +kernel
set_option maxRecDepth 100000 in
theorem xok154 : xokT yX9_takesDeath.cls cX9_takesDeath (Option.some Jvm.ClassFile.FieldType.boolean) yX9_takesDeath.name xt154 = true := by decide +kernel
set_option maxRecDepth 100000 in
theorem xok155 : xokT yX9_blanks.cls cX9_blanks (Option.none : Option Jvm.ClassFile.FieldType) yX9_blanks.name xt155 = true := by decide +kernel
set_option maxRecDepth 100000 in
theorem xok156 : xokT yX9_faultOf.cls cX9_faultOf (Option.some Jvm.ClassFile.FieldType.int) yX9_faultOf.name xt156 = true := by decide +kernel
set_option maxRecDepth 100000 in
theorem xok157 : xokT yX9_fault.cls cX9_fault (Option.some Jvm.ClassFile.FieldType.int) yX9_fault.name xt157 = true := by decide +kernel
set_option maxRecDepth 100000 in
theorem xok158 : xokT yX9_green.cls cX9_green (Option.some Jvm.ClassFile.FieldType.int) yX9_green.name xt158 = true := by decide +kernel
set_option maxRecDepth 100000 in
theorem xok159 : xokT yX9_isA.cls cX9_isA (Option.some Jvm.ClassFile.FieldType.boolean) yX9_isA.name xt159 = true := by decide +kernel
