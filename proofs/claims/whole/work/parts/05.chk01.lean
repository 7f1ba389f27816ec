set_option maxRecDepth 100000 in
theorem xok40 : xokT yX5_init.cls cX5_init (Option.none : Option Jvm.ClassFile.FieldType) yX5_init.name xt40 = true := by decide +kernel
set_option maxRecDepth 100000 in
theorem xok41 : xokT yX5_read.cls cX5_read (Option.some Jvm.ClassFile.FieldType.int) yX5_read.name xt41 = true := by decide +kernel
set_option maxRecDepth 100000 in
theorem xok42 : xokT yX5_skipBlanks.cls cX5_skipBlanks (Option.none : Option Jvm.ClassFile.FieldType) yX5_skipBlanks.name xt42 = true := by decide +kernel
set_option maxRecDepth 100000 in
theorem xok43 : xokT yX5_readBoughs.cls cX5_readBoughs (Option.none : Option Jvm.ClassFile.FieldType) yX5_readBoughs.name xt43 = true := by decide +kernel
set_option maxRecDepth 100000 in
theorem xok44 : xokT yX5_readDeath.cls cX5_readDeath (Option.none : Option Jvm.ClassFile.FieldType) yX5_readDeath.name xt44 = true := by decide +kernel
set_option maxRecDepth 100000 in
theorem xok45 : xokT yX5_readFigure.cls cX5_readFigure (Option.some Jvm.ClassFile.FieldType.int) yX5_readFigure.name xt45 = true := by decide +kernel
set_option maxRecDepth 100000 in
theorem xok46 : xokT yX6_init.cls cX6_init (Option.none : Option Jvm.ClassFile.FieldType) yX6_init.name xt46 = true := by decide +kernel
set_option maxRecDepth 100000 in
theorem xok47 : xokT yX6_isMissing.cls cX6_isMissing (Option.some Jvm.ClassFile.FieldType.boolean) yX6_isMissing.name xt47 = true := by decide +kernel
set_option maxRecDepth 100000 in
theorem xok48 : xokT yX6_begin.cls cX6_begin (Option.none : Option Jvm.ClassFile.FieldType) yX6_begin.name xt48 = true := by decide +kernel
set_option maxRecDepth 100000 in
theorem xok49 : xokT yX6_hasRun.cls cX6_hasRun (Option.some Jvm.ClassFile.FieldType.boolean) yX6_hasRun.name xt49 = true := by decide +kernel
set_option maxRecDepth 100000 in
theorem xok50 : xokT yX6_holdsLeavesAlone.cls cX6_holdsLeavesAlone (Option.some Jvm.ClassFile.FieldType.boolean) yX6_holdsLeavesAlone.name xt50 = true := by decide +kernel
set_option maxRecDepth 100000 in
theorem xok51 : xokT yX6_digestOnto.cls cX6_digestOnto (Option.some Jvm.ClassFile.FieldType.long) yX6_digestOnto.name xt51 = true := by decide +kernel
set_option maxRecDepth 100000 in
theorem xok52 : xokT yX7_init.cls cX7_init (Option.none : Option Jvm.ClassFile.FieldType) yX7_init.name xt52 = true := by decide +kernel
set_option maxRecDepth 100000 in
theorem xok53 : xokT yX7_isMissing.cls cX7_isMissing (Option.some Jvm.ClassFile.FieldType.boolean) yX7_isMissing.name xt53 = true := by decide +kernel
set_option maxRecDepth 100000 in
theorem xok54 : xokT yX7_begin.cls cX7_begin (Option.none : Option Jvm.ClassFile.FieldType) yX7_begin.name xt54 = true := by decide +kernel
set_option maxRecDepth 100000 in
theorem xok55 : xokT yX7_digestOnto.cls cX7_digestOnto (Option.some Jvm.ClassFile.FieldType.long) yX7_digestOnto.name xt55 = true := by decide +kernel
set_option maxRecDepth 100000 in
theorem xok56 : xokT yX8_init.cls cX8_init (Option.none : Option Jvm.ClassFile.FieldType) yX8_init.name xt56 = true := by decide +kernel
set_option maxRecDepth 100000 in
theorem xok57 : xokT yX8_row.cls cX8_row (Option.some Jvm.ClassFile.FieldType.int) yX8_row.name xt57 = true := by decide +kernel
set_option maxRecDepth 100000 in
theorem xok58 : xokT yX8_lay.cls cX8_lay (Option.some Jvm.ClassFile.FieldType.int) yX8_lay.name xt58 = true := by decide +kernel
set_option maxRecDepth 100000 in
theorem xok59 : xokT yX8_at.cls cX8_at (Option.some Jvm.ClassFile.FieldType.int) yX8_at.name xt59 = true := by decide +kernel
set_option maxRecDepth 100000 in
theorem xok60 : xokT yX8_tear.cls cX8_tear (Option.some Jvm.ClassFile.FieldType.int) yX8_tear.name xt60 = true := by decide +kernel
set_option maxRecDepth 100000 in
theorem xok61 : xokT yX8_copy.cls cX8_copy (Option.some Jvm.ClassFile.FieldType.int) yX8_copy.name xt61 = true := by decide +kernel
set_option maxRecDepth 100000 in
theorem xok62 : xokT yX8_mean.cls cX8_mean (Option.some Jvm.ClassFile.FieldType.int) yX8_mean.name xt62 = true := by decide +kernel
set_option maxRecDepth 100000 in
theorem xok63 : xokT yX8_text.cls cX8_text (Option.some Jvm.ClassFile.FieldType.int) yX8_text.name xt63 = true := by decide +kernel
set_option maxRecDepth 100000 in
theorem xok64 : xokT yX8_put.cls cX8_put (Option.some Jvm.ClassFile.FieldType.int) yX8_put.name xt64 = true := by decide +kernel
set_option maxRecDepth 100000 in
theorem xok65 : xokT yX8_fault.cls cX8_fault (Option.some Jvm.ClassFile.FieldType.int) yX8_fault.name xt65 = true := by decide +kernel
set_option maxRecDepth 100000 in
theorem xok66 : xokT yX8_green.cls cX8_green (Option.some Jvm.ClassFile.FieldType.int) yX8_green.name xt66 = true := by decide +kernel
set_option maxRecDepth 100000 in
theorem xok67 : xokT yX8_bough.cls cX8_bough (Option.some Jvm.ClassFile.FieldType.int) yX8_bough.name xt67 = true := by decide +kernel
set_option maxRecDepth 100000 in
theorem xok68 : xokT yX8_death.cls cX8_death (Option.some Jvm.ClassFile.FieldType.int) yX8_death.name xt68 = true := by decide +kernel
set_option maxRecDepth 100000 in
theorem xok69 : xokT yX8_mark.cls cX8_mark (Option.some Jvm.ClassFile.FieldType.int) yX8_mark.name xt69 = true := by decide +kernel
set_option maxRecDepth 100000 in
theorem xok70 : xokT yX8_morning.cls cX8_morning (Option.some Jvm.ClassFile.FieldType.int) yX8_morning.name xt70 = true := by decide +kernel
set_option maxRecDepth 100000 in
theorem xok71 : xokT yX8_tell.cls cX8_tell (Option.some Jvm.ClassFile.FieldType.int) yX8_tell.name xt71 = true := by decide +kernel
set_option maxRecDepth 100000 in
theorem xok72 : xokT yX8_water.cls cX8_water (Option.some Jvm.ClassFile.FieldType.int) yX8_water.name xt72 = true := by decide +kernel
set_option maxRecDepth 100000 in
theorem xok73 : xokT yX8_prune.cls cX8_prune (Option.some Jvm.ClassFile.FieldType.int) yX8_prune.name xt73 = true := by decide +kernel
set_option maxRecDepth 100000 in
theorem xok74 : xokT yX8_undo.cls cX8_undo (Option.some Jvm.ClassFile.FieldType.int) yX8_undo.name xt74 = true := by decide +kernel
set_option maxRecDepth 100000 in
theorem xok75 : xokT yX8_keep.cls cX8_keep (Option.some Jvm.ClassFile.FieldType.int) yX8_keep.name xt75 = true := by decide +kernel
set_option maxRecDepth 100000 in
theorem xok76 : xokT yX8_on.cls cX8_on (Option.some Jvm.ClassFile.FieldType.int) yX8_on.name xt76 = true := by decide +kernel
set_option maxRecDepth 100000 in
theorem xok77 : xokT yX8_answers.cls cX8_answers (Option.some Jvm.ClassFile.FieldType.int) yX8_answers.name xt77 = true := by decide +kernel
set_option maxRecDepth 100000 in
theorem xok78 : xokT yX8_leaves.cls cX8_leaves (Option.some Jvm.ClassFile.FieldType.int) yX8_leaves.name xt78 = true := by decide +kernel
set_option maxRecDepth 100000 in
theorem xok79 : xokT yX8_bare.cls cX8_bare (Option.some Jvm.ClassFile.FieldType.int) yX8_bare.name xt79 = true := by decide +kernel
