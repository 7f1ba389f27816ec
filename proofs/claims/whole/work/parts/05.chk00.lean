set_option maxRecDepth 100000 in
theorem xok0 : xokT yX0_leavesOf.cls cX0_leavesOf (Option.some Jvm.ClassFile.FieldType.int) yX0_leavesOf.name xt0 = true := by decide +kernel
set_option maxRecDepth 100000 in
theorem xok1 : xokT yX0_with.cls cX0_with (Option.some Jvm.ClassFile.FieldType.int) yX0_with.name xt1 = true := by decide +kernel
set_option maxRecDepth 100000 in
theorem xok2 : xokT yX0_sum.cls cX0_sum (Option.some Jvm.ClassFile.FieldType.int) yX0_sum.name xt2 = true := by decide +kernel
set_option maxRecDepth 100000 in
theorem xok3 : xokT yX0_evenLead.cls cX0_evenLead (Option.some Jvm.ClassFile.FieldType.int) yX0_evenLead.name xt3 = true := by decide +kernel
set_option maxRecDepth 100000 in
theorem xok4 : xokT yX0_bareOnes.cls cX0_bareOnes (Option.some Jvm.ClassFile.FieldType.int) yX0_bareOnes.name xt4 = true := by decide +kernel
set_option maxRecDepth 100000 in
theorem xok5 : xokT yX0_leavesLater.cls cX0_leavesLater (Option.some Jvm.ClassFile.FieldType.int) yX0_leavesLater.name xt5 = true := by decide +kernel
set_option maxRecDepth 100000 in
theorem xok6 : xokT yX1_init.cls cX1_init (Option.none : Option Jvm.ClassFile.FieldType) yX1_init.name xt6 = true := by decide +kernel
set_option maxRecDepth 100000 in
theorem xok7 : xokT yX1_begin.cls cX1_begin (Option.none : Option Jvm.ClassFile.FieldType) yX1_begin.name xt7 = true := by decide +kernel
set_option maxRecDepth 100000 in
theorem xok8 : xokT yX1_hasRoom.cls cX1_hasRoom (Option.some Jvm.ClassFile.FieldType.boolean) yX1_hasRoom.name xt8 = true := by decide +kernel
set_option maxRecDepth 100000 in
theorem xok9 : xokT yX1_add.cls cX1_add (Option.none : Option Jvm.ClassFile.FieldType) yX1_add.name xt9 = true := by decide +kernel
set_option maxRecDepth 100000 in
theorem xok10 : xokT yX1_boughsNow.cls cX1_boughsNow (Option.some Jvm.ClassFile.FieldType.int) yX1_boughsNow.name xt10 = true := by decide +kernel
set_option maxRecDepth 100000 in
theorem xok11 : xokT yX1_toldNow.cls cX1_toldNow (Option.some Jvm.ClassFile.FieldType.int) yX1_toldNow.name xt11 = true := by decide +kernel
set_option maxRecDepth 100000 in
theorem xok12 : xokT yX1_morningNow.cls cX1_morningNow (Option.some Jvm.ClassFile.FieldType.int) yX1_morningNow.name xt12 = true := by decide +kernel
set_option maxRecDepth 100000 in
theorem xok13 : xokT yX1_become.cls cX1_become (Option.none : Option Jvm.ClassFile.FieldType) yX1_become.name xt13 = true := by decide +kernel
set_option maxRecDepth 100000 in
theorem xok14 : xokT yX2_init.cls cX2_init (Option.none : Option Jvm.ClassFile.FieldType) yX2_init.name xt14 = true := by decide +kernel
set_option maxRecDepth 100000 in
theorem xok15 : xokT yX2_clear.cls cX2_clear (Option.none : Option Jvm.ClassFile.FieldType) yX2_clear.name xt15 = true := by decide +kernel
set_option maxRecDepth 100000 in
theorem xok16 : xokT yX2_add.cls cX2_add (Option.none : Option Jvm.ClassFile.FieldType) yX2_add.name xt16 = true := by decide +kernel
set_option maxRecDepth 100000 in
theorem xok17 : xokT yX2_all.cls cX2_all (Option.some Jvm.ClassFile.FieldType.int) yX2_all.name xt17 = true := by decide +kernel
set_option maxRecDepth 100000 in
theorem xok18 : xokT yX2_goods.cls cX2_goods (Option.some Jvm.ClassFile.FieldType.int) yX2_goods.name xt18 = true := by decide +kernel
set_option maxRecDepth 100000 in
theorem xok19 : xokT yX2_deathsOf.cls cX2_deathsOf (Option.some Jvm.ClassFile.FieldType.int) yX2_deathsOf.name xt19 = true := by decide +kernel
set_option maxRecDepth 100000 in
theorem xok20 : xokT yX2_worthOf.cls cX2_worthOf (Option.some Jvm.ClassFile.FieldType.int) yX2_worthOf.name xt20 = true := by decide +kernel
set_option maxRecDepth 100000 in
theorem xok21 : xokT yX2_canTell.cls cX2_canTell (Option.some Jvm.ClassFile.FieldType.boolean) yX2_canTell.name xt21 = true := by decide +kernel
set_option maxRecDepth 100000 in
theorem xok22 : xokT yX2_tellable.cls cX2_tellable (Option.some Jvm.ClassFile.FieldType.int) yX2_tellable.name xt22 = true := by decide +kernel
set_option maxRecDepth 100000 in
theorem xok23 : xokT yX2_haunting.cls cX2_haunting (Option.some Jvm.ClassFile.FieldType.int) yX2_haunting.name xt23 = true := by decide +kernel
set_option maxRecDepth 100000 in
theorem xok24 : xokT yX2_answerOf.cls cX2_answerOf (Option.some Jvm.ClassFile.FieldType.int) yX2_answerOf.name xt24 = true := by decide +kernel
set_option maxRecDepth 100000 in
theorem xok25 : xokT yX2_boughsTold.cls cX2_boughsTold (Option.some Jvm.ClassFile.FieldType.int) yX2_boughsTold.name xt25 = true := by decide +kernel
set_option maxRecDepth 100000 in
theorem xok26 : xokT yX2_boughsLater.cls cX2_boughsLater (Option.some Jvm.ClassFile.FieldType.int) yX2_boughsLater.name xt26 = true := by decide +kernel
set_option maxRecDepth 100000 in
theorem xok27 : xokT yX3_ofLetter.cls cX3_ofLetter (Option.some Jvm.ClassFile.FieldType.int) yX3_ofLetter.name xt27 = true := by decide +kernel
set_option maxRecDepth 100000 in
theorem xok28 : xokT yX3_isOf.cls cX3_isOf (Option.some Jvm.ClassFile.FieldType.boolean) yX3_isOf.name xt28 = true := by decide +kernel
set_option maxRecDepth 100000 in
theorem xok29 : xokT yX3_haunt.cls cX3_haunt (Option.some Jvm.ClassFile.FieldType.int) yX3_haunt.name xt29 = true := by decide +kernel
set_option maxRecDepth 100000 in
theorem xok30 : xokT yX3_answer.cls cX3_answer (Option.some Jvm.ClassFile.FieldType.int) yX3_answer.name xt30 = true := by decide +kernel
set_option maxRecDepth 100000 in
theorem xok31 : xokT yX3_goodAnswer.cls cX3_goodAnswer (Option.some Jvm.ClassFile.FieldType.int) yX3_goodAnswer.name xt31 = true := by decide +kernel
set_option maxRecDepth 100000 in
theorem xok32 : xokT yX4_init.cls cX4_init (Option.none : Option Jvm.ClassFile.FieldType) yX4_init.name xt32 = true := by decide +kernel
set_option maxRecDepth 100000 in
theorem xok33 : xokT yX4_findMost.cls cX4_findMost (Option.some Jvm.ClassFile.FieldType.int) yX4_findMost.name xt33 = true := by decide +kernel
set_option maxRecDepth 100000 in
theorem xok34 : xokT yX4_tryOrders.cls cX4_tryOrders (Option.none : Option Jvm.ClassFile.FieldType) yX4_tryOrders.name xt34 = true := by decide +kernel
set_option maxRecDepth 100000 in
theorem xok35 : xokT yX4_aimAt.cls cX4_aimAt (Option.none : Option Jvm.ClassFile.FieldType) yX4_aimAt.name xt35 = true := by decide +kernel
set_option maxRecDepth 100000 in
theorem xok36 : xokT yX4_findFewest.cls cX4_findFewest (Option.some Jvm.ClassFile.FieldType.int) yX4_findFewest.name xt36 = true := by decide +kernel
set_option maxRecDepth 100000 in
theorem xok37 : xokT yX4_reachesAim.cls cX4_reachesAim (Option.some Jvm.ClassFile.FieldType.boolean) yX4_reachesAim.name xt37 = true := by decide +kernel
set_option maxRecDepth 100000 in
theorem xok38 : xokT yX4_takeTried.cls cX4_takeTried (Option.none : Option Jvm.ClassFile.FieldType) yX4_takeTried.name xt38 = true := by decide +kernel
set_option maxRecDepth 100000 in
theorem xok39 : xokT yX4_layInto.cls cX4_layInto (Option.none : Option Jvm.ClassFile.FieldType) yX4_layInto.name xt39 = true := by decide +kernel
