theorem x_td {α : Type} {p : α → Bool} {l : List α} (a n : Nat) (h1 : ((l.drop a).take n).all p = true) (h2 : (l.drop (a + n)).all p = true) : (l.drop a).all p = true := by
  rw [← List.take_append_drop n (l.drop a), List.all_append, h1, List.drop_drop, h2]
  rfl
set_option maxRecDepth 100000 in
theorem xok240_0 : ((xt240.drop 0).take 3).all (fun c => c.2.all fun q => xokE yL_law.cls cL_law (Option.some Jvm.ClassFile.FieldType.boolean) yL_law.name q.1 q.2) = true := by decide +kernel
set_option maxRecDepth 100000 in
theorem xok240_3 : ((xt240.drop 3).take 3).all (fun c => c.2.all fun q => xokE yL_law.cls cL_law (Option.some Jvm.ClassFile.FieldType.boolean) yL_law.name q.1 q.2) = true := by decide +kernel
set_option maxRecDepth 100000 in
theorem xok240_6 : ((xt240.drop 6).take 3).all (fun c => c.2.all fun q => xokE yL_law.cls cL_law (Option.some Jvm.ClassFile.FieldType.boolean) yL_law.name q.1 q.2) = true := by decide +kernel
set_option maxRecDepth 100000 in
theorem xok240_9 : ((xt240.drop 9).take 3).all (fun c => c.2.all fun q => xokE yL_law.cls cL_law (Option.some Jvm.ClassFile.FieldType.boolean) yL_law.name q.1 q.2) = true := by decide +kernel
set_option maxRecDepth 100000 in
theorem xok240_12 : ((xt240.drop 12).take 3).all (fun c => c.2.all fun q => xokE yL_law.cls cL_law (Option.some Jvm.ClassFile.FieldType.boolean) yL_law.name q.1 q.2) = true := by decide +kernel
set_option maxRecDepth 100000 in
theorem xok240_15 : ((xt240.drop 15).take 3).all (fun c => c.2.all fun q => xokE yL_law.cls cL_law (Option.some Jvm.ClassFile.FieldType.boolean) yL_law.name q.1 q.2) = true := by decide +kernel
set_option maxRecDepth 100000 in
theorem xok240_18 : ((xt240.drop 18).take 3).all (fun c => c.2.all fun q => xokE yL_law.cls cL_law (Option.some Jvm.ClassFile.FieldType.boolean) yL_law.name q.1 q.2) = true := by decide +kernel
set_option maxRecDepth 100000 in
theorem xok240_21 : ((xt240.drop 21).take 3).all (fun c => c.2.all fun q => xokE yL_law.cls cL_law (Option.some Jvm.ClassFile.FieldType.boolean) yL_law.name q.1 q.2) = true := by decide +kernel
set_option maxRecDepth 100000 in
theorem xok240_24 : ((xt240.drop 24).take 3).all (fun c => c.2.all fun q => xokE yL_law.cls cL_law (Option.some Jvm.ClassFile.FieldType.boolean) yL_law.name q.1 q.2) = true := by decide +kernel
set_option maxRecDepth 100000 in
theorem xok240_27 : ((xt240.drop 27).take 3).all (fun c => c.2.all fun q => xokE yL_law.cls cL_law (Option.some Jvm.ClassFile.FieldType.boolean) yL_law.name q.1 q.2) = true := by decide +kernel
set_option maxRecDepth 100000 in
theorem xok240_30 : ((xt240.drop 30).take 3).all (fun c => c.2.all fun q => xokE yL_law.cls cL_law (Option.some Jvm.ClassFile.FieldType.boolean) yL_law.name q.1 q.2) = true := by decide +kernel
set_option maxRecDepth 100000 in
theorem xok240_33 : ((xt240.drop 33).take 3).all (fun c => c.2.all fun q => xokE yL_law.cls cL_law (Option.some Jvm.ClassFile.FieldType.boolean) yL_law.name q.1 q.2) = true := by decide +kernel
set_option maxRecDepth 100000 in
theorem xok240_36 : ((xt240.drop 36).take 3).all (fun c => c.2.all fun q => xokE yL_law.cls cL_law (Option.some Jvm.ClassFile.FieldType.boolean) yL_law.name q.1 q.2) = true := by decide +kernel
set_option maxRecDepth 100000 in
theorem xok240_39 : ((xt240.drop 39).take 3).all (fun c => c.2.all fun q => xokE yL_law.cls cL_law (Option.some Jvm.ClassFile.FieldType.boolean) yL_law.name q.1 q.2) = true := by decide +kernel
set_option maxRecDepth 100000 in
theorem xok240_42 : ((xt240.drop 42).take 3).all (fun c => c.2.all fun q => xokE yL_law.cls cL_law (Option.some Jvm.ClassFile.FieldType.boolean) yL_law.name q.1 q.2) = true := by decide +kernel
set_option maxRecDepth 100000 in
theorem xok240_45 : ((xt240.drop 45).take 3).all (fun c => c.2.all fun q => xokE yL_law.cls cL_law (Option.some Jvm.ClassFile.FieldType.boolean) yL_law.name q.1 q.2) = true := by decide +kernel
set_option maxRecDepth 100000 in
theorem xok240_48 : ((xt240.drop 48).take 3).all (fun c => c.2.all fun q => xokE yL_law.cls cL_law (Option.some Jvm.ClassFile.FieldType.boolean) yL_law.name q.1 q.2) = true := by decide +kernel
set_option maxRecDepth 100000 in
theorem xok240_51 : ((xt240.drop 51).take 3).all (fun c => c.2.all fun q => xokE yL_law.cls cL_law (Option.some Jvm.ClassFile.FieldType.boolean) yL_law.name q.1 q.2) = true := by decide +kernel
set_option maxRecDepth 100000 in
theorem xok240_54 : ((xt240.drop 54).take 3).all (fun c => c.2.all fun q => xokE yL_law.cls cL_law (Option.some Jvm.ClassFile.FieldType.boolean) yL_law.name q.1 q.2) = true := by decide +kernel
set_option maxRecDepth 100000 in
theorem xok240_57 : ((xt240.drop 57).take 3).all (fun c => c.2.all fun q => xokE yL_law.cls cL_law (Option.some Jvm.ClassFile.FieldType.boolean) yL_law.name q.1 q.2) = true := by decide +kernel
set_option maxRecDepth 100000 in
theorem xok240_60 : ((xt240.drop 60).take 3).all (fun c => c.2.all fun q => xokE yL_law.cls cL_law (Option.some Jvm.ClassFile.FieldType.boolean) yL_law.name q.1 q.2) = true := by decide +kernel
set_option maxRecDepth 100000 in
theorem xok240_63 : ((xt240.drop 63).take 3).all (fun c => c.2.all fun q => xokE yL_law.cls cL_law (Option.some Jvm.ClassFile.FieldType.boolean) yL_law.name q.1 q.2) = true := by decide +kernel
set_option maxRecDepth 100000 in
theorem xok240_66 : ((xt240.drop 66).take 3).all (fun c => c.2.all fun q => xokE yL_law.cls cL_law (Option.some Jvm.ClassFile.FieldType.boolean) yL_law.name q.1 q.2) = true := by decide +kernel
set_option maxRecDepth 100000 in
theorem xok240_69 : ((xt240.drop 69).take 3).all (fun c => c.2.all fun q => xokE yL_law.cls cL_law (Option.some Jvm.ClassFile.FieldType.boolean) yL_law.name q.1 q.2) = true := by decide +kernel
set_option maxRecDepth 100000 in
theorem xok240_72 : ((xt240.drop 72).take 3).all (fun c => c.2.all fun q => xokE yL_law.cls cL_law (Option.some Jvm.ClassFile.FieldType.boolean) yL_law.name q.1 q.2) = true := by decide +kernel
set_option maxRecDepth 100000 in
theorem xok240_75 : ((xt240.drop 75).take 3).all (fun c => c.2.all fun q => xokE yL_law.cls cL_law (Option.some Jvm.ClassFile.FieldType.boolean) yL_law.name q.1 q.2) = true := by decide +kernel
set_option maxRecDepth 100000 in
theorem xok240_78 : ((xt240.drop 78).take 3).all (fun c => c.2.all fun q => xokE yL_law.cls cL_law (Option.some Jvm.ClassFile.FieldType.boolean) yL_law.name q.1 q.2) = true := by decide +kernel
set_option maxRecDepth 100000 in
theorem xok240_81 : ((xt240.drop 81).take 3).all (fun c => c.2.all fun q => xokE yL_law.cls cL_law (Option.some Jvm.ClassFile.FieldType.boolean) yL_law.name q.1 q.2) = true := by decide +kernel
theorem xok240_84 : (xt240.drop 84).all (fun c => c.2.all fun q => xokE yL_law.cls cL_law (Option.some Jvm.ClassFile.FieldType.boolean) yL_law.name q.1 q.2) = true := by decide +kernel
set_option maxRecDepth 100000 in
theorem xok240 : xokT yL_law.cls cL_law (Option.some Jvm.ClassFile.FieldType.boolean) yL_law.name xt240 = true := x_td 0 3 xok240_0 (x_td 3 3 xok240_3 (x_td 6 3 xok240_6 (x_td 9 3 xok240_9 (x_td 12 3 xok240_12 (x_td 15 3 xok240_15 (x_td 18 3 xok240_18 (x_td 21 3 xok240_21 (x_td 24 3 xok240_24 (x_td 27 3 xok240_27 (x_td 30 3 xok240_30 (x_td 33 3 xok240_33 (x_td 36 3 xok240_36 (x_td 39 3 xok240_39 (x_td 42 3 xok240_42 (x_td 45 3 xok240_45 (x_td 48 3 xok240_48 (x_td 51 3 xok240_51 (x_td 54 3 xok240_54 (x_td 57 3 xok240_57 (x_td 60 3 xok240_60 (x_td 63 3 xok240_63 (x_td 66 3 xok240_66 (x_td 69 3 xok240_69 (x_td 72 3 xok240_72 (x_td 75 3 xok240_75 (x_td 78 3 xok240_78 (x_td 81 3 xok240_81 (xok240_84))))))))))))))))))))))))))))
