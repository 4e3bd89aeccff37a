theorem am_dk {b : ByteArray} {l : List (Nat × (Instr × Nat))} (h : (l.all fun q => decide (decode b q.1 = .ok q.2) && am_il q.2.1 q.2.2) = true) : ∀ q ∈ l, decode b q.1 = .ok q.2 ∧ am_il q.2.1 q.2.2 = true := fun q hq => by simpa using List.all_eq_true.mp h q hq
theorem tl_1 : ∀ w ∈ tables_1_1, w ∈ lw_tbl := fun w h => List.mem_append_right _ (List.mem_append_left _ h)
theorem tl_2 : ∀ w ∈ tables_1_2, w ∈ lw_tbl := fun w h => List.mem_append_right _ (List.mem_append_right _ (List.mem_append_left _ h))
theorem tl_3 : ∀ w ∈ tables_1_3, w ∈ lw_tbl := fun w h => List.mem_append_right _ (List.mem_append_right _ (List.mem_append_right _ (List.mem_append_left _ h)))
theorem tl_4 : ∀ w ∈ tables_1_4, w ∈ lw_tbl := fun w h => List.mem_append_right _ (List.mem_append_right _ (List.mem_append_right _ (List.mem_append_right _ (List.mem_append_left _ h))))
theorem tl_5 : ∀ w ∈ tables_1_5, w ∈ lw_tbl := fun w h => List.mem_append_right _ (List.mem_append_right _ (List.mem_append_right _ (List.mem_append_right _ (List.mem_append_right _ (List.mem_append_left _ h)))))
theorem tl_6 : ∀ w ∈ tables_1_6, w ∈ lw_tbl := fun w h => List.mem_append_right _ (List.mem_append_right _ (List.mem_append_right _ (List.mem_append_right _ (List.mem_append_right _ (List.mem_append_right _ h)))))
theorem ct_23 : (Jvm.Cond.code ({ cls := "LostSheets", name := "<init>", desc := "()V" } : Jvm.MethodName) prog_1_method_1_code (2 : Nat) (Option.none : Option FieldType)) ∈ lw_tbl := tl_1 _ (List.mem_of_getElem? (i := 23) rfl)
theorem ct_1 : (Jvm.Cond.initialized "LostSheets") ∈ lw_tbl := tl_1 _ (List.mem_of_getElem? (i := 1) rfl)
theorem ct_31 : (Jvm.Cond.code ({ cls := "LostSheets$Land", name := "<init>", desc := "()V" } : Jvm.MethodName) prog_4_method_1_code (2 : Nat) (Option.none : Option FieldType)) ∈ lw_tbl := tl_1 _ (List.mem_of_getElem? (i := 31) rfl)
theorem ct_2 : (Jvm.Cond.initialized "LostSheets$Land") ∈ lw_tbl := tl_1 _ (List.mem_of_getElem? (i := 2) rfl)
theorem ct_38 : (Jvm.Cond.code ({ cls := "LostSheets$Drawer", name := "<init>", desc := "(I)V" } : Jvm.MethodName) prog_3_method_1_code (2 : Nat) (Option.none : Option FieldType)) ∈ lw_tbl := tl_1 _ (List.mem_of_getElem? (i := 38) rfl)
theorem ct_3 : (Jvm.Cond.initialized "LostSheets$Drawer") ∈ lw_tbl := tl_1 _ (List.mem_of_getElem? (i := 3) rfl)
theorem ct_131 : (Jvm.Cond.code ({ cls := "LostSheets$ByHand", name := "<init>", desc := "()V" } : Jvm.MethodName) prog_2_method_1_code (1 : Nat) (Option.none : Option FieldType)) ∈ lw_tbl := tl_1 _ (List.mem_of_getElem? (i := 131) rfl)
theorem ct_4 : (Jvm.Cond.initialized "LostSheets$ByHand") ∈ lw_tbl := tl_1 _ (List.mem_of_getElem? (i := 4) rfl)
theorem ct_137 : (Jvm.Cond.code ({ cls := "LostSheets$Rows", name := "<init>", desc := "(I)V" } : Jvm.MethodName) prog_6_method_1_code (2 : Nat) (Option.none : Option FieldType)) ∈ lw_tbl := tl_1 _ (List.mem_of_getElem? (i := 137) rfl)
theorem ct_5 : (Jvm.Cond.initialized "LostSheets$Rows") ∈ lw_tbl := tl_1 _ (List.mem_of_getElem? (i := 5) rfl)
theorem ct_141 : (Jvm.Cond.code ({ cls := "java/lang/Math", name := "max", desc := "(II)I" } : Jvm.MethodName) prog_14_method_65_code (2 : Nat) (Option.some FieldType.int)) ∈ lw_tbl := tl_1 _ (List.mem_of_getElem? (i := 141) rfl)
theorem ct_6 : (Jvm.Cond.initialized "java/lang/Math") ∈ lw_tbl := tl_1 _ (List.mem_of_getElem? (i := 6) rfl)
theorem ct_183 : (Jvm.Cond.code ({ cls := "LostSheets$Text", name := "<init>", desc := "()V" } : Jvm.MethodName) prog_8_method_1_code (1 : Nat) (Option.none : Option FieldType)) ∈ lw_tbl := tl_1 _ (List.mem_of_getElem? (i := 183) rfl)
theorem ct_7 : (Jvm.Cond.initialized "LostSheets$Text") ∈ lw_tbl := tl_1 _ (List.mem_of_getElem? (i := 7) rfl)
theorem ct_209 : (Jvm.Cond.code ({ cls := "LostSheets$Trace", name := "<init>", desc := "()V" } : Jvm.MethodName) prog_9_method_1_code (1 : Nat) (Option.none : Option FieldType)) ∈ lw_tbl := tl_1 _ (List.mem_of_getElem? (i := 209) rfl)
theorem ct_8 : (Jvm.Cond.initialized "LostSheets$Trace") ∈ lw_tbl := tl_1 _ (List.mem_of_getElem? (i := 8) rfl)
theorem ct_225 : (Jvm.Cond.code ({ cls := "LostSheets$Office", name := "<init>", desc := "()V" } : Jvm.MethodName) prog_5_method_1_code (1 : Nat) (Option.none : Option FieldType)) ∈ lw_tbl := tl_1 _ (List.mem_of_getElem? (i := 225) rfl)
theorem ct_9 : (Jvm.Cond.initialized "LostSheets$Office") ∈ lw_tbl := tl_1 _ (List.mem_of_getElem? (i := 9) rfl)
theorem ct_245 : (Jvm.Cond.code ({ cls := "LostSheets$Tape", name := "<init>", desc := "()V" } : Jvm.MethodName) prog_7_method_1_code (1 : Nat) (Option.none : Option FieldType)) ∈ lw_tbl := tl_2 _ (List.mem_of_getElem? (i := 5) rfl)
theorem ct_10 : (Jvm.Cond.initialized "LostSheets$Tape") ∈ lw_tbl := tl_1 _ (List.mem_of_getElem? (i := 10) rfl)
theorem ct_298 : (Jvm.Cond.code ({ cls := "LostSheets", name := "drawer", desc := "(III)I" } : Jvm.MethodName) prog_1_method_2_code (4 : Nat) (Option.some FieldType.int)) ∈ lw_tbl := tl_2 _ (List.mem_of_getElem? (i := 58) rfl)
theorem ct_301 : (Jvm.Cond.code ({ cls := "LostSheets", name := "isCell", desc := "(I)Z" } : Jvm.MethodName) prog_1_method_34_code (1 : Nat) (Option.some FieldType.boolean)) ∈ lw_tbl := tl_2 _ (List.mem_of_getElem? (i := 61) rfl)
theorem ct_304 : (Jvm.Cond.code ({ cls := "LostSheets", name := "isDigit", desc := "(I)Z" } : Jvm.MethodName) prog_1_method_36_code (1 : Nat) (Option.some FieldType.boolean)) ∈ lw_tbl := tl_2 _ (List.mem_of_getElem? (i := 64) rfl)
theorem ct_308 : (Jvm.Cond.code ({ cls := "LostSheets$Land", name := "addDrawer", desc := "(III)Z" } : Jvm.MethodName) prog_4_method_4_code (4 : Nat) (Option.some FieldType.boolean)) ∈ lw_tbl := tl_2 _ (List.mem_of_getElem? (i := 68) rfl)
theorem ct_312 : (Jvm.Cond.code ({ cls := "LostSheets$Drawer", name := "begins", desc := "(III)V" } : Jvm.MethodName) prog_3_method_2_code (5 : Nat) (Option.none : Option FieldType)) ∈ lw_tbl := tl_2 _ (List.mem_of_getElem? (i := 72) rfl)
theorem ct_316 : (Jvm.Cond.code ({ cls := "LostSheets", name := "of", desc := "(II)I" } : Jvm.MethodName) prog_1_method_3_code (4 : Nat) (Option.some FieldType.int)) ∈ lw_tbl := tl_2 _ (List.mem_of_getElem? (i := 76) rfl)
theorem ct_320 : (Jvm.Cond.code ({ cls := "LostSheets$Land", name := "drawerAt", desc := "(I)LLostSheets$Drawer;" } : Jvm.MethodName) prog_4_method_3_code (2 : Nat) (Option.some (FieldType.object "LostSheets$Drawer"))) ∈ lw_tbl := tl_2 _ (List.mem_of_getElem? (i := 80) rfl)
theorem ct_324 : (Jvm.Cond.code ({ cls := "LostSheets$Land", name := "feelOf", desc := "(LLostSheets$Drawer;)I" } : Jvm.MethodName) prog_4_method_19_code (4 : Nat) (Option.some FieldType.int)) ∈ lw_tbl := tl_2 _ (List.mem_of_getElem? (i := 84) rfl)
theorem ct_328 : (Jvm.Cond.code ({ cls := "LostSheets$Land", name := "answersOf", desc := "(LLostSheets$Drawer;)[I" } : Jvm.MethodName) prog_4_method_17_code (2 : Nat) (Option.some (FieldType.array FieldType.int))) ∈ lw_tbl := tl_2 _ (List.mem_of_getElem? (i := 88) rfl)
theorem ct_332 : (Jvm.Cond.code ({ cls := "LostSheets$Land", name := "markAt", desc := "(I)I" } : Jvm.MethodName) prog_4_method_5_code (2 : Nat) (Option.some FieldType.int)) ∈ lw_tbl := tl_2 _ (List.mem_of_getElem? (i := 92) rfl)
theorem ct_336 : (Jvm.Cond.code ({ cls := "LostSheets$Office", name := "turnsBy", desc := "([I)I" } : Jvm.MethodName) prog_5_method_4_code (7 : Nat) (Option.some FieldType.int)) ∈ lw_tbl := tl_2 _ (List.mem_of_getElem? (i := 96) rfl)
theorem ct_339 : (Jvm.Cond.code ({ cls := "LostSheets$Office", name := "holds", desc := "([III)I" } : Jvm.MethodName) prog_5_method_5_code (6 : Nat) (Option.some FieldType.int)) ∈ lw_tbl := tl_2 _ (List.mem_of_getElem? (i := 99) rfl)
theorem ct_343 : (Jvm.Cond.code ({ cls := "LostSheets$Land", name := "othersWith", desc := "(LLostSheets$Drawer;)I" } : Jvm.MethodName) prog_4_method_18_code (4 : Nat) (Option.some FieldType.int)) ∈ lw_tbl := tl_2 _ (List.mem_of_getElem? (i := 103) rfl)
theorem ct_346 : (Jvm.Cond.code ({ cls := "java/lang/Math", name := "floorMod", desc := "(II)I" } : Jvm.MethodName) prog_14_method_50_code (3 : Nat) (Option.some FieldType.int)) ∈ lw_tbl := tl_2 _ (List.mem_of_getElem? (i := 106) rfl)
theorem ct_350 : (Jvm.Cond.code ({ cls := "LostSheets$Land", name := "wayOf", desc := "(LLostSheets$Drawer;)I" } : Jvm.MethodName) prog_4_method_20_code (2 : Nat) (Option.some FieldType.int)) ∈ lw_tbl := tl_2 _ (List.mem_of_getElem? (i := 110) rfl)
theorem ct_355 : (Jvm.Cond.code ({ cls := "LostSheets$Land", name := "cameOf", desc := "(LLostSheets$Drawer;)I" } : Jvm.MethodName) prog_4_method_27_code (4 : Nat) (Option.some FieldType.int)) ∈ lw_tbl := tl_2 _ (List.mem_of_getElem? (i := 115) rfl)
theorem ct_359 : (Jvm.Cond.code ({ cls := "LostSheets$Land", name := "endBySheet", desc := "(LLostSheets$Drawer;I)I" } : Jvm.MethodName) prog_4_method_26_code (5 : Nat) (Option.some FieldType.int)) ∈ lw_tbl := tl_2 _ (List.mem_of_getElem? (i := 119) rfl)
theorem ct_362 : (Jvm.Cond.code ({ cls := "LostSheets$Land", name := "stepFrom", desc := "(II)I" } : Jvm.MethodName) prog_4_method_25_code (4 : Nat) (Option.some FieldType.int)) ∈ lw_tbl := tl_2 _ (List.mem_of_getElem? (i := 122) rfl)
theorem ct_366 : (Jvm.Cond.code ({ cls := "LostSheets$Land", name := "hereOf", desc := "(LLostSheets$Drawer;)I" } : Jvm.MethodName) prog_4_method_28_code (5 : Nat) (Option.some FieldType.int)) ∈ lw_tbl := tl_2 _ (List.mem_of_getElem? (i := 126) rfl)
theorem ct_370 : (Jvm.Cond.code ({ cls := "LostSheets$Land", name := "lookOf", desc := "(LLostSheets$Drawer;)I" } : Jvm.MethodName) prog_4_method_29_code (7 : Nat) (Option.some FieldType.int)) ∈ lw_tbl := tl_2 _ (List.mem_of_getElem? (i := 130) rfl)
theorem ct_375 : (Jvm.Cond.code ({ cls := "LostSheets$Land", name := "mostAtOneMark", desc := "(II)I" } : Jvm.MethodName) prog_4_method_30_code (6 : Nat) (Option.some FieldType.int)) ∈ lw_tbl := tl_2 _ (List.mem_of_getElem? (i := 135) rfl)
theorem ct_378 : (Jvm.Cond.code ({ cls := "LostSheets", name := "isMark", desc := "(I)Z" } : Jvm.MethodName) prog_1_method_35_code (1 : Nat) (Option.some FieldType.boolean)) ∈ lw_tbl := tl_2 _ (List.mem_of_getElem? (i := 138) rfl)
theorem ct_383 : (Jvm.Cond.code ({ cls := "LostSheets", name := "placesOf", desc := "(LLostSheets$Drawer;)I" } : Jvm.MethodName) prog_1_method_47_code (4 : Nat) (Option.some FieldType.int)) ∈ lw_tbl := tl_2 _ (List.mem_of_getElem? (i := 143) rfl)
theorem ct_387 : (Jvm.Cond.code ({ cls := "LostSheets", name := "tryAt", desc := "(II)V" } : Jvm.MethodName) prog_1_method_42_code (3 : Nat) (Option.none : Option FieldType)) ∈ lw_tbl := tl_2 _ (List.mem_of_getElem? (i := 147) rfl)
theorem ct_391 : (Jvm.Cond.code ({ cls := "LostSheets$Land", name := "copyFrom", desc := "(LLostSheets$Land;)V" } : Jvm.MethodName) prog_4_method_2_code (3 : Nat) (Option.none : Option FieldType)) ∈ lw_tbl := tl_2 _ (List.mem_of_getElem? (i := 151) rfl)
theorem ct_398 : (Jvm.Cond.code ({ cls := "LostSheets$Drawer", name := "copyFrom", desc := "(LLostSheets$Drawer;)V" } : Jvm.MethodName) prog_3_method_3_code (2 : Nat) (Option.none : Option FieldType)) ∈ lw_tbl := tl_2 _ (List.mem_of_getElem? (i := 158) rfl)
theorem ct_403 : (Jvm.Cond.code ({ cls := "LostSheets$Land", name := "putAt", desc := "(II)V" } : Jvm.MethodName) prog_4_method_8_code (4 : Nat) (Option.none : Option FieldType)) ∈ lw_tbl := tl_2 _ (List.mem_of_getElem? (i := 163) rfl)
theorem ct_409 : (Jvm.Cond.code ({ cls := "LostSheets", name := "seenIsSo", desc := "()Z" } : Jvm.MethodName) prog_1_method_50_code (3 : Nat) (Option.some FieldType.boolean)) ∈ lw_tbl := tl_2 _ (List.mem_of_getElem? (i := 169) rfl)
theorem ct_413 : (Jvm.Cond.code ({ cls := "LostSheets$ByHand", name := "lastHourSeen", desc := "()I" } : Jvm.MethodName) prog_2_method_3_code (3 : Nat) (Option.some FieldType.int)) ∈ lw_tbl := tl_2 _ (List.mem_of_getElem? (i := 173) rfl)
theorem ct_418 : (Jvm.Cond.code ({ cls := "LostSheets", name := "seenIsSoIn", desc := "(I)Z" } : Jvm.MethodName) prog_1_method_51_code (4 : Nat) (Option.some FieldType.boolean)) ∈ lw_tbl := tl_2 _ (List.mem_of_getElem? (i := 178) rfl)
theorem ct_422 : (Jvm.Cond.code ({ cls := "LostSheets$Land", name := "whereIs", desc := "(I)I" } : Jvm.MethodName) prog_4_method_7_code (3 : Nat) (Option.some FieldType.int)) ∈ lw_tbl := tl_2 _ (List.mem_of_getElem? (i := 182) rfl)
theorem ct_427 : (Jvm.Cond.code ({ cls := "LostSheets$Land", name := "hoursGo", desc := "(I)V" } : Jvm.MethodName) prog_4_method_23_code (3 : Nat) (Option.none : Option FieldType)) ∈ lw_tbl := tl_2 _ (List.mem_of_getElem? (i := 187) rfl)
theorem ct_431 : (Jvm.Cond.code ({ cls := "LostSheets$Land", name := "anyGoes", desc := "()Z" } : Jvm.MethodName) prog_4_method_24_code (2 : Nat) (Option.some FieldType.boolean)) ∈ lw_tbl := tl_2 _ (List.mem_of_getElem? (i := 191) rfl)
theorem ct_435 : (Jvm.Cond.code ({ cls := "LostSheets$Drawer", name := "goes", desc := "()Z" } : Jvm.MethodName) prog_3_method_4_code (1 : Nat) (Option.some FieldType.boolean)) ∈ lw_tbl := tl_2 _ (List.mem_of_getElem? (i := 195) rfl)
theorem ct_439 : (Jvm.Cond.code ({ cls := "LostSheets$Land", name := "hourGoes", desc := "()V" } : Jvm.MethodName) prog_4_method_21_code (3 : Nat) (Option.none : Option FieldType)) ∈ lw_tbl := tl_2 _ (List.mem_of_getElem? (i := 199) rfl)
theorem ct_443 : (Jvm.Cond.code ({ cls := "LostSheets$Land", name := "know", desc := "()I" } : Jvm.MethodName) prog_4_method_16_code (1 : Nat) (Option.some FieldType.int)) ∈ lw_tbl := tl_2 _ (List.mem_of_getElem? (i := 203) rfl)
theorem ct_447 : (Jvm.Cond.code ({ cls := "LostSheets$Land", name := "stepsAndDraws", desc := "(LLostSheets$Drawer;II)V" } : Jvm.MethodName) prog_4_method_22_code (5 : Nat) (Option.none : Option FieldType)) ∈ lw_tbl := tl_2 _ (List.mem_of_getElem? (i := 207) rfl)
theorem ct_451 : (Jvm.Cond.code ({ cls := "LostSheets$Drawer", name := "writes", desc := "(II)V" } : Jvm.MethodName) prog_3_method_5_code (3 : Nat) (Option.none : Option FieldType)) ∈ lw_tbl := tl_2 _ (List.mem_of_getElem? (i := 211) rfl)
theorem ct_455 : (Jvm.Cond.code ({ cls := "LostSheets$Drawer", name := "rowsWith", desc := "(I)I" } : Jvm.MethodName) prog_3_method_6_code (4 : Nat) (Option.some FieldType.int)) ∈ lw_tbl := tl_2 _ (List.mem_of_getElem? (i := 215) rfl)
theorem ct_459 : (Jvm.Cond.code ({ cls := "LostSheets", name := "sheet", desc := "(II)I" } : Jvm.MethodName) prog_1_method_4_code (4 : Nat) (Option.some FieldType.int)) ∈ lw_tbl := tl_2 _ (List.mem_of_getElem? (i := 219) rfl)
theorem ct_463 : (Jvm.Cond.code ({ cls := "LostSheets", name := "put", desc := "(II)I" } : Jvm.MethodName) prog_1_method_5_code (5 : Nat) (Option.some FieldType.int)) ∈ lw_tbl := tl_2 _ (List.mem_of_getElem? (i := 223) rfl)
theorem ct_467 : (Jvm.Cond.code ({ cls := "LostSheets", name := "anew", desc := "(I)I" } : Jvm.MethodName) prog_1_method_6_code (4 : Nat) (Option.some FieldType.int)) ∈ lw_tbl := tl_2 _ (List.mem_of_getElem? (i := 227) rfl)
theorem ct_471 : (Jvm.Cond.code ({ cls := "LostSheets", name := "mark", desc := "(II)I" } : Jvm.MethodName) prog_1_method_7_code (4 : Nat) (Option.some FieldType.int)) ∈ lw_tbl := tl_2 _ (List.mem_of_getElem? (i := 231) rfl)
theorem ct_476 : (Jvm.Cond.code ({ cls := "LostSheets$Land", name := "setMark", desc := "(II)V" } : Jvm.MethodName) prog_4_method_6_code (3 : Nat) (Option.none : Option FieldType)) ∈ lw_tbl := tl_2 _ (List.mem_of_getElem? (i := 236) rfl)
theorem ct_480 : (Jvm.Cond.code ({ cls := "LostSheets", name := "row", desc := "(III)I" } : Jvm.MethodName) prog_1_method_8_code (6 : Nat) (Option.some FieldType.int)) ∈ lw_tbl := tl_3 _ (List.mem_of_getElem? (i := 0) rfl)
theorem ct_484 : (Jvm.Cond.code ({ cls := "LostSheets", name := "feed", desc := "(I)I" } : Jvm.MethodName) prog_1_method_9_code (2 : Nat) (Option.some FieldType.int)) ∈ lw_tbl := tl_3 _ (List.mem_of_getElem? (i := 4) rfl)
theorem ct_488 : (Jvm.Cond.code ({ cls := "LostSheets$Text", name := "append", desc := "(I)Z" } : Jvm.MethodName) prog_8_method_2_code (2 : Nat) (Option.some FieldType.boolean)) ∈ lw_tbl := tl_3 _ (List.mem_of_getElem? (i := 8) rfl)
theorem ct_492 : (Jvm.Cond.code ({ cls := "LostSheets", name := "office", desc := "()I" } : Jvm.MethodName) prog_1_method_10_code (3 : Nat) (Option.some FieldType.int)) ∈ lw_tbl := tl_3 _ (List.mem_of_getElem? (i := 12) rfl)
theorem ct_496 : (Jvm.Cond.code ({ cls := "LostSheets$Text", name := "readInto", desc := "(LLostSheets$Office;)I" } : Jvm.MethodName) prog_8_method_3_code (4 : Nat) (Option.some FieldType.int)) ∈ lw_tbl := tl_3 _ (List.mem_of_getElem? (i := 16) rfl)
theorem ct_500 : (Jvm.Cond.code ({ cls := "LostSheets$Office", name := "clear", desc := "()V" } : Jvm.MethodName) prog_5_method_2_code (1 : Nat) (Option.none : Option FieldType)) ∈ lw_tbl := tl_3 _ (List.mem_of_getElem? (i := 20) rfl)
theorem ct_504 : (Jvm.Cond.code ({ cls := "LostSheets$Text", name := "clause", desc := "()Z" } : Jvm.MethodName) prog_8_method_8_code (4 : Nat) (Option.some FieldType.boolean)) ∈ lw_tbl := tl_3 _ (List.mem_of_getElem? (i := 24) rfl)
theorem ct_508 : (Jvm.Cond.code ({ cls := "LostSheets$Text", name := "ahead", desc := "()I" } : Jvm.MethodName) prog_8_method_4_code (1 : Nat) (Option.some FieldType.int)) ∈ lw_tbl := tl_3 _ (List.mem_of_getElem? (i := 28) rfl)
theorem ct_515 : (Jvm.Cond.code ({ cls := "LostSheets$Text", name := "takesAll", desc := "(Ljava/lang/String;)Z" } : Jvm.MethodName) prog_8_method_6_code (3 : Nat) (Option.some FieldType.boolean)) ∈ lw_tbl := tl_3 _ (List.mem_of_getElem? (i := 35) rfl)
theorem ct_519 : (Jvm.Cond.code ({ cls := "java/lang/String", name := "length", desc := "()I" } : Jvm.MethodName) prog_15_method_54_code (1 : Nat) (Option.some FieldType.int)) ∈ lw_tbl := tl_3 _ (List.mem_of_getElem? (i := 39) rfl)
theorem ct_13 : (Jvm.Cond.initialized "java/lang/String") ∈ lw_tbl := tl_1 _ (List.mem_of_getElem? (i := 13) rfl)
theorem ct_523 : (Jvm.Cond.code ({ cls := "java/lang/String", name := "coder", desc := "()B" } : Jvm.MethodName) prog_15_method_152_code (1 : Nat) (Option.some FieldType.byte)) ∈ lw_tbl := tl_3 _ (List.mem_of_getElem? (i := 43) rfl)
theorem ct_529 : (Jvm.Cond.code ({ cls := "java/lang/String", name := "charAt", desc := "(I)C" } : Jvm.MethodName) prog_15_method_56_code (2 : Nat) (Option.some FieldType.char)) ∈ lw_tbl := tl_3 _ (List.mem_of_getElem? (i := 49) rfl)
theorem ct_533 : (Jvm.Cond.code ({ cls := "java/lang/String", name := "isLatin1", desc := "()Z" } : Jvm.MethodName) prog_15_method_154_code (1 : Nat) (Option.some FieldType.boolean)) ∈ lw_tbl := tl_3 _ (List.mem_of_getElem? (i := 53) rfl)
theorem ct_536 : (Jvm.Cond.code ({ cls := "java/lang/StringLatin1", name := "charAt", desc := "([BI)C" } : Jvm.MethodName) prog_16_method_2_code (2 : Nat) (Option.some FieldType.char)) ∈ lw_tbl := tl_3 _ (List.mem_of_getElem? (i := 56) rfl)
theorem ct_14 : (Jvm.Cond.initialized "java/lang/StringLatin1") ∈ lw_tbl := tl_1 _ (List.mem_of_getElem? (i := 14) rfl)
theorem ct_539 : (Jvm.Cond.code ({ cls := "java/lang/String", name := "checkIndex", desc := "(II)V" } : Jvm.MethodName) prog_15_method_155_code (2 : Nat) (Option.none : Option FieldType)) ∈ lw_tbl := tl_3 _ (List.mem_of_getElem? (i := 59) rfl)
theorem ct_544 : (Jvm.Cond.code ({ cls := "jdk/internal/util/Preconditions", name := "checkIndex", desc := "(IILjava/util/function/BiFunction;)I" } : Jvm.MethodName) prog_19_method_11_code (3 : Nat) (Option.some FieldType.int)) ∈ lw_tbl := tl_3 _ (List.mem_of_getElem? (i := 64) rfl)
theorem ct_15 : (Jvm.Cond.initialized "jdk/internal/util/Preconditions") ∈ lw_tbl := tl_1 _ (List.mem_of_getElem? (i := 15) rfl)
theorem ct_567 : (Jvm.Cond.code ({ cls := "LostSheets$Text", name := "takes", desc := "(I)Z" } : Jvm.MethodName) prog_8_method_5_code (2 : Nat) (Option.some FieldType.boolean)) ∈ lw_tbl := tl_3 _ (List.mem_of_getElem? (i := 87) rfl)
theorem ct_571 : (Jvm.Cond.code ({ cls := "LostSheets$Text", name := "oneOrTwoDigits", desc := "()Z" } : Jvm.MethodName) prog_8_method_7_code (3 : Nat) (Option.some FieldType.boolean)) ∈ lw_tbl := tl_3 _ (List.mem_of_getElem? (i := 91) rfl)
theorem ct_575 : (Jvm.Cond.code ({ cls := "LostSheets$Text", name := "anyOf", desc := "(I)Z" } : Jvm.MethodName) prog_8_method_9_code (4 : Nat) (Option.some FieldType.boolean)) ∈ lw_tbl := tl_3 _ (List.mem_of_getElem? (i := 95) rfl)
theorem ct_579 : (Jvm.Cond.code ({ cls := "LostSheets$Text", name := "allOf", desc := "(I)Z" } : Jvm.MethodName) prog_8_method_10_code (4 : Nat) (Option.some FieldType.boolean)) ∈ lw_tbl := tl_3 _ (List.mem_of_getElem? (i := 99) rfl)
theorem ct_583 : (Jvm.Cond.code ({ cls := "LostSheets$Text", name := "one", desc := "(I)Z" } : Jvm.MethodName) prog_8_method_11_code (3 : Nat) (Option.some FieldType.boolean)) ∈ lw_tbl := tl_3 _ (List.mem_of_getElem? (i := 103) rfl)
theorem ct_587 : (Jvm.Cond.code ({ cls := "LostSheets$Text", name := "test", desc := "()Z" } : Jvm.MethodName) prog_8_method_14_code (3 : Nat) (Option.some FieldType.boolean)) ∈ lw_tbl := tl_3 _ (List.mem_of_getElem? (i := 107) rfl)
theorem ct_591 : (Jvm.Cond.code ({ cls := "LostSheets$Text", name := "placeIn", desc := "(Ljava/lang/String;I)I" } : Jvm.MethodName) prog_8_method_15_code (3 : Nat) (Option.some FieldType.int)) ∈ lw_tbl := tl_3 _ (List.mem_of_getElem? (i := 111) rfl)
theorem ct_596 : (Jvm.Cond.code ({ cls := "LostSheets$Office", name := "append", desc := "(II)V" } : Jvm.MethodName) prog_5_method_3_code (3 : Nat) (Option.none : Option FieldType)) ∈ lw_tbl := tl_3 _ (List.mem_of_getElem? (i := 116) rfl)
theorem ct_600 : (Jvm.Cond.code ({ cls := "LostSheets$Text", name := "not", desc := "(I)Z" } : Jvm.MethodName) prog_8_method_12_code (3 : Nat) (Option.some FieldType.boolean)) ∈ lw_tbl := tl_3 _ (List.mem_of_getElem? (i := 120) rfl)
theorem ct_604 : (Jvm.Cond.code ({ cls := "LostSheets$Text", name := "inBrackets", desc := "(I)Z" } : Jvm.MethodName) prog_8_method_13_code (2 : Nat) (Option.some FieldType.boolean)) ∈ lw_tbl := tl_3 _ (List.mem_of_getElem? (i := 124) rfl)
theorem ct_608 : (Jvm.Cond.code ({ cls := "LostSheets", name := "told", desc := "(I)I" } : Jvm.MethodName) prog_1_method_11_code (2 : Nat) (Option.some FieldType.int)) ∈ lw_tbl := tl_3 _ (List.mem_of_getElem? (i := 128) rfl)
theorem ct_612 : (Jvm.Cond.code ({ cls := "LostSheets", name := "marksOf", desc := "(I)I" } : Jvm.MethodName) prog_1_method_46_code (4 : Nat) (Option.some FieldType.int)) ∈ lw_tbl := tl_3 _ (List.mem_of_getElem? (i := 132) rfl)
theorem ct_617 : (Jvm.Cond.code ({ cls := "LostSheets$Land", name := "doneBits", desc := "()I" } : Jvm.MethodName) prog_4_method_13_code (3 : Nat) (Option.some FieldType.int)) ∈ lw_tbl := tl_3 _ (List.mem_of_getElem? (i := 137) rfl)
theorem ct_621 : (Jvm.Cond.code ({ cls := "LostSheets", name := "whole", desc := "()I" } : Jvm.MethodName) prog_1_method_43_code (2 : Nat) (Option.some FieldType.int)) ∈ lw_tbl := tl_3 _ (List.mem_of_getElem? (i := 141) rfl)
theorem ct_626 : (Jvm.Cond.code ({ cls := "LostSheets", name := "pass", desc := "(I)I" } : Jvm.MethodName) prog_1_method_12_code (2 : Nat) (Option.some FieldType.int)) ∈ lw_tbl := tl_3 _ (List.mem_of_getElem? (i := 146) rfl)
theorem ct_630 : (Jvm.Cond.code ({ cls := "LostSheets$Land", name := "capDrew", desc := "()V" } : Jvm.MethodName) prog_4_method_15_code (2 : Nat) (Option.none : Option FieldType)) ∈ lw_tbl := tl_3 _ (List.mem_of_getElem? (i := 150) rfl)
theorem ct_633 : (Jvm.Cond.code ({ cls := "java/lang/Math", name := "min", desc := "(II)I" } : Jvm.MethodName) prog_14_method_69_code (2 : Nat) (Option.some FieldType.int)) ∈ lw_tbl := tl_3 _ (List.mem_of_getElem? (i := 153) rfl)
theorem ct_637 : (Jvm.Cond.code ({ cls := "LostSheets", name := "on", desc := "(II)I" } : Jvm.MethodName) prog_1_method_13_code (3 : Nat) (Option.some FieldType.int)) ∈ lw_tbl := tl_3 _ (List.mem_of_getElem? (i := 157) rfl)
theorem ct_641 : (Jvm.Cond.code ({ cls := "LostSheets", name := "drawerBehindTen", desc := "(I)LLostSheets$Drawer;" } : Jvm.MethodName) prog_1_method_38_code (2 : Nat) (Option.some (FieldType.object "LostSheets$Drawer"))) ∈ lw_tbl := tl_3 _ (List.mem_of_getElem? (i := 161) rfl)
theorem ct_645 : (Jvm.Cond.code ({ cls := "LostSheets", name := "best", desc := "(II)I" } : Jvm.MethodName) prog_1_method_14_code (3 : Nat) (Option.some FieldType.int)) ∈ lw_tbl := tl_3 _ (List.mem_of_getElem? (i := 165) rfl)
theorem ct_649 : (Jvm.Cond.code ({ cls := "LostSheets", name := "crew", desc := "(I)I" } : Jvm.MethodName) prog_1_method_45_code (7 : Nat) (Option.some FieldType.int)) ∈ lw_tbl := tl_3 _ (List.mem_of_getElem? (i := 169) rfl)
theorem ct_652 : (Jvm.Cond.code ({ cls := "java/lang/Integer", name := "bitCount", desc := "(I)I" } : Jvm.MethodName) prog_13_method_49_code (1 : Nat) (Option.some FieldType.int)) ∈ lw_tbl := tl_3 _ (List.mem_of_getElem? (i := 172) rfl)
theorem ct_18 : (Jvm.Cond.initialized "java/lang/Integer") ∈ lw_tbl := tl_1 _ (List.mem_of_getElem? (i := 18) rfl)
theorem ct_659 : (Jvm.Cond.code ({ cls := "LostSheets$Land", name := "othersAreDone", desc := "(I)V" } : Jvm.MethodName) prog_4_method_12_code (3 : Nat) (Option.none : Option FieldType)) ∈ lw_tbl := tl_3 _ (List.mem_of_getElem? (i := 179) rfl)
theorem ct_663 : (Jvm.Cond.code ({ cls := "LostSheets", name := "landing", desc := "(II)I" } : Jvm.MethodName) prog_1_method_44_code (7 : Nat) (Option.some FieldType.int)) ∈ lw_tbl := tl_3 _ (List.mem_of_getElem? (i := 183) rfl)
theorem ct_667 : (Jvm.Cond.code ({ cls := "LostSheets", name := "see", desc := "(III)I" } : Jvm.MethodName) prog_1_method_15_code (4 : Nat) (Option.some FieldType.int)) ∈ lw_tbl := tl_3 _ (List.mem_of_getElem? (i := 187) rfl)
theorem ct_671 : (Jvm.Cond.code ({ cls := "LostSheets$Rows", name := "clear", desc := "()V" } : Jvm.MethodName) prog_6_method_2_code (1 : Nat) (Option.none : Option FieldType)) ∈ lw_tbl := tl_3 _ (List.mem_of_getElem? (i := 191) rfl)
theorem ct_675 : (Jvm.Cond.code ({ cls := "LostSheets$Rows", name := "append", desc := "(III)Z" } : Jvm.MethodName) prog_6_method_3_code (4 : Nat) (Option.some FieldType.boolean)) ∈ lw_tbl := tl_3 _ (List.mem_of_getElem? (i := 195) rfl)
theorem ct_679 : (Jvm.Cond.code ({ cls := "LostSheets", name := "can", desc := "(II)I" } : Jvm.MethodName) prog_1_method_16_code (4 : Nat) (Option.some FieldType.int)) ∈ lw_tbl := tl_3 _ (List.mem_of_getElem? (i := 199) rfl)
theorem ct_683 : (Jvm.Cond.code ({ cls := "LostSheets", name := "possibleNumbers", desc := "(I)I" } : Jvm.MethodName) prog_1_method_48_code (4 : Nat) (Option.some FieldType.int)) ∈ lw_tbl := tl_3 _ (List.mem_of_getElem? (i := 203) rfl)
theorem ct_687 : (Jvm.Cond.code ({ cls := "LostSheets$Land", name := "setNumber", desc := "(II)V" } : Jvm.MethodName) prog_4_method_9_code (4 : Nat) (Option.none : Option FieldType)) ∈ lw_tbl := tl_3 _ (List.mem_of_getElem? (i := 207) rfl)
theorem ct_690 : (Jvm.Cond.code ({ cls := "LostSheets", name := "leastOf", desc := "(I)I" } : Jvm.MethodName) prog_1_method_49_code (2 : Nat) (Option.some FieldType.int)) ∈ lw_tbl := tl_3 _ (List.mem_of_getElem? (i := 210) rfl)
theorem ct_694 : (Jvm.Cond.code ({ cls := "LostSheets", name := "odds", desc := "(III)J" } : Jvm.MethodName) prog_1_method_17_code (6 : Nat) (Option.some FieldType.long)) ∈ lw_tbl := tl_3 _ (List.mem_of_getElem? (i := 214) rfl)
theorem ct_699 : (Jvm.Cond.code ({ cls := "LostSheets", name := "partOfFraction", desc := "(JJI)J" } : Jvm.MethodName) prog_1_method_53_code (7 : Nat) (Option.some FieldType.long)) ∈ lw_tbl := tl_3 _ (List.mem_of_getElem? (i := 219) rfl)
theorem ct_702 : (Jvm.Cond.code ({ cls := "LostSheets", name := "greatestDivisor", desc := "(JJ)J" } : Jvm.MethodName) prog_1_method_54_code (11 : Nat) (Option.some FieldType.long)) ∈ lw_tbl := tl_3 _ (List.mem_of_getElem? (i := 222) rfl)
theorem ct_706 : (Jvm.Cond.code ({ cls := "LostSheets", name := "mean", desc := "(II)J" } : Jvm.MethodName) prog_1_method_18_code (3 : Nat) (Option.some FieldType.long)) ∈ lw_tbl := tl_3 _ (List.mem_of_getElem? (i := 226) rfl)
theorem ct_710 : (Jvm.Cond.code ({ cls := "LostSheets$Land", name := "drewOfAll", desc := "()I" } : Jvm.MethodName) prog_4_method_14_code (3 : Nat) (Option.some FieldType.int)) ∈ lw_tbl := tl_3 _ (List.mem_of_getElem? (i := 230) rfl)
theorem ct_714 : (Jvm.Cond.code ({ cls := "LostSheets", name := "plan", desc := "(II)I" } : Jvm.MethodName) prog_1_method_19_code (3 : Nat) (Option.some FieldType.int)) ∈ lw_tbl := tl_3 _ (List.mem_of_getElem? (i := 234) rfl)
theorem ct_718 : (Jvm.Cond.code ({ cls := "LostSheets", name := "isPlanRow", desc := "(II)Z" } : Jvm.MethodName) prog_1_method_37_code (3 : Nat) (Option.some FieldType.boolean)) ∈ lw_tbl := tl_3 _ (List.mem_of_getElem? (i := 238) rfl)
theorem ct_722 : (Jvm.Cond.code ({ cls := "LostSheets", name := "ends", desc := "(I)I" } : Jvm.MethodName) prog_1_method_20_code (2 : Nat) (Option.some FieldType.int)) ∈ lw_tbl := tl_4 _ (List.mem_of_getElem? (i := 2) rfl)
theorem ct_726 : (Jvm.Cond.code ({ cls := "LostSheets", name := "tryPlan", desc := "()V" } : Jvm.MethodName) prog_1_method_52_code (4 : Nat) (Option.none : Option FieldType)) ∈ lw_tbl := tl_4 _ (List.mem_of_getElem? (i := 6) rfl)
theorem ct_730 : (Jvm.Cond.code ({ cls := "LostSheets$Land", name := "emptySheet", desc := "(I)V" } : Jvm.MethodName) prog_4_method_10_code (3 : Nat) (Option.none : Option FieldType)) ∈ lw_tbl := tl_4 _ (List.mem_of_getElem? (i := 10) rfl)
theorem ct_734 : (Jvm.Cond.code ({ cls := "LostSheets$Land", name := "notDone", desc := "(I)V" } : Jvm.MethodName) prog_4_method_11_code (3 : Nat) (Option.none : Option FieldType)) ∈ lw_tbl := tl_4 _ (List.mem_of_getElem? (i := 14) rfl)
theorem ct_738 : (Jvm.Cond.code ({ cls := "LostSheets", name := "book", desc := "(II)I" } : Jvm.MethodName) prog_1_method_21_code (3 : Nat) (Option.some FieldType.int)) ∈ lw_tbl := tl_4 _ (List.mem_of_getElem? (i := 18) rfl)
theorem ct_742 : (Jvm.Cond.code ({ cls := "LostSheets", name := "looked", desc := "()I" } : Jvm.MethodName) prog_1_method_22_code (3 : Nat) (Option.some FieldType.int)) ∈ lw_tbl := tl_4 _ (List.mem_of_getElem? (i := 22) rfl)
theorem ct_746 : (Jvm.Cond.code ({ cls := "LostSheets", name := "judge", desc := "(II)I" } : Jvm.MethodName) prog_1_method_23_code (6 : Nat) (Option.some FieldType.int)) ∈ lw_tbl := tl_4 _ (List.mem_of_getElem? (i := 26) rfl)
theorem ct_750 : (Jvm.Cond.code ({ cls := "LostSheets", name := "tapeAt", desc := "(I)LLostSheets$Tape;" } : Jvm.MethodName) prog_1_method_39_code (2 : Nat) (Option.some (FieldType.object "LostSheets$Tape"))) ∈ lw_tbl := tl_4 _ (List.mem_of_getElem? (i := 30) rfl)
theorem ct_754 : (Jvm.Cond.code ({ cls := "LostSheets$Tape", name := "has", desc := "(I)Z" } : Jvm.MethodName) prog_7_method_3_code (2 : Nat) (Option.some FieldType.boolean)) ∈ lw_tbl := tl_4 _ (List.mem_of_getElem? (i := 34) rfl)
theorem ct_758 : (Jvm.Cond.code ({ cls := "LostSheets", name := "image", desc := "()I" } : Jvm.MethodName) prog_1_method_24_code (1 : Nat) (Option.some FieldType.int)) ∈ lw_tbl := tl_4 _ (List.mem_of_getElem? (i := 38) rfl)
theorem ct_762 : (Jvm.Cond.code ({ cls := "LostSheets$ByHand", name := "copyFrom", desc := "(LLostSheets$ByHand;)V" } : Jvm.MethodName) prog_2_method_2_code (2 : Nat) (Option.none : Option FieldType)) ∈ lw_tbl := tl_4 _ (List.mem_of_getElem? (i := 42) rfl)
theorem ct_766 : (Jvm.Cond.code ({ cls := "LostSheets$Rows", name := "copyFrom", desc := "(LLostSheets$Rows;)V" } : Jvm.MethodName) prog_6_method_4_code (3 : Nat) (Option.none : Option FieldType)) ∈ lw_tbl := tl_4 _ (List.mem_of_getElem? (i := 46) rfl)
theorem ct_771 : (Jvm.Cond.code ({ cls := "LostSheets", name := "undo", desc := "()I" } : Jvm.MethodName) prog_1_method_25_code (1 : Nat) (Option.some FieldType.int)) ∈ lw_tbl := tl_4 _ (List.mem_of_getElem? (i := 51) rfl)
theorem ct_775 : (Jvm.Cond.code ({ cls := "LostSheets", name := "act", desc := "(III)I" } : Jvm.MethodName) prog_1_method_26_code (4 : Nat) (Option.some FieldType.int)) ∈ lw_tbl := tl_4 _ (List.mem_of_getElem? (i := 55) rfl)
theorem ct_779 : (Jvm.Cond.code ({ cls := "LostSheets$Trace", name := "ofAct", desc := "(LLostSheets$Drawer;II)I" } : Jvm.MethodName) prog_9_method_4_code (4 : Nat) (Option.some FieldType.int)) ∈ lw_tbl := tl_4 _ (List.mem_of_getElem? (i := 59) rfl)
theorem ct_783 : (Jvm.Cond.code ({ cls := "LostSheets$Trace", name := "run", desc := "(LLostSheets$Drawer;IIII)I" } : Jvm.MethodName) prog_9_method_5_code (7 : Nat) (Option.some FieldType.int)) ∈ lw_tbl := tl_4 _ (List.mem_of_getElem? (i := 63) rfl)
theorem ct_786 : (Jvm.Cond.code ({ cls := "LostSheets$Trace", name := "bodyOf", desc := "(II)I" } : Jvm.MethodName) prog_9_method_2_code (5 : Nat) (Option.some FieldType.int)) ∈ lw_tbl := tl_4 _ (List.mem_of_getElem? (i := 66) rfl)
theorem ct_791 : (Jvm.Cond.code ({ cls := "LostSheets", name := "aboveOf", desc := "(I)I" } : Jvm.MethodName) prog_1_method_40_code (1 : Nat) (Option.some FieldType.int)) ∈ lw_tbl := tl_4 _ (List.mem_of_getElem? (i := 71) rfl)
theorem ct_797 : (Jvm.Cond.code ({ cls := "LostSheets$Trace", name := "begins", desc := "(I)V" } : Jvm.MethodName) prog_9_method_3_code (2 : Nat) (Option.none : Option FieldType)) ∈ lw_tbl := tl_4 _ (List.mem_of_getElem? (i := 77) rfl)
theorem ct_801 : (Jvm.Cond.code ({ cls := "LostSheets$Trace", name := "does", desc := "(ILLostSheets$Drawer;II)I" } : Jvm.MethodName) prog_9_method_6_code (5 : Nat) (Option.some FieldType.int)) ∈ lw_tbl := tl_4 _ (List.mem_of_getElem? (i := 81) rfl)
theorem ct_805 : (Jvm.Cond.code ({ cls := "LostSheets", name := "trace", desc := "(I)I" } : Jvm.MethodName) prog_1_method_27_code (2 : Nat) (Option.some FieldType.int)) ∈ lw_tbl := tl_4 _ (List.mem_of_getElem? (i := 85) rfl)
theorem ct_809 : (Jvm.Cond.code ({ cls := "LostSheets", name := "taken", desc := "(II)I" } : Jvm.MethodName) prog_1_method_28_code (4 : Nat) (Option.some FieldType.int)) ∈ lw_tbl := tl_4 _ (List.mem_of_getElem? (i := 89) rfl)
theorem ct_812 : (Jvm.Cond.code ({ cls := "LostSheets", name := "isUnder", desc := "(II)Z" } : Jvm.MethodName) prog_1_method_41_code (4 : Nat) (Option.some FieldType.boolean)) ∈ lw_tbl := tl_4 _ (List.mem_of_getElem? (i := 92) rfl)
theorem ct_817 : (Jvm.Cond.code ({ cls := "LostSheets", name := "count", desc := "(I)I" } : Jvm.MethodName) prog_1_method_29_code (2 : Nat) (Option.some FieldType.int)) ∈ lw_tbl := tl_4 _ (List.mem_of_getElem? (i := 97) rfl)
theorem ct_821 : (Jvm.Cond.code ({ cls := "LostSheets", name := "tape", desc := "(III)I" } : Jvm.MethodName) prog_1_method_30_code (5 : Nat) (Option.some FieldType.int)) ∈ lw_tbl := tl_4 _ (List.mem_of_getElem? (i := 101) rfl)
theorem ct_825 : (Jvm.Cond.code ({ cls := "LostSheets$Tape", name := "becomes", desc := "(II)V" } : Jvm.MethodName) prog_7_method_2_code (4 : Nat) (Option.none : Option FieldType)) ∈ lw_tbl := tl_4 _ (List.mem_of_getElem? (i := 105) rfl)
theorem ct_829 : (Jvm.Cond.code ({ cls := "LostSheets", name := "item", desc := "(IIJ)I" } : Jvm.MethodName) prog_1_method_31_code (6 : Nat) (Option.some FieldType.int)) ∈ lw_tbl := tl_4 _ (List.mem_of_getElem? (i := 109) rfl)
theorem ct_833 : (Jvm.Cond.code ({ cls := "LostSheets$Tape", name := "asItem", desc := "(J)J" } : Jvm.MethodName) prog_7_method_5_code (3 : Nat) (Option.some FieldType.long)) ∈ lw_tbl := tl_4 _ (List.mem_of_getElem? (i := 113) rfl)
theorem ct_837 : (Jvm.Cond.code ({ cls := "LostSheets", name := "read", desc := "(II)J" } : Jvm.MethodName) prog_1_method_32_code (4 : Nat) (Option.some FieldType.long)) ∈ lw_tbl := tl_4 _ (List.mem_of_getElem? (i := 117) rfl)
theorem ct_841 : (Jvm.Cond.code ({ cls := "LostSheets", name := "shift", desc := "(IIIII)I" } : Jvm.MethodName) prog_1_method_33_code (8 : Nat) (Option.some FieldType.int)) ∈ lw_tbl := tl_4 _ (List.mem_of_getElem? (i := 121) rfl)
theorem ct_845 : (Jvm.Cond.code ({ cls := "LostSheets$Tape", name := "hasRun", desc := "(II)Z" } : Jvm.MethodName) prog_7_method_4_code (3 : Nat) (Option.some FieldType.boolean)) ∈ lw_tbl := tl_4 _ (List.mem_of_getElem? (i := 125) rfl)
theorem ct_851 : (Jvm.Cond.code ({ cls := "LostSheetsModel", name := "<init>", desc := "()V" } : Jvm.MethodName) prog_11_method_1_code (2 : Nat) (Option.none : Option FieldType)) ∈ lw_tbl := tl_4 _ (List.mem_of_getElem? (i := 131) rfl)
theorem ct_11 : (Jvm.Cond.initialized "LostSheetsModel") ∈ lw_tbl := tl_1 _ (List.mem_of_getElem? (i := 11) rfl)
theorem ct_999 : (Jvm.Cond.code ({ cls := "LostSheetsModel", name := "drawer", desc := "(III)I" } : Jvm.MethodName) prog_11_method_5_code (5 : Nat) (Option.some FieldType.int)) ∈ lw_tbl := tl_5 _ (List.mem_of_getElem? (i := 39) rfl)
theorem ct_1002 : (Jvm.Cond.code ({ cls := "LostSheetsModel", name := "within", desc := "(III)Z" } : Jvm.MethodName) prog_11_method_2_code (3 : Nat) (Option.some FieldType.boolean)) ∈ lw_tbl := tl_5 _ (List.mem_of_getElem? (i := 42) rfl)
theorem ct_1005 : (Jvm.Cond.code ({ cls := "LostSheetsModel", name := "isCell", desc := "(I)Z" } : Jvm.MethodName) prog_11_method_4_code (1 : Nat) (Option.some FieldType.boolean)) ∈ lw_tbl := tl_5 _ (List.mem_of_getElem? (i := 45) rfl)
theorem ct_1009 : (Jvm.Cond.code ({ cls := "LostSheetsModel", name := "of", desc := "(II)I" } : Jvm.MethodName) prog_11_method_6_code (3 : Nat) (Option.some FieldType.int)) ∈ lw_tbl := tl_5 _ (List.mem_of_getElem? (i := 49) rfl)
theorem ct_1013 : (Jvm.Cond.code ({ cls := "LostSheetsModel", name := "isOne", desc := "(I)Z" } : Jvm.MethodName) prog_11_method_3_code (2 : Nat) (Option.some FieldType.boolean)) ∈ lw_tbl := tl_5 _ (List.mem_of_getElem? (i := 53) rfl)
theorem ct_1017 : (Jvm.Cond.code ({ cls := "LostSheetsModel", name := "feel", desc := "(I)I" } : Jvm.MethodName) prog_11_method_30_code (3 : Nat) (Option.some FieldType.int)) ∈ lw_tbl := tl_5 _ (List.mem_of_getElem? (i := 57) rfl)
theorem ct_1021 : (Jvm.Cond.code ({ cls := "LostSheetsModel", name := "sum", desc := "(I)I" } : Jvm.MethodName) prog_11_method_27_code (5 : Nat) (Option.some FieldType.int)) ∈ lw_tbl := tl_5 _ (List.mem_of_getElem? (i := 61) rfl)
theorem ct_1025 : (Jvm.Cond.code ({ cls := "LostSheetsModel", name := "isTrue", desc := "(II)Z" } : Jvm.MethodName) prog_11_method_26_code (9 : Nat) (Option.some FieldType.boolean)) ∈ lw_tbl := tl_5 _ (List.mem_of_getElem? (i := 65) rfl)
theorem ct_1029 : (Jvm.Cond.code ({ cls := "LostSheetsModel", name := "letterOf", desc := "(II)I" } : Jvm.MethodName) prog_11_method_25_code (3 : Nat) (Option.some FieldType.int)) ∈ lw_tbl := tl_5 _ (List.mem_of_getElem? (i := 69) rfl)
theorem ct_1033 : (Jvm.Cond.code ({ cls := "LostSheetsModel", name := "others", desc := "(I)I" } : Jvm.MethodName) prog_11_method_29_code (4 : Nat) (Option.some FieldType.int)) ∈ lw_tbl := tl_5 _ (List.mem_of_getElem? (i := 73) rfl)
theorem ct_1037 : (Jvm.Cond.code ({ cls := "LostSheetsModel", name := "wayOf", desc := "(I)I" } : Jvm.MethodName) prog_11_method_31_code (2 : Nat) (Option.some FieldType.int)) ∈ lw_tbl := tl_5 _ (List.mem_of_getElem? (i := 77) rfl)
theorem ct_1041 : (Jvm.Cond.code ({ cls := "LostSheetsModel", name := "came", desc := "(IZ)I" } : Jvm.MethodName) prog_11_method_41_code (8 : Nat) (Option.some FieldType.int)) ∈ lw_tbl := tl_5 _ (List.mem_of_getElem? (i := 81) rfl)
theorem ct_1044 : (Jvm.Cond.code ({ cls := "LostSheetsModel", name := "step", desc := "(II)I" } : Jvm.MethodName) prog_11_method_32_code (2 : Nat) (Option.some FieldType.int)) ∈ lw_tbl := tl_5 _ (List.mem_of_getElem? (i := 84) rfl)
theorem ct_1048 : (Jvm.Cond.code ({ cls := "LostSheetsModel", name := "look", desc := "(I)I" } : Jvm.MethodName) prog_11_method_42_code (10 : Nat) (Option.some FieldType.int)) ∈ lw_tbl := tl_5 _ (List.mem_of_getElem? (i := 88) rfl)
theorem ct_1053 : (Jvm.Cond.code ({ cls := "LostSheetsModel", name := "places", desc := "(I)I" } : Jvm.MethodName) prog_11_method_50_code (5 : Nat) (Option.some FieldType.int)) ∈ lw_tbl := tl_5 _ (List.mem_of_getElem? (i := 93) rfl)
theorem ct_1057 : (Jvm.Cond.code ({ cls := "LostSheetsModel", name := "isSeen", desc := "()Z" } : Jvm.MethodName) prog_11_method_48_code (4 : Nat) (Option.some FieldType.boolean)) ∈ lw_tbl := tl_5 _ (List.mem_of_getElem? (i := 97) rfl)
theorem ct_1061 : (Jvm.Cond.code ({ cls := "LostSheetsModel", name := "keep", desc := "([I)V" } : Jvm.MethodName) prog_11_method_61_code (3 : Nat) (Option.none : Option FieldType)) ∈ lw_tbl := tl_5 _ (List.mem_of_getElem? (i := 101) rfl)
theorem ct_1065 : (Jvm.Cond.code ({ cls := "LostSheetsModel", name := "goesHour", desc := "()V" } : Jvm.MethodName) prog_11_method_34_code (3 : Nat) (Option.none : Option FieldType)) ∈ lw_tbl := tl_5 _ (List.mem_of_getElem? (i := 105) rfl)
theorem ct_1069 : (Jvm.Cond.code ({ cls := "LostSheetsModel", name := "know", desc := "()I" } : Jvm.MethodName) prog_11_method_28_code (3 : Nat) (Option.some FieldType.int)) ∈ lw_tbl := tl_5 _ (List.mem_of_getElem? (i := 109) rfl)
theorem ct_1073 : (Jvm.Cond.code ({ cls := "LostSheetsModel", name := "goesBy", desc := "(III)V" } : Jvm.MethodName) prog_11_method_33_code (7 : Nat) (Option.none : Option FieldType)) ∈ lw_tbl := tl_5 _ (List.mem_of_getElem? (i := 113) rfl)
theorem ct_1077 : (Jvm.Cond.code ({ cls := "LostSheetsModel", name := "again", desc := "([I)V" } : Jvm.MethodName) prog_11_method_62_code (3 : Nat) (Option.none : Option FieldType)) ∈ lw_tbl := tl_5 _ (List.mem_of_getElem? (i := 117) rfl)
theorem ct_1081 : (Jvm.Cond.code ({ cls := "LostSheetsModel", name := "sheet", desc := "(II)I" } : Jvm.MethodName) prog_11_method_7_code (3 : Nat) (Option.some FieldType.int)) ∈ lw_tbl := tl_5 _ (List.mem_of_getElem? (i := 121) rfl)
theorem ct_1085 : (Jvm.Cond.code ({ cls := "LostSheetsModel", name := "put", desc := "(II)I" } : Jvm.MethodName) prog_11_method_8_code (4 : Nat) (Option.some FieldType.int)) ∈ lw_tbl := tl_5 _ (List.mem_of_getElem? (i := 125) rfl)
theorem ct_1089 : (Jvm.Cond.code ({ cls := "LostSheetsModel", name := "anew", desc := "(I)I" } : Jvm.MethodName) prog_11_method_9_code (3 : Nat) (Option.some FieldType.int)) ∈ lw_tbl := tl_5 _ (List.mem_of_getElem? (i := 129) rfl)
theorem ct_1093 : (Jvm.Cond.code ({ cls := "LostSheetsModel", name := "mark", desc := "(II)I" } : Jvm.MethodName) prog_11_method_10_code (4 : Nat) (Option.some FieldType.int)) ∈ lw_tbl := tl_5 _ (List.mem_of_getElem? (i := 133) rfl)
theorem ct_1097 : (Jvm.Cond.code ({ cls := "LostSheetsModel", name := "row", desc := "(III)I" } : Jvm.MethodName) prog_11_method_11_code (5 : Nat) (Option.some FieldType.int)) ∈ lw_tbl := tl_5 _ (List.mem_of_getElem? (i := 137) rfl)
theorem ct_1101 : (Jvm.Cond.code ({ cls := "LostSheetsModel", name := "feed", desc := "(I)I" } : Jvm.MethodName) prog_11_method_12_code (2 : Nat) (Option.some FieldType.int)) ∈ lw_tbl := tl_5 _ (List.mem_of_getElem? (i := 141) rfl)
theorem ct_1105 : (Jvm.Cond.code ({ cls := "LostSheetsModel", name := "office", desc := "()I" } : Jvm.MethodName) prog_11_method_24_code (5 : Nat) (Option.some FieldType.int)) ∈ lw_tbl := tl_5 _ (List.mem_of_getElem? (i := 145) rfl)
theorem ct_1109 : (Jvm.Cond.code ({ cls := "LostSheetsModel", name := "isClause", desc := "(I)Z" } : Jvm.MethodName) prog_11_method_23_code (4 : Nat) (Option.some FieldType.boolean)) ∈ lw_tbl := tl_5 _ (List.mem_of_getElem? (i := 149) rfl)
theorem ct_1114 : (Jvm.Cond.code ({ cls := "LostSheetsModel", name := "isAll", desc := "(Ljava/lang/String;)Z" } : Jvm.MethodName) prog_11_method_16_code (3 : Nat) (Option.some FieldType.boolean)) ∈ lw_tbl := tl_5 _ (List.mem_of_getElem? (i := 154) rfl)
theorem ct_1120 : (Jvm.Cond.code ({ cls := "LostSheetsModel", name := "is", desc := "(I)Z" } : Jvm.MethodName) prog_11_method_13_code (2 : Nat) (Option.some FieldType.boolean)) ∈ lw_tbl := tl_5 _ (List.mem_of_getElem? (i := 160) rfl)
theorem ct_1126 : (Jvm.Cond.code ({ cls := "LostSheetsModel", name := "isNumber", desc := "()Z" } : Jvm.MethodName) prog_11_method_15_code (1 : Nat) (Option.some FieldType.boolean)) ∈ lw_tbl := tl_5 _ (List.mem_of_getElem? (i := 166) rfl)
theorem ct_1130 : (Jvm.Cond.code ({ cls := "LostSheetsModel", name := "isDigit", desc := "()Z" } : Jvm.MethodName) prog_11_method_14_code (1 : Nat) (Option.some FieldType.boolean)) ∈ lw_tbl := tl_5 _ (List.mem_of_getElem? (i := 170) rfl)
theorem ct_1134 : (Jvm.Cond.code ({ cls := "LostSheetsModel", name := "isE", desc := "()Z" } : Jvm.MethodName) prog_11_method_22_code (1 : Nat) (Option.some FieldType.boolean)) ∈ lw_tbl := tl_5 _ (List.mem_of_getElem? (i := 174) rfl)
theorem ct_1138 : (Jvm.Cond.code ({ cls := "LostSheetsModel", name := "isT", desc := "()Z" } : Jvm.MethodName) prog_11_method_21_code (1 : Nat) (Option.some FieldType.boolean)) ∈ lw_tbl := tl_5 _ (List.mem_of_getElem? (i := 178) rfl)
theorem ct_1142 : (Jvm.Cond.code ({ cls := "LostSheetsModel", name := "isF", desc := "()Z" } : Jvm.MethodName) prog_11_method_20_code (2 : Nat) (Option.some FieldType.boolean)) ∈ lw_tbl := tl_5 _ (List.mem_of_getElem? (i := 182) rfl)
theorem ct_1146 : (Jvm.Cond.code ({ cls := "LostSheetsModel", name := "isOpened", desc := "(I)Z" } : Jvm.MethodName) prog_11_method_19_code (2 : Nat) (Option.some FieldType.boolean)) ∈ lw_tbl := tl_5 _ (List.mem_of_getElem? (i := 186) rfl)
theorem ct_1150 : (Jvm.Cond.code ({ cls := "LostSheetsModel", name := "codes", desc := "(I)Z" } : Jvm.MethodName) prog_11_method_17_code (2 : Nat) (Option.some FieldType.boolean)) ∈ lw_tbl := tl_5 _ (List.mem_of_getElem? (i := 190) rfl)
theorem ct_1154 : (Jvm.Cond.code ({ cls := "LostSheetsModel", name := "isTest", desc := "()Z" } : Jvm.MethodName) prog_11_method_18_code (3 : Nat) (Option.some FieldType.boolean)) ∈ lw_tbl := tl_5 _ (List.mem_of_getElem? (i := 194) rfl)
theorem ct_1159 : (Jvm.Cond.code ({ cls := "java/lang/String", name := "indexOf", desc := "(I)I" } : Jvm.MethodName) prog_15_method_79_code (2 : Nat) (Option.some FieldType.int)) ∈ lw_tbl := tl_5 _ (List.mem_of_getElem? (i := 199) rfl)
theorem ct_1163 : (Jvm.Cond.code ({ cls := "java/lang/String", name := "indexOf", desc := "(II)I" } : Jvm.MethodName) prog_15_method_80_code (3 : Nat) (Option.some FieldType.int)) ∈ lw_tbl := tl_5 _ (List.mem_of_getElem? (i := 203) rfl)
theorem ct_1167 : (Jvm.Cond.code ({ cls := "java/lang/StringLatin1", name := "indexOf", desc := "([BIII)I" } : Jvm.MethodName) prog_16_method_22_code (4 : Nat) (Option.some FieldType.int)) ∈ lw_tbl := tl_5 _ (List.mem_of_getElem? (i := 207) rfl)
theorem ct_1170 : (Jvm.Cond.code ({ cls := "java/lang/StringLatin1", name := "canEncode", desc := "(I)Z" } : Jvm.MethodName) prog_16_method_4_code (1 : Nat) (Option.some FieldType.boolean)) ∈ lw_tbl := tl_5 _ (List.mem_of_getElem? (i := 210) rfl)
theorem ct_1175 : (Jvm.Cond.code ({ cls := "java/lang/StringLatin1", name := "indexOfChar", desc := "([BIII)I" } : Jvm.MethodName) prog_16_method_23_code (6 : Nat) (Option.some FieldType.int)) ∈ lw_tbl := tl_5 _ (List.mem_of_getElem? (i := 215) rfl)
theorem ct_1190 : (Jvm.Cond.code ({ cls := "java/lang/String", name := "checkBoundsBeginEnd", desc := "(III)V" } : Jvm.MethodName) prog_15_method_158_code (3 : Nat) (Option.none : Option FieldType)) ∈ lw_tbl := tl_5 _ (List.mem_of_getElem? (i := 230) rfl)
theorem ct_1193 : (Jvm.Cond.code ({ cls := "jdk/internal/util/Preconditions", name := "checkFromToIndex", desc := "(IIILjava/util/function/BiFunction;)I" } : Jvm.MethodName) prog_19_method_12_code (4 : Nat) (Option.some FieldType.int)) ∈ lw_tbl := tl_5 _ (List.mem_of_getElem? (i := 233) rfl)
theorem ct_1215 : (Jvm.Cond.code ({ cls := "LostSheetsModel", name := "told", desc := "(I)I" } : Jvm.MethodName) prog_11_method_38_code (2 : Nat) (Option.some FieldType.int)) ∈ lw_tbl := tl_6 _ (List.mem_of_getElem? (i := 15) rfl)
theorem ct_1219 : (Jvm.Cond.code ({ cls := "LostSheetsModel", name := "marksOf", desc := "(I)I" } : Jvm.MethodName) prog_11_method_49_code (5 : Nat) (Option.some FieldType.int)) ∈ lw_tbl := tl_6 _ (List.mem_of_getElem? (i := 19) rfl)
theorem ct_1223 : (Jvm.Cond.code ({ cls := "LostSheetsModel", name := "allDone", desc := "()I" } : Jvm.MethodName) prog_11_method_36_code (3 : Nat) (Option.some FieldType.int)) ∈ lw_tbl := tl_6 _ (List.mem_of_getElem? (i := 23) rfl)
theorem ct_1227 : (Jvm.Cond.code ({ cls := "LostSheetsModel", name := "whole", desc := "()I" } : Jvm.MethodName) prog_11_method_37_code (3 : Nat) (Option.some FieldType.int)) ∈ lw_tbl := tl_6 _ (List.mem_of_getElem? (i := 27) rfl)
theorem ct_1232 : (Jvm.Cond.code ({ cls := "LostSheetsModel", name := "pass", desc := "(I)I" } : Jvm.MethodName) prog_11_method_39_code (4 : Nat) (Option.some FieldType.int)) ∈ lw_tbl := tl_6 _ (List.mem_of_getElem? (i := 32) rfl)
theorem ct_1237 : (Jvm.Cond.code ({ cls := "LostSheetsModel", name := "on", desc := "(II)I" } : Jvm.MethodName) prog_11_method_40_code (4 : Nat) (Option.some FieldType.int)) ∈ lw_tbl := tl_6 _ (List.mem_of_getElem? (i := 37) rfl)
theorem ct_1241 : (Jvm.Cond.code ({ cls := "LostSheetsModel", name := "goesOn", desc := "(I)V" } : Jvm.MethodName) prog_11_method_35_code (3 : Nat) (Option.none : Option FieldType)) ∈ lw_tbl := tl_6 _ (List.mem_of_getElem? (i := 41) rfl)
theorem ct_1245 : (Jvm.Cond.code ({ cls := "LostSheetsModel", name := "best", desc := "(II)I" } : Jvm.MethodName) prog_11_method_46_code (3 : Nat) (Option.some FieldType.int)) ∈ lw_tbl := tl_6 _ (List.mem_of_getElem? (i := 45) rfl)
theorem ct_1249 : (Jvm.Cond.code ({ cls := "LostSheetsModel", name := "crew", desc := "(I)I" } : Jvm.MethodName) prog_11_method_45_code (7 : Nat) (Option.some FieldType.int)) ∈ lw_tbl := tl_6 _ (List.mem_of_getElem? (i := 49) rfl)
theorem ct_1253 : (Jvm.Cond.code ({ cls := "LostSheetsModel", name := "drawnBehind", desc := "(I)I" } : Jvm.MethodName) prog_11_method_43_code (3 : Nat) (Option.some FieldType.int)) ∈ lw_tbl := tl_6 _ (List.mem_of_getElem? (i := 53) rfl)
theorem ct_1258 : (Jvm.Cond.code ({ cls := "LostSheetsModel", name := "landing", desc := "(II)I" } : Jvm.MethodName) prog_11_method_44_code (8 : Nat) (Option.some FieldType.int)) ∈ lw_tbl := tl_6 _ (List.mem_of_getElem? (i := 58) rfl)
theorem ct_1262 : (Jvm.Cond.code ({ cls := "LostSheetsModel", name := "see", desc := "(III)I" } : Jvm.MethodName) prog_11_method_47_code (4 : Nat) (Option.some FieldType.int)) ∈ lw_tbl := tl_6 _ (List.mem_of_getElem? (i := 62) rfl)
theorem ct_1266 : (Jvm.Cond.code ({ cls := "LostSheetsModel", name := "can", desc := "(II)I" } : Jvm.MethodName) prog_11_method_51_code (7 : Nat) (Option.some FieldType.int)) ∈ lw_tbl := tl_6 _ (List.mem_of_getElem? (i := 66) rfl)
theorem ct_1270 : (Jvm.Cond.code ({ cls := "LostSheetsModel", name := "odds", desc := "(III)J" } : Jvm.MethodName) prog_11_method_53_code (7 : Nat) (Option.some FieldType.long)) ∈ lw_tbl := tl_6 _ (List.mem_of_getElem? (i := 70) rfl)
theorem ct_1275 : (Jvm.Cond.code ({ cls := "LostSheetsModel", name := "part", desc := "(JJI)J" } : Jvm.MethodName) prog_11_method_52_code (11 : Nat) (Option.some FieldType.long)) ∈ lw_tbl := tl_6 _ (List.mem_of_getElem? (i := 75) rfl)
theorem ct_1278 : (Jvm.Cond.code ({ cls := "java/lang/Math", name := "abs", desc := "(J)J" } : Jvm.MethodName) prog_14_method_61_code (2 : Nat) (Option.some FieldType.long)) ∈ lw_tbl := tl_6 _ (List.mem_of_getElem? (i := 78) rfl)
theorem ct_1282 : (Jvm.Cond.code ({ cls := "LostSheetsModel", name := "mean", desc := "(II)J" } : Jvm.MethodName) prog_11_method_55_code (4 : Nat) (Option.some FieldType.long)) ∈ lw_tbl := tl_6 _ (List.mem_of_getElem? (i := 82) rfl)
theorem ct_1286 : (Jvm.Cond.code ({ cls := "LostSheetsModel", name := "allDrew", desc := "()I" } : Jvm.MethodName) prog_11_method_54_code (3 : Nat) (Option.some FieldType.int)) ∈ lw_tbl := tl_6 _ (List.mem_of_getElem? (i := 86) rfl)
theorem ct_1290 : (Jvm.Cond.code ({ cls := "LostSheetsModel", name := "plan", desc := "(II)I" } : Jvm.MethodName) prog_11_method_56_code (3 : Nat) (Option.some FieldType.int)) ∈ lw_tbl := tl_6 _ (List.mem_of_getElem? (i := 90) rfl)
theorem ct_1294 : (Jvm.Cond.code ({ cls := "LostSheetsModel", name := "ends", desc := "(I)I" } : Jvm.MethodName) prog_11_method_57_code (3 : Nat) (Option.some FieldType.int)) ∈ lw_tbl := tl_6 _ (List.mem_of_getElem? (i := 94) rfl)
theorem ct_1298 : (Jvm.Cond.code ({ cls := "LostSheetsModel", name := "book", desc := "(II)I" } : Jvm.MethodName) prog_11_method_58_code (3 : Nat) (Option.some FieldType.int)) ∈ lw_tbl := tl_6 _ (List.mem_of_getElem? (i := 98) rfl)
theorem ct_1302 : (Jvm.Cond.code ({ cls := "LostSheetsModel", name := "looked", desc := "()I" } : Jvm.MethodName) prog_11_method_59_code (2 : Nat) (Option.some FieldType.int)) ∈ lw_tbl := tl_6 _ (List.mem_of_getElem? (i := 102) rfl)
theorem ct_1306 : (Jvm.Cond.code ({ cls := "LostSheetsModel", name := "judge", desc := "(II)I" } : Jvm.MethodName) prog_11_method_60_code (4 : Nat) (Option.some FieldType.int)) ∈ lw_tbl := tl_6 _ (List.mem_of_getElem? (i := 106) rfl)
theorem ct_1310 : (Jvm.Cond.code ({ cls := "LostSheetsModel", name := "image", desc := "()I" } : Jvm.MethodName) prog_11_method_63_code (1 : Nat) (Option.some FieldType.int)) ∈ lw_tbl := tl_6 _ (List.mem_of_getElem? (i := 110) rfl)
theorem ct_1314 : (Jvm.Cond.code ({ cls := "LostSheetsModel", name := "undo", desc := "()I" } : Jvm.MethodName) prog_11_method_64_code (1 : Nat) (Option.some FieldType.int)) ∈ lw_tbl := tl_6 _ (List.mem_of_getElem? (i := 114) rfl)
theorem ct_1318 : (Jvm.Cond.code ({ cls := "LostSheetsModel", name := "act", desc := "(III)I" } : Jvm.MethodName) prog_11_method_70_code (5 : Nat) (Option.some FieldType.int)) ∈ lw_tbl := tl_6 _ (List.mem_of_getElem? (i := 118) rfl)
theorem ct_1322 : (Jvm.Cond.code ({ cls := "LostSheetsModel", name := "weeps", desc := "(III)I" } : Jvm.MethodName) prog_11_method_67_code (4 : Nat) (Option.some FieldType.int)) ∈ lw_tbl := tl_6 _ (List.mem_of_getElem? (i := 122) rfl)
theorem ct_1326 : (Jvm.Cond.code ({ cls := "LostSheetsModel", name := "ran", desc := "(I)V" } : Jvm.MethodName) prog_11_method_65_code (2 : Nat) (Option.none : Option FieldType)) ∈ lw_tbl := tl_6 _ (List.mem_of_getElem? (i := 126) rfl)
theorem ct_1329 : (Jvm.Cond.code ({ cls := "LostSheetsModel", name := "above", desc := "(I)I" } : Jvm.MethodName) prog_11_method_66_code (1 : Nat) (Option.some FieldType.int)) ∈ lw_tbl := tl_6 _ (List.mem_of_getElem? (i := 129) rfl)
theorem ct_1333 : (Jvm.Cond.code ({ cls := "LostSheetsModel", name := "draws", desc := "(III)I" } : Jvm.MethodName) prog_11_method_68_code (5 : Nat) (Option.some FieldType.int)) ∈ lw_tbl := tl_6 _ (List.mem_of_getElem? (i := 133) rfl)
theorem ct_1337 : (Jvm.Cond.code ({ cls := "LostSheetsModel", name := "tells", desc := "(III)I" } : Jvm.MethodName) prog_11_method_69_code (5 : Nat) (Option.some FieldType.int)) ∈ lw_tbl := tl_6 _ (List.mem_of_getElem? (i := 137) rfl)
theorem ct_1341 : (Jvm.Cond.code ({ cls := "LostSheetsModel", name := "trace", desc := "(I)I" } : Jvm.MethodName) prog_11_method_71_code (2 : Nat) (Option.some FieldType.int)) ∈ lw_tbl := tl_6 _ (List.mem_of_getElem? (i := 141) rfl)
theorem ct_1345 : (Jvm.Cond.code ({ cls := "LostSheetsModel", name := "taken", desc := "(II)I" } : Jvm.MethodName) prog_11_method_72_code (4 : Nat) (Option.some FieldType.int)) ∈ lw_tbl := tl_6 _ (List.mem_of_getElem? (i := 145) rfl)
theorem ct_1349 : (Jvm.Cond.code ({ cls := "LostSheetsModel", name := "count", desc := "(I)I" } : Jvm.MethodName) prog_11_method_73_code (2 : Nat) (Option.some FieldType.int)) ∈ lw_tbl := tl_6 _ (List.mem_of_getElem? (i := 149) rfl)
theorem ct_1353 : (Jvm.Cond.code ({ cls := "LostSheetsModel", name := "tape", desc := "(III)I" } : Jvm.MethodName) prog_11_method_75_code (5 : Nat) (Option.some FieldType.int)) ∈ lw_tbl := tl_6 _ (List.mem_of_getElem? (i := 153) rfl)
theorem ct_1356 : (Jvm.Cond.code ({ cls := "LostSheetsModel", name := "isTape", desc := "(I)Z" } : Jvm.MethodName) prog_11_method_74_code (1 : Nat) (Option.some FieldType.boolean)) ∈ lw_tbl := tl_6 _ (List.mem_of_getElem? (i := 156) rfl)
theorem ct_1360 : (Jvm.Cond.code ({ cls := "LostSheetsModel", name := "item", desc := "(IIJ)I" } : Jvm.MethodName) prog_11_method_77_code (5 : Nat) (Option.some FieldType.int)) ∈ lw_tbl := tl_6 _ (List.mem_of_getElem? (i := 160) rfl)
theorem ct_1363 : (Jvm.Cond.code ({ cls := "LostSheetsModel", name := "kept", desc := "(IJ)J" } : Jvm.MethodName) prog_11_method_76_code (3 : Nat) (Option.some FieldType.long)) ∈ lw_tbl := tl_6 _ (List.mem_of_getElem? (i := 163) rfl)
theorem ct_1367 : (Jvm.Cond.code ({ cls := "LostSheetsModel", name := "read", desc := "(II)J" } : Jvm.MethodName) prog_11_method_78_code (3 : Nat) (Option.some FieldType.long)) ∈ lw_tbl := tl_6 _ (List.mem_of_getElem? (i := 167) rfl)
theorem ct_1371 : (Jvm.Cond.code ({ cls := "LostSheetsModel", name := "shift", desc := "(IIIII)I" } : Jvm.MethodName) prog_11_method_79_code (7 : Nat) (Option.some FieldType.int)) ∈ lw_tbl := tl_6 _ (List.mem_of_getElem? (i := 171) rfl)
theorem ct_132 : (Jvm.Cond.methodLink "LostSheets$ByHand" (3 : Nat) ({ cls := "java/lang/Object", name := "<init>", desc := "()V" } : Jvm.MethodName)) ∈ lw_tbl := tl_1 _ (List.mem_of_getElem? (i := 132) rfl)
theorem ct_135 : (Jvm.Cond.methodLink "LostSheets$ByHand" (11 : Nat) ({ cls := "LostSheets$Rows", name := "<init>", desc := "(I)V" } : Jvm.MethodName)) ∈ lw_tbl := tl_1 _ (List.mem_of_getElem? (i := 135) rfl)
theorem ct_136 : (Jvm.Cond.instanceMethod ({ cls := "LostSheets$Rows", name := "<init>", desc := "(I)V" } : Jvm.MethodName)) ∈ lw_tbl := tl_1 _ (List.mem_of_getElem? (i := 136) rfl)
theorem ct_414 : (Jvm.Cond.methodLink "LostSheets$ByHand" (41 : Nat) ({ cls := "java/lang/Math", name := "max", desc := "(II)I" } : Jvm.MethodName)) ∈ lw_tbl := tl_2 _ (List.mem_of_getElem? (i := 174) rfl)
theorem ct_140 : (Jvm.Cond.static ({ cls := "java/lang/Math", name := "max", desc := "(II)I" } : Jvm.MethodName)) ∈ lw_tbl := tl_1 _ (List.mem_of_getElem? (i := 140) rfl)
theorem ct_763 : (Jvm.Cond.methodLink "LostSheets$ByHand" (26 : Nat) ({ cls := "LostSheets$Rows", name := "copyFrom", desc := "(LLostSheets$Rows;)V" } : Jvm.MethodName)) ∈ lw_tbl := tl_4 _ (List.mem_of_getElem? (i := 43) rfl)
theorem ct_764 : (Jvm.Cond.instanceMethod ({ cls := "LostSheets$Rows", name := "copyFrom", desc := "(LLostSheets$Rows;)V" } : Jvm.MethodName)) ∈ lw_tbl := tl_4 _ (List.mem_of_getElem? (i := 44) rfl)
theorem ct_765 : (Jvm.Cond.selects "LostSheets$Rows" ({ cls := "LostSheets$Rows", name := "copyFrom", desc := "(LLostSheets$Rows;)V" } : Jvm.MethodName) ({ cls := "LostSheets$Rows", name := "copyFrom", desc := "(LLostSheets$Rows;)V" } : Jvm.MethodName)) ∈ lw_tbl := tl_4 _ (List.mem_of_getElem? (i := 45) rfl)
theorem ct_39 : (Jvm.Cond.methodLink "LostSheets$Drawer" (3 : Nat) ({ cls := "java/lang/Object", name := "<init>", desc := "()V" } : Jvm.MethodName)) ∈ lw_tbl := tl_1 _ (List.mem_of_getElem? (i := 39) rfl)
theorem ct_399 : (Jvm.Cond.methodLink "LostSheets$Drawer" (44 : Nat) ({ cls := "java/lang/System", name := "arraycopy", desc := "(Ljava/lang/Object;ILjava/lang/Object;II)V" } : Jvm.MethodName)) ∈ lw_tbl := tl_2 _ (List.mem_of_getElem? (i := 159) rfl)
theorem ct_32 : (Jvm.Cond.methodLink "LostSheets$Land" (3 : Nat) ({ cls := "java/lang/Object", name := "<init>", desc := "()V" } : Jvm.MethodName)) ∈ lw_tbl := tl_1 _ (List.mem_of_getElem? (i := 32) rfl)
theorem ct_36 : (Jvm.Cond.methodLink "LostSheets$Land" (46 : Nat) ({ cls := "LostSheets$Drawer", name := "<init>", desc := "(I)V" } : Jvm.MethodName)) ∈ lw_tbl := tl_1 _ (List.mem_of_getElem? (i := 36) rfl)
theorem ct_37 : (Jvm.Cond.instanceMethod ({ cls := "LostSheets$Drawer", name := "<init>", desc := "(I)V" } : Jvm.MethodName)) ∈ lw_tbl := tl_1 _ (List.mem_of_getElem? (i := 37) rfl)
theorem ct_309 : (Jvm.Cond.methodLink "LostSheets$Land" (59 : Nat) ({ cls := "LostSheets$Drawer", name := "begins", desc := "(III)V" } : Jvm.MethodName)) ∈ lw_tbl := tl_2 _ (List.mem_of_getElem? (i := 69) rfl)
theorem ct_310 : (Jvm.Cond.instanceMethod ({ cls := "LostSheets$Drawer", name := "begins", desc := "(III)V" } : Jvm.MethodName)) ∈ lw_tbl := tl_2 _ (List.mem_of_getElem? (i := 70) rfl)
theorem ct_311 : (Jvm.Cond.selects "LostSheets$Drawer" ({ cls := "LostSheets$Drawer", name := "begins", desc := "(III)V" } : Jvm.MethodName) ({ cls := "LostSheets$Drawer", name := "begins", desc := "(III)V" } : Jvm.MethodName)) ∈ lw_tbl := tl_2 _ (List.mem_of_getElem? (i := 71) rfl)
theorem ct_325 : (Jvm.Cond.methodLink "LostSheets$Land" (109 : Nat) ({ cls := "LostSheets$Land", name := "answersOf", desc := "(LLostSheets$Drawer;)[I" } : Jvm.MethodName)) ∈ lw_tbl := tl_2 _ (List.mem_of_getElem? (i := 85) rfl)
theorem ct_327 : (Jvm.Cond.instanceMethod ({ cls := "LostSheets$Land", name := "answersOf", desc := "(LLostSheets$Drawer;)[I" } : Jvm.MethodName)) ∈ lw_tbl := tl_2 _ (List.mem_of_getElem? (i := 87) rfl)
theorem cts_0 : Cond.selects "LostSheets$Land" ⟨"LostSheets$Land", "answersOf", "(LLostSheets$Drawer;)[I"⟩ ⟨"LostSheets$Land", "answersOf", "(LLostSheets$Drawer;)[I"⟩ ∈ lw_tbl := List.mem_append_left _ (List.mem_map.mpr ⟨(⟨"LostSheets$Land", "answersOf", "(LLostSheets$Drawer;)[I"⟩, _), List.mem_of_getElem? (i := 0) rfl, rfl⟩)
theorem ct_329 : (Jvm.Cond.methodLink "LostSheets$Land" (105 : Nat) ({ cls := "LostSheets$Land", name := "markAt", desc := "(I)I" } : Jvm.MethodName)) ∈ lw_tbl := tl_2 _ (List.mem_of_getElem? (i := 89) rfl)
theorem ct_330 : (Jvm.Cond.instanceMethod ({ cls := "LostSheets$Land", name := "markAt", desc := "(I)I" } : Jvm.MethodName)) ∈ lw_tbl := tl_2 _ (List.mem_of_getElem? (i := 90) rfl)
theorem ct_331 : (Jvm.Cond.selects "LostSheets$Land" ({ cls := "LostSheets$Land", name := "markAt", desc := "(I)I" } : Jvm.MethodName) ({ cls := "LostSheets$Land", name := "markAt", desc := "(I)I" } : Jvm.MethodName)) ∈ lw_tbl := tl_2 _ (List.mem_of_getElem? (i := 91) rfl)
theorem ct_333 : (Jvm.Cond.methodLink "LostSheets$Land" (113 : Nat) ({ cls := "LostSheets$Office", name := "turnsBy", desc := "([I)I" } : Jvm.MethodName)) ∈ lw_tbl := tl_2 _ (List.mem_of_getElem? (i := 93) rfl)
theorem ct_334 : (Jvm.Cond.instanceMethod ({ cls := "LostSheets$Office", name := "turnsBy", desc := "([I)I" } : Jvm.MethodName)) ∈ lw_tbl := tl_2 _ (List.mem_of_getElem? (i := 94) rfl)
theorem ct_335 : (Jvm.Cond.selects "LostSheets$Office" ({ cls := "LostSheets$Office", name := "turnsBy", desc := "([I)I" } : Jvm.MethodName) ({ cls := "LostSheets$Office", name := "turnsBy", desc := "([I)I" } : Jvm.MethodName)) ∈ lw_tbl := tl_2 _ (List.mem_of_getElem? (i := 95) rfl)
theorem ct_340 : (Jvm.Cond.methodLink "LostSheets$Land" (117 : Nat) ({ cls := "LostSheets$Land", name := "othersWith", desc := "(LLostSheets$Drawer;)I" } : Jvm.MethodName)) ∈ lw_tbl := tl_2 _ (List.mem_of_getElem? (i := 100) rfl)
theorem ct_342 : (Jvm.Cond.instanceMethod ({ cls := "LostSheets$Land", name := "othersWith", desc := "(LLostSheets$Drawer;)I" } : Jvm.MethodName)) ∈ lw_tbl := tl_2 _ (List.mem_of_getElem? (i := 102) rfl)
theorem cts_1 : Cond.selects "LostSheets$Land" ⟨"LostSheets$Land", "othersWith", "(LLostSheets$Drawer;)I"⟩ ⟨"LostSheets$Land", "othersWith", "(LLostSheets$Drawer;)I"⟩ ∈ lw_tbl := List.mem_append_left _ (List.mem_map.mpr ⟨(⟨"LostSheets$Land", "othersWith", "(LLostSheets$Drawer;)I"⟩, _), List.mem_of_getElem? (i := 1) rfl, rfl⟩)
theorem ct_344 : (Jvm.Cond.methodLink "LostSheets$Land" (124 : Nat) ({ cls := "java/lang/Math", name := "floorMod", desc := "(II)I" } : Jvm.MethodName)) ∈ lw_tbl := tl_2 _ (List.mem_of_getElem? (i := 104) rfl)
theorem ct_345 : (Jvm.Cond.static ({ cls := "java/lang/Math", name := "floorMod", desc := "(II)I" } : Jvm.MethodName)) ∈ lw_tbl := tl_2 _ (List.mem_of_getElem? (i := 105) rfl)
theorem ct_351 : (Jvm.Cond.methodLink "LostSheets$Land" (127 : Nat) ({ cls := "LostSheets$Land", name := "feelOf", desc := "(LLostSheets$Drawer;)I" } : Jvm.MethodName)) ∈ lw_tbl := tl_2 _ (List.mem_of_getElem? (i := 111) rfl)
theorem ct_322 : (Jvm.Cond.instanceMethod ({ cls := "LostSheets$Land", name := "feelOf", desc := "(LLostSheets$Drawer;)I" } : Jvm.MethodName)) ∈ lw_tbl := tl_2 _ (List.mem_of_getElem? (i := 82) rfl)
theorem ct_323 : (Jvm.Cond.selects "LostSheets$Land" ({ cls := "LostSheets$Land", name := "feelOf", desc := "(LLostSheets$Drawer;)I" } : Jvm.MethodName) ({ cls := "LostSheets$Land", name := "feelOf", desc := "(LLostSheets$Drawer;)I" } : Jvm.MethodName)) ∈ lw_tbl := tl_2 _ (List.mem_of_getElem? (i := 83) rfl)
theorem ct_356 : (Jvm.Cond.methodLink "LostSheets$Land" (163 : Nat) ({ cls := "LostSheets$Land", name := "endBySheet", desc := "(LLostSheets$Drawer;I)I" } : Jvm.MethodName)) ∈ lw_tbl := tl_2 _ (List.mem_of_getElem? (i := 116) rfl)
theorem ct_358 : (Jvm.Cond.instanceMethod ({ cls := "LostSheets$Land", name := "endBySheet", desc := "(LLostSheets$Drawer;I)I" } : Jvm.MethodName)) ∈ lw_tbl := tl_2 _ (List.mem_of_getElem? (i := 118) rfl)
theorem cts_2 : Cond.selects "LostSheets$Land" ⟨"LostSheets$Land", "endBySheet", "(LLostSheets$Drawer;I)I"⟩ ⟨"LostSheets$Land", "endBySheet", "(LLostSheets$Drawer;I)I"⟩ ∈ lw_tbl := List.mem_append_left _ (List.mem_map.mpr ⟨(⟨"LostSheets$Land", "endBySheet", "(LLostSheets$Drawer;I)I"⟩, _), List.mem_of_getElem? (i := 2) rfl, rfl⟩)
theorem ct_360 : (Jvm.Cond.methodLink "LostSheets$Land" (141 : Nat) ({ cls := "LostSheets$Land", name := "stepFrom", desc := "(II)I" } : Jvm.MethodName)) ∈ lw_tbl := tl_2 _ (List.mem_of_getElem? (i := 120) rfl)
theorem ct_361 : (Jvm.Cond.static ({ cls := "LostSheets$Land", name := "stepFrom", desc := "(II)I" } : Jvm.MethodName)) ∈ lw_tbl := tl_2 _ (List.mem_of_getElem? (i := 121) rfl)
theorem ct_371 : (Jvm.Cond.methodLink "LostSheets$Land" (167 : Nat) ({ cls := "LostSheets$Land", name := "hereOf", desc := "(LLostSheets$Drawer;)I" } : Jvm.MethodName)) ∈ lw_tbl := tl_2 _ (List.mem_of_getElem? (i := 131) rfl)
theorem ct_364 : (Jvm.Cond.instanceMethod ({ cls := "LostSheets$Land", name := "hereOf", desc := "(LLostSheets$Drawer;)I" } : Jvm.MethodName)) ∈ lw_tbl := tl_2 _ (List.mem_of_getElem? (i := 124) rfl)
theorem ct_365 : (Jvm.Cond.selects "LostSheets$Land" ({ cls := "LostSheets$Land", name := "hereOf", desc := "(LLostSheets$Drawer;)I" } : Jvm.MethodName) ({ cls := "LostSheets$Land", name := "hereOf", desc := "(LLostSheets$Drawer;)I" } : Jvm.MethodName)) ∈ lw_tbl := tl_2 _ (List.mem_of_getElem? (i := 125) rfl)
theorem ct_372 : (Jvm.Cond.methodLink "LostSheets$Land" (170 : Nat) ({ cls := "LostSheets$Land", name := "mostAtOneMark", desc := "(II)I" } : Jvm.MethodName)) ∈ lw_tbl := tl_2 _ (List.mem_of_getElem? (i := 132) rfl)
theorem ct_374 : (Jvm.Cond.instanceMethod ({ cls := "LostSheets$Land", name := "mostAtOneMark", desc := "(II)I" } : Jvm.MethodName)) ∈ lw_tbl := tl_2 _ (List.mem_of_getElem? (i := 134) rfl)
theorem cts_3 : Cond.selects "LostSheets$Land" ⟨"LostSheets$Land", "mostAtOneMark", "(II)I"⟩ ⟨"LostSheets$Land", "mostAtOneMark", "(II)I"⟩ ∈ lw_tbl := List.mem_append_left _ (List.mem_map.mpr ⟨(⟨"LostSheets$Land", "mostAtOneMark", "(II)I"⟩, _), List.mem_of_getElem? (i := 3) rfl, rfl⟩)
theorem ct_376 : (Jvm.Cond.methodLinkNest "LostSheets$Land" (67 : Nat) ({ cls := "LostSheets", name := "isMark", desc := "(I)Z" } : Jvm.MethodName) "LostSheets") ∈ lw_tbl := tl_2 _ (List.mem_of_getElem? (i := 136) rfl)
theorem ct_377 : (Jvm.Cond.static ({ cls := "LostSheets", name := "isMark", desc := "(I)Z" } : Jvm.MethodName)) ∈ lw_tbl := tl_2 _ (List.mem_of_getElem? (i := 137) rfl)
theorem ct_379 : (Jvm.Cond.methodLink "LostSheets$Land" (173 : Nat) ({ cls := "java/lang/Math", name := "max", desc := "(II)I" } : Jvm.MethodName)) ∈ lw_tbl := tl_2 _ (List.mem_of_getElem? (i := 139) rfl)
theorem ct_392 : (Jvm.Cond.methodLink "LostSheets$Land" (49 : Nat) ({ cls := "java/lang/System", name := "arraycopy", desc := "(Ljava/lang/Object;ILjava/lang/Object;II)V" } : Jvm.MethodName)) ∈ lw_tbl := tl_2 _ (List.mem_of_getElem? (i := 152) rfl)
theorem ct_395 : (Jvm.Cond.methodLink "LostSheets$Land" (55 : Nat) ({ cls := "LostSheets$Drawer", name := "copyFrom", desc := "(LLostSheets$Drawer;)V" } : Jvm.MethodName)) ∈ lw_tbl := tl_2 _ (List.mem_of_getElem? (i := 155) rfl)
theorem ct_396 : (Jvm.Cond.instanceMethod ({ cls := "LostSheets$Drawer", name := "copyFrom", desc := "(LLostSheets$Drawer;)V" } : Jvm.MethodName)) ∈ lw_tbl := tl_2 _ (List.mem_of_getElem? (i := 156) rfl)
theorem ct_397 : (Jvm.Cond.selects "LostSheets$Drawer" ({ cls := "LostSheets$Drawer", name := "copyFrom", desc := "(LLostSheets$Drawer;)V" } : Jvm.MethodName) ({ cls := "LostSheets$Drawer", name := "copyFrom", desc := "(LLostSheets$Drawer;)V" } : Jvm.MethodName)) ∈ lw_tbl := tl_2 _ (List.mem_of_getElem? (i := 157) rfl)
theorem ct_404 : (Jvm.Cond.methodLink "LostSheets$Land" (70 : Nat) ({ cls := "LostSheets$Land", name := "drawerAt", desc := "(I)LLostSheets$Drawer;" } : Jvm.MethodName)) ∈ lw_tbl := tl_2 _ (List.mem_of_getElem? (i := 164) rfl)
theorem ct_318 : (Jvm.Cond.instanceMethod ({ cls := "LostSheets$Land", name := "drawerAt", desc := "(I)LLostSheets$Drawer;" } : Jvm.MethodName)) ∈ lw_tbl := tl_2 _ (List.mem_of_getElem? (i := 78) rfl)
theorem ct_319 : (Jvm.Cond.selects "LostSheets$Land" ({ cls := "LostSheets$Land", name := "drawerAt", desc := "(I)LLostSheets$Drawer;" } : Jvm.MethodName) ({ cls := "LostSheets$Land", name := "drawerAt", desc := "(I)LLostSheets$Drawer;" } : Jvm.MethodName)) ∈ lw_tbl := tl_2 _ (List.mem_of_getElem? (i := 79) rfl)
theorem ct_405 : (Jvm.Cond.methodLinkNest "LostSheets$Land" (63 : Nat) ({ cls := "LostSheets", name := "isCell", desc := "(I)Z" } : Jvm.MethodName) "LostSheets") ∈ lw_tbl := tl_2 _ (List.mem_of_getElem? (i := 165) rfl)
theorem ct_300 : (Jvm.Cond.static ({ cls := "LostSheets", name := "isCell", desc := "(I)Z" } : Jvm.MethodName)) ∈ lw_tbl := tl_2 _ (List.mem_of_getElem? (i := 60) rfl)
theorem ct_428 : (Jvm.Cond.methodLink "LostSheets$Land" (151 : Nat) ({ cls := "LostSheets$Land", name := "anyGoes", desc := "()Z" } : Jvm.MethodName)) ∈ lw_tbl := tl_2 _ (List.mem_of_getElem? (i := 188) rfl)
theorem ct_430 : (Jvm.Cond.instanceMethod ({ cls := "LostSheets$Land", name := "anyGoes", desc := "()Z" } : Jvm.MethodName)) ∈ lw_tbl := tl_2 _ (List.mem_of_getElem? (i := 190) rfl)
theorem cts_8 : Cond.selects "LostSheets$Land" ⟨"LostSheets$Land", "anyGoes", "()Z"⟩ ⟨"LostSheets$Land", "anyGoes", "()Z"⟩ ∈ lw_tbl := List.mem_append_left _ (List.mem_map.mpr ⟨(⟨"LostSheets$Land", "anyGoes", "()Z"⟩, _), List.mem_of_getElem? (i := 8) rfl, rfl⟩)
theorem ct_432 : (Jvm.Cond.methodLink "LostSheets$Land" (130 : Nat) ({ cls := "LostSheets$Drawer", name := "goes", desc := "()Z" } : Jvm.MethodName)) ∈ lw_tbl := tl_2 _ (List.mem_of_getElem? (i := 192) rfl)
theorem ct_433 : (Jvm.Cond.instanceMethod ({ cls := "LostSheets$Drawer", name := "goes", desc := "()Z" } : Jvm.MethodName)) ∈ lw_tbl := tl_2 _ (List.mem_of_getElem? (i := 193) rfl)
theorem ct_434 : (Jvm.Cond.selects "LostSheets$Drawer" ({ cls := "LostSheets$Drawer", name := "goes", desc := "()Z" } : Jvm.MethodName) ({ cls := "LostSheets$Drawer", name := "goes", desc := "()Z" } : Jvm.MethodName)) ∈ lw_tbl := tl_2 _ (List.mem_of_getElem? (i := 194) rfl)
theorem ct_436 : (Jvm.Cond.methodLink "LostSheets$Land" (154 : Nat) ({ cls := "LostSheets$Land", name := "hourGoes", desc := "()V" } : Jvm.MethodName)) ∈ lw_tbl := tl_2 _ (List.mem_of_getElem? (i := 196) rfl)
theorem ct_437 : (Jvm.Cond.instanceMethod ({ cls := "LostSheets$Land", name := "hourGoes", desc := "()V" } : Jvm.MethodName)) ∈ lw_tbl := tl_2 _ (List.mem_of_getElem? (i := 197) rfl)
theorem ct_438 : (Jvm.Cond.selects "LostSheets$Land" ({ cls := "LostSheets$Land", name := "hourGoes", desc := "()V" } : Jvm.MethodName) ({ cls := "LostSheets$Land", name := "hourGoes", desc := "()V" } : Jvm.MethodName)) ∈ lw_tbl := tl_2 _ (List.mem_of_getElem? (i := 198) rfl)
theorem ct_440 : (Jvm.Cond.methodLink "LostSheets$Land" (134 : Nat) ({ cls := "LostSheets$Land", name := "know", desc := "()I" } : Jvm.MethodName)) ∈ lw_tbl := tl_2 _ (List.mem_of_getElem? (i := 200) rfl)
theorem ct_441 : (Jvm.Cond.instanceMethod ({ cls := "LostSheets$Land", name := "know", desc := "()I" } : Jvm.MethodName)) ∈ lw_tbl := tl_2 _ (List.mem_of_getElem? (i := 201) rfl)
theorem ct_442 : (Jvm.Cond.selects "LostSheets$Land" ({ cls := "LostSheets$Land", name := "know", desc := "()I" } : Jvm.MethodName) ({ cls := "LostSheets$Land", name := "know", desc := "()I" } : Jvm.MethodName)) ∈ lw_tbl := tl_2 _ (List.mem_of_getElem? (i := 202) rfl)
theorem ct_444 : (Jvm.Cond.methodLink "LostSheets$Land" (137 : Nat) ({ cls := "LostSheets$Land", name := "stepsAndDraws", desc := "(LLostSheets$Drawer;II)V" } : Jvm.MethodName)) ∈ lw_tbl := tl_2 _ (List.mem_of_getElem? (i := 204) rfl)
theorem ct_446 : (Jvm.Cond.instanceMethod ({ cls := "LostSheets$Land", name := "stepsAndDraws", desc := "(LLostSheets$Drawer;II)V" } : Jvm.MethodName)) ∈ lw_tbl := tl_2 _ (List.mem_of_getElem? (i := 206) rfl)
theorem cts_9 : Cond.selects "LostSheets$Land" ⟨"LostSheets$Land", "stepsAndDraws", "(LLostSheets$Drawer;II)V"⟩ ⟨"LostSheets$Land", "stepsAndDraws", "(LLostSheets$Drawer;II)V"⟩ ∈ lw_tbl := List.mem_append_left _ (List.mem_map.mpr ⟨(⟨"LostSheets$Land", "stepsAndDraws", "(LLostSheets$Drawer;II)V"⟩, _), List.mem_of_getElem? (i := 9) rfl, rfl⟩)
theorem ct_448 : (Jvm.Cond.methodLink "LostSheets$Land" (144 : Nat) ({ cls := "LostSheets$Drawer", name := "writes", desc := "(II)V" } : Jvm.MethodName)) ∈ lw_tbl := tl_2 _ (List.mem_of_getElem? (i := 208) rfl)
theorem ct_449 : (Jvm.Cond.instanceMethod ({ cls := "LostSheets$Drawer", name := "writes", desc := "(II)V" } : Jvm.MethodName)) ∈ lw_tbl := tl_2 _ (List.mem_of_getElem? (i := 209) rfl)
theorem ct_450 : (Jvm.Cond.selects "LostSheets$Drawer" ({ cls := "LostSheets$Drawer", name := "writes", desc := "(II)V" } : Jvm.MethodName) ({ cls := "LostSheets$Drawer", name := "writes", desc := "(II)V" } : Jvm.MethodName)) ∈ lw_tbl := tl_2 _ (List.mem_of_getElem? (i := 210) rfl)
theorem ct_452 : (Jvm.Cond.methodLink "LostSheets$Land" (148 : Nat) ({ cls := "LostSheets$Drawer", name := "rowsWith", desc := "(I)I" } : Jvm.MethodName)) ∈ lw_tbl := tl_2 _ (List.mem_of_getElem? (i := 212) rfl)
theorem ct_453 : (Jvm.Cond.instanceMethod ({ cls := "LostSheets$Drawer", name := "rowsWith", desc := "(I)I" } : Jvm.MethodName)) ∈ lw_tbl := tl_2 _ (List.mem_of_getElem? (i := 213) rfl)
theorem ct_454 : (Jvm.Cond.selects "LostSheets$Drawer" ({ cls := "LostSheets$Drawer", name := "rowsWith", desc := "(I)I" } : Jvm.MethodName) ({ cls := "LostSheets$Drawer", name := "rowsWith", desc := "(I)I" } : Jvm.MethodName)) ∈ lw_tbl := tl_2 _ (List.mem_of_getElem? (i := 214) rfl)
theorem ct_631 : (Jvm.Cond.methodLink "LostSheets$Land" (90 : Nat) ({ cls := "java/lang/Math", name := "min", desc := "(II)I" } : Jvm.MethodName)) ∈ lw_tbl := tl_3 _ (List.mem_of_getElem? (i := 151) rfl)
theorem ct_632 : (Jvm.Cond.static ({ cls := "java/lang/Math", name := "min", desc := "(II)I" } : Jvm.MethodName)) ∈ lw_tbl := tl_3 _ (List.mem_of_getElem? (i := 152) rfl)
theorem ct_226 : (Jvm.Cond.methodLink "LostSheets$Office" (3 : Nat) ({ cls := "java/lang/Object", name := "<init>", desc := "()V" } : Jvm.MethodName)) ∈ lw_tbl := tl_1 _ (List.mem_of_getElem? (i := 226) rfl)
theorem ct_337 : (Jvm.Cond.methodLink "LostSheets$Office" (25 : Nat) ({ cls := "LostSheets$Office", name := "holds", desc := "([III)I" } : Jvm.MethodName)) ∈ lw_tbl := tl_2 _ (List.mem_of_getElem? (i := 97) rfl)
theorem ct_338 : (Jvm.Cond.static ({ cls := "LostSheets$Office", name := "holds", desc := "([III)I" } : Jvm.MethodName)) ∈ lw_tbl := tl_2 _ (List.mem_of_getElem? (i := 98) rfl)
theorem ct_138 : (Jvm.Cond.methodLink "LostSheets$Rows" (1 : Nat) ({ cls := "java/lang/Object", name := "<init>", desc := "()V" } : Jvm.MethodName)) ∈ lw_tbl := tl_1 _ (List.mem_of_getElem? (i := 138) rfl)
theorem ct_139 : (Jvm.Cond.methodLink "LostSheets$Rows" (13 : Nat) ({ cls := "java/lang/Math", name := "max", desc := "(II)I" } : Jvm.MethodName)) ∈ lw_tbl := tl_1 _ (List.mem_of_getElem? (i := 139) rfl)
theorem ct_767 : (Jvm.Cond.methodLink "LostSheets$Rows" (32 : Nat) ({ cls := "LostSheets$Rows", name := "append", desc := "(III)Z" } : Jvm.MethodName)) ∈ lw_tbl := tl_4 _ (List.mem_of_getElem? (i := 47) rfl)
theorem ct_673 : (Jvm.Cond.instanceMethod ({ cls := "LostSheets$Rows", name := "append", desc := "(III)Z" } : Jvm.MethodName)) ∈ lw_tbl := tl_3 _ (List.mem_of_getElem? (i := 193) rfl)
theorem ct_674 : (Jvm.Cond.selects "LostSheets$Rows" ({ cls := "LostSheets$Rows", name := "append", desc := "(III)Z" } : Jvm.MethodName) ({ cls := "LostSheets$Rows", name := "append", desc := "(III)Z" } : Jvm.MethodName)) ∈ lw_tbl := tl_3 _ (List.mem_of_getElem? (i := 194) rfl)
theorem ct_246 : (Jvm.Cond.methodLink "LostSheets$Tape" (3 : Nat) ({ cls := "java/lang/Object", name := "<init>", desc := "()V" } : Jvm.MethodName)) ∈ lw_tbl := tl_2 _ (List.mem_of_getElem? (i := 6) rfl)
theorem ct_184 : (Jvm.Cond.methodLink "LostSheets$Text" (3 : Nat) ({ cls := "java/lang/Object", name := "<init>", desc := "()V" } : Jvm.MethodName)) ∈ lw_tbl := tl_1 _ (List.mem_of_getElem? (i := 184) rfl)
theorem ct_497 : (Jvm.Cond.methodLink "LostSheets$Text" (29 : Nat) ({ cls := "LostSheets$Office", name := "clear", desc := "()V" } : Jvm.MethodName)) ∈ lw_tbl := tl_3 _ (List.mem_of_getElem? (i := 17) rfl)
theorem ct_498 : (Jvm.Cond.instanceMethod ({ cls := "LostSheets$Office", name := "clear", desc := "()V" } : Jvm.MethodName)) ∈ lw_tbl := tl_3 _ (List.mem_of_getElem? (i := 18) rfl)
theorem ct_499 : (Jvm.Cond.selects "LostSheets$Office" ({ cls := "LostSheets$Office", name := "clear", desc := "()V" } : Jvm.MethodName) ({ cls := "LostSheets$Office", name := "clear", desc := "()V" } : Jvm.MethodName)) ∈ lw_tbl := tl_3 _ (List.mem_of_getElem? (i := 19) rfl)
theorem ct_501 : (Jvm.Cond.methodLink "LostSheets$Text" (34 : Nat) ({ cls := "LostSheets$Text", name := "clause", desc := "()Z" } : Jvm.MethodName)) ∈ lw_tbl := tl_3 _ (List.mem_of_getElem? (i := 21) rfl)
theorem ct_503 : (Jvm.Cond.instanceMethod ({ cls := "LostSheets$Text", name := "clause", desc := "()Z" } : Jvm.MethodName)) ∈ lw_tbl := tl_3 _ (List.mem_of_getElem? (i := 23) rfl)
theorem cts_10 : Cond.selects "LostSheets$Text" ⟨"LostSheets$Text", "clause", "()Z"⟩ ⟨"LostSheets$Text", "clause", "()Z"⟩ ∈ lw_tbl := List.mem_append_left _ (List.mem_map.mpr ⟨(⟨"LostSheets$Text", "clause", "()Z"⟩, _), List.mem_of_getElem? (i := 10) rfl, rfl⟩)
theorem ct_505 : (Jvm.Cond.methodLink "LostSheets$Text" (42 : Nat) ({ cls := "LostSheets$Text", name := "ahead", desc := "()I" } : Jvm.MethodName)) ∈ lw_tbl := tl_3 _ (List.mem_of_getElem? (i := 25) rfl)
theorem ct_507 : (Jvm.Cond.instanceMethod ({ cls := "LostSheets$Text", name := "ahead", desc := "()I" } : Jvm.MethodName)) ∈ lw_tbl := tl_3 _ (List.mem_of_getElem? (i := 27) rfl)
theorem cts_11 : Cond.selects "LostSheets$Text" ⟨"LostSheets$Text", "ahead", "()I"⟩ ⟨"LostSheets$Text", "ahead", "()I"⟩ ∈ lw_tbl := List.mem_append_left _ (List.mem_map.mpr ⟨(⟨"LostSheets$Text", "ahead", "()I"⟩, _), List.mem_of_getElem? (i := 11) rfl, rfl⟩)
theorem ct_512 : (Jvm.Cond.methodLink "LostSheets$Text" (61 : Nat) ({ cls := "LostSheets$Text", name := "takesAll", desc := "(Ljava/lang/String;)Z" } : Jvm.MethodName)) ∈ lw_tbl := tl_3 _ (List.mem_of_getElem? (i := 32) rfl)
theorem ct_514 : (Jvm.Cond.instanceMethod ({ cls := "LostSheets$Text", name := "takesAll", desc := "(Ljava/lang/String;)Z" } : Jvm.MethodName)) ∈ lw_tbl := tl_3 _ (List.mem_of_getElem? (i := 34) rfl)
theorem cts_12 : Cond.selects "LostSheets$Text" ⟨"LostSheets$Text", "takesAll", "(Ljava/lang/String;)Z"⟩ ⟨"LostSheets$Text", "takesAll", "(Ljava/lang/String;)Z"⟩ ∈ lw_tbl := List.mem_append_left _ (List.mem_map.mpr ⟨(⟨"LostSheets$Text", "takesAll", "(Ljava/lang/String;)Z"⟩, _), List.mem_of_getElem? (i := 12) rfl, rfl⟩)
theorem ct_516 : (Jvm.Cond.methodLink "LostSheets$Text" (46 : Nat) ({ cls := "java/lang/String", name := "length", desc := "()I" } : Jvm.MethodName)) ∈ lw_tbl := tl_3 _ (List.mem_of_getElem? (i := 36) rfl)
theorem ct_517 : (Jvm.Cond.instanceMethod ({ cls := "java/lang/String", name := "length", desc := "()I" } : Jvm.MethodName)) ∈ lw_tbl := tl_3 _ (List.mem_of_getElem? (i := 37) rfl)
theorem ct_518 : (Jvm.Cond.selects "java/lang/String" ({ cls := "java/lang/String", name := "length", desc := "()I" } : Jvm.MethodName) ({ cls := "java/lang/String", name := "length", desc := "()I" } : Jvm.MethodName)) ∈ lw_tbl := tl_3 _ (List.mem_of_getElem? (i := 38) rfl)
theorem ct_526 : (Jvm.Cond.methodLink "LostSheets$Text" (51 : Nat) ({ cls := "java/lang/String", name := "charAt", desc := "(I)C" } : Jvm.MethodName)) ∈ lw_tbl := tl_3 _ (List.mem_of_getElem? (i := 46) rfl)
theorem ct_527 : (Jvm.Cond.instanceMethod ({ cls := "java/lang/String", name := "charAt", desc := "(I)C" } : Jvm.MethodName)) ∈ lw_tbl := tl_3 _ (List.mem_of_getElem? (i := 47) rfl)
theorem ct_528 : (Jvm.Cond.selects "java/lang/String" ({ cls := "java/lang/String", name := "charAt", desc := "(I)C" } : Jvm.MethodName) ({ cls := "java/lang/String", name := "charAt", desc := "(I)C" } : Jvm.MethodName)) ∈ lw_tbl := tl_3 _ (List.mem_of_getElem? (i := 48) rfl)
theorem ct_564 : (Jvm.Cond.methodLink "LostSheets$Text" (38 : Nat) ({ cls := "LostSheets$Text", name := "takes", desc := "(I)Z" } : Jvm.MethodName)) ∈ lw_tbl := tl_3 _ (List.mem_of_getElem? (i := 84) rfl)
theorem ct_566 : (Jvm.Cond.instanceMethod ({ cls := "LostSheets$Text", name := "takes", desc := "(I)Z" } : Jvm.MethodName)) ∈ lw_tbl := tl_3 _ (List.mem_of_getElem? (i := 86) rfl)
theorem cts_13 : Cond.selects "LostSheets$Text" ⟨"LostSheets$Text", "takes", "(I)Z"⟩ ⟨"LostSheets$Text", "takes", "(I)Z"⟩ ∈ lw_tbl := List.mem_append_left _ (List.mem_map.mpr ⟨(⟨"LostSheets$Text", "takes", "(I)Z"⟩, _), List.mem_of_getElem? (i := 13) rfl, rfl⟩)
theorem ct_568 : (Jvm.Cond.methodLink "LostSheets$Text" (65 : Nat) ({ cls := "LostSheets$Text", name := "oneOrTwoDigits", desc := "()Z" } : Jvm.MethodName)) ∈ lw_tbl := tl_3 _ (List.mem_of_getElem? (i := 88) rfl)
theorem ct_570 : (Jvm.Cond.instanceMethod ({ cls := "LostSheets$Text", name := "oneOrTwoDigits", desc := "()Z" } : Jvm.MethodName)) ∈ lw_tbl := tl_3 _ (List.mem_of_getElem? (i := 90) rfl)
theorem cts_14 : Cond.selects "LostSheets$Text" ⟨"LostSheets$Text", "oneOrTwoDigits", "()Z"⟩ ⟨"LostSheets$Text", "oneOrTwoDigits", "()Z"⟩ ∈ lw_tbl := List.mem_append_left _ (List.mem_map.mpr ⟨(⟨"LostSheets$Text", "oneOrTwoDigits", "()Z"⟩, _), List.mem_of_getElem? (i := 14) rfl, rfl⟩)
theorem ct_572 : (Jvm.Cond.methodLink "LostSheets$Text" (71 : Nat) ({ cls := "LostSheets$Text", name := "anyOf", desc := "(I)Z" } : Jvm.MethodName)) ∈ lw_tbl := tl_3 _ (List.mem_of_getElem? (i := 92) rfl)
theorem ct_574 : (Jvm.Cond.instanceMethod ({ cls := "LostSheets$Text", name := "anyOf", desc := "(I)Z" } : Jvm.MethodName)) ∈ lw_tbl := tl_3 _ (List.mem_of_getElem? (i := 94) rfl)
theorem cts_15 : Cond.selects "LostSheets$Text" ⟨"LostSheets$Text", "anyOf", "(I)Z"⟩ ⟨"LostSheets$Text", "anyOf", "(I)Z"⟩ ∈ lw_tbl := List.mem_append_left _ (List.mem_map.mpr ⟨(⟨"LostSheets$Text", "anyOf", "(I)Z"⟩, _), List.mem_of_getElem? (i := 15) rfl, rfl⟩)
theorem ct_576 : (Jvm.Cond.methodLink "LostSheets$Text" (78 : Nat) ({ cls := "LostSheets$Text", name := "allOf", desc := "(I)Z" } : Jvm.MethodName)) ∈ lw_tbl := tl_3 _ (List.mem_of_getElem? (i := 96) rfl)
theorem ct_578 : (Jvm.Cond.instanceMethod ({ cls := "LostSheets$Text", name := "allOf", desc := "(I)Z" } : Jvm.MethodName)) ∈ lw_tbl := tl_3 _ (List.mem_of_getElem? (i := 98) rfl)
theorem cts_16 : Cond.selects "LostSheets$Text" ⟨"LostSheets$Text", "allOf", "(I)Z"⟩ ⟨"LostSheets$Text", "allOf", "(I)Z"⟩ ∈ lw_tbl := List.mem_append_left _ (List.mem_map.mpr ⟨(⟨"LostSheets$Text", "allOf", "(I)Z"⟩, _), List.mem_of_getElem? (i := 16) rfl, rfl⟩)
theorem ct_580 : (Jvm.Cond.methodLink "LostSheets$Text" (81 : Nat) ({ cls := "LostSheets$Text", name := "one", desc := "(I)Z" } : Jvm.MethodName)) ∈ lw_tbl := tl_3 _ (List.mem_of_getElem? (i := 100) rfl)
theorem ct_582 : (Jvm.Cond.instanceMethod ({ cls := "LostSheets$Text", name := "one", desc := "(I)Z" } : Jvm.MethodName)) ∈ lw_tbl := tl_3 _ (List.mem_of_getElem? (i := 102) rfl)
theorem cts_17 : Cond.selects "LostSheets$Text" ⟨"LostSheets$Text", "one", "(I)Z"⟩ ⟨"LostSheets$Text", "one", "(I)Z"⟩ ∈ lw_tbl := List.mem_append_left _ (List.mem_map.mpr ⟨(⟨"LostSheets$Text", "one", "(I)Z"⟩, _), List.mem_of_getElem? (i := 17) rfl, rfl⟩)
theorem ct_584 : (Jvm.Cond.methodLink "LostSheets$Text" (84 : Nat) ({ cls := "LostSheets$Text", name := "test", desc := "()Z" } : Jvm.MethodName)) ∈ lw_tbl := tl_3 _ (List.mem_of_getElem? (i := 104) rfl)
theorem ct_586 : (Jvm.Cond.instanceMethod ({ cls := "LostSheets$Text", name := "test", desc := "()Z" } : Jvm.MethodName)) ∈ lw_tbl := tl_3 _ (List.mem_of_getElem? (i := 106) rfl)
theorem cts_18 : Cond.selects "LostSheets$Text" ⟨"LostSheets$Text", "test", "()Z"⟩ ⟨"LostSheets$Text", "test", "()Z"⟩ ∈ lw_tbl := List.mem_append_left _ (List.mem_map.mpr ⟨(⟨"LostSheets$Text", "test", "()Z"⟩, _), List.mem_of_getElem? (i := 18) rfl, rfl⟩)
theorem ct_589 : (Jvm.Cond.methodLink "LostSheets$Text" (95 : Nat) ({ cls := "LostSheets$Text", name := "placeIn", desc := "(Ljava/lang/String;I)I" } : Jvm.MethodName)) ∈ lw_tbl := tl_3 _ (List.mem_of_getElem? (i := 109) rfl)
theorem ct_590 : (Jvm.Cond.static ({ cls := "LostSheets$Text", name := "placeIn", desc := "(Ljava/lang/String;I)I" } : Jvm.MethodName)) ∈ lw_tbl := tl_3 _ (List.mem_of_getElem? (i := 110) rfl)
theorem ct_593 : (Jvm.Cond.methodLink "LostSheets$Text" (74 : Nat) ({ cls := "LostSheets$Office", name := "append", desc := "(II)V" } : Jvm.MethodName)) ∈ lw_tbl := tl_3 _ (List.mem_of_getElem? (i := 113) rfl)
theorem ct_594 : (Jvm.Cond.instanceMethod ({ cls := "LostSheets$Office", name := "append", desc := "(II)V" } : Jvm.MethodName)) ∈ lw_tbl := tl_3 _ (List.mem_of_getElem? (i := 114) rfl)
theorem ct_595 : (Jvm.Cond.selects "LostSheets$Office" ({ cls := "LostSheets$Office", name := "append", desc := "(II)V" } : Jvm.MethodName) ({ cls := "LostSheets$Office", name := "append", desc := "(II)V" } : Jvm.MethodName)) ∈ lw_tbl := tl_3 _ (List.mem_of_getElem? (i := 115) rfl)
theorem ct_597 : (Jvm.Cond.methodLink "LostSheets$Text" (87 : Nat) ({ cls := "LostSheets$Text", name := "not", desc := "(I)Z" } : Jvm.MethodName)) ∈ lw_tbl := tl_3 _ (List.mem_of_getElem? (i := 117) rfl)
theorem ct_599 : (Jvm.Cond.instanceMethod ({ cls := "LostSheets$Text", name := "not", desc := "(I)Z" } : Jvm.MethodName)) ∈ lw_tbl := tl_3 _ (List.mem_of_getElem? (i := 119) rfl)
theorem cts_19 : Cond.selects "LostSheets$Text" ⟨"LostSheets$Text", "not", "(I)Z"⟩ ⟨"LostSheets$Text", "not", "(I)Z"⟩ ∈ lw_tbl := List.mem_append_left _ (List.mem_map.mpr ⟨(⟨"LostSheets$Text", "not", "(I)Z"⟩, _), List.mem_of_getElem? (i := 19) rfl, rfl⟩)
theorem ct_601 : (Jvm.Cond.methodLink "LostSheets$Text" (90 : Nat) ({ cls := "LostSheets$Text", name := "inBrackets", desc := "(I)Z" } : Jvm.MethodName)) ∈ lw_tbl := tl_3 _ (List.mem_of_getElem? (i := 121) rfl)
theorem ct_603 : (Jvm.Cond.instanceMethod ({ cls := "LostSheets$Text", name := "inBrackets", desc := "(I)Z" } : Jvm.MethodName)) ∈ lw_tbl := tl_3 _ (List.mem_of_getElem? (i := 123) rfl)
theorem cts_20 : Cond.selects "LostSheets$Text" ⟨"LostSheets$Text", "inBrackets", "(I)Z"⟩ ⟨"LostSheets$Text", "inBrackets", "(I)Z"⟩ ∈ lw_tbl := List.mem_append_left _ (List.mem_map.mpr ⟨(⟨"LostSheets$Text", "inBrackets", "(I)Z"⟩, _), List.mem_of_getElem? (i := 20) rfl, rfl⟩)
theorem ct_210 : (Jvm.Cond.methodLink "LostSheets$Trace" (3 : Nat) ({ cls := "java/lang/Object", name := "<init>", desc := "()V" } : Jvm.MethodName)) ∈ lw_tbl := tl_1 _ (List.mem_of_getElem? (i := 210) rfl)
theorem ct_780 : (Jvm.Cond.methodLink "LostSheets$Trace" (31 : Nat) ({ cls := "LostSheets$Trace", name := "run", desc := "(LLostSheets$Drawer;IIII)I" } : Jvm.MethodName)) ∈ lw_tbl := tl_4 _ (List.mem_of_getElem? (i := 60) rfl)
theorem ct_782 : (Jvm.Cond.instanceMethod ({ cls := "LostSheets$Trace", name := "run", desc := "(LLostSheets$Drawer;IIII)I" } : Jvm.MethodName)) ∈ lw_tbl := tl_4 _ (List.mem_of_getElem? (i := 62) rfl)
theorem cts_30 : Cond.selects "LostSheets$Trace" ⟨"LostSheets$Trace", "run", "(LLostSheets$Drawer;IIII)I"⟩ ⟨"LostSheets$Trace", "run", "(LLostSheets$Drawer;IIII)I"⟩ ∈ lw_tbl := List.mem_append_left _ (List.mem_map.mpr ⟨(⟨"LostSheets$Trace", "run", "(LLostSheets$Drawer;IIII)I"⟩, _), List.mem_of_getElem? (i := 30) rfl, rfl⟩)
theorem ct_784 : (Jvm.Cond.methodLink "LostSheets$Trace" (35 : Nat) ({ cls := "LostSheets$Trace", name := "bodyOf", desc := "(II)I" } : Jvm.MethodName)) ∈ lw_tbl := tl_4 _ (List.mem_of_getElem? (i := 64) rfl)
theorem ct_785 : (Jvm.Cond.static ({ cls := "LostSheets$Trace", name := "bodyOf", desc := "(II)I" } : Jvm.MethodName)) ∈ lw_tbl := tl_4 _ (List.mem_of_getElem? (i := 65) rfl)
theorem ct_789 : (Jvm.Cond.methodLinkNest "LostSheets$Trace" (22 : Nat) ({ cls := "LostSheets", name := "aboveOf", desc := "(I)I" } : Jvm.MethodName) "LostSheets") ∈ lw_tbl := tl_4 _ (List.mem_of_getElem? (i := 69) rfl)
theorem ct_790 : (Jvm.Cond.static ({ cls := "LostSheets", name := "aboveOf", desc := "(I)I" } : Jvm.MethodName)) ∈ lw_tbl := tl_4 _ (List.mem_of_getElem? (i := 70) rfl)
theorem ct_794 : (Jvm.Cond.methodLink "LostSheets$Trace" (39 : Nat) ({ cls := "LostSheets$Trace", name := "begins", desc := "(I)V" } : Jvm.MethodName)) ∈ lw_tbl := tl_4 _ (List.mem_of_getElem? (i := 74) rfl)
theorem ct_796 : (Jvm.Cond.instanceMethod ({ cls := "LostSheets$Trace", name := "begins", desc := "(I)V" } : Jvm.MethodName)) ∈ lw_tbl := tl_4 _ (List.mem_of_getElem? (i := 76) rfl)
theorem cts_31 : Cond.selects "LostSheets$Trace" ⟨"LostSheets$Trace", "begins", "(I)V"⟩ ⟨"LostSheets$Trace", "begins", "(I)V"⟩ ∈ lw_tbl := List.mem_append_left _ (List.mem_map.mpr ⟨(⟨"LostSheets$Trace", "begins", "(I)V"⟩, _), List.mem_of_getElem? (i := 31) rfl, rfl⟩)
theorem ct_798 : (Jvm.Cond.methodLink "LostSheets$Trace" (43 : Nat) ({ cls := "LostSheets$Trace", name := "does", desc := "(ILLostSheets$Drawer;II)I" } : Jvm.MethodName)) ∈ lw_tbl := tl_4 _ (List.mem_of_getElem? (i := 78) rfl)
theorem ct_800 : (Jvm.Cond.instanceMethod ({ cls := "LostSheets$Trace", name := "does", desc := "(ILLostSheets$Drawer;II)I" } : Jvm.MethodName)) ∈ lw_tbl := tl_4 _ (List.mem_of_getElem? (i := 80) rfl)
theorem cts_32 : Cond.selects "LostSheets$Trace" ⟨"LostSheets$Trace", "does", "(ILLostSheets$Drawer;II)I"⟩ ⟨"LostSheets$Trace", "does", "(ILLostSheets$Drawer;II)I"⟩ ∈ lw_tbl := List.mem_append_left _ (List.mem_map.mpr ⟨(⟨"LostSheets$Trace", "does", "(ILLostSheets$Drawer;II)I"⟩, _), List.mem_of_getElem? (i := 32) rfl, rfl⟩)
theorem ct_24 : (Jvm.Cond.methodLink "LostSheets" (3 : Nat) ({ cls := "java/lang/Object", name := "<init>", desc := "()V" } : Jvm.MethodName)) ∈ lw_tbl := tl_1 _ (List.mem_of_getElem? (i := 24) rfl)
theorem ct_29 : (Jvm.Cond.methodLink "LostSheets" (11 : Nat) ({ cls := "LostSheets$Land", name := "<init>", desc := "()V" } : Jvm.MethodName)) ∈ lw_tbl := tl_1 _ (List.mem_of_getElem? (i := 29) rfl)
theorem ct_30 : (Jvm.Cond.instanceMethod ({ cls := "LostSheets$Land", name := "<init>", desc := "()V" } : Jvm.MethodName)) ∈ lw_tbl := tl_1 _ (List.mem_of_getElem? (i := 30) rfl)
theorem ct_129 : (Jvm.Cond.methodLinkNest "LostSheets" (26 : Nat) ({ cls := "LostSheets$ByHand", name := "<init>", desc := "()V" } : Jvm.MethodName) "LostSheets") ∈ lw_tbl := tl_1 _ (List.mem_of_getElem? (i := 129) rfl)
theorem ct_130 : (Jvm.Cond.instanceMethod ({ cls := "LostSheets$ByHand", name := "<init>", desc := "()V" } : Jvm.MethodName)) ∈ lw_tbl := tl_1 _ (List.mem_of_getElem? (i := 130) rfl)
theorem ct_181 : (Jvm.Cond.methodLinkNest "LostSheets" (40 : Nat) ({ cls := "LostSheets$Text", name := "<init>", desc := "()V" } : Jvm.MethodName) "LostSheets") ∈ lw_tbl := tl_1 _ (List.mem_of_getElem? (i := 181) rfl)
theorem ct_182 : (Jvm.Cond.instanceMethod ({ cls := "LostSheets$Text", name := "<init>", desc := "()V" } : Jvm.MethodName)) ∈ lw_tbl := tl_1 _ (List.mem_of_getElem? (i := 182) rfl)
theorem ct_207 : (Jvm.Cond.methodLinkNest "LostSheets" (57 : Nat) ({ cls := "LostSheets$Trace", name := "<init>", desc := "()V" } : Jvm.MethodName) "LostSheets") ∈ lw_tbl := tl_1 _ (List.mem_of_getElem? (i := 207) rfl)
theorem ct_208 : (Jvm.Cond.instanceMethod ({ cls := "LostSheets$Trace", name := "<init>", desc := "()V" } : Jvm.MethodName)) ∈ lw_tbl := tl_1 _ (List.mem_of_getElem? (i := 208) rfl)
theorem ct_223 : (Jvm.Cond.methodLinkNest "LostSheets" (68 : Nat) ({ cls := "LostSheets$Office", name := "<init>", desc := "()V" } : Jvm.MethodName) "LostSheets") ∈ lw_tbl := tl_1 _ (List.mem_of_getElem? (i := 223) rfl)
theorem ct_224 : (Jvm.Cond.instanceMethod ({ cls := "LostSheets$Office", name := "<init>", desc := "()V" } : Jvm.MethodName)) ∈ lw_tbl := tl_1 _ (List.mem_of_getElem? (i := 224) rfl)
theorem ct_243 : (Jvm.Cond.methodLinkNest "LostSheets" (69 : Nat) ({ cls := "LostSheets$Tape", name := "<init>", desc := "()V" } : Jvm.MethodName) "LostSheets") ∈ lw_tbl := tl_2 _ (List.mem_of_getElem? (i := 3) rfl)
theorem ct_244 : (Jvm.Cond.instanceMethod ({ cls := "LostSheets$Tape", name := "<init>", desc := "()V" } : Jvm.MethodName)) ∈ lw_tbl := tl_2 _ (List.mem_of_getElem? (i := 4) rfl)
theorem ct_299 : (Jvm.Cond.methodLink "LostSheets" (70 : Nat) ({ cls := "LostSheets", name := "isCell", desc := "(I)Z" } : Jvm.MethodName)) ∈ lw_tbl := tl_2 _ (List.mem_of_getElem? (i := 59) rfl)
theorem ct_302 : (Jvm.Cond.methodLink "LostSheets" (74 : Nat) ({ cls := "LostSheets", name := "isDigit", desc := "(I)Z" } : Jvm.MethodName)) ∈ lw_tbl := tl_2 _ (List.mem_of_getElem? (i := 62) rfl)
theorem ct_303 : (Jvm.Cond.static ({ cls := "LostSheets", name := "isDigit", desc := "(I)Z" } : Jvm.MethodName)) ∈ lw_tbl := tl_2 _ (List.mem_of_getElem? (i := 63) rfl)
theorem ct_305 : (Jvm.Cond.methodLink "LostSheets" (77 : Nat) ({ cls := "LostSheets$Land", name := "addDrawer", desc := "(III)Z" } : Jvm.MethodName)) ∈ lw_tbl := tl_2 _ (List.mem_of_getElem? (i := 65) rfl)
theorem ct_306 : (Jvm.Cond.instanceMethod ({ cls := "LostSheets$Land", name := "addDrawer", desc := "(III)Z" } : Jvm.MethodName)) ∈ lw_tbl := tl_2 _ (List.mem_of_getElem? (i := 66) rfl)
theorem ct_307 : (Jvm.Cond.selects "LostSheets$Land" ({ cls := "LostSheets$Land", name := "addDrawer", desc := "(III)Z" } : Jvm.MethodName) ({ cls := "LostSheets$Land", name := "addDrawer", desc := "(III)Z" } : Jvm.MethodName)) ∈ lw_tbl := tl_2 _ (List.mem_of_getElem? (i := 67) rfl)
theorem ct_317 : (Jvm.Cond.methodLink "LostSheets" (84 : Nat) ({ cls := "LostSheets$Land", name := "drawerAt", desc := "(I)LLostSheets$Drawer;" } : Jvm.MethodName)) ∈ lw_tbl := tl_2 _ (List.mem_of_getElem? (i := 77) rfl)
theorem ct_321 : (Jvm.Cond.methodLink "LostSheets" (108 : Nat) ({ cls := "LostSheets$Land", name := "feelOf", desc := "(LLostSheets$Drawer;)I" } : Jvm.MethodName)) ∈ lw_tbl := tl_2 _ (List.mem_of_getElem? (i := 81) rfl)
theorem ct_347 : (Jvm.Cond.methodLink "LostSheets" (112 : Nat) ({ cls := "LostSheets$Land", name := "wayOf", desc := "(LLostSheets$Drawer;)I" } : Jvm.MethodName)) ∈ lw_tbl := tl_2 _ (List.mem_of_getElem? (i := 107) rfl)
theorem ct_348 : (Jvm.Cond.instanceMethod ({ cls := "LostSheets$Land", name := "wayOf", desc := "(LLostSheets$Drawer;)I" } : Jvm.MethodName)) ∈ lw_tbl := tl_2 _ (List.mem_of_getElem? (i := 108) rfl)
theorem ct_349 : (Jvm.Cond.selects "LostSheets$Land" ({ cls := "LostSheets$Land", name := "wayOf", desc := "(LLostSheets$Drawer;)I" } : Jvm.MethodName) ({ cls := "LostSheets$Land", name := "wayOf", desc := "(LLostSheets$Drawer;)I" } : Jvm.MethodName)) ∈ lw_tbl := tl_2 _ (List.mem_of_getElem? (i := 109) rfl)
theorem ct_352 : (Jvm.Cond.methodLink "LostSheets" (115 : Nat) ({ cls := "LostSheets$Land", name := "cameOf", desc := "(LLostSheets$Drawer;)I" } : Jvm.MethodName)) ∈ lw_tbl := tl_2 _ (List.mem_of_getElem? (i := 112) rfl)
theorem ct_353 : (Jvm.Cond.instanceMethod ({ cls := "LostSheets$Land", name := "cameOf", desc := "(LLostSheets$Drawer;)I" } : Jvm.MethodName)) ∈ lw_tbl := tl_2 _ (List.mem_of_getElem? (i := 113) rfl)
theorem ct_354 : (Jvm.Cond.selects "LostSheets$Land" ({ cls := "LostSheets$Land", name := "cameOf", desc := "(LLostSheets$Drawer;)I" } : Jvm.MethodName) ({ cls := "LostSheets$Land", name := "cameOf", desc := "(LLostSheets$Drawer;)I" } : Jvm.MethodName)) ∈ lw_tbl := tl_2 _ (List.mem_of_getElem? (i := 114) rfl)
theorem ct_363 : (Jvm.Cond.methodLink "LostSheets" (118 : Nat) ({ cls := "LostSheets$Land", name := "hereOf", desc := "(LLostSheets$Drawer;)I" } : Jvm.MethodName)) ∈ lw_tbl := tl_2 _ (List.mem_of_getElem? (i := 123) rfl)
theorem ct_367 : (Jvm.Cond.methodLink "LostSheets" (121 : Nat) ({ cls := "LostSheets$Land", name := "lookOf", desc := "(LLostSheets$Drawer;)I" } : Jvm.MethodName)) ∈ lw_tbl := tl_2 _ (List.mem_of_getElem? (i := 127) rfl)
theorem ct_368 : (Jvm.Cond.instanceMethod ({ cls := "LostSheets$Land", name := "lookOf", desc := "(LLostSheets$Drawer;)I" } : Jvm.MethodName)) ∈ lw_tbl := tl_2 _ (List.mem_of_getElem? (i := 128) rfl)
theorem ct_369 : (Jvm.Cond.selects "LostSheets$Land" ({ cls := "LostSheets$Land", name := "lookOf", desc := "(LLostSheets$Drawer;)I" } : Jvm.MethodName) ({ cls := "LostSheets$Land", name := "lookOf", desc := "(LLostSheets$Drawer;)I" } : Jvm.MethodName)) ∈ lw_tbl := tl_2 _ (List.mem_of_getElem? (i := 129) rfl)
theorem ct_380 : (Jvm.Cond.methodLink "LostSheets" (124 : Nat) ({ cls := "LostSheets", name := "placesOf", desc := "(LLostSheets$Drawer;)I" } : Jvm.MethodName)) ∈ lw_tbl := tl_2 _ (List.mem_of_getElem? (i := 140) rfl)
theorem ct_382 : (Jvm.Cond.instanceMethod ({ cls := "LostSheets", name := "placesOf", desc := "(LLostSheets$Drawer;)I" } : Jvm.MethodName)) ∈ lw_tbl := tl_2 _ (List.mem_of_getElem? (i := 142) rfl)
theorem cts_4 : Cond.selects "LostSheets" ⟨"LostSheets", "placesOf", "(LLostSheets$Drawer;)I"⟩ ⟨"LostSheets", "placesOf", "(LLostSheets$Drawer;)I"⟩ ∈ lw_tbl := List.mem_append_left _ (List.mem_map.mpr ⟨(⟨"LostSheets", "placesOf", "(LLostSheets$Drawer;)I"⟩, _), List.mem_of_getElem? (i := 4) rfl, rfl⟩)
theorem ct_384 : (Jvm.Cond.methodLink "LostSheets" (230 : Nat) ({ cls := "LostSheets", name := "tryAt", desc := "(II)V" } : Jvm.MethodName)) ∈ lw_tbl := tl_2 _ (List.mem_of_getElem? (i := 144) rfl)
theorem ct_386 : (Jvm.Cond.instanceMethod ({ cls := "LostSheets", name := "tryAt", desc := "(II)V" } : Jvm.MethodName)) ∈ lw_tbl := tl_2 _ (List.mem_of_getElem? (i := 146) rfl)
theorem cts_5 : Cond.selects "LostSheets" ⟨"LostSheets", "tryAt", "(II)V"⟩ ⟨"LostSheets", "tryAt", "(II)V"⟩ ∈ lw_tbl := List.mem_append_left _ (List.mem_map.mpr ⟨(⟨"LostSheets", "tryAt", "(II)V"⟩, _), List.mem_of_getElem? (i := 5) rfl, rfl⟩)
theorem ct_388 : (Jvm.Cond.methodLink "LostSheets" (191 : Nat) ({ cls := "LostSheets$Land", name := "copyFrom", desc := "(LLostSheets$Land;)V" } : Jvm.MethodName)) ∈ lw_tbl := tl_2 _ (List.mem_of_getElem? (i := 148) rfl)
theorem ct_389 : (Jvm.Cond.instanceMethod ({ cls := "LostSheets$Land", name := "copyFrom", desc := "(LLostSheets$Land;)V" } : Jvm.MethodName)) ∈ lw_tbl := tl_2 _ (List.mem_of_getElem? (i := 149) rfl)
theorem ct_390 : (Jvm.Cond.selects "LostSheets$Land" ({ cls := "LostSheets$Land", name := "copyFrom", desc := "(LLostSheets$Land;)V" } : Jvm.MethodName) ({ cls := "LostSheets$Land", name := "copyFrom", desc := "(LLostSheets$Land;)V" } : Jvm.MethodName)) ∈ lw_tbl := tl_2 _ (List.mem_of_getElem? (i := 150) rfl)
theorem ct_400 : (Jvm.Cond.methodLink "LostSheets" (319 : Nat) ({ cls := "LostSheets$Land", name := "putAt", desc := "(II)V" } : Jvm.MethodName)) ∈ lw_tbl := tl_2 _ (List.mem_of_getElem? (i := 160) rfl)
theorem ct_401 : (Jvm.Cond.instanceMethod ({ cls := "LostSheets$Land", name := "putAt", desc := "(II)V" } : Jvm.MethodName)) ∈ lw_tbl := tl_2 _ (List.mem_of_getElem? (i := 161) rfl)
theorem ct_402 : (Jvm.Cond.selects "LostSheets$Land" ({ cls := "LostSheets$Land", name := "putAt", desc := "(II)V" } : Jvm.MethodName) ({ cls := "LostSheets$Land", name := "putAt", desc := "(II)V" } : Jvm.MethodName)) ∈ lw_tbl := tl_2 _ (List.mem_of_getElem? (i := 162) rfl)
theorem ct_406 : (Jvm.Cond.methodLink "LostSheets" (326 : Nat) ({ cls := "LostSheets", name := "seenIsSo", desc := "()Z" } : Jvm.MethodName)) ∈ lw_tbl := tl_2 _ (List.mem_of_getElem? (i := 166) rfl)
theorem ct_408 : (Jvm.Cond.instanceMethod ({ cls := "LostSheets", name := "seenIsSo", desc := "()Z" } : Jvm.MethodName)) ∈ lw_tbl := tl_2 _ (List.mem_of_getElem? (i := 168) rfl)
theorem cts_6 : Cond.selects "LostSheets" ⟨"LostSheets", "seenIsSo", "()Z"⟩ ⟨"LostSheets", "seenIsSo", "()Z"⟩ ∈ lw_tbl := List.mem_append_left _ (List.mem_map.mpr ⟨(⟨"LostSheets", "seenIsSo", "()Z"⟩, _), List.mem_of_getElem? (i := 6) rfl, rfl⟩)
theorem ct_410 : (Jvm.Cond.methodLink "LostSheets" (336 : Nat) ({ cls := "LostSheets$ByHand", name := "lastHourSeen", desc := "()I" } : Jvm.MethodName)) ∈ lw_tbl := tl_2 _ (List.mem_of_getElem? (i := 170) rfl)
theorem ct_411 : (Jvm.Cond.instanceMethod ({ cls := "LostSheets$ByHand", name := "lastHourSeen", desc := "()I" } : Jvm.MethodName)) ∈ lw_tbl := tl_2 _ (List.mem_of_getElem? (i := 171) rfl)
theorem ct_412 : (Jvm.Cond.selects "LostSheets$ByHand" ({ cls := "LostSheets$ByHand", name := "lastHourSeen", desc := "()I" } : Jvm.MethodName) ({ cls := "LostSheets$ByHand", name := "lastHourSeen", desc := "()I" } : Jvm.MethodName)) ∈ lw_tbl := tl_2 _ (List.mem_of_getElem? (i := 172) rfl)
theorem ct_415 : (Jvm.Cond.methodLink "LostSheets" (339 : Nat) ({ cls := "LostSheets", name := "seenIsSoIn", desc := "(I)Z" } : Jvm.MethodName)) ∈ lw_tbl := tl_2 _ (List.mem_of_getElem? (i := 175) rfl)
theorem ct_417 : (Jvm.Cond.instanceMethod ({ cls := "LostSheets", name := "seenIsSoIn", desc := "(I)Z" } : Jvm.MethodName)) ∈ lw_tbl := tl_2 _ (List.mem_of_getElem? (i := 177) rfl)
theorem cts_7 : Cond.selects "LostSheets" ⟨"LostSheets", "seenIsSoIn", "(I)Z"⟩ ⟨"LostSheets", "seenIsSoIn", "(I)Z"⟩ ∈ lw_tbl := List.mem_append_left _ (List.mem_map.mpr ⟨(⟨"LostSheets", "seenIsSoIn", "(I)Z"⟩, _), List.mem_of_getElem? (i := 7) rfl, rfl⟩)
theorem ct_419 : (Jvm.Cond.methodLink "LostSheets" (195 : Nat) ({ cls := "LostSheets$Land", name := "whereIs", desc := "(I)I" } : Jvm.MethodName)) ∈ lw_tbl := tl_2 _ (List.mem_of_getElem? (i := 179) rfl)
theorem ct_420 : (Jvm.Cond.instanceMethod ({ cls := "LostSheets$Land", name := "whereIs", desc := "(I)I" } : Jvm.MethodName)) ∈ lw_tbl := tl_2 _ (List.mem_of_getElem? (i := 180) rfl)
theorem ct_421 : (Jvm.Cond.selects "LostSheets$Land" ({ cls := "LostSheets$Land", name := "whereIs", desc := "(I)I" } : Jvm.MethodName) ({ cls := "LostSheets$Land", name := "whereIs", desc := "(I)I" } : Jvm.MethodName)) ∈ lw_tbl := tl_2 _ (List.mem_of_getElem? (i := 181) rfl)
theorem ct_423 : (Jvm.Cond.methodLink "LostSheets" (137 : Nat) ({ cls := "LostSheets$Land", name := "markAt", desc := "(I)I" } : Jvm.MethodName)) ∈ lw_tbl := tl_2 _ (List.mem_of_getElem? (i := 183) rfl)
theorem ct_424 : (Jvm.Cond.methodLink "LostSheets" (181 : Nat) ({ cls := "LostSheets$Land", name := "hoursGo", desc := "(I)V" } : Jvm.MethodName)) ∈ lw_tbl := tl_2 _ (List.mem_of_getElem? (i := 184) rfl)
theorem ct_425 : (Jvm.Cond.instanceMethod ({ cls := "LostSheets$Land", name := "hoursGo", desc := "(I)V" } : Jvm.MethodName)) ∈ lw_tbl := tl_2 _ (List.mem_of_getElem? (i := 185) rfl)
theorem ct_426 : (Jvm.Cond.selects "LostSheets$Land" ({ cls := "LostSheets$Land", name := "hoursGo", desc := "(I)V" } : Jvm.MethodName) ({ cls := "LostSheets$Land", name := "hoursGo", desc := "(I)V" } : Jvm.MethodName)) ∈ lw_tbl := tl_2 _ (List.mem_of_getElem? (i := 186) rfl)
theorem ct_472 : (Jvm.Cond.methodLink "LostSheets" (134 : Nat) ({ cls := "LostSheets", name := "isMark", desc := "(I)Z" } : Jvm.MethodName)) ∈ lw_tbl := tl_2 _ (List.mem_of_getElem? (i := 232) rfl)
theorem ct_473 : (Jvm.Cond.methodLink "LostSheets" (141 : Nat) ({ cls := "LostSheets$Land", name := "setMark", desc := "(II)V" } : Jvm.MethodName)) ∈ lw_tbl := tl_2 _ (List.mem_of_getElem? (i := 233) rfl)
theorem ct_474 : (Jvm.Cond.instanceMethod ({ cls := "LostSheets$Land", name := "setMark", desc := "(II)V" } : Jvm.MethodName)) ∈ lw_tbl := tl_2 _ (List.mem_of_getElem? (i := 234) rfl)
theorem ct_475 : (Jvm.Cond.selects "LostSheets$Land" ({ cls := "LostSheets$Land", name := "setMark", desc := "(II)V" } : Jvm.MethodName) ({ cls := "LostSheets$Land", name := "setMark", desc := "(II)V" } : Jvm.MethodName)) ∈ lw_tbl := tl_2 _ (List.mem_of_getElem? (i := 235) rfl)
theorem ct_485 : (Jvm.Cond.methodLink "LostSheets" (148 : Nat) ({ cls := "LostSheets$Text", name := "append", desc := "(I)Z" } : Jvm.MethodName)) ∈ lw_tbl := tl_3 _ (List.mem_of_getElem? (i := 5) rfl)
theorem ct_486 : (Jvm.Cond.instanceMethod ({ cls := "LostSheets$Text", name := "append", desc := "(I)Z" } : Jvm.MethodName)) ∈ lw_tbl := tl_3 _ (List.mem_of_getElem? (i := 6) rfl)
theorem ct_487 : (Jvm.Cond.selects "LostSheets$Text" ({ cls := "LostSheets$Text", name := "append", desc := "(I)Z" } : Jvm.MethodName) ({ cls := "LostSheets$Text", name := "append", desc := "(I)Z" } : Jvm.MethodName)) ∈ lw_tbl := tl_3 _ (List.mem_of_getElem? (i := 7) rfl)
theorem ct_493 : (Jvm.Cond.methodLink "LostSheets" (154 : Nat) ({ cls := "LostSheets$Text", name := "readInto", desc := "(LLostSheets$Office;)I" } : Jvm.MethodName)) ∈ lw_tbl := tl_3 _ (List.mem_of_getElem? (i := 13) rfl)
theorem ct_494 : (Jvm.Cond.instanceMethod ({ cls := "LostSheets$Text", name := "readInto", desc := "(LLostSheets$Office;)I" } : Jvm.MethodName)) ∈ lw_tbl := tl_3 _ (List.mem_of_getElem? (i := 14) rfl)
theorem ct_495 : (Jvm.Cond.selects "LostSheets$Text" ({ cls := "LostSheets$Text", name := "readInto", desc := "(LLostSheets$Office;)I" } : Jvm.MethodName) ({ cls := "LostSheets$Text", name := "readInto", desc := "(LLostSheets$Office;)I" } : Jvm.MethodName)) ∈ lw_tbl := tl_3 _ (List.mem_of_getElem? (i := 15) rfl)
theorem ct_609 : (Jvm.Cond.methodLink "LostSheets" (162 : Nat) ({ cls := "LostSheets", name := "marksOf", desc := "(I)I" } : Jvm.MethodName)) ∈ lw_tbl := tl_3 _ (List.mem_of_getElem? (i := 129) rfl)
theorem ct_611 : (Jvm.Cond.instanceMethod ({ cls := "LostSheets", name := "marksOf", desc := "(I)I" } : Jvm.MethodName)) ∈ lw_tbl := tl_3 _ (List.mem_of_getElem? (i := 131) rfl)
theorem cts_21 : Cond.selects "LostSheets" ⟨"LostSheets", "marksOf", "(I)I"⟩ ⟨"LostSheets", "marksOf", "(I)I"⟩ ∈ lw_tbl := List.mem_append_left _ (List.mem_map.mpr ⟨(⟨"LostSheets", "marksOf", "(I)I"⟩, _), List.mem_of_getElem? (i := 21) rfl, rfl⟩)
theorem ct_613 : (Jvm.Cond.methodLink "LostSheets" (168 : Nat) ({ cls := "LostSheets$Land", name := "know", desc := "()I" } : Jvm.MethodName)) ∈ lw_tbl := tl_3 _ (List.mem_of_getElem? (i := 133) rfl)
theorem ct_614 : (Jvm.Cond.methodLink "LostSheets" (175 : Nat) ({ cls := "LostSheets$Land", name := "doneBits", desc := "()I" } : Jvm.MethodName)) ∈ lw_tbl := tl_3 _ (List.mem_of_getElem? (i := 134) rfl)
theorem ct_615 : (Jvm.Cond.instanceMethod ({ cls := "LostSheets$Land", name := "doneBits", desc := "()I" } : Jvm.MethodName)) ∈ lw_tbl := tl_3 _ (List.mem_of_getElem? (i := 135) rfl)
theorem ct_616 : (Jvm.Cond.selects "LostSheets$Land" ({ cls := "LostSheets$Land", name := "doneBits", desc := "()I" } : Jvm.MethodName) ({ cls := "LostSheets$Land", name := "doneBits", desc := "()I" } : Jvm.MethodName)) ∈ lw_tbl := tl_3 _ (List.mem_of_getElem? (i := 136) rfl)
theorem ct_618 : (Jvm.Cond.methodLink "LostSheets" (178 : Nat) ({ cls := "LostSheets", name := "whole", desc := "()I" } : Jvm.MethodName)) ∈ lw_tbl := tl_3 _ (List.mem_of_getElem? (i := 138) rfl)
theorem ct_620 : (Jvm.Cond.instanceMethod ({ cls := "LostSheets", name := "whole", desc := "()I" } : Jvm.MethodName)) ∈ lw_tbl := tl_3 _ (List.mem_of_getElem? (i := 140) rfl)
theorem cts_22 : Cond.selects "LostSheets" ⟨"LostSheets", "whole", "()I"⟩ ⟨"LostSheets", "whole", "()I"⟩ ∈ lw_tbl := List.mem_append_left _ (List.mem_map.mpr ⟨(⟨"LostSheets", "whole", "()I"⟩, _), List.mem_of_getElem? (i := 22) rfl, rfl⟩)
theorem ct_627 : (Jvm.Cond.methodLink "LostSheets" (185 : Nat) ({ cls := "LostSheets$Land", name := "capDrew", desc := "()V" } : Jvm.MethodName)) ∈ lw_tbl := tl_3 _ (List.mem_of_getElem? (i := 147) rfl)
theorem ct_628 : (Jvm.Cond.instanceMethod ({ cls := "LostSheets$Land", name := "capDrew", desc := "()V" } : Jvm.MethodName)) ∈ lw_tbl := tl_3 _ (List.mem_of_getElem? (i := 148) rfl)
theorem ct_629 : (Jvm.Cond.selects "LostSheets$Land" ({ cls := "LostSheets$Land", name := "capDrew", desc := "()V" } : Jvm.MethodName) ({ cls := "LostSheets$Land", name := "capDrew", desc := "()V" } : Jvm.MethodName)) ∈ lw_tbl := tl_3 _ (List.mem_of_getElem? (i := 149) rfl)
theorem ct_638 : (Jvm.Cond.methodLink "LostSheets" (188 : Nat) ({ cls := "LostSheets", name := "drawerBehindTen", desc := "(I)LLostSheets$Drawer;" } : Jvm.MethodName)) ∈ lw_tbl := tl_3 _ (List.mem_of_getElem? (i := 158) rfl)
theorem ct_640 : (Jvm.Cond.instanceMethod ({ cls := "LostSheets", name := "drawerBehindTen", desc := "(I)LLostSheets$Drawer;" } : Jvm.MethodName)) ∈ lw_tbl := tl_3 _ (List.mem_of_getElem? (i := 160) rfl)
theorem cts_23 : Cond.selects "LostSheets" ⟨"LostSheets", "drawerBehindTen", "(I)LLostSheets$Drawer;"⟩ ⟨"LostSheets", "drawerBehindTen", "(I)LLostSheets$Drawer;"⟩ ∈ lw_tbl := List.mem_append_left _ (List.mem_map.mpr ⟨(⟨"LostSheets", "drawerBehindTen", "(I)LLostSheets$Drawer;"⟩, _), List.mem_of_getElem? (i := 23) rfl, rfl⟩)
theorem ct_646 : (Jvm.Cond.methodLink "LostSheets" (198 : Nat) ({ cls := "LostSheets", name := "crew", desc := "(I)I" } : Jvm.MethodName)) ∈ lw_tbl := tl_3 _ (List.mem_of_getElem? (i := 166) rfl)
theorem ct_648 : (Jvm.Cond.instanceMethod ({ cls := "LostSheets", name := "crew", desc := "(I)I" } : Jvm.MethodName)) ∈ lw_tbl := tl_3 _ (List.mem_of_getElem? (i := 168) rfl)
theorem cts_24 : Cond.selects "LostSheets" ⟨"LostSheets", "crew", "(I)I"⟩ ⟨"LostSheets", "crew", "(I)I"⟩ ∈ lw_tbl := List.mem_append_left _ (List.mem_map.mpr ⟨(⟨"LostSheets", "crew", "(I)I"⟩, _), List.mem_of_getElem? (i := 24) rfl, rfl⟩)
theorem ct_650 : (Jvm.Cond.methodLink "LostSheets" (220 : Nat) ({ cls := "java/lang/Integer", name := "bitCount", desc := "(I)I" } : Jvm.MethodName)) ∈ lw_tbl := tl_3 _ (List.mem_of_getElem? (i := 170) rfl)
theorem ct_651 : (Jvm.Cond.static ({ cls := "java/lang/Integer", name := "bitCount", desc := "(I)I" } : Jvm.MethodName)) ∈ lw_tbl := tl_3 _ (List.mem_of_getElem? (i := 171) rfl)
theorem ct_656 : (Jvm.Cond.methodLink "LostSheets" (323 : Nat) ({ cls := "LostSheets$Land", name := "othersAreDone", desc := "(I)V" } : Jvm.MethodName)) ∈ lw_tbl := tl_3 _ (List.mem_of_getElem? (i := 176) rfl)
theorem ct_657 : (Jvm.Cond.instanceMethod ({ cls := "LostSheets$Land", name := "othersAreDone", desc := "(I)V" } : Jvm.MethodName)) ∈ lw_tbl := tl_3 _ (List.mem_of_getElem? (i := 177) rfl)
theorem ct_658 : (Jvm.Cond.selects "LostSheets$Land" ({ cls := "LostSheets$Land", name := "othersAreDone", desc := "(I)V" } : Jvm.MethodName) ({ cls := "LostSheets$Land", name := "othersAreDone", desc := "(I)V" } : Jvm.MethodName)) ∈ lw_tbl := tl_3 _ (List.mem_of_getElem? (i := 178) rfl)
theorem ct_660 : (Jvm.Cond.methodLink "LostSheets" (201 : Nat) ({ cls := "LostSheets", name := "landing", desc := "(II)I" } : Jvm.MethodName)) ∈ lw_tbl := tl_3 _ (List.mem_of_getElem? (i := 180) rfl)
theorem ct_662 : (Jvm.Cond.instanceMethod ({ cls := "LostSheets", name := "landing", desc := "(II)I" } : Jvm.MethodName)) ∈ lw_tbl := tl_3 _ (List.mem_of_getElem? (i := 182) rfl)
theorem cts_25 : Cond.selects "LostSheets" ⟨"LostSheets", "landing", "(II)I"⟩ ⟨"LostSheets", "landing", "(II)I"⟩ ∈ lw_tbl := List.mem_append_left _ (List.mem_map.mpr ⟨(⟨"LostSheets", "landing", "(II)I"⟩, _), List.mem_of_getElem? (i := 25) rfl, rfl⟩)
theorem ct_668 : (Jvm.Cond.methodLink "LostSheets" (209 : Nat) ({ cls := "LostSheets$Rows", name := "clear", desc := "()V" } : Jvm.MethodName)) ∈ lw_tbl := tl_3 _ (List.mem_of_getElem? (i := 188) rfl)
theorem ct_669 : (Jvm.Cond.instanceMethod ({ cls := "LostSheets$Rows", name := "clear", desc := "()V" } : Jvm.MethodName)) ∈ lw_tbl := tl_3 _ (List.mem_of_getElem? (i := 189) rfl)
theorem ct_670 : (Jvm.Cond.selects "LostSheets$Rows" ({ cls := "LostSheets$Rows", name := "clear", desc := "()V" } : Jvm.MethodName) ({ cls := "LostSheets$Rows", name := "clear", desc := "()V" } : Jvm.MethodName)) ∈ lw_tbl := tl_3 _ (List.mem_of_getElem? (i := 190) rfl)
theorem ct_672 : (Jvm.Cond.methodLink "LostSheets" (214 : Nat) ({ cls := "LostSheets$Rows", name := "append", desc := "(III)Z" } : Jvm.MethodName)) ∈ lw_tbl := tl_3 _ (List.mem_of_getElem? (i := 192) rfl)
theorem ct_680 : (Jvm.Cond.methodLink "LostSheets" (217 : Nat) ({ cls := "LostSheets", name := "possibleNumbers", desc := "(I)I" } : Jvm.MethodName)) ∈ lw_tbl := tl_3 _ (List.mem_of_getElem? (i := 200) rfl)
theorem ct_682 : (Jvm.Cond.instanceMethod ({ cls := "LostSheets", name := "possibleNumbers", desc := "(I)I" } : Jvm.MethodName)) ∈ lw_tbl := tl_3 _ (List.mem_of_getElem? (i := 202) rfl)
theorem cts_26 : Cond.selects "LostSheets" ⟨"LostSheets", "possibleNumbers", "(I)I"⟩ ⟨"LostSheets", "possibleNumbers", "(I)I"⟩ ∈ lw_tbl := List.mem_append_left _ (List.mem_map.mpr ⟨(⟨"LostSheets", "possibleNumbers", "(I)I"⟩, _), List.mem_of_getElem? (i := 26) rfl, rfl⟩)
theorem ct_684 : (Jvm.Cond.methodLink "LostSheets" (333 : Nat) ({ cls := "LostSheets$Land", name := "setNumber", desc := "(II)V" } : Jvm.MethodName)) ∈ lw_tbl := tl_3 _ (List.mem_of_getElem? (i := 204) rfl)
theorem ct_685 : (Jvm.Cond.instanceMethod ({ cls := "LostSheets$Land", name := "setNumber", desc := "(II)V" } : Jvm.MethodName)) ∈ lw_tbl := tl_3 _ (List.mem_of_getElem? (i := 205) rfl)
theorem ct_686 : (Jvm.Cond.selects "LostSheets$Land" ({ cls := "LostSheets$Land", name := "setNumber", desc := "(II)V" } : Jvm.MethodName) ({ cls := "LostSheets$Land", name := "setNumber", desc := "(II)V" } : Jvm.MethodName)) ∈ lw_tbl := tl_3 _ (List.mem_of_getElem? (i := 206) rfl)
theorem ct_688 : (Jvm.Cond.methodLink "LostSheets" (225 : Nat) ({ cls := "LostSheets", name := "leastOf", desc := "(I)I" } : Jvm.MethodName)) ∈ lw_tbl := tl_3 _ (List.mem_of_getElem? (i := 208) rfl)
theorem ct_689 : (Jvm.Cond.static ({ cls := "LostSheets", name := "leastOf", desc := "(I)I" } : Jvm.MethodName)) ∈ lw_tbl := tl_3 _ (List.mem_of_getElem? (i := 209) rfl)
theorem ct_697 : (Jvm.Cond.methodLink "LostSheets" (235 : Nat) ({ cls := "LostSheets", name := "partOfFraction", desc := "(JJI)J" } : Jvm.MethodName)) ∈ lw_tbl := tl_3 _ (List.mem_of_getElem? (i := 217) rfl)
theorem ct_698 : (Jvm.Cond.static ({ cls := "LostSheets", name := "partOfFraction", desc := "(JJI)J" } : Jvm.MethodName)) ∈ lw_tbl := tl_3 _ (List.mem_of_getElem? (i := 218) rfl)
theorem ct_700 : (Jvm.Cond.methodLink "LostSheets" (351 : Nat) ({ cls := "LostSheets", name := "greatestDivisor", desc := "(JJ)J" } : Jvm.MethodName)) ∈ lw_tbl := tl_3 _ (List.mem_of_getElem? (i := 220) rfl)
theorem ct_701 : (Jvm.Cond.static ({ cls := "LostSheets", name := "greatestDivisor", desc := "(JJ)J" } : Jvm.MethodName)) ∈ lw_tbl := tl_3 _ (List.mem_of_getElem? (i := 221) rfl)
theorem ct_707 : (Jvm.Cond.methodLink "LostSheets" (239 : Nat) ({ cls := "LostSheets$Land", name := "drewOfAll", desc := "()I" } : Jvm.MethodName)) ∈ lw_tbl := tl_3 _ (List.mem_of_getElem? (i := 227) rfl)
theorem ct_708 : (Jvm.Cond.instanceMethod ({ cls := "LostSheets$Land", name := "drewOfAll", desc := "()I" } : Jvm.MethodName)) ∈ lw_tbl := tl_3 _ (List.mem_of_getElem? (i := 228) rfl)
theorem ct_709 : (Jvm.Cond.selects "LostSheets$Land" ({ cls := "LostSheets$Land", name := "drewOfAll", desc := "()I" } : Jvm.MethodName) ({ cls := "LostSheets$Land", name := "drewOfAll", desc := "()I" } : Jvm.MethodName)) ∈ lw_tbl := tl_3 _ (List.mem_of_getElem? (i := 229) rfl)
theorem ct_715 : (Jvm.Cond.methodLink "LostSheets" (245 : Nat) ({ cls := "LostSheets", name := "isPlanRow", desc := "(II)Z" } : Jvm.MethodName)) ∈ lw_tbl := tl_3 _ (List.mem_of_getElem? (i := 235) rfl)
theorem ct_717 : (Jvm.Cond.instanceMethod ({ cls := "LostSheets", name := "isPlanRow", desc := "(II)Z" } : Jvm.MethodName)) ∈ lw_tbl := tl_3 _ (List.mem_of_getElem? (i := 237) rfl)
theorem cts_27 : Cond.selects "LostSheets" ⟨"LostSheets", "isPlanRow", "(II)Z"⟩ ⟨"LostSheets", "isPlanRow", "(II)Z"⟩ ∈ lw_tbl := List.mem_append_left _ (List.mem_map.mpr ⟨(⟨"LostSheets", "isPlanRow", "(II)Z"⟩, _), List.mem_of_getElem? (i := 27) rfl, rfl⟩)
theorem ct_723 : (Jvm.Cond.methodLink "LostSheets" (249 : Nat) ({ cls := "LostSheets", name := "tryPlan", desc := "()V" } : Jvm.MethodName)) ∈ lw_tbl := tl_4 _ (List.mem_of_getElem? (i := 3) rfl)
theorem ct_725 : (Jvm.Cond.instanceMethod ({ cls := "LostSheets", name := "tryPlan", desc := "()V" } : Jvm.MethodName)) ∈ lw_tbl := tl_4 _ (List.mem_of_getElem? (i := 5) rfl)
theorem cts_28 : Cond.selects "LostSheets" ⟨"LostSheets", "tryPlan", "()V"⟩ ⟨"LostSheets", "tryPlan", "()V"⟩ ∈ lw_tbl := List.mem_append_left _ (List.mem_map.mpr ⟨(⟨"LostSheets", "tryPlan", "()V"⟩, _), List.mem_of_getElem? (i := 28) rfl, rfl⟩)
theorem ct_727 : (Jvm.Cond.methodLink "LostSheets" (345 : Nat) ({ cls := "LostSheets$Land", name := "emptySheet", desc := "(I)V" } : Jvm.MethodName)) ∈ lw_tbl := tl_4 _ (List.mem_of_getElem? (i := 7) rfl)
theorem ct_728 : (Jvm.Cond.instanceMethod ({ cls := "LostSheets$Land", name := "emptySheet", desc := "(I)V" } : Jvm.MethodName)) ∈ lw_tbl := tl_4 _ (List.mem_of_getElem? (i := 8) rfl)
theorem ct_729 : (Jvm.Cond.selects "LostSheets$Land" ({ cls := "LostSheets$Land", name := "emptySheet", desc := "(I)V" } : Jvm.MethodName) ({ cls := "LostSheets$Land", name := "emptySheet", desc := "(I)V" } : Jvm.MethodName)) ∈ lw_tbl := tl_4 _ (List.mem_of_getElem? (i := 9) rfl)
theorem ct_731 : (Jvm.Cond.methodLink "LostSheets" (348 : Nat) ({ cls := "LostSheets$Land", name := "notDone", desc := "(I)V" } : Jvm.MethodName)) ∈ lw_tbl := tl_4 _ (List.mem_of_getElem? (i := 11) rfl)
theorem ct_732 : (Jvm.Cond.instanceMethod ({ cls := "LostSheets$Land", name := "notDone", desc := "(I)V" } : Jvm.MethodName)) ∈ lw_tbl := tl_4 _ (List.mem_of_getElem? (i := 12) rfl)
theorem ct_733 : (Jvm.Cond.selects "LostSheets$Land" ({ cls := "LostSheets$Land", name := "notDone", desc := "(I)V" } : Jvm.MethodName) ({ cls := "LostSheets$Land", name := "notDone", desc := "(I)V" } : Jvm.MethodName)) ∈ lw_tbl := tl_4 _ (List.mem_of_getElem? (i := 13) rfl)
theorem ct_747 : (Jvm.Cond.methodLink "LostSheets" (264 : Nat) ({ cls := "LostSheets", name := "tapeAt", desc := "(I)LLostSheets$Tape;" } : Jvm.MethodName)) ∈ lw_tbl := tl_4 _ (List.mem_of_getElem? (i := 27) rfl)
theorem ct_749 : (Jvm.Cond.instanceMethod ({ cls := "LostSheets", name := "tapeAt", desc := "(I)LLostSheets$Tape;" } : Jvm.MethodName)) ∈ lw_tbl := tl_4 _ (List.mem_of_getElem? (i := 29) rfl)
theorem cts_29 : Cond.selects "LostSheets" ⟨"LostSheets", "tapeAt", "(I)LLostSheets$Tape;"⟩ ⟨"LostSheets", "tapeAt", "(I)LLostSheets$Tape;"⟩ ∈ lw_tbl := List.mem_append_left _ (List.mem_map.mpr ⟨(⟨"LostSheets", "tapeAt", "(I)LLostSheets$Tape;"⟩, _), List.mem_of_getElem? (i := 29) rfl, rfl⟩)
theorem ct_751 : (Jvm.Cond.methodLink "LostSheets" (274 : Nat) ({ cls := "LostSheets$Tape", name := "has", desc := "(I)Z" } : Jvm.MethodName)) ∈ lw_tbl := tl_4 _ (List.mem_of_getElem? (i := 31) rfl)
theorem ct_752 : (Jvm.Cond.instanceMethod ({ cls := "LostSheets$Tape", name := "has", desc := "(I)Z" } : Jvm.MethodName)) ∈ lw_tbl := tl_4 _ (List.mem_of_getElem? (i := 32) rfl)
theorem ct_753 : (Jvm.Cond.selects "LostSheets$Tape" ({ cls := "LostSheets$Tape", name := "has", desc := "(I)Z" } : Jvm.MethodName) ({ cls := "LostSheets$Tape", name := "has", desc := "(I)Z" } : Jvm.MethodName)) ∈ lw_tbl := tl_4 _ (List.mem_of_getElem? (i := 33) rfl)
theorem ct_759 : (Jvm.Cond.methodLink "LostSheets" (281 : Nat) ({ cls := "LostSheets$ByHand", name := "copyFrom", desc := "(LLostSheets$ByHand;)V" } : Jvm.MethodName)) ∈ lw_tbl := tl_4 _ (List.mem_of_getElem? (i := 39) rfl)
theorem ct_760 : (Jvm.Cond.instanceMethod ({ cls := "LostSheets$ByHand", name := "copyFrom", desc := "(LLostSheets$ByHand;)V" } : Jvm.MethodName)) ∈ lw_tbl := tl_4 _ (List.mem_of_getElem? (i := 40) rfl)
theorem ct_761 : (Jvm.Cond.selects "LostSheets$ByHand" ({ cls := "LostSheets$ByHand", name := "copyFrom", desc := "(LLostSheets$ByHand;)V" } : Jvm.MethodName) ({ cls := "LostSheets$ByHand", name := "copyFrom", desc := "(LLostSheets$ByHand;)V" } : Jvm.MethodName)) ∈ lw_tbl := tl_4 _ (List.mem_of_getElem? (i := 41) rfl)
theorem ct_776 : (Jvm.Cond.methodLink "LostSheets" (284 : Nat) ({ cls := "LostSheets$Trace", name := "ofAct", desc := "(LLostSheets$Drawer;II)I" } : Jvm.MethodName)) ∈ lw_tbl := tl_4 _ (List.mem_of_getElem? (i := 56) rfl)
theorem ct_777 : (Jvm.Cond.instanceMethod ({ cls := "LostSheets$Trace", name := "ofAct", desc := "(LLostSheets$Drawer;II)I" } : Jvm.MethodName)) ∈ lw_tbl := tl_4 _ (List.mem_of_getElem? (i := 57) rfl)
theorem ct_778 : (Jvm.Cond.selects "LostSheets$Trace" ({ cls := "LostSheets$Trace", name := "ofAct", desc := "(LLostSheets$Drawer;II)I" } : Jvm.MethodName) ({ cls := "LostSheets$Trace", name := "ofAct", desc := "(LLostSheets$Drawer;II)I" } : Jvm.MethodName)) ∈ lw_tbl := tl_4 _ (List.mem_of_getElem? (i := 58) rfl)
theorem ct_810 : (Jvm.Cond.methodLink "LostSheets" (294 : Nat) ({ cls := "LostSheets", name := "isUnder", desc := "(II)Z" } : Jvm.MethodName)) ∈ lw_tbl := tl_4 _ (List.mem_of_getElem? (i := 90) rfl)
theorem ct_811 : (Jvm.Cond.static ({ cls := "LostSheets", name := "isUnder", desc := "(II)Z" } : Jvm.MethodName)) ∈ lw_tbl := tl_4 _ (List.mem_of_getElem? (i := 91) rfl)
theorem ct_813 : (Jvm.Cond.methodLink "LostSheets" (316 : Nat) ({ cls := "LostSheets", name := "aboveOf", desc := "(I)I" } : Jvm.MethodName)) ∈ lw_tbl := tl_4 _ (List.mem_of_getElem? (i := 93) rfl)
theorem ct_822 : (Jvm.Cond.methodLink "LostSheets" (297 : Nat) ({ cls := "LostSheets$Tape", name := "becomes", desc := "(II)V" } : Jvm.MethodName)) ∈ lw_tbl := tl_4 _ (List.mem_of_getElem? (i := 102) rfl)
theorem ct_823 : (Jvm.Cond.instanceMethod ({ cls := "LostSheets$Tape", name := "becomes", desc := "(II)V" } : Jvm.MethodName)) ∈ lw_tbl := tl_4 _ (List.mem_of_getElem? (i := 103) rfl)
theorem ct_824 : (Jvm.Cond.selects "LostSheets$Tape" ({ cls := "LostSheets$Tape", name := "becomes", desc := "(II)V" } : Jvm.MethodName) ({ cls := "LostSheets$Tape", name := "becomes", desc := "(II)V" } : Jvm.MethodName)) ∈ lw_tbl := tl_4 _ (List.mem_of_getElem? (i := 104) rfl)
theorem ct_830 : (Jvm.Cond.methodLink "LostSheets" (300 : Nat) ({ cls := "LostSheets$Tape", name := "asItem", desc := "(J)J" } : Jvm.MethodName)) ∈ lw_tbl := tl_4 _ (List.mem_of_getElem? (i := 110) rfl)
theorem ct_831 : (Jvm.Cond.instanceMethod ({ cls := "LostSheets$Tape", name := "asItem", desc := "(J)J" } : Jvm.MethodName)) ∈ lw_tbl := tl_4 _ (List.mem_of_getElem? (i := 111) rfl)
theorem ct_832 : (Jvm.Cond.selects "LostSheets$Tape" ({ cls := "LostSheets$Tape", name := "asItem", desc := "(J)J" } : Jvm.MethodName) ({ cls := "LostSheets$Tape", name := "asItem", desc := "(J)J" } : Jvm.MethodName)) ∈ lw_tbl := tl_4 _ (List.mem_of_getElem? (i := 112) rfl)
theorem ct_842 : (Jvm.Cond.methodLink "LostSheets" (304 : Nat) ({ cls := "LostSheets$Tape", name := "hasRun", desc := "(II)Z" } : Jvm.MethodName)) ∈ lw_tbl := tl_4 _ (List.mem_of_getElem? (i := 122) rfl)
theorem ct_843 : (Jvm.Cond.instanceMethod ({ cls := "LostSheets$Tape", name := "hasRun", desc := "(II)Z" } : Jvm.MethodName)) ∈ lw_tbl := tl_4 _ (List.mem_of_getElem? (i := 123) rfl)
theorem ct_844 : (Jvm.Cond.selects "LostSheets$Tape" ({ cls := "LostSheets$Tape", name := "hasRun", desc := "(II)Z" } : Jvm.MethodName) ({ cls := "LostSheets$Tape", name := "hasRun", desc := "(II)Z" } : Jvm.MethodName)) ∈ lw_tbl := tl_4 _ (List.mem_of_getElem? (i := 124) rfl)
theorem ct_846 : (Jvm.Cond.methodLink "LostSheets" (307 : Nat) ({ cls := "java/lang/System", name := "arraycopy", desc := "(Ljava/lang/Object;ILjava/lang/Object;II)V" } : Jvm.MethodName)) ∈ lw_tbl := tl_4 _ (List.mem_of_getElem? (i := 126) rfl)
theorem ct_852 : (Jvm.Cond.methodLink "LostSheetsModel" (3 : Nat) ({ cls := "java/lang/Object", name := "<init>", desc := "()V" } : Jvm.MethodName)) ∈ lw_tbl := tl_4 _ (List.mem_of_getElem? (i := 132) rfl)
theorem ct_1000 : (Jvm.Cond.methodLink "LostSheetsModel" (114 : Nat) ({ cls := "LostSheetsModel", name := "within", desc := "(III)Z" } : Jvm.MethodName)) ∈ lw_tbl := tl_5 _ (List.mem_of_getElem? (i := 40) rfl)
theorem ct_1001 : (Jvm.Cond.static ({ cls := "LostSheetsModel", name := "within", desc := "(III)Z" } : Jvm.MethodName)) ∈ lw_tbl := tl_5 _ (List.mem_of_getElem? (i := 41) rfl)
theorem ct_1003 : (Jvm.Cond.methodLink "LostSheetsModel" (118 : Nat) ({ cls := "LostSheetsModel", name := "isCell", desc := "(I)Z" } : Jvm.MethodName)) ∈ lw_tbl := tl_5 _ (List.mem_of_getElem? (i := 43) rfl)
theorem ct_1004 : (Jvm.Cond.static ({ cls := "LostSheetsModel", name := "isCell", desc := "(I)Z" } : Jvm.MethodName)) ∈ lw_tbl := tl_5 _ (List.mem_of_getElem? (i := 44) rfl)
theorem ct_1010 : (Jvm.Cond.methodLink "LostSheetsModel" (122 : Nat) ({ cls := "LostSheetsModel", name := "isOne", desc := "(I)Z" } : Jvm.MethodName)) ∈ lw_tbl := tl_5 _ (List.mem_of_getElem? (i := 50) rfl)
theorem ct_1012 : (Jvm.Cond.instanceMethod ({ cls := "LostSheetsModel", name := "isOne", desc := "(I)Z" } : Jvm.MethodName)) ∈ lw_tbl := tl_5 _ (List.mem_of_getElem? (i := 52) rfl)
theorem cts_33 : Cond.selects "LostSheetsModel" ⟨"LostSheetsModel", "isOne", "(I)Z"⟩ ⟨"LostSheetsModel", "isOne", "(I)Z"⟩ ∈ lw_tbl := List.mem_append_left _ (List.mem_map.mpr ⟨(⟨"LostSheetsModel", "isOne", "(I)Z"⟩, _), List.mem_of_getElem? (i := 33) rfl, rfl⟩)
theorem ct_1014 : (Jvm.Cond.methodLink "LostSheetsModel" (125 : Nat) ({ cls := "LostSheetsModel", name := "feel", desc := "(I)I" } : Jvm.MethodName)) ∈ lw_tbl := tl_5 _ (List.mem_of_getElem? (i := 54) rfl)
theorem ct_1016 : (Jvm.Cond.instanceMethod ({ cls := "LostSheetsModel", name := "feel", desc := "(I)I" } : Jvm.MethodName)) ∈ lw_tbl := tl_5 _ (List.mem_of_getElem? (i := 56) rfl)
theorem cts_34 : Cond.selects "LostSheetsModel" ⟨"LostSheetsModel", "feel", "(I)I"⟩ ⟨"LostSheetsModel", "feel", "(I)I"⟩ ∈ lw_tbl := List.mem_append_left _ (List.mem_map.mpr ⟨(⟨"LostSheetsModel", "feel", "(I)I"⟩, _), List.mem_of_getElem? (i := 34) rfl, rfl⟩)
theorem ct_1018 : (Jvm.Cond.methodLink "LostSheetsModel" (231 : Nat) ({ cls := "LostSheetsModel", name := "sum", desc := "(I)I" } : Jvm.MethodName)) ∈ lw_tbl := tl_5 _ (List.mem_of_getElem? (i := 58) rfl)
theorem ct_1020 : (Jvm.Cond.instanceMethod ({ cls := "LostSheetsModel", name := "sum", desc := "(I)I" } : Jvm.MethodName)) ∈ lw_tbl := tl_5 _ (List.mem_of_getElem? (i := 60) rfl)
theorem cts_35 : Cond.selects "LostSheetsModel" ⟨"LostSheetsModel", "sum", "(I)I"⟩ ⟨"LostSheetsModel", "sum", "(I)I"⟩ ∈ lw_tbl := List.mem_append_left _ (List.mem_map.mpr ⟨(⟨"LostSheetsModel", "sum", "(I)I"⟩, _), List.mem_of_getElem? (i := 35) rfl, rfl⟩)
theorem ct_1022 : (Jvm.Cond.methodLink "LostSheetsModel" (227 : Nat) ({ cls := "LostSheetsModel", name := "isTrue", desc := "(II)Z" } : Jvm.MethodName)) ∈ lw_tbl := tl_5 _ (List.mem_of_getElem? (i := 62) rfl)
theorem ct_1024 : (Jvm.Cond.instanceMethod ({ cls := "LostSheetsModel", name := "isTrue", desc := "(II)Z" } : Jvm.MethodName)) ∈ lw_tbl := tl_5 _ (List.mem_of_getElem? (i := 64) rfl)
theorem cts_36 : Cond.selects "LostSheetsModel" ⟨"LostSheetsModel", "isTrue", "(II)Z"⟩ ⟨"LostSheetsModel", "isTrue", "(II)Z"⟩ ∈ lw_tbl := List.mem_append_left _ (List.mem_map.mpr ⟨(⟨"LostSheetsModel", "isTrue", "(II)Z"⟩, _), List.mem_of_getElem? (i := 36) rfl, rfl⟩)
theorem ct_1026 : (Jvm.Cond.methodLink "LostSheetsModel" (223 : Nat) ({ cls := "LostSheetsModel", name := "letterOf", desc := "(II)I" } : Jvm.MethodName)) ∈ lw_tbl := tl_5 _ (List.mem_of_getElem? (i := 66) rfl)
theorem ct_1028 : (Jvm.Cond.instanceMethod ({ cls := "LostSheetsModel", name := "letterOf", desc := "(II)I" } : Jvm.MethodName)) ∈ lw_tbl := tl_5 _ (List.mem_of_getElem? (i := 68) rfl)
theorem cts_37 : Cond.selects "LostSheetsModel" ⟨"LostSheetsModel", "letterOf", "(II)I"⟩ ⟨"LostSheetsModel", "letterOf", "(II)I"⟩ ∈ lw_tbl := List.mem_append_left _ (List.mem_map.mpr ⟨(⟨"LostSheetsModel", "letterOf", "(II)I"⟩, _), List.mem_of_getElem? (i := 37) rfl, rfl⟩)
theorem ct_1030 : (Jvm.Cond.methodLink "LostSheetsModel" (234 : Nat) ({ cls := "LostSheetsModel", name := "others", desc := "(I)I" } : Jvm.MethodName)) ∈ lw_tbl := tl_5 _ (List.mem_of_getElem? (i := 70) rfl)
theorem ct_1032 : (Jvm.Cond.instanceMethod ({ cls := "LostSheetsModel", name := "others", desc := "(I)I" } : Jvm.MethodName)) ∈ lw_tbl := tl_5 _ (List.mem_of_getElem? (i := 72) rfl)
theorem cts_38 : Cond.selects "LostSheetsModel" ⟨"LostSheetsModel", "others", "(I)I"⟩ ⟨"LostSheetsModel", "others", "(I)I"⟩ ∈ lw_tbl := List.mem_append_left _ (List.mem_map.mpr ⟨(⟨"LostSheetsModel", "others", "(I)I"⟩, _), List.mem_of_getElem? (i := 38) rfl, rfl⟩)
theorem ct_1034 : (Jvm.Cond.methodLink "LostSheetsModel" (129 : Nat) ({ cls := "LostSheetsModel", name := "wayOf", desc := "(I)I" } : Jvm.MethodName)) ∈ lw_tbl := tl_5 _ (List.mem_of_getElem? (i := 74) rfl)
theorem ct_1036 : (Jvm.Cond.instanceMethod ({ cls := "LostSheetsModel", name := "wayOf", desc := "(I)I" } : Jvm.MethodName)) ∈ lw_tbl := tl_5 _ (List.mem_of_getElem? (i := 76) rfl)
theorem cts_39 : Cond.selects "LostSheetsModel" ⟨"LostSheetsModel", "wayOf", "(I)I"⟩ ⟨"LostSheetsModel", "wayOf", "(I)I"⟩ ∈ lw_tbl := List.mem_append_left _ (List.mem_map.mpr ⟨(⟨"LostSheetsModel", "wayOf", "(I)I"⟩, _), List.mem_of_getElem? (i := 39) rfl, rfl⟩)
theorem ct_1038 : (Jvm.Cond.methodLink "LostSheetsModel" (132 : Nat) ({ cls := "LostSheetsModel", name := "came", desc := "(IZ)I" } : Jvm.MethodName)) ∈ lw_tbl := tl_5 _ (List.mem_of_getElem? (i := 78) rfl)
theorem ct_1040 : (Jvm.Cond.instanceMethod ({ cls := "LostSheetsModel", name := "came", desc := "(IZ)I" } : Jvm.MethodName)) ∈ lw_tbl := tl_5 _ (List.mem_of_getElem? (i := 80) rfl)
theorem cts_40 : Cond.selects "LostSheetsModel" ⟨"LostSheetsModel", "came", "(IZ)I"⟩ ⟨"LostSheetsModel", "came", "(IZ)I"⟩ ∈ lw_tbl := List.mem_append_left _ (List.mem_map.mpr ⟨(⟨"LostSheetsModel", "came", "(IZ)I"⟩, _), List.mem_of_getElem? (i := 40) rfl, rfl⟩)
theorem ct_1042 : (Jvm.Cond.methodLink "LostSheetsModel" (237 : Nat) ({ cls := "LostSheetsModel", name := "step", desc := "(II)I" } : Jvm.MethodName)) ∈ lw_tbl := tl_5 _ (List.mem_of_getElem? (i := 82) rfl)
theorem ct_1043 : (Jvm.Cond.static ({ cls := "LostSheetsModel", name := "step", desc := "(II)I" } : Jvm.MethodName)) ∈ lw_tbl := tl_5 _ (List.mem_of_getElem? (i := 83) rfl)
theorem ct_1045 : (Jvm.Cond.methodLink "LostSheetsModel" (136 : Nat) ({ cls := "LostSheetsModel", name := "look", desc := "(I)I" } : Jvm.MethodName)) ∈ lw_tbl := tl_5 _ (List.mem_of_getElem? (i := 85) rfl)
theorem ct_1047 : (Jvm.Cond.instanceMethod ({ cls := "LostSheetsModel", name := "look", desc := "(I)I" } : Jvm.MethodName)) ∈ lw_tbl := tl_5 _ (List.mem_of_getElem? (i := 87) rfl)
theorem cts_41 : Cond.selects "LostSheetsModel" ⟨"LostSheetsModel", "look", "(I)I"⟩ ⟨"LostSheetsModel", "look", "(I)I"⟩ ∈ lw_tbl := List.mem_append_left _ (List.mem_map.mpr ⟨(⟨"LostSheetsModel", "look", "(I)I"⟩, _), List.mem_of_getElem? (i := 41) rfl, rfl⟩)
theorem ct_1049 : (Jvm.Cond.methodLink "LostSheetsModel" (279 : Nat) ({ cls := "java/lang/Math", name := "max", desc := "(II)I" } : Jvm.MethodName)) ∈ lw_tbl := tl_5 _ (List.mem_of_getElem? (i := 89) rfl)
theorem ct_1050 : (Jvm.Cond.methodLink "LostSheetsModel" (139 : Nat) ({ cls := "LostSheetsModel", name := "places", desc := "(I)I" } : Jvm.MethodName)) ∈ lw_tbl := tl_5 _ (List.mem_of_getElem? (i := 90) rfl)
theorem ct_1052 : (Jvm.Cond.instanceMethod ({ cls := "LostSheetsModel", name := "places", desc := "(I)I" } : Jvm.MethodName)) ∈ lw_tbl := tl_5 _ (List.mem_of_getElem? (i := 92) rfl)
theorem cts_42 : Cond.selects "LostSheetsModel" ⟨"LostSheetsModel", "places", "(I)I"⟩ ⟨"LostSheetsModel", "places", "(I)I"⟩ ∈ lw_tbl := List.mem_append_left _ (List.mem_map.mpr ⟨(⟨"LostSheetsModel", "places", "(I)I"⟩, _), List.mem_of_getElem? (i := 42) rfl, rfl⟩)
theorem ct_1054 : (Jvm.Cond.methodLink "LostSheetsModel" (299 : Nat) ({ cls := "LostSheetsModel", name := "isSeen", desc := "()Z" } : Jvm.MethodName)) ∈ lw_tbl := tl_5 _ (List.mem_of_getElem? (i := 94) rfl)
theorem ct_1056 : (Jvm.Cond.instanceMethod ({ cls := "LostSheetsModel", name := "isSeen", desc := "()Z" } : Jvm.MethodName)) ∈ lw_tbl := tl_5 _ (List.mem_of_getElem? (i := 96) rfl)
theorem cts_43 : Cond.selects "LostSheetsModel" ⟨"LostSheetsModel", "isSeen", "()Z"⟩ ⟨"LostSheetsModel", "isSeen", "()Z"⟩ ∈ lw_tbl := List.mem_append_left _ (List.mem_map.mpr ⟨(⟨"LostSheetsModel", "isSeen", "()Z"⟩, _), List.mem_of_getElem? (i := 43) rfl, rfl⟩)
theorem ct_1058 : (Jvm.Cond.methodLink "LostSheetsModel" (253 : Nat) ({ cls := "LostSheetsModel", name := "keep", desc := "([I)V" } : Jvm.MethodName)) ∈ lw_tbl := tl_5 _ (List.mem_of_getElem? (i := 98) rfl)
theorem ct_1060 : (Jvm.Cond.instanceMethod ({ cls := "LostSheetsModel", name := "keep", desc := "([I)V" } : Jvm.MethodName)) ∈ lw_tbl := tl_5 _ (List.mem_of_getElem? (i := 100) rfl)
theorem cts_44 : Cond.selects "LostSheetsModel" ⟨"LostSheetsModel", "keep", "([I)V"⟩ ⟨"LostSheetsModel", "keep", "([I)V"⟩ ∈ lw_tbl := List.mem_append_left _ (List.mem_map.mpr ⟨(⟨"LostSheetsModel", "keep", "([I)V"⟩, _), List.mem_of_getElem? (i := 44) rfl, rfl⟩)
theorem ct_1062 : (Jvm.Cond.methodLink "LostSheetsModel" (250 : Nat) ({ cls := "LostSheetsModel", name := "goesHour", desc := "()V" } : Jvm.MethodName)) ∈ lw_tbl := tl_5 _ (List.mem_of_getElem? (i := 102) rfl)
theorem ct_1064 : (Jvm.Cond.instanceMethod ({ cls := "LostSheetsModel", name := "goesHour", desc := "()V" } : Jvm.MethodName)) ∈ lw_tbl := tl_5 _ (List.mem_of_getElem? (i := 104) rfl)
theorem cts_45 : Cond.selects "LostSheetsModel" ⟨"LostSheetsModel", "goesHour", "()V"⟩ ⟨"LostSheetsModel", "goesHour", "()V"⟩ ∈ lw_tbl := List.mem_append_left _ (List.mem_map.mpr ⟨(⟨"LostSheetsModel", "goesHour", "()V"⟩, _), List.mem_of_getElem? (i := 45) rfl, rfl⟩)
theorem ct_1066 : (Jvm.Cond.methodLink "LostSheetsModel" (243 : Nat) ({ cls := "LostSheetsModel", name := "know", desc := "()I" } : Jvm.MethodName)) ∈ lw_tbl := tl_5 _ (List.mem_of_getElem? (i := 106) rfl)
theorem ct_1068 : (Jvm.Cond.instanceMethod ({ cls := "LostSheetsModel", name := "know", desc := "()I" } : Jvm.MethodName)) ∈ lw_tbl := tl_5 _ (List.mem_of_getElem? (i := 108) rfl)
theorem cts_46 : Cond.selects "LostSheetsModel" ⟨"LostSheetsModel", "know", "()I"⟩ ⟨"LostSheetsModel", "know", "()I"⟩ ∈ lw_tbl := List.mem_append_left _ (List.mem_map.mpr ⟨(⟨"LostSheetsModel", "know", "()I"⟩, _), List.mem_of_getElem? (i := 46) rfl, rfl⟩)
theorem ct_1070 : (Jvm.Cond.methodLink "LostSheetsModel" (246 : Nat) ({ cls := "LostSheetsModel", name := "goesBy", desc := "(III)V" } : Jvm.MethodName)) ∈ lw_tbl := tl_5 _ (List.mem_of_getElem? (i := 110) rfl)
theorem ct_1072 : (Jvm.Cond.instanceMethod ({ cls := "LostSheetsModel", name := "goesBy", desc := "(III)V" } : Jvm.MethodName)) ∈ lw_tbl := tl_5 _ (List.mem_of_getElem? (i := 112) rfl)
theorem cts_47 : Cond.selects "LostSheetsModel" ⟨"LostSheetsModel", "goesBy", "(III)V"⟩ ⟨"LostSheetsModel", "goesBy", "(III)V"⟩ ∈ lw_tbl := List.mem_append_left _ (List.mem_map.mpr ⟨(⟨"LostSheetsModel", "goesBy", "(III)V"⟩, _), List.mem_of_getElem? (i := 47) rfl, rfl⟩)
theorem ct_1074 : (Jvm.Cond.methodLink "LostSheetsModel" (258 : Nat) ({ cls := "LostSheetsModel", name := "again", desc := "([I)V" } : Jvm.MethodName)) ∈ lw_tbl := tl_5 _ (List.mem_of_getElem? (i := 114) rfl)
theorem ct_1076 : (Jvm.Cond.instanceMethod ({ cls := "LostSheetsModel", name := "again", desc := "([I)V" } : Jvm.MethodName)) ∈ lw_tbl := tl_5 _ (List.mem_of_getElem? (i := 116) rfl)
theorem cts_48 : Cond.selects "LostSheetsModel" ⟨"LostSheetsModel", "again", "([I)V"⟩ ⟨"LostSheetsModel", "again", "([I)V"⟩ ∈ lw_tbl := List.mem_append_left _ (List.mem_map.mpr ⟨(⟨"LostSheetsModel", "again", "([I)V"⟩, _), List.mem_of_getElem? (i := 48) rfl, rfl⟩)
theorem ct_1106 : (Jvm.Cond.methodLink "LostSheetsModel" (217 : Nat) ({ cls := "LostSheetsModel", name := "isClause", desc := "(I)Z" } : Jvm.MethodName)) ∈ lw_tbl := tl_5 _ (List.mem_of_getElem? (i := 146) rfl)
theorem ct_1108 : (Jvm.Cond.instanceMethod ({ cls := "LostSheetsModel", name := "isClause", desc := "(I)Z" } : Jvm.MethodName)) ∈ lw_tbl := tl_5 _ (List.mem_of_getElem? (i := 148) rfl)
theorem cts_49 : Cond.selects "LostSheetsModel" ⟨"LostSheetsModel", "isClause", "(I)Z"⟩ ⟨"LostSheetsModel", "isClause", "(I)Z"⟩ ∈ lw_tbl := List.mem_append_left _ (List.mem_map.mpr ⟨(⟨"LostSheetsModel", "isClause", "(I)Z"⟩, _), List.mem_of_getElem? (i := 49) rfl, rfl⟩)
theorem ct_1111 : (Jvm.Cond.methodLink "LostSheetsModel" (206 : Nat) ({ cls := "LostSheetsModel", name := "isAll", desc := "(Ljava/lang/String;)Z" } : Jvm.MethodName)) ∈ lw_tbl := tl_5 _ (List.mem_of_getElem? (i := 151) rfl)
theorem ct_1113 : (Jvm.Cond.instanceMethod ({ cls := "LostSheetsModel", name := "isAll", desc := "(Ljava/lang/String;)Z" } : Jvm.MethodName)) ∈ lw_tbl := tl_5 _ (List.mem_of_getElem? (i := 153) rfl)
theorem cts_50 : Cond.selects "LostSheetsModel" ⟨"LostSheetsModel", "isAll", "(Ljava/lang/String;)Z"⟩ ⟨"LostSheetsModel", "isAll", "(Ljava/lang/String;)Z"⟩ ∈ lw_tbl := List.mem_append_left _ (List.mem_map.mpr ⟨(⟨"LostSheetsModel", "isAll", "(Ljava/lang/String;)Z"⟩, _), List.mem_of_getElem? (i := 50) rfl, rfl⟩)
theorem ct_1115 : (Jvm.Cond.methodLink "LostSheetsModel" (158 : Nat) ({ cls := "java/lang/String", name := "length", desc := "()I" } : Jvm.MethodName)) ∈ lw_tbl := tl_5 _ (List.mem_of_getElem? (i := 155) rfl)
theorem ct_1116 : (Jvm.Cond.methodLink "LostSheetsModel" (163 : Nat) ({ cls := "java/lang/String", name := "charAt", desc := "(I)C" } : Jvm.MethodName)) ∈ lw_tbl := tl_5 _ (List.mem_of_getElem? (i := 156) rfl)
theorem ct_1117 : (Jvm.Cond.methodLink "LostSheetsModel" (167 : Nat) ({ cls := "LostSheetsModel", name := "is", desc := "(I)Z" } : Jvm.MethodName)) ∈ lw_tbl := tl_5 _ (List.mem_of_getElem? (i := 157) rfl)
theorem ct_1119 : (Jvm.Cond.instanceMethod ({ cls := "LostSheetsModel", name := "is", desc := "(I)Z" } : Jvm.MethodName)) ∈ lw_tbl := tl_5 _ (List.mem_of_getElem? (i := 159) rfl)
theorem cts_51 : Cond.selects "LostSheetsModel" ⟨"LostSheetsModel", "is", "(I)Z"⟩ ⟨"LostSheetsModel", "is", "(I)Z"⟩ ∈ lw_tbl := List.mem_append_left _ (List.mem_map.mpr ⟨(⟨"LostSheetsModel", "is", "(I)Z"⟩, _), List.mem_of_getElem? (i := 51) rfl, rfl⟩)
theorem ct_1123 : (Jvm.Cond.methodLink "LostSheetsModel" (180 : Nat) ({ cls := "LostSheetsModel", name := "isNumber", desc := "()Z" } : Jvm.MethodName)) ∈ lw_tbl := tl_5 _ (List.mem_of_getElem? (i := 163) rfl)
theorem ct_1125 : (Jvm.Cond.instanceMethod ({ cls := "LostSheetsModel", name := "isNumber", desc := "()Z" } : Jvm.MethodName)) ∈ lw_tbl := tl_5 _ (List.mem_of_getElem? (i := 165) rfl)
theorem cts_52 : Cond.selects "LostSheetsModel" ⟨"LostSheetsModel", "isNumber", "()Z"⟩ ⟨"LostSheetsModel", "isNumber", "()Z"⟩ ∈ lw_tbl := List.mem_append_left _ (List.mem_map.mpr ⟨(⟨"LostSheetsModel", "isNumber", "()Z"⟩, _), List.mem_of_getElem? (i := 52) rfl, rfl⟩)
theorem ct_1127 : (Jvm.Cond.methodLink "LostSheetsModel" (154 : Nat) ({ cls := "LostSheetsModel", name := "isDigit", desc := "()Z" } : Jvm.MethodName)) ∈ lw_tbl := tl_5 _ (List.mem_of_getElem? (i := 167) rfl)
theorem ct_1129 : (Jvm.Cond.instanceMethod ({ cls := "LostSheetsModel", name := "isDigit", desc := "()Z" } : Jvm.MethodName)) ∈ lw_tbl := tl_5 _ (List.mem_of_getElem? (i := 169) rfl)
theorem cts_53 : Cond.selects "LostSheetsModel" ⟨"LostSheetsModel", "isDigit", "()Z"⟩ ⟨"LostSheetsModel", "isDigit", "()Z"⟩ ∈ lw_tbl := List.mem_append_left _ (List.mem_map.mpr ⟨(⟨"LostSheetsModel", "isDigit", "()Z"⟩, _), List.mem_of_getElem? (i := 53) rfl, rfl⟩)
theorem ct_1131 : (Jvm.Cond.methodLink "LostSheetsModel" (195 : Nat) ({ cls := "LostSheetsModel", name := "isE", desc := "()Z" } : Jvm.MethodName)) ∈ lw_tbl := tl_5 _ (List.mem_of_getElem? (i := 171) rfl)
theorem ct_1133 : (Jvm.Cond.instanceMethod ({ cls := "LostSheetsModel", name := "isE", desc := "()Z" } : Jvm.MethodName)) ∈ lw_tbl := tl_5 _ (List.mem_of_getElem? (i := 173) rfl)
theorem cts_54 : Cond.selects "LostSheetsModel" ⟨"LostSheetsModel", "isE", "()Z"⟩ ⟨"LostSheetsModel", "isE", "()Z"⟩ ∈ lw_tbl := List.mem_append_left _ (List.mem_map.mpr ⟨(⟨"LostSheetsModel", "isE", "()Z"⟩, _), List.mem_of_getElem? (i := 54) rfl, rfl⟩)
theorem ct_1135 : (Jvm.Cond.methodLink "LostSheetsModel" (201 : Nat) ({ cls := "LostSheetsModel", name := "isT", desc := "()Z" } : Jvm.MethodName)) ∈ lw_tbl := tl_5 _ (List.mem_of_getElem? (i := 175) rfl)
theorem ct_1137 : (Jvm.Cond.instanceMethod ({ cls := "LostSheetsModel", name := "isT", desc := "()Z" } : Jvm.MethodName)) ∈ lw_tbl := tl_5 _ (List.mem_of_getElem? (i := 177) rfl)
theorem cts_55 : Cond.selects "LostSheetsModel" ⟨"LostSheetsModel", "isT", "()Z"⟩ ⟨"LostSheetsModel", "isT", "()Z"⟩ ∈ lw_tbl := List.mem_append_left _ (List.mem_map.mpr ⟨(⟨"LostSheetsModel", "isT", "()Z"⟩, _), List.mem_of_getElem? (i := 55) rfl, rfl⟩)
theorem ct_1139 : (Jvm.Cond.methodLink "LostSheetsModel" (192 : Nat) ({ cls := "LostSheetsModel", name := "isF", desc := "()Z" } : Jvm.MethodName)) ∈ lw_tbl := tl_5 _ (List.mem_of_getElem? (i := 179) rfl)
theorem ct_1141 : (Jvm.Cond.instanceMethod ({ cls := "LostSheetsModel", name := "isF", desc := "()Z" } : Jvm.MethodName)) ∈ lw_tbl := tl_5 _ (List.mem_of_getElem? (i := 181) rfl)
theorem cts_56 : Cond.selects "LostSheetsModel" ⟨"LostSheetsModel", "isF", "()Z"⟩ ⟨"LostSheetsModel", "isF", "()Z"⟩ ∈ lw_tbl := List.mem_append_left _ (List.mem_map.mpr ⟨(⟨"LostSheetsModel", "isF", "()Z"⟩, _), List.mem_of_getElem? (i := 56) rfl, rfl⟩)
theorem ct_1143 : (Jvm.Cond.methodLink "LostSheetsModel" (189 : Nat) ({ cls := "LostSheetsModel", name := "isOpened", desc := "(I)Z" } : Jvm.MethodName)) ∈ lw_tbl := tl_5 _ (List.mem_of_getElem? (i := 183) rfl)
theorem ct_1145 : (Jvm.Cond.instanceMethod ({ cls := "LostSheetsModel", name := "isOpened", desc := "(I)Z" } : Jvm.MethodName)) ∈ lw_tbl := tl_5 _ (List.mem_of_getElem? (i := 185) rfl)
theorem cts_57 : Cond.selects "LostSheetsModel" ⟨"LostSheetsModel", "isOpened", "(I)Z"⟩ ⟨"LostSheetsModel", "isOpened", "(I)Z"⟩ ∈ lw_tbl := List.mem_append_left _ (List.mem_map.mpr ⟨(⟨"LostSheetsModel", "isOpened", "(I)Z"⟩, _), List.mem_of_getElem? (i := 57) rfl, rfl⟩)
theorem ct_1147 : (Jvm.Cond.methodLink "LostSheetsModel" (183 : Nat) ({ cls := "LostSheetsModel", name := "codes", desc := "(I)Z" } : Jvm.MethodName)) ∈ lw_tbl := tl_5 _ (List.mem_of_getElem? (i := 187) rfl)
theorem ct_1149 : (Jvm.Cond.instanceMethod ({ cls := "LostSheetsModel", name := "codes", desc := "(I)Z" } : Jvm.MethodName)) ∈ lw_tbl := tl_5 _ (List.mem_of_getElem? (i := 189) rfl)
theorem cts_58 : Cond.selects "LostSheetsModel" ⟨"LostSheetsModel", "codes", "(I)Z"⟩ ⟨"LostSheetsModel", "codes", "(I)Z"⟩ ∈ lw_tbl := List.mem_append_left _ (List.mem_map.mpr ⟨(⟨"LostSheetsModel", "codes", "(I)Z"⟩, _), List.mem_of_getElem? (i := 58) rfl, rfl⟩)
theorem ct_1151 : (Jvm.Cond.methodLink "LostSheetsModel" (198 : Nat) ({ cls := "LostSheetsModel", name := "isTest", desc := "()Z" } : Jvm.MethodName)) ∈ lw_tbl := tl_5 _ (List.mem_of_getElem? (i := 191) rfl)
theorem ct_1153 : (Jvm.Cond.instanceMethod ({ cls := "LostSheetsModel", name := "isTest", desc := "()Z" } : Jvm.MethodName)) ∈ lw_tbl := tl_5 _ (List.mem_of_getElem? (i := 193) rfl)
theorem cts_59 : Cond.selects "LostSheetsModel" ⟨"LostSheetsModel", "isTest", "()Z"⟩ ⟨"LostSheetsModel", "isTest", "()Z"⟩ ∈ lw_tbl := List.mem_append_left _ (List.mem_map.mpr ⟨(⟨"LostSheetsModel", "isTest", "()Z"⟩, _), List.mem_of_getElem? (i := 59) rfl, rfl⟩)
theorem ct_1156 : (Jvm.Cond.methodLink "LostSheetsModel" (175 : Nat) ({ cls := "java/lang/String", name := "indexOf", desc := "(I)I" } : Jvm.MethodName)) ∈ lw_tbl := tl_5 _ (List.mem_of_getElem? (i := 196) rfl)
theorem ct_1157 : (Jvm.Cond.instanceMethod ({ cls := "java/lang/String", name := "indexOf", desc := "(I)I" } : Jvm.MethodName)) ∈ lw_tbl := tl_5 _ (List.mem_of_getElem? (i := 197) rfl)
theorem ct_1158 : (Jvm.Cond.selects "java/lang/String" ({ cls := "java/lang/String", name := "indexOf", desc := "(I)I" } : Jvm.MethodName) ({ cls := "java/lang/String", name := "indexOf", desc := "(I)I" } : Jvm.MethodName)) ∈ lw_tbl := tl_5 _ (List.mem_of_getElem? (i := 198) rfl)
theorem ct_1216 : (Jvm.Cond.methodLink "LostSheetsModel" (261 : Nat) ({ cls := "LostSheetsModel", name := "marksOf", desc := "(I)I" } : Jvm.MethodName)) ∈ lw_tbl := tl_6 _ (List.mem_of_getElem? (i := 16) rfl)
theorem ct_1218 : (Jvm.Cond.instanceMethod ({ cls := "LostSheetsModel", name := "marksOf", desc := "(I)I" } : Jvm.MethodName)) ∈ lw_tbl := tl_6 _ (List.mem_of_getElem? (i := 18) rfl)
theorem cts_60 : Cond.selects "LostSheetsModel" ⟨"LostSheetsModel", "marksOf", "(I)I"⟩ ⟨"LostSheetsModel", "marksOf", "(I)I"⟩ ∈ lw_tbl := List.mem_append_left _ (List.mem_map.mpr ⟨(⟨"LostSheetsModel", "marksOf", "(I)I"⟩, _), List.mem_of_getElem? (i := 60) rfl, rfl⟩)
theorem ct_1220 : (Jvm.Cond.methodLink "LostSheetsModel" (264 : Nat) ({ cls := "LostSheetsModel", name := "allDone", desc := "()I" } : Jvm.MethodName)) ∈ lw_tbl := tl_6 _ (List.mem_of_getElem? (i := 20) rfl)
theorem ct_1222 : (Jvm.Cond.instanceMethod ({ cls := "LostSheetsModel", name := "allDone", desc := "()I" } : Jvm.MethodName)) ∈ lw_tbl := tl_6 _ (List.mem_of_getElem? (i := 22) rfl)
theorem cts_61 : Cond.selects "LostSheetsModel" ⟨"LostSheetsModel", "allDone", "()I"⟩ ⟨"LostSheetsModel", "allDone", "()I"⟩ ∈ lw_tbl := List.mem_append_left _ (List.mem_map.mpr ⟨(⟨"LostSheetsModel", "allDone", "()I"⟩, _), List.mem_of_getElem? (i := 61) rfl, rfl⟩)
theorem ct_1224 : (Jvm.Cond.methodLink "LostSheetsModel" (267 : Nat) ({ cls := "LostSheetsModel", name := "whole", desc := "()I" } : Jvm.MethodName)) ∈ lw_tbl := tl_6 _ (List.mem_of_getElem? (i := 24) rfl)
theorem ct_1226 : (Jvm.Cond.instanceMethod ({ cls := "LostSheetsModel", name := "whole", desc := "()I" } : Jvm.MethodName)) ∈ lw_tbl := tl_6 _ (List.mem_of_getElem? (i := 26) rfl)
theorem cts_62 : Cond.selects "LostSheetsModel" ⟨"LostSheetsModel", "whole", "()I"⟩ ⟨"LostSheetsModel", "whole", "()I"⟩ ∈ lw_tbl := List.mem_append_left _ (List.mem_map.mpr ⟨(⟨"LostSheetsModel", "whole", "()I"⟩, _), List.mem_of_getElem? (i := 62) rfl, rfl⟩)
theorem ct_1233 : (Jvm.Cond.methodLink "LostSheetsModel" (270 : Nat) ({ cls := "java/lang/Math", name := "min", desc := "(II)I" } : Jvm.MethodName)) ∈ lw_tbl := tl_6 _ (List.mem_of_getElem? (i := 33) rfl)
theorem ct_1238 : (Jvm.Cond.methodLink "LostSheetsModel" (275 : Nat) ({ cls := "LostSheetsModel", name := "goesOn", desc := "(I)V" } : Jvm.MethodName)) ∈ lw_tbl := tl_6 _ (List.mem_of_getElem? (i := 38) rfl)
theorem ct_1240 : (Jvm.Cond.instanceMethod ({ cls := "LostSheetsModel", name := "goesOn", desc := "(I)V" } : Jvm.MethodName)) ∈ lw_tbl := tl_6 _ (List.mem_of_getElem? (i := 40) rfl)
theorem cts_63 : Cond.selects "LostSheetsModel" ⟨"LostSheetsModel", "goesOn", "(I)V"⟩ ⟨"LostSheetsModel", "goesOn", "(I)V"⟩ ∈ lw_tbl := List.mem_append_left _ (List.mem_map.mpr ⟨(⟨"LostSheetsModel", "goesOn", "(I)V"⟩, _), List.mem_of_getElem? (i := 63) rfl, rfl⟩)
theorem ct_1246 : (Jvm.Cond.methodLink "LostSheetsModel" (290 : Nat) ({ cls := "LostSheetsModel", name := "crew", desc := "(I)I" } : Jvm.MethodName)) ∈ lw_tbl := tl_6 _ (List.mem_of_getElem? (i := 46) rfl)
theorem ct_1248 : (Jvm.Cond.instanceMethod ({ cls := "LostSheetsModel", name := "crew", desc := "(I)I" } : Jvm.MethodName)) ∈ lw_tbl := tl_6 _ (List.mem_of_getElem? (i := 48) rfl)
theorem cts_64 : Cond.selects "LostSheetsModel" ⟨"LostSheetsModel", "crew", "(I)I"⟩ ⟨"LostSheetsModel", "crew", "(I)I"⟩ ∈ lw_tbl := List.mem_append_left _ (List.mem_map.mpr ⟨(⟨"LostSheetsModel", "crew", "(I)I"⟩, _), List.mem_of_getElem? (i := 64) rfl, rfl⟩)
theorem ct_1250 : (Jvm.Cond.methodLink "LostSheetsModel" (287 : Nat) ({ cls := "LostSheetsModel", name := "drawnBehind", desc := "(I)I" } : Jvm.MethodName)) ∈ lw_tbl := tl_6 _ (List.mem_of_getElem? (i := 50) rfl)
theorem ct_1252 : (Jvm.Cond.instanceMethod ({ cls := "LostSheetsModel", name := "drawnBehind", desc := "(I)I" } : Jvm.MethodName)) ∈ lw_tbl := tl_6 _ (List.mem_of_getElem? (i := 52) rfl)
theorem cts_65 : Cond.selects "LostSheetsModel" ⟨"LostSheetsModel", "drawnBehind", "(I)I"⟩ ⟨"LostSheetsModel", "drawnBehind", "(I)I"⟩ ∈ lw_tbl := List.mem_append_left _ (List.mem_map.mpr ⟨(⟨"LostSheetsModel", "drawnBehind", "(I)I"⟩, _), List.mem_of_getElem? (i := 65) rfl, rfl⟩)
theorem ct_1254 : (Jvm.Cond.methodLink "LostSheetsModel" (282 : Nat) ({ cls := "java/lang/Integer", name := "bitCount", desc := "(I)I" } : Jvm.MethodName)) ∈ lw_tbl := tl_6 _ (List.mem_of_getElem? (i := 54) rfl)
theorem ct_1255 : (Jvm.Cond.methodLink "LostSheetsModel" (293 : Nat) ({ cls := "LostSheetsModel", name := "landing", desc := "(II)I" } : Jvm.MethodName)) ∈ lw_tbl := tl_6 _ (List.mem_of_getElem? (i := 55) rfl)
theorem ct_1257 : (Jvm.Cond.instanceMethod ({ cls := "LostSheetsModel", name := "landing", desc := "(II)I" } : Jvm.MethodName)) ∈ lw_tbl := tl_6 _ (List.mem_of_getElem? (i := 57) rfl)
theorem cts_66 : Cond.selects "LostSheetsModel" ⟨"LostSheetsModel", "landing", "(II)I"⟩ ⟨"LostSheetsModel", "landing", "(II)I"⟩ ∈ lw_tbl := List.mem_append_left _ (List.mem_map.mpr ⟨(⟨"LostSheetsModel", "landing", "(II)I"⟩, _), List.mem_of_getElem? (i := 66) rfl, rfl⟩)
theorem ct_1273 : (Jvm.Cond.methodLink "LostSheetsModel" (310 : Nat) ({ cls := "LostSheetsModel", name := "part", desc := "(JJI)J" } : Jvm.MethodName)) ∈ lw_tbl := tl_6 _ (List.mem_of_getElem? (i := 73) rfl)
theorem ct_1274 : (Jvm.Cond.static ({ cls := "LostSheetsModel", name := "part", desc := "(JJI)J" } : Jvm.MethodName)) ∈ lw_tbl := tl_6 _ (List.mem_of_getElem? (i := 74) rfl)
theorem ct_1276 : (Jvm.Cond.methodLink "LostSheetsModel" (302 : Nat) ({ cls := "java/lang/Math", name := "abs", desc := "(J)J" } : Jvm.MethodName)) ∈ lw_tbl := tl_6 _ (List.mem_of_getElem? (i := 76) rfl)
theorem ct_1277 : (Jvm.Cond.static ({ cls := "java/lang/Math", name := "abs", desc := "(J)J" } : Jvm.MethodName)) ∈ lw_tbl := tl_6 _ (List.mem_of_getElem? (i := 77) rfl)
theorem ct_1283 : (Jvm.Cond.methodLink "LostSheetsModel" (314 : Nat) ({ cls := "LostSheetsModel", name := "allDrew", desc := "()I" } : Jvm.MethodName)) ∈ lw_tbl := tl_6 _ (List.mem_of_getElem? (i := 83) rfl)
theorem ct_1285 : (Jvm.Cond.instanceMethod ({ cls := "LostSheetsModel", name := "allDrew", desc := "()I" } : Jvm.MethodName)) ∈ lw_tbl := tl_6 _ (List.mem_of_getElem? (i := 85) rfl)
theorem cts_67 : Cond.selects "LostSheetsModel" ⟨"LostSheetsModel", "allDrew", "()I"⟩ ⟨"LostSheetsModel", "allDrew", "()I"⟩ ∈ lw_tbl := List.mem_append_left _ (List.mem_map.mpr ⟨(⟨"LostSheetsModel", "allDrew", "()I"⟩, _), List.mem_of_getElem? (i := 67) rfl, rfl⟩)
theorem ct_1319 : (Jvm.Cond.methodLink "LostSheetsModel" (333 : Nat) ({ cls := "LostSheetsModel", name := "weeps", desc := "(III)I" } : Jvm.MethodName)) ∈ lw_tbl := tl_6 _ (List.mem_of_getElem? (i := 119) rfl)
theorem ct_1321 : (Jvm.Cond.instanceMethod ({ cls := "LostSheetsModel", name := "weeps", desc := "(III)I" } : Jvm.MethodName)) ∈ lw_tbl := tl_6 _ (List.mem_of_getElem? (i := 121) rfl)
theorem cts_68 : Cond.selects "LostSheetsModel" ⟨"LostSheetsModel", "weeps", "(III)I"⟩ ⟨"LostSheetsModel", "weeps", "(III)I"⟩ ∈ lw_tbl := List.mem_append_left _ (List.mem_map.mpr ⟨(⟨"LostSheetsModel", "weeps", "(III)I"⟩, _), List.mem_of_getElem? (i := 68) rfl, rfl⟩)
theorem ct_1323 : (Jvm.Cond.methodLink "LostSheetsModel" (330 : Nat) ({ cls := "LostSheetsModel", name := "ran", desc := "(I)V" } : Jvm.MethodName)) ∈ lw_tbl := tl_6 _ (List.mem_of_getElem? (i := 123) rfl)
theorem ct_1325 : (Jvm.Cond.instanceMethod ({ cls := "LostSheetsModel", name := "ran", desc := "(I)V" } : Jvm.MethodName)) ∈ lw_tbl := tl_6 _ (List.mem_of_getElem? (i := 125) rfl)
theorem cts_69 : Cond.selects "LostSheetsModel" ⟨"LostSheetsModel", "ran", "(I)V"⟩ ⟨"LostSheetsModel", "ran", "(I)V"⟩ ∈ lw_tbl := List.mem_append_left _ (List.mem_map.mpr ⟨(⟨"LostSheetsModel", "ran", "(I)V"⟩, _), List.mem_of_getElem? (i := 69) rfl, rfl⟩)
theorem ct_1327 : (Jvm.Cond.methodLink "LostSheetsModel" (337 : Nat) ({ cls := "LostSheetsModel", name := "above", desc := "(I)I" } : Jvm.MethodName)) ∈ lw_tbl := tl_6 _ (List.mem_of_getElem? (i := 127) rfl)
theorem ct_1328 : (Jvm.Cond.static ({ cls := "LostSheetsModel", name := "above", desc := "(I)I" } : Jvm.MethodName)) ∈ lw_tbl := tl_6 _ (List.mem_of_getElem? (i := 128) rfl)
theorem ct_1330 : (Jvm.Cond.methodLink "LostSheetsModel" (340 : Nat) ({ cls := "LostSheetsModel", name := "draws", desc := "(III)I" } : Jvm.MethodName)) ∈ lw_tbl := tl_6 _ (List.mem_of_getElem? (i := 130) rfl)
theorem ct_1332 : (Jvm.Cond.instanceMethod ({ cls := "LostSheetsModel", name := "draws", desc := "(III)I" } : Jvm.MethodName)) ∈ lw_tbl := tl_6 _ (List.mem_of_getElem? (i := 132) rfl)
theorem cts_70 : Cond.selects "LostSheetsModel" ⟨"LostSheetsModel", "draws", "(III)I"⟩ ⟨"LostSheetsModel", "draws", "(III)I"⟩ ∈ lw_tbl := List.mem_append_left _ (List.mem_map.mpr ⟨(⟨"LostSheetsModel", "draws", "(III)I"⟩, _), List.mem_of_getElem? (i := 70) rfl, rfl⟩)
theorem ct_1334 : (Jvm.Cond.methodLink "LostSheetsModel" (343 : Nat) ({ cls := "LostSheetsModel", name := "tells", desc := "(III)I" } : Jvm.MethodName)) ∈ lw_tbl := tl_6 _ (List.mem_of_getElem? (i := 134) rfl)
theorem ct_1336 : (Jvm.Cond.instanceMethod ({ cls := "LostSheetsModel", name := "tells", desc := "(III)I" } : Jvm.MethodName)) ∈ lw_tbl := tl_6 _ (List.mem_of_getElem? (i := 136) rfl)
theorem cts_71 : Cond.selects "LostSheetsModel" ⟨"LostSheetsModel", "tells", "(III)I"⟩ ⟨"LostSheetsModel", "tells", "(III)I"⟩ ∈ lw_tbl := List.mem_append_left _ (List.mem_map.mpr ⟨(⟨"LostSheetsModel", "tells", "(III)I"⟩, _), List.mem_of_getElem? (i := 71) rfl, rfl⟩)
theorem ct_1354 : (Jvm.Cond.methodLink "LostSheetsModel" (346 : Nat) ({ cls := "LostSheetsModel", name := "isTape", desc := "(I)Z" } : Jvm.MethodName)) ∈ lw_tbl := tl_6 _ (List.mem_of_getElem? (i := 154) rfl)
theorem ct_1355 : (Jvm.Cond.static ({ cls := "LostSheetsModel", name := "isTape", desc := "(I)Z" } : Jvm.MethodName)) ∈ lw_tbl := tl_6 _ (List.mem_of_getElem? (i := 155) rfl)
theorem ct_1361 : (Jvm.Cond.methodLink "LostSheetsModel" (349 : Nat) ({ cls := "LostSheetsModel", name := "kept", desc := "(IJ)J" } : Jvm.MethodName)) ∈ lw_tbl := tl_6 _ (List.mem_of_getElem? (i := 161) rfl)
theorem ct_1362 : (Jvm.Cond.static ({ cls := "LostSheetsModel", name := "kept", desc := "(IJ)J" } : Jvm.MethodName)) ∈ lw_tbl := tl_6 _ (List.mem_of_getElem? (i := 162) rfl)
theorem ct_520 : (Jvm.Cond.methodLink "java/lang/String" (335 : Nat) ({ cls := "java/lang/String", name := "coder", desc := "()B" } : Jvm.MethodName)) ∈ lw_tbl := tl_3 _ (List.mem_of_getElem? (i := 40) rfl)
theorem ct_521 : (Jvm.Cond.instanceMethod ({ cls := "java/lang/String", name := "coder", desc := "()B" } : Jvm.MethodName)) ∈ lw_tbl := tl_3 _ (List.mem_of_getElem? (i := 41) rfl)
theorem ct_522 : (Jvm.Cond.selects "java/lang/String" ({ cls := "java/lang/String", name := "coder", desc := "()B" } : Jvm.MethodName) ({ cls := "java/lang/String", name := "coder", desc := "()B" } : Jvm.MethodName)) ∈ lw_tbl := tl_3 _ (List.mem_of_getElem? (i := 42) rfl)
theorem ct_530 : (Jvm.Cond.methodLink "java/lang/String" (492 : Nat) ({ cls := "java/lang/String", name := "isLatin1", desc := "()Z" } : Jvm.MethodName)) ∈ lw_tbl := tl_3 _ (List.mem_of_getElem? (i := 50) rfl)
theorem ct_531 : (Jvm.Cond.instanceMethod ({ cls := "java/lang/String", name := "isLatin1", desc := "()Z" } : Jvm.MethodName)) ∈ lw_tbl := tl_3 _ (List.mem_of_getElem? (i := 51) rfl)
theorem ct_532 : (Jvm.Cond.selects "java/lang/String" ({ cls := "java/lang/String", name := "isLatin1", desc := "()Z" } : Jvm.MethodName) ({ cls := "java/lang/String", name := "isLatin1", desc := "()Z" } : Jvm.MethodName)) ∈ lw_tbl := tl_3 _ (List.mem_of_getElem? (i := 52) rfl)
theorem ct_534 : (Jvm.Cond.methodLink "java/lang/String" (495 : Nat) ({ cls := "java/lang/StringLatin1", name := "charAt", desc := "([BI)C" } : Jvm.MethodName)) ∈ lw_tbl := tl_3 _ (List.mem_of_getElem? (i := 54) rfl)
theorem ct_535 : (Jvm.Cond.static ({ cls := "java/lang/StringLatin1", name := "charAt", desc := "([BI)C" } : Jvm.MethodName)) ∈ lw_tbl := tl_3 _ (List.mem_of_getElem? (i := 55) rfl)
theorem ct_542 : (Jvm.Cond.methodLink "java/lang/String" (1059 : Nat) ({ cls := "jdk/internal/util/Preconditions", name := "checkIndex", desc := "(IILjava/util/function/BiFunction;)I" } : Jvm.MethodName)) ∈ lw_tbl := tl_3 _ (List.mem_of_getElem? (i := 62) rfl)
theorem ct_543 : (Jvm.Cond.static ({ cls := "jdk/internal/util/Preconditions", name := "checkIndex", desc := "(IILjava/util/function/BiFunction;)I" } : Jvm.MethodName)) ∈ lw_tbl := tl_3 _ (List.mem_of_getElem? (i := 63) rfl)
theorem ct_1160 : (Jvm.Cond.methodLink "java/lang/String" (633 : Nat) ({ cls := "java/lang/String", name := "indexOf", desc := "(II)I" } : Jvm.MethodName)) ∈ lw_tbl := tl_5 _ (List.mem_of_getElem? (i := 200) rfl)
theorem ct_1161 : (Jvm.Cond.instanceMethod ({ cls := "java/lang/String", name := "indexOf", desc := "(II)I" } : Jvm.MethodName)) ∈ lw_tbl := tl_5 _ (List.mem_of_getElem? (i := 201) rfl)
theorem ct_1162 : (Jvm.Cond.selects "java/lang/String" ({ cls := "java/lang/String", name := "indexOf", desc := "(II)I" } : Jvm.MethodName) ({ cls := "java/lang/String", name := "indexOf", desc := "(II)I" } : Jvm.MethodName)) ∈ lw_tbl := tl_5 _ (List.mem_of_getElem? (i := 202) rfl)
theorem ct_1164 : (Jvm.Cond.methodLink "java/lang/String" (505 : Nat) ({ cls := "java/lang/String", name := "length", desc := "()I" } : Jvm.MethodName)) ∈ lw_tbl := tl_5 _ (List.mem_of_getElem? (i := 204) rfl)
theorem ct_1165 : (Jvm.Cond.methodLink "java/lang/String" (637 : Nat) ({ cls := "java/lang/StringLatin1", name := "indexOf", desc := "([BIII)I" } : Jvm.MethodName)) ∈ lw_tbl := tl_5 _ (List.mem_of_getElem? (i := 205) rfl)
theorem ct_1166 : (Jvm.Cond.static ({ cls := "java/lang/StringLatin1", name := "indexOf", desc := "([BIII)I" } : Jvm.MethodName)) ∈ lw_tbl := tl_5 _ (List.mem_of_getElem? (i := 206) rfl)
theorem ct_1191 : (Jvm.Cond.methodLink "java/lang/String" (1062 : Nat) ({ cls := "jdk/internal/util/Preconditions", name := "checkFromToIndex", desc := "(IIILjava/util/function/BiFunction;)I" } : Jvm.MethodName)) ∈ lw_tbl := tl_5 _ (List.mem_of_getElem? (i := 231) rfl)
theorem ct_1192 : (Jvm.Cond.static ({ cls := "jdk/internal/util/Preconditions", name := "checkFromToIndex", desc := "(IIILjava/util/function/BiFunction;)I" } : Jvm.MethodName)) ∈ lw_tbl := tl_5 _ (List.mem_of_getElem? (i := 232) rfl)
theorem ct_537 : (Jvm.Cond.methodLink "java/lang/StringLatin1" (9 : Nat) ({ cls := "java/lang/String", name := "checkIndex", desc := "(II)V" } : Jvm.MethodName)) ∈ lw_tbl := tl_3 _ (List.mem_of_getElem? (i := 57) rfl)
theorem ct_538 : (Jvm.Cond.static ({ cls := "java/lang/String", name := "checkIndex", desc := "(II)V" } : Jvm.MethodName)) ∈ lw_tbl := tl_3 _ (List.mem_of_getElem? (i := 58) rfl)
theorem ct_1168 : (Jvm.Cond.methodLink "java/lang/StringLatin1" (88 : Nat) ({ cls := "java/lang/StringLatin1", name := "canEncode", desc := "(I)Z" } : Jvm.MethodName)) ∈ lw_tbl := tl_5 _ (List.mem_of_getElem? (i := 208) rfl)
theorem ct_1169 : (Jvm.Cond.static ({ cls := "java/lang/StringLatin1", name := "canEncode", desc := "(I)Z" } : Jvm.MethodName)) ∈ lw_tbl := tl_5 _ (List.mem_of_getElem? (i := 209) rfl)
theorem ct_1171 : (Jvm.Cond.methodLink "java/lang/StringLatin1" (92 : Nat) ({ cls := "java/lang/Math", name := "max", desc := "(II)I" } : Jvm.MethodName)) ∈ lw_tbl := tl_5 _ (List.mem_of_getElem? (i := 211) rfl)
theorem ct_1172 : (Jvm.Cond.methodLink "java/lang/StringLatin1" (38 : Nat) ({ cls := "java/lang/Math", name := "min", desc := "(II)I" } : Jvm.MethodName)) ∈ lw_tbl := tl_5 _ (List.mem_of_getElem? (i := 212) rfl)
theorem ct_1173 : (Jvm.Cond.methodLink "java/lang/StringLatin1" (95 : Nat) ({ cls := "java/lang/StringLatin1", name := "indexOfChar", desc := "([BIII)I" } : Jvm.MethodName)) ∈ lw_tbl := tl_5 _ (List.mem_of_getElem? (i := 213) rfl)
theorem ct_1174 : (Jvm.Cond.static ({ cls := "java/lang/StringLatin1", name := "indexOfChar", desc := "([BIII)I" } : Jvm.MethodName)) ∈ lw_tbl := tl_5 _ (List.mem_of_getElem? (i := 214) rfl)
theorem ct_21 : (Jvm.Cond.methodLink "LostSheetsLaw" (9 : Nat) ({ cls := "LostSheets", name := "<init>", desc := "()V" } : Jvm.MethodName)) ∈ lw_tbl := tl_1 _ (List.mem_of_getElem? (i := 21) rfl)
theorem ct_22 : (Jvm.Cond.instanceMethod ({ cls := "LostSheets", name := "<init>", desc := "()V" } : Jvm.MethodName)) ∈ lw_tbl := tl_1 _ (List.mem_of_getElem? (i := 22) rfl)
theorem ct_295 : (Jvm.Cond.methodLink "LostSheetsLaw" (13 : Nat) ({ cls := "LostSheets", name := "drawer", desc := "(III)I" } : Jvm.MethodName)) ∈ lw_tbl := tl_2 _ (List.mem_of_getElem? (i := 55) rfl)
theorem ct_296 : (Jvm.Cond.instanceMethod ({ cls := "LostSheets", name := "drawer", desc := "(III)I" } : Jvm.MethodName)) ∈ lw_tbl := tl_2 _ (List.mem_of_getElem? (i := 56) rfl)
theorem ct_297 : (Jvm.Cond.selects "LostSheets" ({ cls := "LostSheets", name := "drawer", desc := "(III)I" } : Jvm.MethodName) ({ cls := "LostSheets", name := "drawer", desc := "(III)I" } : Jvm.MethodName)) ∈ lw_tbl := tl_2 _ (List.mem_of_getElem? (i := 57) rfl)
theorem ct_313 : (Jvm.Cond.methodLink "LostSheetsLaw" (18 : Nat) ({ cls := "LostSheets", name := "of", desc := "(II)I" } : Jvm.MethodName)) ∈ lw_tbl := tl_2 _ (List.mem_of_getElem? (i := 73) rfl)
theorem ct_314 : (Jvm.Cond.instanceMethod ({ cls := "LostSheets", name := "of", desc := "(II)I" } : Jvm.MethodName)) ∈ lw_tbl := tl_2 _ (List.mem_of_getElem? (i := 74) rfl)
theorem ct_315 : (Jvm.Cond.selects "LostSheets" ({ cls := "LostSheets", name := "of", desc := "(II)I" } : Jvm.MethodName) ({ cls := "LostSheets", name := "of", desc := "(II)I" } : Jvm.MethodName)) ∈ lw_tbl := tl_2 _ (List.mem_of_getElem? (i := 75) rfl)
theorem ct_456 : (Jvm.Cond.methodLink "LostSheetsLaw" (23 : Nat) ({ cls := "LostSheets", name := "sheet", desc := "(II)I" } : Jvm.MethodName)) ∈ lw_tbl := tl_2 _ (List.mem_of_getElem? (i := 216) rfl)
theorem ct_457 : (Jvm.Cond.instanceMethod ({ cls := "LostSheets", name := "sheet", desc := "(II)I" } : Jvm.MethodName)) ∈ lw_tbl := tl_2 _ (List.mem_of_getElem? (i := 217) rfl)
theorem ct_458 : (Jvm.Cond.selects "LostSheets" ({ cls := "LostSheets", name := "sheet", desc := "(II)I" } : Jvm.MethodName) ({ cls := "LostSheets", name := "sheet", desc := "(II)I" } : Jvm.MethodName)) ∈ lw_tbl := tl_2 _ (List.mem_of_getElem? (i := 218) rfl)
theorem ct_460 : (Jvm.Cond.methodLink "LostSheetsLaw" (27 : Nat) ({ cls := "LostSheets", name := "put", desc := "(II)I" } : Jvm.MethodName)) ∈ lw_tbl := tl_2 _ (List.mem_of_getElem? (i := 220) rfl)
theorem ct_461 : (Jvm.Cond.instanceMethod ({ cls := "LostSheets", name := "put", desc := "(II)I" } : Jvm.MethodName)) ∈ lw_tbl := tl_2 _ (List.mem_of_getElem? (i := 221) rfl)
theorem ct_462 : (Jvm.Cond.selects "LostSheets" ({ cls := "LostSheets", name := "put", desc := "(II)I" } : Jvm.MethodName) ({ cls := "LostSheets", name := "put", desc := "(II)I" } : Jvm.MethodName)) ∈ lw_tbl := tl_2 _ (List.mem_of_getElem? (i := 222) rfl)
theorem ct_464 : (Jvm.Cond.methodLink "LostSheetsLaw" (31 : Nat) ({ cls := "LostSheets", name := "anew", desc := "(I)I" } : Jvm.MethodName)) ∈ lw_tbl := tl_2 _ (List.mem_of_getElem? (i := 224) rfl)
theorem ct_465 : (Jvm.Cond.instanceMethod ({ cls := "LostSheets", name := "anew", desc := "(I)I" } : Jvm.MethodName)) ∈ lw_tbl := tl_2 _ (List.mem_of_getElem? (i := 225) rfl)
theorem ct_466 : (Jvm.Cond.selects "LostSheets" ({ cls := "LostSheets", name := "anew", desc := "(I)I" } : Jvm.MethodName) ({ cls := "LostSheets", name := "anew", desc := "(I)I" } : Jvm.MethodName)) ∈ lw_tbl := tl_2 _ (List.mem_of_getElem? (i := 226) rfl)
theorem ct_468 : (Jvm.Cond.methodLink "LostSheetsLaw" (36 : Nat) ({ cls := "LostSheets", name := "mark", desc := "(II)I" } : Jvm.MethodName)) ∈ lw_tbl := tl_2 _ (List.mem_of_getElem? (i := 228) rfl)
theorem ct_469 : (Jvm.Cond.instanceMethod ({ cls := "LostSheets", name := "mark", desc := "(II)I" } : Jvm.MethodName)) ∈ lw_tbl := tl_2 _ (List.mem_of_getElem? (i := 229) rfl)
theorem ct_470 : (Jvm.Cond.selects "LostSheets" ({ cls := "LostSheets", name := "mark", desc := "(II)I" } : Jvm.MethodName) ({ cls := "LostSheets", name := "mark", desc := "(II)I" } : Jvm.MethodName)) ∈ lw_tbl := tl_2 _ (List.mem_of_getElem? (i := 230) rfl)
theorem ct_477 : (Jvm.Cond.methodLink "LostSheetsLaw" (40 : Nat) ({ cls := "LostSheets", name := "row", desc := "(III)I" } : Jvm.MethodName)) ∈ lw_tbl := tl_2 _ (List.mem_of_getElem? (i := 237) rfl)
theorem ct_478 : (Jvm.Cond.instanceMethod ({ cls := "LostSheets", name := "row", desc := "(III)I" } : Jvm.MethodName)) ∈ lw_tbl := tl_2 _ (List.mem_of_getElem? (i := 238) rfl)
theorem ct_479 : (Jvm.Cond.selects "LostSheets" ({ cls := "LostSheets", name := "row", desc := "(III)I" } : Jvm.MethodName) ({ cls := "LostSheets", name := "row", desc := "(III)I" } : Jvm.MethodName)) ∈ lw_tbl := tl_2 _ (List.mem_of_getElem? (i := 239) rfl)
theorem ct_481 : (Jvm.Cond.methodLink "LostSheetsLaw" (44 : Nat) ({ cls := "LostSheets", name := "feed", desc := "(I)I" } : Jvm.MethodName)) ∈ lw_tbl := tl_3 _ (List.mem_of_getElem? (i := 1) rfl)
theorem ct_482 : (Jvm.Cond.instanceMethod ({ cls := "LostSheets", name := "feed", desc := "(I)I" } : Jvm.MethodName)) ∈ lw_tbl := tl_3 _ (List.mem_of_getElem? (i := 2) rfl)
theorem ct_483 : (Jvm.Cond.selects "LostSheets" ({ cls := "LostSheets", name := "feed", desc := "(I)I" } : Jvm.MethodName) ({ cls := "LostSheets", name := "feed", desc := "(I)I" } : Jvm.MethodName)) ∈ lw_tbl := tl_3 _ (List.mem_of_getElem? (i := 3) rfl)
theorem ct_489 : (Jvm.Cond.methodLink "LostSheetsLaw" (48 : Nat) ({ cls := "LostSheets", name := "office", desc := "()I" } : Jvm.MethodName)) ∈ lw_tbl := tl_3 _ (List.mem_of_getElem? (i := 9) rfl)
theorem ct_490 : (Jvm.Cond.instanceMethod ({ cls := "LostSheets", name := "office", desc := "()I" } : Jvm.MethodName)) ∈ lw_tbl := tl_3 _ (List.mem_of_getElem? (i := 10) rfl)
theorem ct_491 : (Jvm.Cond.selects "LostSheets" ({ cls := "LostSheets", name := "office", desc := "()I" } : Jvm.MethodName) ({ cls := "LostSheets", name := "office", desc := "()I" } : Jvm.MethodName)) ∈ lw_tbl := tl_3 _ (List.mem_of_getElem? (i := 11) rfl)
theorem ct_605 : (Jvm.Cond.methodLink "LostSheetsLaw" (53 : Nat) ({ cls := "LostSheets", name := "told", desc := "(I)I" } : Jvm.MethodName)) ∈ lw_tbl := tl_3 _ (List.mem_of_getElem? (i := 125) rfl)
theorem ct_606 : (Jvm.Cond.instanceMethod ({ cls := "LostSheets", name := "told", desc := "(I)I" } : Jvm.MethodName)) ∈ lw_tbl := tl_3 _ (List.mem_of_getElem? (i := 126) rfl)
theorem ct_607 : (Jvm.Cond.selects "LostSheets" ({ cls := "LostSheets", name := "told", desc := "(I)I" } : Jvm.MethodName) ({ cls := "LostSheets", name := "told", desc := "(I)I" } : Jvm.MethodName)) ∈ lw_tbl := tl_3 _ (List.mem_of_getElem? (i := 127) rfl)
theorem ct_623 : (Jvm.Cond.methodLink "LostSheetsLaw" (57 : Nat) ({ cls := "LostSheets", name := "pass", desc := "(I)I" } : Jvm.MethodName)) ∈ lw_tbl := tl_3 _ (List.mem_of_getElem? (i := 143) rfl)
theorem ct_624 : (Jvm.Cond.instanceMethod ({ cls := "LostSheets", name := "pass", desc := "(I)I" } : Jvm.MethodName)) ∈ lw_tbl := tl_3 _ (List.mem_of_getElem? (i := 144) rfl)
theorem ct_625 : (Jvm.Cond.selects "LostSheets" ({ cls := "LostSheets", name := "pass", desc := "(I)I" } : Jvm.MethodName) ({ cls := "LostSheets", name := "pass", desc := "(I)I" } : Jvm.MethodName)) ∈ lw_tbl := tl_3 _ (List.mem_of_getElem? (i := 145) rfl)
theorem ct_634 : (Jvm.Cond.methodLink "LostSheetsLaw" (61 : Nat) ({ cls := "LostSheets", name := "on", desc := "(II)I" } : Jvm.MethodName)) ∈ lw_tbl := tl_3 _ (List.mem_of_getElem? (i := 154) rfl)
theorem ct_635 : (Jvm.Cond.instanceMethod ({ cls := "LostSheets", name := "on", desc := "(II)I" } : Jvm.MethodName)) ∈ lw_tbl := tl_3 _ (List.mem_of_getElem? (i := 155) rfl)
theorem ct_636 : (Jvm.Cond.selects "LostSheets" ({ cls := "LostSheets", name := "on", desc := "(II)I" } : Jvm.MethodName) ({ cls := "LostSheets", name := "on", desc := "(II)I" } : Jvm.MethodName)) ∈ lw_tbl := tl_3 _ (List.mem_of_getElem? (i := 156) rfl)
theorem ct_642 : (Jvm.Cond.methodLink "LostSheetsLaw" (65 : Nat) ({ cls := "LostSheets", name := "best", desc := "(II)I" } : Jvm.MethodName)) ∈ lw_tbl := tl_3 _ (List.mem_of_getElem? (i := 162) rfl)
theorem ct_643 : (Jvm.Cond.instanceMethod ({ cls := "LostSheets", name := "best", desc := "(II)I" } : Jvm.MethodName)) ∈ lw_tbl := tl_3 _ (List.mem_of_getElem? (i := 163) rfl)
theorem ct_644 : (Jvm.Cond.selects "LostSheets" ({ cls := "LostSheets", name := "best", desc := "(II)I" } : Jvm.MethodName) ({ cls := "LostSheets", name := "best", desc := "(II)I" } : Jvm.MethodName)) ∈ lw_tbl := tl_3 _ (List.mem_of_getElem? (i := 164) rfl)
theorem ct_664 : (Jvm.Cond.methodLink "LostSheetsLaw" (69 : Nat) ({ cls := "LostSheets", name := "see", desc := "(III)I" } : Jvm.MethodName)) ∈ lw_tbl := tl_3 _ (List.mem_of_getElem? (i := 184) rfl)
theorem ct_665 : (Jvm.Cond.instanceMethod ({ cls := "LostSheets", name := "see", desc := "(III)I" } : Jvm.MethodName)) ∈ lw_tbl := tl_3 _ (List.mem_of_getElem? (i := 185) rfl)
theorem ct_666 : (Jvm.Cond.selects "LostSheets" ({ cls := "LostSheets", name := "see", desc := "(III)I" } : Jvm.MethodName) ({ cls := "LostSheets", name := "see", desc := "(III)I" } : Jvm.MethodName)) ∈ lw_tbl := tl_3 _ (List.mem_of_getElem? (i := 186) rfl)
theorem ct_676 : (Jvm.Cond.methodLink "LostSheetsLaw" (73 : Nat) ({ cls := "LostSheets", name := "can", desc := "(II)I" } : Jvm.MethodName)) ∈ lw_tbl := tl_3 _ (List.mem_of_getElem? (i := 196) rfl)
theorem ct_677 : (Jvm.Cond.instanceMethod ({ cls := "LostSheets", name := "can", desc := "(II)I" } : Jvm.MethodName)) ∈ lw_tbl := tl_3 _ (List.mem_of_getElem? (i := 197) rfl)
theorem ct_678 : (Jvm.Cond.selects "LostSheets" ({ cls := "LostSheets", name := "can", desc := "(II)I" } : Jvm.MethodName) ({ cls := "LostSheets", name := "can", desc := "(II)I" } : Jvm.MethodName)) ∈ lw_tbl := tl_3 _ (List.mem_of_getElem? (i := 198) rfl)
theorem ct_691 : (Jvm.Cond.methodLink "LostSheetsLaw" (77 : Nat) ({ cls := "LostSheets", name := "odds", desc := "(III)J" } : Jvm.MethodName)) ∈ lw_tbl := tl_3 _ (List.mem_of_getElem? (i := 211) rfl)
theorem ct_692 : (Jvm.Cond.instanceMethod ({ cls := "LostSheets", name := "odds", desc := "(III)J" } : Jvm.MethodName)) ∈ lw_tbl := tl_3 _ (List.mem_of_getElem? (i := 212) rfl)
theorem ct_693 : (Jvm.Cond.selects "LostSheets" ({ cls := "LostSheets", name := "odds", desc := "(III)J" } : Jvm.MethodName) ({ cls := "LostSheets", name := "odds", desc := "(III)J" } : Jvm.MethodName)) ∈ lw_tbl := tl_3 _ (List.mem_of_getElem? (i := 213) rfl)
theorem ct_703 : (Jvm.Cond.methodLink "LostSheetsLaw" (82 : Nat) ({ cls := "LostSheets", name := "mean", desc := "(II)J" } : Jvm.MethodName)) ∈ lw_tbl := tl_3 _ (List.mem_of_getElem? (i := 223) rfl)
theorem ct_704 : (Jvm.Cond.instanceMethod ({ cls := "LostSheets", name := "mean", desc := "(II)J" } : Jvm.MethodName)) ∈ lw_tbl := tl_3 _ (List.mem_of_getElem? (i := 224) rfl)
theorem ct_705 : (Jvm.Cond.selects "LostSheets" ({ cls := "LostSheets", name := "mean", desc := "(II)J" } : Jvm.MethodName) ({ cls := "LostSheets", name := "mean", desc := "(II)J" } : Jvm.MethodName)) ∈ lw_tbl := tl_3 _ (List.mem_of_getElem? (i := 225) rfl)
theorem ct_711 : (Jvm.Cond.methodLink "LostSheetsLaw" (87 : Nat) ({ cls := "LostSheets", name := "plan", desc := "(II)I" } : Jvm.MethodName)) ∈ lw_tbl := tl_3 _ (List.mem_of_getElem? (i := 231) rfl)
theorem ct_712 : (Jvm.Cond.instanceMethod ({ cls := "LostSheets", name := "plan", desc := "(II)I" } : Jvm.MethodName)) ∈ lw_tbl := tl_3 _ (List.mem_of_getElem? (i := 232) rfl)
theorem ct_713 : (Jvm.Cond.selects "LostSheets" ({ cls := "LostSheets", name := "plan", desc := "(II)I" } : Jvm.MethodName) ({ cls := "LostSheets", name := "plan", desc := "(II)I" } : Jvm.MethodName)) ∈ lw_tbl := tl_3 _ (List.mem_of_getElem? (i := 233) rfl)
theorem ct_719 : (Jvm.Cond.methodLink "LostSheetsLaw" (91 : Nat) ({ cls := "LostSheets", name := "ends", desc := "(I)I" } : Jvm.MethodName)) ∈ lw_tbl := tl_3 _ (List.mem_of_getElem? (i := 239) rfl)
theorem ct_720 : (Jvm.Cond.instanceMethod ({ cls := "LostSheets", name := "ends", desc := "(I)I" } : Jvm.MethodName)) ∈ lw_tbl := tl_4 _ (List.mem_of_getElem? (i := 0) rfl)
theorem ct_721 : (Jvm.Cond.selects "LostSheets" ({ cls := "LostSheets", name := "ends", desc := "(I)I" } : Jvm.MethodName) ({ cls := "LostSheets", name := "ends", desc := "(I)I" } : Jvm.MethodName)) ∈ lw_tbl := tl_4 _ (List.mem_of_getElem? (i := 1) rfl)
theorem ct_735 : (Jvm.Cond.methodLink "LostSheetsLaw" (95 : Nat) ({ cls := "LostSheets", name := "book", desc := "(II)I" } : Jvm.MethodName)) ∈ lw_tbl := tl_4 _ (List.mem_of_getElem? (i := 15) rfl)
theorem ct_736 : (Jvm.Cond.instanceMethod ({ cls := "LostSheets", name := "book", desc := "(II)I" } : Jvm.MethodName)) ∈ lw_tbl := tl_4 _ (List.mem_of_getElem? (i := 16) rfl)
theorem ct_737 : (Jvm.Cond.selects "LostSheets" ({ cls := "LostSheets", name := "book", desc := "(II)I" } : Jvm.MethodName) ({ cls := "LostSheets", name := "book", desc := "(II)I" } : Jvm.MethodName)) ∈ lw_tbl := tl_4 _ (List.mem_of_getElem? (i := 17) rfl)
theorem ct_739 : (Jvm.Cond.methodLink "LostSheetsLaw" (99 : Nat) ({ cls := "LostSheets", name := "looked", desc := "()I" } : Jvm.MethodName)) ∈ lw_tbl := tl_4 _ (List.mem_of_getElem? (i := 19) rfl)
theorem ct_740 : (Jvm.Cond.instanceMethod ({ cls := "LostSheets", name := "looked", desc := "()I" } : Jvm.MethodName)) ∈ lw_tbl := tl_4 _ (List.mem_of_getElem? (i := 20) rfl)
theorem ct_741 : (Jvm.Cond.selects "LostSheets" ({ cls := "LostSheets", name := "looked", desc := "()I" } : Jvm.MethodName) ({ cls := "LostSheets", name := "looked", desc := "()I" } : Jvm.MethodName)) ∈ lw_tbl := tl_4 _ (List.mem_of_getElem? (i := 21) rfl)
theorem ct_743 : (Jvm.Cond.methodLink "LostSheetsLaw" (103 : Nat) ({ cls := "LostSheets", name := "judge", desc := "(II)I" } : Jvm.MethodName)) ∈ lw_tbl := tl_4 _ (List.mem_of_getElem? (i := 23) rfl)
theorem ct_744 : (Jvm.Cond.instanceMethod ({ cls := "LostSheets", name := "judge", desc := "(II)I" } : Jvm.MethodName)) ∈ lw_tbl := tl_4 _ (List.mem_of_getElem? (i := 24) rfl)
theorem ct_745 : (Jvm.Cond.selects "LostSheets" ({ cls := "LostSheets", name := "judge", desc := "(II)I" } : Jvm.MethodName) ({ cls := "LostSheets", name := "judge", desc := "(II)I" } : Jvm.MethodName)) ∈ lw_tbl := tl_4 _ (List.mem_of_getElem? (i := 25) rfl)
theorem ct_755 : (Jvm.Cond.methodLink "LostSheetsLaw" (107 : Nat) ({ cls := "LostSheets", name := "image", desc := "()I" } : Jvm.MethodName)) ∈ lw_tbl := tl_4 _ (List.mem_of_getElem? (i := 35) rfl)
theorem ct_756 : (Jvm.Cond.instanceMethod ({ cls := "LostSheets", name := "image", desc := "()I" } : Jvm.MethodName)) ∈ lw_tbl := tl_4 _ (List.mem_of_getElem? (i := 36) rfl)
theorem ct_757 : (Jvm.Cond.selects "LostSheets" ({ cls := "LostSheets", name := "image", desc := "()I" } : Jvm.MethodName) ({ cls := "LostSheets", name := "image", desc := "()I" } : Jvm.MethodName)) ∈ lw_tbl := tl_4 _ (List.mem_of_getElem? (i := 37) rfl)
theorem ct_768 : (Jvm.Cond.methodLink "LostSheetsLaw" (111 : Nat) ({ cls := "LostSheets", name := "undo", desc := "()I" } : Jvm.MethodName)) ∈ lw_tbl := tl_4 _ (List.mem_of_getElem? (i := 48) rfl)
theorem ct_769 : (Jvm.Cond.instanceMethod ({ cls := "LostSheets", name := "undo", desc := "()I" } : Jvm.MethodName)) ∈ lw_tbl := tl_4 _ (List.mem_of_getElem? (i := 49) rfl)
theorem ct_770 : (Jvm.Cond.selects "LostSheets" ({ cls := "LostSheets", name := "undo", desc := "()I" } : Jvm.MethodName) ({ cls := "LostSheets", name := "undo", desc := "()I" } : Jvm.MethodName)) ∈ lw_tbl := tl_4 _ (List.mem_of_getElem? (i := 50) rfl)
theorem ct_772 : (Jvm.Cond.methodLink "LostSheetsLaw" (115 : Nat) ({ cls := "LostSheets", name := "act", desc := "(III)I" } : Jvm.MethodName)) ∈ lw_tbl := tl_4 _ (List.mem_of_getElem? (i := 52) rfl)
theorem ct_773 : (Jvm.Cond.instanceMethod ({ cls := "LostSheets", name := "act", desc := "(III)I" } : Jvm.MethodName)) ∈ lw_tbl := tl_4 _ (List.mem_of_getElem? (i := 53) rfl)
theorem ct_774 : (Jvm.Cond.selects "LostSheets" ({ cls := "LostSheets", name := "act", desc := "(III)I" } : Jvm.MethodName) ({ cls := "LostSheets", name := "act", desc := "(III)I" } : Jvm.MethodName)) ∈ lw_tbl := tl_4 _ (List.mem_of_getElem? (i := 54) rfl)
theorem ct_802 : (Jvm.Cond.methodLink "LostSheetsLaw" (119 : Nat) ({ cls := "LostSheets", name := "trace", desc := "(I)I" } : Jvm.MethodName)) ∈ lw_tbl := tl_4 _ (List.mem_of_getElem? (i := 82) rfl)
theorem ct_803 : (Jvm.Cond.instanceMethod ({ cls := "LostSheets", name := "trace", desc := "(I)I" } : Jvm.MethodName)) ∈ lw_tbl := tl_4 _ (List.mem_of_getElem? (i := 83) rfl)
theorem ct_804 : (Jvm.Cond.selects "LostSheets" ({ cls := "LostSheets", name := "trace", desc := "(I)I" } : Jvm.MethodName) ({ cls := "LostSheets", name := "trace", desc := "(I)I" } : Jvm.MethodName)) ∈ lw_tbl := tl_4 _ (List.mem_of_getElem? (i := 84) rfl)
theorem ct_806 : (Jvm.Cond.methodLink "LostSheetsLaw" (123 : Nat) ({ cls := "LostSheets", name := "taken", desc := "(II)I" } : Jvm.MethodName)) ∈ lw_tbl := tl_4 _ (List.mem_of_getElem? (i := 86) rfl)
theorem ct_807 : (Jvm.Cond.instanceMethod ({ cls := "LostSheets", name := "taken", desc := "(II)I" } : Jvm.MethodName)) ∈ lw_tbl := tl_4 _ (List.mem_of_getElem? (i := 87) rfl)
theorem ct_808 : (Jvm.Cond.selects "LostSheets" ({ cls := "LostSheets", name := "taken", desc := "(II)I" } : Jvm.MethodName) ({ cls := "LostSheets", name := "taken", desc := "(II)I" } : Jvm.MethodName)) ∈ lw_tbl := tl_4 _ (List.mem_of_getElem? (i := 88) rfl)
theorem ct_814 : (Jvm.Cond.methodLink "LostSheetsLaw" (127 : Nat) ({ cls := "LostSheets", name := "count", desc := "(I)I" } : Jvm.MethodName)) ∈ lw_tbl := tl_4 _ (List.mem_of_getElem? (i := 94) rfl)
theorem ct_815 : (Jvm.Cond.instanceMethod ({ cls := "LostSheets", name := "count", desc := "(I)I" } : Jvm.MethodName)) ∈ lw_tbl := tl_4 _ (List.mem_of_getElem? (i := 95) rfl)
theorem ct_816 : (Jvm.Cond.selects "LostSheets" ({ cls := "LostSheets", name := "count", desc := "(I)I" } : Jvm.MethodName) ({ cls := "LostSheets", name := "count", desc := "(I)I" } : Jvm.MethodName)) ∈ lw_tbl := tl_4 _ (List.mem_of_getElem? (i := 96) rfl)
theorem ct_818 : (Jvm.Cond.methodLink "LostSheetsLaw" (131 : Nat) ({ cls := "LostSheets", name := "tape", desc := "(III)I" } : Jvm.MethodName)) ∈ lw_tbl := tl_4 _ (List.mem_of_getElem? (i := 98) rfl)
theorem ct_819 : (Jvm.Cond.instanceMethod ({ cls := "LostSheets", name := "tape", desc := "(III)I" } : Jvm.MethodName)) ∈ lw_tbl := tl_4 _ (List.mem_of_getElem? (i := 99) rfl)
theorem ct_820 : (Jvm.Cond.selects "LostSheets" ({ cls := "LostSheets", name := "tape", desc := "(III)I" } : Jvm.MethodName) ({ cls := "LostSheets", name := "tape", desc := "(III)I" } : Jvm.MethodName)) ∈ lw_tbl := tl_4 _ (List.mem_of_getElem? (i := 100) rfl)
theorem ct_826 : (Jvm.Cond.methodLink "LostSheetsLaw" (137 : Nat) ({ cls := "LostSheets", name := "item", desc := "(IIJ)I" } : Jvm.MethodName)) ∈ lw_tbl := tl_4 _ (List.mem_of_getElem? (i := 106) rfl)
theorem ct_827 : (Jvm.Cond.instanceMethod ({ cls := "LostSheets", name := "item", desc := "(IIJ)I" } : Jvm.MethodName)) ∈ lw_tbl := tl_4 _ (List.mem_of_getElem? (i := 107) rfl)
theorem ct_828 : (Jvm.Cond.selects "LostSheets" ({ cls := "LostSheets", name := "item", desc := "(IIJ)I" } : Jvm.MethodName) ({ cls := "LostSheets", name := "item", desc := "(IIJ)I" } : Jvm.MethodName)) ∈ lw_tbl := tl_4 _ (List.mem_of_getElem? (i := 108) rfl)
theorem ct_834 : (Jvm.Cond.methodLink "LostSheetsLaw" (142 : Nat) ({ cls := "LostSheets", name := "read", desc := "(II)J" } : Jvm.MethodName)) ∈ lw_tbl := tl_4 _ (List.mem_of_getElem? (i := 114) rfl)
theorem ct_835 : (Jvm.Cond.instanceMethod ({ cls := "LostSheets", name := "read", desc := "(II)J" } : Jvm.MethodName)) ∈ lw_tbl := tl_4 _ (List.mem_of_getElem? (i := 115) rfl)
theorem ct_836 : (Jvm.Cond.selects "LostSheets" ({ cls := "LostSheets", name := "read", desc := "(II)J" } : Jvm.MethodName) ({ cls := "LostSheets", name := "read", desc := "(II)J" } : Jvm.MethodName)) ∈ lw_tbl := tl_4 _ (List.mem_of_getElem? (i := 116) rfl)
theorem ct_838 : (Jvm.Cond.methodLink "LostSheetsLaw" (146 : Nat) ({ cls := "LostSheets", name := "shift", desc := "(IIIII)I" } : Jvm.MethodName)) ∈ lw_tbl := tl_4 _ (List.mem_of_getElem? (i := 118) rfl)
theorem ct_839 : (Jvm.Cond.instanceMethod ({ cls := "LostSheets", name := "shift", desc := "(IIIII)I" } : Jvm.MethodName)) ∈ lw_tbl := tl_4 _ (List.mem_of_getElem? (i := 119) rfl)
theorem ct_840 : (Jvm.Cond.selects "LostSheets" ({ cls := "LostSheets", name := "shift", desc := "(IIIII)I" } : Jvm.MethodName) ({ cls := "LostSheets", name := "shift", desc := "(IIIII)I" } : Jvm.MethodName)) ∈ lw_tbl := tl_4 _ (List.mem_of_getElem? (i := 120) rfl)
theorem ct_849 : (Jvm.Cond.methodLink "LostSheetsLaw" (12 : Nat) ({ cls := "LostSheetsModel", name := "<init>", desc := "()V" } : Jvm.MethodName)) ∈ lw_tbl := tl_4 _ (List.mem_of_getElem? (i := 129) rfl)
theorem ct_850 : (Jvm.Cond.instanceMethod ({ cls := "LostSheetsModel", name := "<init>", desc := "()V" } : Jvm.MethodName)) ∈ lw_tbl := tl_4 _ (List.mem_of_getElem? (i := 130) rfl)
theorem ct_996 : (Jvm.Cond.methodLink "LostSheetsLaw" (17 : Nat) ({ cls := "LostSheetsModel", name := "drawer", desc := "(III)I" } : Jvm.MethodName)) ∈ lw_tbl := tl_5 _ (List.mem_of_getElem? (i := 36) rfl)
theorem ct_997 : (Jvm.Cond.instanceMethod ({ cls := "LostSheetsModel", name := "drawer", desc := "(III)I" } : Jvm.MethodName)) ∈ lw_tbl := tl_5 _ (List.mem_of_getElem? (i := 37) rfl)
theorem ct_998 : (Jvm.Cond.selects "LostSheetsModel" ({ cls := "LostSheetsModel", name := "drawer", desc := "(III)I" } : Jvm.MethodName) ({ cls := "LostSheetsModel", name := "drawer", desc := "(III)I" } : Jvm.MethodName)) ∈ lw_tbl := tl_5 _ (List.mem_of_getElem? (i := 38) rfl)
theorem ct_1006 : (Jvm.Cond.methodLink "LostSheetsLaw" (22 : Nat) ({ cls := "LostSheetsModel", name := "of", desc := "(II)I" } : Jvm.MethodName)) ∈ lw_tbl := tl_5 _ (List.mem_of_getElem? (i := 46) rfl)
theorem ct_1007 : (Jvm.Cond.instanceMethod ({ cls := "LostSheetsModel", name := "of", desc := "(II)I" } : Jvm.MethodName)) ∈ lw_tbl := tl_5 _ (List.mem_of_getElem? (i := 47) rfl)
theorem ct_1008 : (Jvm.Cond.selects "LostSheetsModel" ({ cls := "LostSheetsModel", name := "of", desc := "(II)I" } : Jvm.MethodName) ({ cls := "LostSheetsModel", name := "of", desc := "(II)I" } : Jvm.MethodName)) ∈ lw_tbl := tl_5 _ (List.mem_of_getElem? (i := 48) rfl)
theorem ct_1078 : (Jvm.Cond.methodLink "LostSheetsLaw" (26 : Nat) ({ cls := "LostSheetsModel", name := "sheet", desc := "(II)I" } : Jvm.MethodName)) ∈ lw_tbl := tl_5 _ (List.mem_of_getElem? (i := 118) rfl)
theorem ct_1079 : (Jvm.Cond.instanceMethod ({ cls := "LostSheetsModel", name := "sheet", desc := "(II)I" } : Jvm.MethodName)) ∈ lw_tbl := tl_5 _ (List.mem_of_getElem? (i := 119) rfl)
theorem ct_1080 : (Jvm.Cond.selects "LostSheetsModel" ({ cls := "LostSheetsModel", name := "sheet", desc := "(II)I" } : Jvm.MethodName) ({ cls := "LostSheetsModel", name := "sheet", desc := "(II)I" } : Jvm.MethodName)) ∈ lw_tbl := tl_5 _ (List.mem_of_getElem? (i := 120) rfl)
theorem ct_1082 : (Jvm.Cond.methodLink "LostSheetsLaw" (30 : Nat) ({ cls := "LostSheetsModel", name := "put", desc := "(II)I" } : Jvm.MethodName)) ∈ lw_tbl := tl_5 _ (List.mem_of_getElem? (i := 122) rfl)
theorem ct_1083 : (Jvm.Cond.instanceMethod ({ cls := "LostSheetsModel", name := "put", desc := "(II)I" } : Jvm.MethodName)) ∈ lw_tbl := tl_5 _ (List.mem_of_getElem? (i := 123) rfl)
theorem ct_1084 : (Jvm.Cond.selects "LostSheetsModel" ({ cls := "LostSheetsModel", name := "put", desc := "(II)I" } : Jvm.MethodName) ({ cls := "LostSheetsModel", name := "put", desc := "(II)I" } : Jvm.MethodName)) ∈ lw_tbl := tl_5 _ (List.mem_of_getElem? (i := 124) rfl)
theorem ct_1086 : (Jvm.Cond.methodLink "LostSheetsLaw" (35 : Nat) ({ cls := "LostSheetsModel", name := "anew", desc := "(I)I" } : Jvm.MethodName)) ∈ lw_tbl := tl_5 _ (List.mem_of_getElem? (i := 126) rfl)
theorem ct_1087 : (Jvm.Cond.instanceMethod ({ cls := "LostSheetsModel", name := "anew", desc := "(I)I" } : Jvm.MethodName)) ∈ lw_tbl := tl_5 _ (List.mem_of_getElem? (i := 127) rfl)
theorem ct_1088 : (Jvm.Cond.selects "LostSheetsModel" ({ cls := "LostSheetsModel", name := "anew", desc := "(I)I" } : Jvm.MethodName) ({ cls := "LostSheetsModel", name := "anew", desc := "(I)I" } : Jvm.MethodName)) ∈ lw_tbl := tl_5 _ (List.mem_of_getElem? (i := 128) rfl)
theorem ct_1090 : (Jvm.Cond.methodLink "LostSheetsLaw" (39 : Nat) ({ cls := "LostSheetsModel", name := "mark", desc := "(II)I" } : Jvm.MethodName)) ∈ lw_tbl := tl_5 _ (List.mem_of_getElem? (i := 130) rfl)
theorem ct_1091 : (Jvm.Cond.instanceMethod ({ cls := "LostSheetsModel", name := "mark", desc := "(II)I" } : Jvm.MethodName)) ∈ lw_tbl := tl_5 _ (List.mem_of_getElem? (i := 131) rfl)
theorem ct_1092 : (Jvm.Cond.selects "LostSheetsModel" ({ cls := "LostSheetsModel", name := "mark", desc := "(II)I" } : Jvm.MethodName) ({ cls := "LostSheetsModel", name := "mark", desc := "(II)I" } : Jvm.MethodName)) ∈ lw_tbl := tl_5 _ (List.mem_of_getElem? (i := 132) rfl)
theorem ct_1094 : (Jvm.Cond.methodLink "LostSheetsLaw" (43 : Nat) ({ cls := "LostSheetsModel", name := "row", desc := "(III)I" } : Jvm.MethodName)) ∈ lw_tbl := tl_5 _ (List.mem_of_getElem? (i := 134) rfl)
theorem ct_1095 : (Jvm.Cond.instanceMethod ({ cls := "LostSheetsModel", name := "row", desc := "(III)I" } : Jvm.MethodName)) ∈ lw_tbl := tl_5 _ (List.mem_of_getElem? (i := 135) rfl)
theorem ct_1096 : (Jvm.Cond.selects "LostSheetsModel" ({ cls := "LostSheetsModel", name := "row", desc := "(III)I" } : Jvm.MethodName) ({ cls := "LostSheetsModel", name := "row", desc := "(III)I" } : Jvm.MethodName)) ∈ lw_tbl := tl_5 _ (List.mem_of_getElem? (i := 136) rfl)
theorem ct_1098 : (Jvm.Cond.methodLink "LostSheetsLaw" (47 : Nat) ({ cls := "LostSheetsModel", name := "feed", desc := "(I)I" } : Jvm.MethodName)) ∈ lw_tbl := tl_5 _ (List.mem_of_getElem? (i := 138) rfl)
theorem ct_1099 : (Jvm.Cond.instanceMethod ({ cls := "LostSheetsModel", name := "feed", desc := "(I)I" } : Jvm.MethodName)) ∈ lw_tbl := tl_5 _ (List.mem_of_getElem? (i := 139) rfl)
theorem ct_1100 : (Jvm.Cond.selects "LostSheetsModel" ({ cls := "LostSheetsModel", name := "feed", desc := "(I)I" } : Jvm.MethodName) ({ cls := "LostSheetsModel", name := "feed", desc := "(I)I" } : Jvm.MethodName)) ∈ lw_tbl := tl_5 _ (List.mem_of_getElem? (i := 140) rfl)
theorem ct_1102 : (Jvm.Cond.methodLink "LostSheetsLaw" (52 : Nat) ({ cls := "LostSheetsModel", name := "office", desc := "()I" } : Jvm.MethodName)) ∈ lw_tbl := tl_5 _ (List.mem_of_getElem? (i := 142) rfl)
theorem ct_1103 : (Jvm.Cond.instanceMethod ({ cls := "LostSheetsModel", name := "office", desc := "()I" } : Jvm.MethodName)) ∈ lw_tbl := tl_5 _ (List.mem_of_getElem? (i := 143) rfl)
theorem ct_1104 : (Jvm.Cond.selects "LostSheetsModel" ({ cls := "LostSheetsModel", name := "office", desc := "()I" } : Jvm.MethodName) ({ cls := "LostSheetsModel", name := "office", desc := "()I" } : Jvm.MethodName)) ∈ lw_tbl := tl_5 _ (List.mem_of_getElem? (i := 144) rfl)
theorem ct_1212 : (Jvm.Cond.methodLink "LostSheetsLaw" (56 : Nat) ({ cls := "LostSheetsModel", name := "told", desc := "(I)I" } : Jvm.MethodName)) ∈ lw_tbl := tl_6 _ (List.mem_of_getElem? (i := 12) rfl)
theorem ct_1213 : (Jvm.Cond.instanceMethod ({ cls := "LostSheetsModel", name := "told", desc := "(I)I" } : Jvm.MethodName)) ∈ lw_tbl := tl_6 _ (List.mem_of_getElem? (i := 13) rfl)
theorem ct_1214 : (Jvm.Cond.selects "LostSheetsModel" ({ cls := "LostSheetsModel", name := "told", desc := "(I)I" } : Jvm.MethodName) ({ cls := "LostSheetsModel", name := "told", desc := "(I)I" } : Jvm.MethodName)) ∈ lw_tbl := tl_6 _ (List.mem_of_getElem? (i := 14) rfl)
theorem ct_1229 : (Jvm.Cond.methodLink "LostSheetsLaw" (60 : Nat) ({ cls := "LostSheetsModel", name := "pass", desc := "(I)I" } : Jvm.MethodName)) ∈ lw_tbl := tl_6 _ (List.mem_of_getElem? (i := 29) rfl)
theorem ct_1230 : (Jvm.Cond.instanceMethod ({ cls := "LostSheetsModel", name := "pass", desc := "(I)I" } : Jvm.MethodName)) ∈ lw_tbl := tl_6 _ (List.mem_of_getElem? (i := 30) rfl)
theorem ct_1231 : (Jvm.Cond.selects "LostSheetsModel" ({ cls := "LostSheetsModel", name := "pass", desc := "(I)I" } : Jvm.MethodName) ({ cls := "LostSheetsModel", name := "pass", desc := "(I)I" } : Jvm.MethodName)) ∈ lw_tbl := tl_6 _ (List.mem_of_getElem? (i := 31) rfl)
theorem ct_1234 : (Jvm.Cond.methodLink "LostSheetsLaw" (64 : Nat) ({ cls := "LostSheetsModel", name := "on", desc := "(II)I" } : Jvm.MethodName)) ∈ lw_tbl := tl_6 _ (List.mem_of_getElem? (i := 34) rfl)
theorem ct_1235 : (Jvm.Cond.instanceMethod ({ cls := "LostSheetsModel", name := "on", desc := "(II)I" } : Jvm.MethodName)) ∈ lw_tbl := tl_6 _ (List.mem_of_getElem? (i := 35) rfl)
theorem ct_1236 : (Jvm.Cond.selects "LostSheetsModel" ({ cls := "LostSheetsModel", name := "on", desc := "(II)I" } : Jvm.MethodName) ({ cls := "LostSheetsModel", name := "on", desc := "(II)I" } : Jvm.MethodName)) ∈ lw_tbl := tl_6 _ (List.mem_of_getElem? (i := 36) rfl)
theorem ct_1242 : (Jvm.Cond.methodLink "LostSheetsLaw" (68 : Nat) ({ cls := "LostSheetsModel", name := "best", desc := "(II)I" } : Jvm.MethodName)) ∈ lw_tbl := tl_6 _ (List.mem_of_getElem? (i := 42) rfl)
theorem ct_1243 : (Jvm.Cond.instanceMethod ({ cls := "LostSheetsModel", name := "best", desc := "(II)I" } : Jvm.MethodName)) ∈ lw_tbl := tl_6 _ (List.mem_of_getElem? (i := 43) rfl)
theorem ct_1244 : (Jvm.Cond.selects "LostSheetsModel" ({ cls := "LostSheetsModel", name := "best", desc := "(II)I" } : Jvm.MethodName) ({ cls := "LostSheetsModel", name := "best", desc := "(II)I" } : Jvm.MethodName)) ∈ lw_tbl := tl_6 _ (List.mem_of_getElem? (i := 44) rfl)
theorem ct_1259 : (Jvm.Cond.methodLink "LostSheetsLaw" (72 : Nat) ({ cls := "LostSheetsModel", name := "see", desc := "(III)I" } : Jvm.MethodName)) ∈ lw_tbl := tl_6 _ (List.mem_of_getElem? (i := 59) rfl)
theorem ct_1260 : (Jvm.Cond.instanceMethod ({ cls := "LostSheetsModel", name := "see", desc := "(III)I" } : Jvm.MethodName)) ∈ lw_tbl := tl_6 _ (List.mem_of_getElem? (i := 60) rfl)
theorem ct_1261 : (Jvm.Cond.selects "LostSheetsModel" ({ cls := "LostSheetsModel", name := "see", desc := "(III)I" } : Jvm.MethodName) ({ cls := "LostSheetsModel", name := "see", desc := "(III)I" } : Jvm.MethodName)) ∈ lw_tbl := tl_6 _ (List.mem_of_getElem? (i := 61) rfl)
theorem ct_1263 : (Jvm.Cond.methodLink "LostSheetsLaw" (76 : Nat) ({ cls := "LostSheetsModel", name := "can", desc := "(II)I" } : Jvm.MethodName)) ∈ lw_tbl := tl_6 _ (List.mem_of_getElem? (i := 63) rfl)
theorem ct_1264 : (Jvm.Cond.instanceMethod ({ cls := "LostSheetsModel", name := "can", desc := "(II)I" } : Jvm.MethodName)) ∈ lw_tbl := tl_6 _ (List.mem_of_getElem? (i := 64) rfl)
theorem ct_1265 : (Jvm.Cond.selects "LostSheetsModel" ({ cls := "LostSheetsModel", name := "can", desc := "(II)I" } : Jvm.MethodName) ({ cls := "LostSheetsModel", name := "can", desc := "(II)I" } : Jvm.MethodName)) ∈ lw_tbl := tl_6 _ (List.mem_of_getElem? (i := 65) rfl)
theorem ct_1267 : (Jvm.Cond.methodLink "LostSheetsLaw" (81 : Nat) ({ cls := "LostSheetsModel", name := "odds", desc := "(III)J" } : Jvm.MethodName)) ∈ lw_tbl := tl_6 _ (List.mem_of_getElem? (i := 67) rfl)
theorem ct_1268 : (Jvm.Cond.instanceMethod ({ cls := "LostSheetsModel", name := "odds", desc := "(III)J" } : Jvm.MethodName)) ∈ lw_tbl := tl_6 _ (List.mem_of_getElem? (i := 68) rfl)
theorem ct_1269 : (Jvm.Cond.selects "LostSheetsModel" ({ cls := "LostSheetsModel", name := "odds", desc := "(III)J" } : Jvm.MethodName) ({ cls := "LostSheetsModel", name := "odds", desc := "(III)J" } : Jvm.MethodName)) ∈ lw_tbl := tl_6 _ (List.mem_of_getElem? (i := 69) rfl)
theorem ct_1279 : (Jvm.Cond.methodLink "LostSheetsLaw" (86 : Nat) ({ cls := "LostSheetsModel", name := "mean", desc := "(II)J" } : Jvm.MethodName)) ∈ lw_tbl := tl_6 _ (List.mem_of_getElem? (i := 79) rfl)
theorem ct_1280 : (Jvm.Cond.instanceMethod ({ cls := "LostSheetsModel", name := "mean", desc := "(II)J" } : Jvm.MethodName)) ∈ lw_tbl := tl_6 _ (List.mem_of_getElem? (i := 80) rfl)
theorem ct_1281 : (Jvm.Cond.selects "LostSheetsModel" ({ cls := "LostSheetsModel", name := "mean", desc := "(II)J" } : Jvm.MethodName) ({ cls := "LostSheetsModel", name := "mean", desc := "(II)J" } : Jvm.MethodName)) ∈ lw_tbl := tl_6 _ (List.mem_of_getElem? (i := 81) rfl)
theorem ct_1287 : (Jvm.Cond.methodLink "LostSheetsLaw" (90 : Nat) ({ cls := "LostSheetsModel", name := "plan", desc := "(II)I" } : Jvm.MethodName)) ∈ lw_tbl := tl_6 _ (List.mem_of_getElem? (i := 87) rfl)
theorem ct_1288 : (Jvm.Cond.instanceMethod ({ cls := "LostSheetsModel", name := "plan", desc := "(II)I" } : Jvm.MethodName)) ∈ lw_tbl := tl_6 _ (List.mem_of_getElem? (i := 88) rfl)
theorem ct_1289 : (Jvm.Cond.selects "LostSheetsModel" ({ cls := "LostSheetsModel", name := "plan", desc := "(II)I" } : Jvm.MethodName) ({ cls := "LostSheetsModel", name := "plan", desc := "(II)I" } : Jvm.MethodName)) ∈ lw_tbl := tl_6 _ (List.mem_of_getElem? (i := 89) rfl)
theorem ct_1291 : (Jvm.Cond.methodLink "LostSheetsLaw" (94 : Nat) ({ cls := "LostSheetsModel", name := "ends", desc := "(I)I" } : Jvm.MethodName)) ∈ lw_tbl := tl_6 _ (List.mem_of_getElem? (i := 91) rfl)
theorem ct_1292 : (Jvm.Cond.instanceMethod ({ cls := "LostSheetsModel", name := "ends", desc := "(I)I" } : Jvm.MethodName)) ∈ lw_tbl := tl_6 _ (List.mem_of_getElem? (i := 92) rfl)
theorem ct_1293 : (Jvm.Cond.selects "LostSheetsModel" ({ cls := "LostSheetsModel", name := "ends", desc := "(I)I" } : Jvm.MethodName) ({ cls := "LostSheetsModel", name := "ends", desc := "(I)I" } : Jvm.MethodName)) ∈ lw_tbl := tl_6 _ (List.mem_of_getElem? (i := 93) rfl)
theorem ct_1295 : (Jvm.Cond.methodLink "LostSheetsLaw" (98 : Nat) ({ cls := "LostSheetsModel", name := "book", desc := "(II)I" } : Jvm.MethodName)) ∈ lw_tbl := tl_6 _ (List.mem_of_getElem? (i := 95) rfl)
theorem ct_1296 : (Jvm.Cond.instanceMethod ({ cls := "LostSheetsModel", name := "book", desc := "(II)I" } : Jvm.MethodName)) ∈ lw_tbl := tl_6 _ (List.mem_of_getElem? (i := 96) rfl)
theorem ct_1297 : (Jvm.Cond.selects "LostSheetsModel" ({ cls := "LostSheetsModel", name := "book", desc := "(II)I" } : Jvm.MethodName) ({ cls := "LostSheetsModel", name := "book", desc := "(II)I" } : Jvm.MethodName)) ∈ lw_tbl := tl_6 _ (List.mem_of_getElem? (i := 97) rfl)
theorem ct_1299 : (Jvm.Cond.methodLink "LostSheetsLaw" (102 : Nat) ({ cls := "LostSheetsModel", name := "looked", desc := "()I" } : Jvm.MethodName)) ∈ lw_tbl := tl_6 _ (List.mem_of_getElem? (i := 99) rfl)
theorem ct_1300 : (Jvm.Cond.instanceMethod ({ cls := "LostSheetsModel", name := "looked", desc := "()I" } : Jvm.MethodName)) ∈ lw_tbl := tl_6 _ (List.mem_of_getElem? (i := 100) rfl)
theorem ct_1301 : (Jvm.Cond.selects "LostSheetsModel" ({ cls := "LostSheetsModel", name := "looked", desc := "()I" } : Jvm.MethodName) ({ cls := "LostSheetsModel", name := "looked", desc := "()I" } : Jvm.MethodName)) ∈ lw_tbl := tl_6 _ (List.mem_of_getElem? (i := 101) rfl)
theorem ct_1303 : (Jvm.Cond.methodLink "LostSheetsLaw" (106 : Nat) ({ cls := "LostSheetsModel", name := "judge", desc := "(II)I" } : Jvm.MethodName)) ∈ lw_tbl := tl_6 _ (List.mem_of_getElem? (i := 103) rfl)
theorem ct_1304 : (Jvm.Cond.instanceMethod ({ cls := "LostSheetsModel", name := "judge", desc := "(II)I" } : Jvm.MethodName)) ∈ lw_tbl := tl_6 _ (List.mem_of_getElem? (i := 104) rfl)
theorem ct_1305 : (Jvm.Cond.selects "LostSheetsModel" ({ cls := "LostSheetsModel", name := "judge", desc := "(II)I" } : Jvm.MethodName) ({ cls := "LostSheetsModel", name := "judge", desc := "(II)I" } : Jvm.MethodName)) ∈ lw_tbl := tl_6 _ (List.mem_of_getElem? (i := 105) rfl)
theorem ct_1307 : (Jvm.Cond.methodLink "LostSheetsLaw" (110 : Nat) ({ cls := "LostSheetsModel", name := "image", desc := "()I" } : Jvm.MethodName)) ∈ lw_tbl := tl_6 _ (List.mem_of_getElem? (i := 107) rfl)
theorem ct_1308 : (Jvm.Cond.instanceMethod ({ cls := "LostSheetsModel", name := "image", desc := "()I" } : Jvm.MethodName)) ∈ lw_tbl := tl_6 _ (List.mem_of_getElem? (i := 108) rfl)
theorem ct_1309 : (Jvm.Cond.selects "LostSheetsModel" ({ cls := "LostSheetsModel", name := "image", desc := "()I" } : Jvm.MethodName) ({ cls := "LostSheetsModel", name := "image", desc := "()I" } : Jvm.MethodName)) ∈ lw_tbl := tl_6 _ (List.mem_of_getElem? (i := 109) rfl)
theorem ct_1311 : (Jvm.Cond.methodLink "LostSheetsLaw" (114 : Nat) ({ cls := "LostSheetsModel", name := "undo", desc := "()I" } : Jvm.MethodName)) ∈ lw_tbl := tl_6 _ (List.mem_of_getElem? (i := 111) rfl)
theorem ct_1312 : (Jvm.Cond.instanceMethod ({ cls := "LostSheetsModel", name := "undo", desc := "()I" } : Jvm.MethodName)) ∈ lw_tbl := tl_6 _ (List.mem_of_getElem? (i := 112) rfl)
theorem ct_1313 : (Jvm.Cond.selects "LostSheetsModel" ({ cls := "LostSheetsModel", name := "undo", desc := "()I" } : Jvm.MethodName) ({ cls := "LostSheetsModel", name := "undo", desc := "()I" } : Jvm.MethodName)) ∈ lw_tbl := tl_6 _ (List.mem_of_getElem? (i := 113) rfl)
theorem ct_1315 : (Jvm.Cond.methodLink "LostSheetsLaw" (118 : Nat) ({ cls := "LostSheetsModel", name := "act", desc := "(III)I" } : Jvm.MethodName)) ∈ lw_tbl := tl_6 _ (List.mem_of_getElem? (i := 115) rfl)
theorem ct_1316 : (Jvm.Cond.instanceMethod ({ cls := "LostSheetsModel", name := "act", desc := "(III)I" } : Jvm.MethodName)) ∈ lw_tbl := tl_6 _ (List.mem_of_getElem? (i := 116) rfl)
theorem ct_1317 : (Jvm.Cond.selects "LostSheetsModel" ({ cls := "LostSheetsModel", name := "act", desc := "(III)I" } : Jvm.MethodName) ({ cls := "LostSheetsModel", name := "act", desc := "(III)I" } : Jvm.MethodName)) ∈ lw_tbl := tl_6 _ (List.mem_of_getElem? (i := 117) rfl)
theorem ct_1338 : (Jvm.Cond.methodLink "LostSheetsLaw" (122 : Nat) ({ cls := "LostSheetsModel", name := "trace", desc := "(I)I" } : Jvm.MethodName)) ∈ lw_tbl := tl_6 _ (List.mem_of_getElem? (i := 138) rfl)
theorem ct_1339 : (Jvm.Cond.instanceMethod ({ cls := "LostSheetsModel", name := "trace", desc := "(I)I" } : Jvm.MethodName)) ∈ lw_tbl := tl_6 _ (List.mem_of_getElem? (i := 139) rfl)
theorem ct_1340 : (Jvm.Cond.selects "LostSheetsModel" ({ cls := "LostSheetsModel", name := "trace", desc := "(I)I" } : Jvm.MethodName) ({ cls := "LostSheetsModel", name := "trace", desc := "(I)I" } : Jvm.MethodName)) ∈ lw_tbl := tl_6 _ (List.mem_of_getElem? (i := 140) rfl)
theorem ct_1342 : (Jvm.Cond.methodLink "LostSheetsLaw" (126 : Nat) ({ cls := "LostSheetsModel", name := "taken", desc := "(II)I" } : Jvm.MethodName)) ∈ lw_tbl := tl_6 _ (List.mem_of_getElem? (i := 142) rfl)
theorem ct_1343 : (Jvm.Cond.instanceMethod ({ cls := "LostSheetsModel", name := "taken", desc := "(II)I" } : Jvm.MethodName)) ∈ lw_tbl := tl_6 _ (List.mem_of_getElem? (i := 143) rfl)
theorem ct_1344 : (Jvm.Cond.selects "LostSheetsModel" ({ cls := "LostSheetsModel", name := "taken", desc := "(II)I" } : Jvm.MethodName) ({ cls := "LostSheetsModel", name := "taken", desc := "(II)I" } : Jvm.MethodName)) ∈ lw_tbl := tl_6 _ (List.mem_of_getElem? (i := 144) rfl)
theorem ct_1346 : (Jvm.Cond.methodLink "LostSheetsLaw" (130 : Nat) ({ cls := "LostSheetsModel", name := "count", desc := "(I)I" } : Jvm.MethodName)) ∈ lw_tbl := tl_6 _ (List.mem_of_getElem? (i := 146) rfl)
theorem ct_1347 : (Jvm.Cond.instanceMethod ({ cls := "LostSheetsModel", name := "count", desc := "(I)I" } : Jvm.MethodName)) ∈ lw_tbl := tl_6 _ (List.mem_of_getElem? (i := 147) rfl)
theorem ct_1348 : (Jvm.Cond.selects "LostSheetsModel" ({ cls := "LostSheetsModel", name := "count", desc := "(I)I" } : Jvm.MethodName) ({ cls := "LostSheetsModel", name := "count", desc := "(I)I" } : Jvm.MethodName)) ∈ lw_tbl := tl_6 _ (List.mem_of_getElem? (i := 148) rfl)
theorem ct_1350 : (Jvm.Cond.methodLink "LostSheetsLaw" (134 : Nat) ({ cls := "LostSheetsModel", name := "tape", desc := "(III)I" } : Jvm.MethodName)) ∈ lw_tbl := tl_6 _ (List.mem_of_getElem? (i := 150) rfl)
theorem ct_1351 : (Jvm.Cond.instanceMethod ({ cls := "LostSheetsModel", name := "tape", desc := "(III)I" } : Jvm.MethodName)) ∈ lw_tbl := tl_6 _ (List.mem_of_getElem? (i := 151) rfl)
theorem ct_1352 : (Jvm.Cond.selects "LostSheetsModel" ({ cls := "LostSheetsModel", name := "tape", desc := "(III)I" } : Jvm.MethodName) ({ cls := "LostSheetsModel", name := "tape", desc := "(III)I" } : Jvm.MethodName)) ∈ lw_tbl := tl_6 _ (List.mem_of_getElem? (i := 152) rfl)
theorem ct_1357 : (Jvm.Cond.methodLink "LostSheetsLaw" (141 : Nat) ({ cls := "LostSheetsModel", name := "item", desc := "(IIJ)I" } : Jvm.MethodName)) ∈ lw_tbl := tl_6 _ (List.mem_of_getElem? (i := 157) rfl)
theorem ct_1358 : (Jvm.Cond.instanceMethod ({ cls := "LostSheetsModel", name := "item", desc := "(IIJ)I" } : Jvm.MethodName)) ∈ lw_tbl := tl_6 _ (List.mem_of_getElem? (i := 158) rfl)
theorem ct_1359 : (Jvm.Cond.selects "LostSheetsModel" ({ cls := "LostSheetsModel", name := "item", desc := "(IIJ)I" } : Jvm.MethodName) ({ cls := "LostSheetsModel", name := "item", desc := "(IIJ)I" } : Jvm.MethodName)) ∈ lw_tbl := tl_6 _ (List.mem_of_getElem? (i := 159) rfl)
theorem ct_1364 : (Jvm.Cond.methodLink "LostSheetsLaw" (145 : Nat) ({ cls := "LostSheetsModel", name := "read", desc := "(II)J" } : Jvm.MethodName)) ∈ lw_tbl := tl_6 _ (List.mem_of_getElem? (i := 164) rfl)
theorem ct_1365 : (Jvm.Cond.instanceMethod ({ cls := "LostSheetsModel", name := "read", desc := "(II)J" } : Jvm.MethodName)) ∈ lw_tbl := tl_6 _ (List.mem_of_getElem? (i := 165) rfl)
theorem ct_1366 : (Jvm.Cond.selects "LostSheetsModel" ({ cls := "LostSheetsModel", name := "read", desc := "(II)J" } : Jvm.MethodName) ({ cls := "LostSheetsModel", name := "read", desc := "(II)J" } : Jvm.MethodName)) ∈ lw_tbl := tl_6 _ (List.mem_of_getElem? (i := 166) rfl)
theorem ct_1368 : (Jvm.Cond.methodLink "LostSheetsLaw" (150 : Nat) ({ cls := "LostSheetsModel", name := "shift", desc := "(IIIII)I" } : Jvm.MethodName)) ∈ lw_tbl := tl_6 _ (List.mem_of_getElem? (i := 168) rfl)
theorem ct_1369 : (Jvm.Cond.instanceMethod ({ cls := "LostSheetsModel", name := "shift", desc := "(IIIII)I" } : Jvm.MethodName)) ∈ lw_tbl := tl_6 _ (List.mem_of_getElem? (i := 169) rfl)
theorem ct_1370 : (Jvm.Cond.selects "LostSheetsModel" ({ cls := "LostSheetsModel", name := "shift", desc := "(IIIII)I" } : Jvm.MethodName) ({ cls := "LostSheetsModel", name := "shift", desc := "(IIIII)I" } : Jvm.MethodName)) ∈ lw_tbl := tl_6 _ (List.mem_of_getElem? (i := 170) rfl)
theorem ct_143 : (Jvm.Cond.fieldLink "LostSheets$ByHand" (34 : Nat) "LostSheets$Rows" "most" "I") ∈ lw_tbl := tl_1 _ (List.mem_of_getElem? (i := 143) rfl)
theorem ct_148 : (Jvm.Cond.fieldLink "LostSheets$ByHand" (37 : Nat) "LostSheets$Rows" "second" "[I") ∈ lw_tbl := tl_1 _ (List.mem_of_getElem? (i := 148) rfl)
theorem ct_153 : (Jvm.Cond.fieldLink "LostSheets$ByHand" (30 : Nat) "LostSheets$Rows" "size" "I") ∈ lw_tbl := tl_1 _ (List.mem_of_getElem? (i := 153) rfl)
theorem ct_166 : (Jvm.Cond.fieldLink "LostSheets$ByHand" (14 : Nat) "LostSheets$ByHand" "seen" "LLostSheets$Rows;") ∈ lw_tbl := tl_1 _ (List.mem_of_getElem? (i := 166) rfl)
theorem ct_168 : (Jvm.Cond.fieldLink "LostSheets$ByHand" (20 : Nat) "LostSheets$ByHand" "planned" "LLostSheets$Rows;") ∈ lw_tbl := tl_1 _ (List.mem_of_getElem? (i := 168) rfl)
theorem ct_170 : (Jvm.Cond.fieldLink "LostSheets$ByHand" (23 : Nat) "LostSheets$ByHand" "booked" "LLostSheets$Rows;") ∈ lw_tbl := tl_1 _ (List.mem_of_getElem? (i := 170) rfl)
theorem ct_40 : (Jvm.Cond.fieldLink "LostSheets$Drawer" (41 : Nat) "LostSheets$Drawer" "number" "I") ∈ lw_tbl := tl_1 _ (List.mem_of_getElem? (i := 40) rfl)
theorem ct_44 : (Jvm.Cond.fieldLink "LostSheets$Drawer" (9 : Nat) "LostSheets$Drawer" "kind" "I") ∈ lw_tbl := tl_1 _ (List.mem_of_getElem? (i := 44) rfl)
theorem ct_48 : (Jvm.Cond.fieldLink "LostSheets$Drawer" (15 : Nat) "LostSheets$Drawer" "v" "I") ∈ lw_tbl := tl_1 _ (List.mem_of_getElem? (i := 48) rfl)
theorem ct_52 : (Jvm.Cond.fieldLink "LostSheets$Drawer" (18 : Nat) "LostSheets$Drawer" "at" "I") ∈ lw_tbl := tl_1 _ (List.mem_of_getElem? (i := 52) rfl)
theorem ct_55 : (Jvm.Cond.fieldLink "LostSheets$Drawer" (21 : Nat) "LostSheets$Drawer" "rows" "I") ∈ lw_tbl := tl_1 _ (List.mem_of_getElem? (i := 55) rfl)
theorem ct_58 : (Jvm.Cond.fieldLink "LostSheets$Drawer" (24 : Nat) "LostSheets$Drawer" "drew" "I") ∈ lw_tbl := tl_1 _ (List.mem_of_getElem? (i := 58) rfl)
theorem ct_61 : (Jvm.Cond.fieldLink "LostSheets$Drawer" (27 : Nat) "LostSheets$Drawer" "done" "Z") ∈ lw_tbl := tl_1 _ (List.mem_of_getElem? (i := 61) rfl)
theorem ct_64 : (Jvm.Cond.fieldLink "LostSheets$Drawer" (31 : Nat) "LostSheets$Drawer" "sheetWays" "[I") ∈ lw_tbl := tl_1 _ (List.mem_of_getElem? (i := 64) rfl)
theorem ct_67 : (Jvm.Cond.fieldLink "LostSheets$Drawer" (35 : Nat) "LostSheets$Drawer" "sheetMarks" "[I") ∈ lw_tbl := tl_1 _ (List.mem_of_getElem? (i := 67) rfl)
theorem ct_70 : (Jvm.Cond.fieldLink "LostSheets$Drawer" (38 : Nat) "LostSheets$Drawer" "toldRow" "[I") ∈ lw_tbl := tl_1 _ (List.mem_of_getElem? (i := 70) rfl)
theorem ct_42 : (Jvm.Cond.fieldLink "LostSheets$Land" (99 : Nat) "LostSheets$Drawer" "number" "I") ∈ lw_tbl := tl_1 _ (List.mem_of_getElem? (i := 42) rfl)
theorem ct_47 : (Jvm.Cond.fieldLink "LostSheets$Land" (102 : Nat) "LostSheets$Drawer" "kind" "I") ∈ lw_tbl := tl_1 _ (List.mem_of_getElem? (i := 47) rfl)
theorem ct_51 : (Jvm.Cond.fieldLink "LostSheets$Land" (77 : Nat) "LostSheets$Drawer" "v" "I") ∈ lw_tbl := tl_1 _ (List.mem_of_getElem? (i := 51) rfl)
theorem ct_54 : (Jvm.Cond.fieldLink "LostSheets$Land" (74 : Nat) "LostSheets$Drawer" "at" "I") ∈ lw_tbl := tl_1 _ (List.mem_of_getElem? (i := 54) rfl)
theorem ct_57 : (Jvm.Cond.fieldLink "LostSheets$Land" (80 : Nat) "LostSheets$Drawer" "rows" "I") ∈ lw_tbl := tl_1 _ (List.mem_of_getElem? (i := 57) rfl)
theorem ct_60 : (Jvm.Cond.fieldLink "LostSheets$Land" (87 : Nat) "LostSheets$Drawer" "drew" "I") ∈ lw_tbl := tl_1 _ (List.mem_of_getElem? (i := 60) rfl)
theorem ct_63 : (Jvm.Cond.fieldLink "LostSheets$Land" (83 : Nat) "LostSheets$Drawer" "done" "Z") ∈ lw_tbl := tl_1 _ (List.mem_of_getElem? (i := 63) rfl)
theorem ct_66 : (Jvm.Cond.fieldLink "LostSheets$Land" (157 : Nat) "LostSheets$Drawer" "sheetWays" "[I") ∈ lw_tbl := tl_1 _ (List.mem_of_getElem? (i := 66) rfl)
theorem ct_69 : (Jvm.Cond.fieldLink "LostSheets$Land" (160 : Nat) "LostSheets$Drawer" "sheetMarks" "[I") ∈ lw_tbl := tl_1 _ (List.mem_of_getElem? (i := 69) rfl)
theorem ct_72 : (Jvm.Cond.fieldLink "LostSheets$Land" (121 : Nat) "LostSheets$Drawer" "toldRow" "[I") ∈ lw_tbl := tl_1 _ (List.mem_of_getElem? (i := 72) rfl)
theorem ct_95 : (Jvm.Cond.fieldLink "LostSheets$Land" (9 : Nat) "LostSheets$Land" "marks" "[I") ∈ lw_tbl := tl_1 _ (List.mem_of_getElem? (i := 95) rfl)
theorem ct_96 : (Jvm.Cond.fieldLink "LostSheets$Land" (15 : Nat) "LostSheets$Land" "drawn" "I") ∈ lw_tbl := tl_1 _ (List.mem_of_getElem? (i := 96) rfl)
theorem ct_98 : (Jvm.Cond.fieldLink "LostSheets$Land" (19 : Nat) "LostSheets$Land" "hour" "I") ∈ lw_tbl := tl_1 _ (List.mem_of_getElem? (i := 98) rfl)
theorem ct_100 : (Jvm.Cond.fieldLink "LostSheets$Land" (22 : Nat) "LostSheets$Land" "office" "LLostSheets$Office;") ∈ lw_tbl := tl_1 _ (List.mem_of_getElem? (i := 100) rfl)
theorem ct_102 : (Jvm.Cond.fieldLink "LostSheets$Land" (28 : Nat) "LostSheets$Land" "drawers" "[LLostSheets$Drawer;") ∈ lw_tbl := tl_1 _ (List.mem_of_getElem? (i := 102) rfl)
theorem ct_103 : (Jvm.Cond.fieldLink "LostSheets$Land" (32 : Nat) "LostSheets$Land" "drawerCount" "I") ∈ lw_tbl := tl_1 _ (List.mem_of_getElem? (i := 103) rfl)
theorem ct_105 : (Jvm.Cond.fieldLink "LostSheets$Land" (35 : Nat) "LostSheets$Land" "waysAhead" "[I") ∈ lw_tbl := tl_1 _ (List.mem_of_getElem? (i := 105) rfl)
theorem ct_106 : (Jvm.Cond.fieldLink "LostSheets$Land" (40 : Nat) "LostSheets$Land" "answers" "[I") ∈ lw_tbl := tl_1 _ (List.mem_of_getElem? (i := 106) rfl)
theorem ct_107 : (Jvm.Cond.fieldLink "LostSheets$Land" (43 : Nat) "LostSheets$Land" "atMark" "[I") ∈ lw_tbl := tl_1 _ (List.mem_of_getElem? (i := 107) rfl)
theorem ct_229 : (Jvm.Cond.fieldLink "LostSheets$Land" (96 : Nat) "LostSheets$Office" "know" "I") ∈ lw_tbl := tl_1 _ (List.mem_of_getElem? (i := 229) rfl)
theorem ct_227 : (Jvm.Cond.fieldLink "LostSheets$Office" (9 : Nat) "LostSheets$Office" "know" "I") ∈ lw_tbl := tl_1 _ (List.mem_of_getElem? (i := 227) rfl)
theorem ct_230 : (Jvm.Cond.fieldLink "LostSheets$Office" (15 : Nat) "LostSheets$Office" "steps" "[I") ∈ lw_tbl := tl_1 _ (List.mem_of_getElem? (i := 230) rfl)
theorem ct_231 : (Jvm.Cond.fieldLink "LostSheets$Office" (19 : Nat) "LostSheets$Office" "numbers" "[I") ∈ lw_tbl := tl_1 _ (List.mem_of_getElem? (i := 231) rfl)
theorem ct_232 : (Jvm.Cond.fieldLink "LostSheets$Office" (22 : Nat) "LostSheets$Office" "size" "I") ∈ lw_tbl := tl_1 _ (List.mem_of_getElem? (i := 232) rfl)
theorem ct_142 : (Jvm.Cond.fieldLink "LostSheets$Rows" (19 : Nat) "LostSheets$Rows" "most" "I") ∈ lw_tbl := tl_1 _ (List.mem_of_getElem? (i := 142) rfl)
theorem ct_145 : (Jvm.Cond.fieldLink "LostSheets$Rows" (22 : Nat) "LostSheets$Rows" "first" "[I") ∈ lw_tbl := tl_1 _ (List.mem_of_getElem? (i := 145) rfl)
theorem ct_147 : (Jvm.Cond.fieldLink "LostSheets$Rows" (26 : Nat) "LostSheets$Rows" "second" "[I") ∈ lw_tbl := tl_1 _ (List.mem_of_getElem? (i := 147) rfl)
theorem ct_150 : (Jvm.Cond.fieldLink "LostSheets$Rows" (29 : Nat) "LostSheets$Rows" "third" "[I") ∈ lw_tbl := tl_1 _ (List.mem_of_getElem? (i := 150) rfl)
theorem ct_152 : (Jvm.Cond.fieldLink "LostSheets$Rows" (7 : Nat) "LostSheets$Rows" "size" "I") ∈ lw_tbl := tl_1 _ (List.mem_of_getElem? (i := 152) rfl)
theorem ct_247 : (Jvm.Cond.fieldLink "LostSheets$Tape" (9 : Nat) "LostSheets$Tape" "sort" "I") ∈ lw_tbl := tl_2 _ (List.mem_of_getElem? (i := 7) rfl)
theorem ct_249 : (Jvm.Cond.fieldLink "LostSheets$Tape" (15 : Nat) "LostSheets$Tape" "length" "I") ∈ lw_tbl := tl_2 _ (List.mem_of_getElem? (i := 9) rfl)
theorem ct_251 : (Jvm.Cond.fieldLink "LostSheets$Tape" (18 : Nat) "LostSheets$Tape" "items" "[J") ∈ lw_tbl := tl_2 _ (List.mem_of_getElem? (i := 11) rfl)
theorem ct_185 : (Jvm.Cond.fieldLink "LostSheets$Text" (9 : Nat) "LostSheets$Text" "signs" "[B") ∈ lw_tbl := tl_1 _ (List.mem_of_getElem? (i := 185) rfl)
theorem ct_186 : (Jvm.Cond.fieldLink "LostSheets$Text" (15 : Nat) "LostSheets$Text" "size" "I") ∈ lw_tbl := tl_1 _ (List.mem_of_getElem? (i := 186) rfl)
theorem ct_188 : (Jvm.Cond.fieldLink "LostSheets$Text" (19 : Nat) "LostSheets$Text" "place" "I") ∈ lw_tbl := tl_1 _ (List.mem_of_getElem? (i := 188) rfl)
theorem ct_189 : (Jvm.Cond.fieldLink "LostSheets$Text" (22 : Nat) "LostSheets$Text" "number" "I") ∈ lw_tbl := tl_1 _ (List.mem_of_getElem? (i := 189) rfl)
theorem ct_190 : (Jvm.Cond.fieldLink "LostSheets$Text" (25 : Nat) "LostSheets$Text" "into" "LLostSheets$Office;") ∈ lw_tbl := tl_1 _ (List.mem_of_getElem? (i := 190) rfl)
theorem ct_228 : (Jvm.Cond.fieldLink "LostSheets$Text" (68 : Nat) "LostSheets$Office" "know" "I") ∈ lw_tbl := tl_1 _ (List.mem_of_getElem? (i := 228) rfl)
theorem ct_41 : (Jvm.Cond.fieldLink "LostSheets$Trace" (47 : Nat) "LostSheets$Drawer" "number" "I") ∈ lw_tbl := tl_1 _ (List.mem_of_getElem? (i := 41) rfl)
theorem ct_46 : (Jvm.Cond.fieldLink "LostSheets$Trace" (26 : Nat) "LostSheets$Drawer" "kind" "I") ∈ lw_tbl := tl_1 _ (List.mem_of_getElem? (i := 46) rfl)
theorem ct_50 : (Jvm.Cond.fieldLink "LostSheets$Trace" (50 : Nat) "LostSheets$Drawer" "v" "I") ∈ lw_tbl := tl_1 _ (List.mem_of_getElem? (i := 50) rfl)
theorem ct_211 : (Jvm.Cond.fieldLink "LostSheets$Trace" (11 : Nat) "LostSheets$Trace" "kept" "[I") ∈ lw_tbl := tl_1 _ (List.mem_of_getElem? (i := 211) rfl)
theorem ct_213 : (Jvm.Cond.fieldLink "LostSheets$Trace" (15 : Nat) "LostSheets$Trace" "ran" "I") ∈ lw_tbl := tl_1 _ (List.mem_of_getElem? (i := 213) rfl)
theorem ct_43 : (Jvm.Cond.fieldLink "LostSheets" (330 : Nat) "LostSheets$Drawer" "number" "I") ∈ lw_tbl := tl_1 _ (List.mem_of_getElem? (i := 43) rfl)
theorem ct_45 : (Jvm.Cond.fieldLink "LostSheets" (88 : Nat) "LostSheets$Drawer" "kind" "I") ∈ lw_tbl := tl_1 _ (List.mem_of_getElem? (i := 45) rfl)
theorem ct_49 : (Jvm.Cond.fieldLink "LostSheets" (93 : Nat) "LostSheets$Drawer" "v" "I") ∈ lw_tbl := tl_1 _ (List.mem_of_getElem? (i := 49) rfl)
theorem ct_53 : (Jvm.Cond.fieldLink "LostSheets" (96 : Nat) "LostSheets$Drawer" "at" "I") ∈ lw_tbl := tl_1 _ (List.mem_of_getElem? (i := 53) rfl)
theorem ct_56 : (Jvm.Cond.fieldLink "LostSheets" (99 : Nat) "LostSheets$Drawer" "rows" "I") ∈ lw_tbl := tl_1 _ (List.mem_of_getElem? (i := 56) rfl)
theorem ct_59 : (Jvm.Cond.fieldLink "LostSheets" (105 : Nat) "LostSheets$Drawer" "drew" "I") ∈ lw_tbl := tl_1 _ (List.mem_of_getElem? (i := 59) rfl)
theorem ct_62 : (Jvm.Cond.fieldLink "LostSheets" (102 : Nat) "LostSheets$Drawer" "done" "Z") ∈ lw_tbl := tl_1 _ (List.mem_of_getElem? (i := 62) rfl)
theorem ct_65 : (Jvm.Cond.fieldLink "LostSheets" (127 : Nat) "LostSheets$Drawer" "sheetWays" "[I") ∈ lw_tbl := tl_1 _ (List.mem_of_getElem? (i := 65) rfl)
theorem ct_68 : (Jvm.Cond.fieldLink "LostSheets" (131 : Nat) "LostSheets$Drawer" "sheetMarks" "[I") ∈ lw_tbl := tl_1 _ (List.mem_of_getElem? (i := 68) rfl)
theorem ct_71 : (Jvm.Cond.fieldLink "LostSheets" (145 : Nat) "LostSheets$Drawer" "toldRow" "[I") ∈ lw_tbl := tl_1 _ (List.mem_of_getElem? (i := 71) rfl)
theorem ct_97 : (Jvm.Cond.fieldLink "LostSheets" (172 : Nat) "LostSheets$Land" "drawn" "I") ∈ lw_tbl := tl_1 _ (List.mem_of_getElem? (i := 97) rfl)
theorem ct_99 : (Jvm.Cond.fieldLink "LostSheets" (165 : Nat) "LostSheets$Land" "hour" "I") ∈ lw_tbl := tl_1 _ (List.mem_of_getElem? (i := 99) rfl)
theorem ct_101 : (Jvm.Cond.fieldLink "LostSheets" (158 : Nat) "LostSheets$Land" "office" "LLostSheets$Office;") ∈ lw_tbl := tl_1 _ (List.mem_of_getElem? (i := 101) rfl)
theorem ct_104 : (Jvm.Cond.fieldLink "LostSheets" (81 : Nat) "LostSheets$Land" "drawerCount" "I") ∈ lw_tbl := tl_1 _ (List.mem_of_getElem? (i := 104) rfl)
theorem ct_144 : (Jvm.Cond.fieldLink "LostSheets" (255 : Nat) "LostSheets$Rows" "most" "I") ∈ lw_tbl := tl_1 _ (List.mem_of_getElem? (i := 144) rfl)
theorem ct_146 : (Jvm.Cond.fieldLink "LostSheets" (258 : Nat) "LostSheets$Rows" "first" "[I") ∈ lw_tbl := tl_1 _ (List.mem_of_getElem? (i := 146) rfl)
theorem ct_149 : (Jvm.Cond.fieldLink "LostSheets" (261 : Nat) "LostSheets$Rows" "second" "[I") ∈ lw_tbl := tl_1 _ (List.mem_of_getElem? (i := 149) rfl)
theorem ct_151 : (Jvm.Cond.fieldLink "LostSheets" (342 : Nat) "LostSheets$Rows" "third" "[I") ∈ lw_tbl := tl_1 _ (List.mem_of_getElem? (i := 151) rfl)
theorem ct_154 : (Jvm.Cond.fieldLink "LostSheets" (216 : Nat) "LostSheets$Rows" "size" "I") ∈ lw_tbl := tl_1 _ (List.mem_of_getElem? (i := 154) rfl)
theorem ct_167 : (Jvm.Cond.fieldLink "LostSheets" (205 : Nat) "LostSheets$ByHand" "seen" "LLostSheets$Rows;") ∈ lw_tbl := tl_1 _ (List.mem_of_getElem? (i := 167) rfl)
theorem ct_169 : (Jvm.Cond.fieldLink "LostSheets" (242 : Nat) "LostSheets$ByHand" "planned" "LLostSheets$Rows;") ∈ lw_tbl := tl_1 _ (List.mem_of_getElem? (i := 169) rfl)
theorem ct_171 : (Jvm.Cond.fieldLink "LostSheets" (252 : Nat) "LostSheets$ByHand" "booked" "LLostSheets$Rows;") ∈ lw_tbl := tl_1 _ (List.mem_of_getElem? (i := 171) rfl)
theorem ct_187 : (Jvm.Cond.fieldLink "LostSheets" (151 : Nat) "LostSheets$Text" "size" "I") ∈ lw_tbl := tl_1 _ (List.mem_of_getElem? (i := 187) rfl)
theorem ct_212 : (Jvm.Cond.fieldLink "LostSheets" (291 : Nat) "LostSheets$Trace" "kept" "[I") ∈ lw_tbl := tl_1 _ (List.mem_of_getElem? (i := 212) rfl)
theorem ct_214 : (Jvm.Cond.fieldLink "LostSheets" (288 : Nat) "LostSheets$Trace" "ran" "I") ∈ lw_tbl := tl_1 _ (List.mem_of_getElem? (i := 214) rfl)
theorem ct_248 : (Jvm.Cond.fieldLink "LostSheets" (268 : Nat) "LostSheets$Tape" "sort" "I") ∈ lw_tbl := tl_2 _ (List.mem_of_getElem? (i := 8) rfl)
theorem ct_250 : (Jvm.Cond.fieldLink "LostSheets" (271 : Nat) "LostSheets$Tape" "length" "I") ∈ lw_tbl := tl_2 _ (List.mem_of_getElem? (i := 10) rfl)
theorem ct_252 : (Jvm.Cond.fieldLink "LostSheets" (277 : Nat) "LostSheets$Tape" "items" "[J") ∈ lw_tbl := tl_2 _ (List.mem_of_getElem? (i := 12) rfl)
theorem ct_261 : (Jvm.Cond.fieldLink "LostSheets" (12 : Nat) "LostSheets" "now" "LLostSheets$Land;") ∈ lw_tbl := tl_2 _ (List.mem_of_getElem? (i := 21) rfl)
theorem ct_262 : (Jvm.Cond.fieldLink "LostSheets" (18 : Nat) "LostSheets" "imageLand" "LLostSheets$Land;") ∈ lw_tbl := tl_2 _ (List.mem_of_getElem? (i := 22) rfl)
theorem ct_263 : (Jvm.Cond.fieldLink "LostSheets" (21 : Nat) "LostSheets" "trial" "LLostSheets$Land;") ∈ lw_tbl := tl_2 _ (List.mem_of_getElem? (i := 23) rfl)
theorem ct_264 : (Jvm.Cond.fieldLink "LostSheets" (27 : Nat) "LostSheets" "byHand" "LLostSheets$ByHand;") ∈ lw_tbl := tl_2 _ (List.mem_of_getElem? (i := 24) rfl)
theorem ct_265 : (Jvm.Cond.fieldLink "LostSheets" (31 : Nat) "LostSheets" "imageByHand" "LLostSheets$ByHand;") ∈ lw_tbl := tl_2 _ (List.mem_of_getElem? (i := 25) rfl)
theorem ct_266 : (Jvm.Cond.fieldLink "LostSheets" (34 : Nat) "LostSheets" "imageTaken" "Z") ∈ lw_tbl := tl_2 _ (List.mem_of_getElem? (i := 26) rfl)
theorem ct_267 : (Jvm.Cond.fieldLink "LostSheets" (41 : Nat) "LostSheets" "text" "LLostSheets$Text;") ∈ lw_tbl := tl_2 _ (List.mem_of_getElem? (i := 27) rfl)
theorem ct_268 : (Jvm.Cond.fieldLink "LostSheets" (47 : Nat) "LostSheets" "offices" "[LLostSheets$Office;") ∈ lw_tbl := tl_2 _ (List.mem_of_getElem? (i := 28) rfl)
theorem ct_269 : (Jvm.Cond.fieldLink "LostSheets" (51 : Nat) "LostSheets" "officeCount" "I") ∈ lw_tbl := tl_2 _ (List.mem_of_getElem? (i := 29) rfl)
theorem ct_270 : (Jvm.Cond.fieldLink "LostSheets" (58 : Nat) "LostSheets" "bodies" "LLostSheets$Trace;") ∈ lw_tbl := tl_2 _ (List.mem_of_getElem? (i := 30) rfl)
theorem ct_271 : (Jvm.Cond.fieldLink "LostSheets" (64 : Nat) "LostSheets" "tapes" "[LLostSheets$Tape;") ∈ lw_tbl := tl_2 _ (List.mem_of_getElem? (i := 31) rfl)
theorem ct_853 : (Jvm.Cond.fieldLink "LostSheetsModel" (111 : Nat) "LostSheetsModel" "drawers" "I") ∈ lw_tbl := tl_4 _ (List.mem_of_getElem? (i := 133) rfl)
theorem ct_854 : (Jvm.Cond.fieldLink "LostSheetsModel" (9 : Nat) "LostSheetsModel" "kind" "[I") ∈ lw_tbl := tl_4 _ (List.mem_of_getElem? (i := 134) rfl)
theorem ct_855 : (Jvm.Cond.fieldLink "LostSheetsModel" (15 : Nat) "LostSheetsModel" "v" "[I") ∈ lw_tbl := tl_4 _ (List.mem_of_getElem? (i := 135) rfl)
theorem ct_856 : (Jvm.Cond.fieldLink "LostSheetsModel" (18 : Nat) "LostSheetsModel" "cell" "[I") ∈ lw_tbl := tl_4 _ (List.mem_of_getElem? (i := 136) rfl)
theorem ct_857 : (Jvm.Cond.fieldLink "LostSheetsModel" (21 : Nat) "LostSheetsModel" "sheeted" "[I") ∈ lw_tbl := tl_4 _ (List.mem_of_getElem? (i := 137) rfl)
theorem ct_858 : (Jvm.Cond.fieldLink "LostSheetsModel" (24 : Nat) "LostSheetsModel" "done" "[I") ∈ lw_tbl := tl_4 _ (List.mem_of_getElem? (i := 138) rfl)
theorem ct_859 : (Jvm.Cond.fieldLink "LostSheetsModel" (27 : Nat) "LostSheetsModel" "drew" "[I") ∈ lw_tbl := tl_4 _ (List.mem_of_getElem? (i := 139) rfl)
theorem ct_860 : (Jvm.Cond.fieldLink "LostSheetsModel" (30 : Nat) "LostSheetsModel" "sheets" "[I") ∈ lw_tbl := tl_4 _ (List.mem_of_getElem? (i := 140) rfl)
theorem ct_861 : (Jvm.Cond.fieldLink "LostSheetsModel" (33 : Nat) "LostSheetsModel" "rows" "[I") ∈ lw_tbl := tl_4 _ (List.mem_of_getElem? (i := 141) rfl)
theorem ct_862 : (Jvm.Cond.fieldLink "LostSheetsModel" (36 : Nat) "LostSheetsModel" "marks" "[I") ∈ lw_tbl := tl_4 _ (List.mem_of_getElem? (i := 142) rfl)
theorem ct_863 : (Jvm.Cond.fieldLink "LostSheetsModel" (240 : Nat) "LostSheetsModel" "drawn" "I") ∈ lw_tbl := tl_4 _ (List.mem_of_getElem? (i := 143) rfl)
theorem ct_864 : (Jvm.Cond.fieldLink "LostSheetsModel" (220 : Nat) "LostSheetsModel" "hour" "I") ∈ lw_tbl := tl_4 _ (List.mem_of_getElem? (i := 144) rfl)
theorem ct_865 : (Jvm.Cond.fieldLink "LostSheetsModel" (142 : Nat) "LostSheetsModel" "texted" "I") ∈ lw_tbl := tl_4 _ (List.mem_of_getElem? (i := 145) rfl)
theorem ct_866 : (Jvm.Cond.fieldLink "LostSheetsModel" (39 : Nat) "LostSheetsModel" "text" "[I") ∈ lw_tbl := tl_4 _ (List.mem_of_getElem? (i := 146) rfl)
theorem ct_867 : (Jvm.Cond.fieldLink "LostSheetsModel" (145 : Nat) "LostSheetsModel" "at" "I") ∈ lw_tbl := tl_4 _ (List.mem_of_getElem? (i := 147) rfl)
theorem ct_868 : (Jvm.Cond.fieldLink "LostSheetsModel" (148 : Nat) "LostSheetsModel" "value" "I") ∈ lw_tbl := tl_4 _ (List.mem_of_getElem? (i := 148) rfl)
theorem ct_869 : (Jvm.Cond.fieldLink "LostSheetsModel" (151 : Nat) "LostSheetsModel" "digits" "I") ∈ lw_tbl := tl_4 _ (List.mem_of_getElem? (i := 149) rfl)
theorem ct_870 : (Jvm.Cond.fieldLink "LostSheetsModel" (186 : Nat) "LostSheetsModel" "open" "I") ∈ lw_tbl := tl_4 _ (List.mem_of_getElem? (i := 150) rfl)
theorem ct_871 : (Jvm.Cond.fieldLink "LostSheetsModel" (214 : Nat) "LostSheetsModel" "offices" "I") ∈ lw_tbl := tl_4 _ (List.mem_of_getElem? (i := 151) rfl)
theorem ct_872 : (Jvm.Cond.fieldLink "LostSheetsModel" (107 : Nat) "LostSheetsModel" "holds" "I") ∈ lw_tbl := tl_4 _ (List.mem_of_getElem? (i := 152) rfl)
theorem ct_873 : (Jvm.Cond.fieldLink "LostSheetsModel" (42 : Nat) "LostSheetsModel" "clauses" "[I") ∈ lw_tbl := tl_4 _ (List.mem_of_getElem? (i := 153) rfl)
theorem ct_874 : (Jvm.Cond.fieldLink "LostSheetsModel" (45 : Nat) "LostSheetsModel" "word" "[I") ∈ lw_tbl := tl_4 _ (List.mem_of_getElem? (i := 154) rfl)
theorem ct_875 : (Jvm.Cond.fieldLink "LostSheetsModel" (48 : Nat) "LostSheetsModel" "number" "[I") ∈ lw_tbl := tl_4 _ (List.mem_of_getElem? (i := 155) rfl)
theorem ct_876 : (Jvm.Cond.fieldLink "LostSheetsModel" (51 : Nat) "LostSheetsModel" "begins" "[I") ∈ lw_tbl := tl_4 _ (List.mem_of_getElem? (i := 156) rfl)
theorem ct_877 : (Jvm.Cond.fieldLink "LostSheetsModel" (54 : Nat) "LostSheetsModel" "length" "[I") ∈ lw_tbl := tl_4 _ (List.mem_of_getElem? (i := 157) rfl)
theorem ct_878 : (Jvm.Cond.fieldLink "LostSheetsModel" (57 : Nat) "LostSheetsModel" "code" "[I") ∈ lw_tbl := tl_4 _ (List.mem_of_getElem? (i := 158) rfl)
theorem ct_879 : (Jvm.Cond.fieldLink "LostSheetsModel" (170 : Nat) "LostSheetsModel" "coded" "I") ∈ lw_tbl := tl_4 _ (List.mem_of_getElem? (i := 159) rfl)
theorem ct_880 : (Jvm.Cond.fieldLink "LostSheetsModel" (60 : Nat) "LostSheetsModel" "stack" "[Z") ∈ lw_tbl := tl_4 _ (List.mem_of_getElem? (i := 160) rfl)
theorem ct_881 : (Jvm.Cond.fieldLink "LostSheetsModel" (296 : Nat) "LostSheetsModel" "seen" "I") ∈ lw_tbl := tl_4 _ (List.mem_of_getElem? (i := 161) rfl)
theorem ct_882 : (Jvm.Cond.fieldLink "LostSheetsModel" (64 : Nat) "LostSheetsModel" "seenOf" "[I") ∈ lw_tbl := tl_4 _ (List.mem_of_getElem? (i := 162) rfl)
theorem ct_883 : (Jvm.Cond.fieldLink "LostSheetsModel" (67 : Nat) "LostSheetsModel" "seenIn" "[I") ∈ lw_tbl := tl_4 _ (List.mem_of_getElem? (i := 163) rfl)
theorem ct_884 : (Jvm.Cond.fieldLink "LostSheetsModel" (70 : Nat) "LostSheetsModel" "seenMark" "[I") ∈ lw_tbl := tl_4 _ (List.mem_of_getElem? (i := 164) rfl)
theorem ct_885 : (Jvm.Cond.fieldLink "LostSheetsModel" (317 : Nat) "LostSheetsModel" "inPlan" "I") ∈ lw_tbl := tl_4 _ (List.mem_of_getElem? (i := 165) rfl)
theorem ct_886 : (Jvm.Cond.fieldLink "LostSheetsModel" (73 : Nat) "LostSheetsModel" "goes" "[I") ∈ lw_tbl := tl_4 _ (List.mem_of_getElem? (i := 166) rfl)
theorem ct_887 : (Jvm.Cond.fieldLink "LostSheetsModel" (76 : Nat) "LostSheetsModel" "whose" "[I") ∈ lw_tbl := tl_4 _ (List.mem_of_getElem? (i := 167) rfl)
theorem ct_888 : (Jvm.Cond.fieldLink "LostSheetsModel" (320 : Nat) "LostSheetsModel" "inBook" "I") ∈ lw_tbl := tl_4 _ (List.mem_of_getElem? (i := 168) rfl)
theorem ct_889 : (Jvm.Cond.fieldLink "LostSheetsModel" (79 : Nat) "LostSheetsModel" "booked" "[I") ∈ lw_tbl := tl_4 _ (List.mem_of_getElem? (i := 169) rfl)
theorem ct_890 : (Jvm.Cond.fieldLink "LostSheetsModel" (82 : Nat) "LostSheetsModel" "bookMark" "[I") ∈ lw_tbl := tl_4 _ (List.mem_of_getElem? (i := 170) rfl)
theorem ct_891 : (Jvm.Cond.fieldLink "LostSheetsModel" (327 : Nat) "LostSheetsModel" "traced" "I") ∈ lw_tbl := tl_4 _ (List.mem_of_getElem? (i := 171) rfl)
theorem ct_892 : (Jvm.Cond.fieldLink "LostSheetsModel" (85 : Nat) "LostSheetsModel" "traces" "[I") ∈ lw_tbl := tl_4 _ (List.mem_of_getElem? (i := 172) rfl)
theorem ct_893 : (Jvm.Cond.fieldLink "LostSheetsModel" (323 : Nat) "LostSheetsModel" "imaged" "Z") ∈ lw_tbl := tl_4 _ (List.mem_of_getElem? (i := 173) rfl)
theorem ct_894 : (Jvm.Cond.fieldLink "LostSheetsModel" (88 : Nat) "LostSheetsModel" "image" "[I") ∈ lw_tbl := tl_4 _ (List.mem_of_getElem? (i := 174) rfl)
theorem ct_895 : (Jvm.Cond.fieldLink "LostSheetsModel" (91 : Nat) "LostSheetsModel" "ahead" "[I") ∈ lw_tbl := tl_4 _ (List.mem_of_getElem? (i := 175) rfl)
theorem ct_896 : (Jvm.Cond.fieldLink "LostSheetsModel" (94 : Nat) "LostSheetsModel" "ways" "[I") ∈ lw_tbl := tl_4 _ (List.mem_of_getElem? (i := 176) rfl)
theorem ct_897 : (Jvm.Cond.fieldLink "LostSheetsModel" (97 : Nat) "LostSheetsModel" "tapeSort" "[I") ∈ lw_tbl := tl_4 _ (List.mem_of_getElem? (i := 177) rfl)
theorem ct_898 : (Jvm.Cond.fieldLink "LostSheetsModel" (100 : Nat) "LostSheetsModel" "tapeSize" "[I") ∈ lw_tbl := tl_4 _ (List.mem_of_getElem? (i := 178) rfl)
theorem ct_899 : (Jvm.Cond.fieldLink "LostSheetsModel" (103 : Nat) "LostSheetsModel" "items" "[J") ∈ lw_tbl := tl_4 _ (List.mem_of_getElem? (i := 179) rfl)
theorem ct_172 : (Jvm.Cond.laysFinal "LostSheets$ByHand" "LostSheets$ByHand" "seen" "LLostSheets$Rows;") ∈ lw_tbl := tl_1 _ (List.mem_of_getElem? (i := 172) rfl)
theorem ct_174 : (Jvm.Cond.laysFinal "LostSheets$ByHand" "LostSheets$ByHand" "planned" "LLostSheets$Rows;") ∈ lw_tbl := tl_1 _ (List.mem_of_getElem? (i := 174) rfl)
theorem ct_176 : (Jvm.Cond.laysFinal "LostSheets$ByHand" "LostSheets$ByHand" "booked" "LLostSheets$Rows;") ∈ lw_tbl := tl_1 _ (List.mem_of_getElem? (i := 176) rfl)
theorem ct_128 : (Jvm.Cond.instantiable "LostSheets$ByHand" (3 : Nat)) ∈ lw_tbl := tl_1 _ (List.mem_of_getElem? (i := 128) rfl)
theorem ct_73 : (Jvm.Cond.laysFinal "LostSheets$Drawer" "LostSheets$Drawer" "number" "I") ∈ lw_tbl := tl_1 _ (List.mem_of_getElem? (i := 73) rfl)
theorem ct_75 : (Jvm.Cond.lays "LostSheets$Drawer" "LostSheets$Drawer" "kind" "I") ∈ lw_tbl := tl_1 _ (List.mem_of_getElem? (i := 75) rfl)
theorem ct_77 : (Jvm.Cond.lays "LostSheets$Drawer" "LostSheets$Drawer" "v" "I") ∈ lw_tbl := tl_1 _ (List.mem_of_getElem? (i := 77) rfl)
theorem ct_79 : (Jvm.Cond.lays "LostSheets$Drawer" "LostSheets$Drawer" "at" "I") ∈ lw_tbl := tl_1 _ (List.mem_of_getElem? (i := 79) rfl)
theorem ct_81 : (Jvm.Cond.lays "LostSheets$Drawer" "LostSheets$Drawer" "rows" "I") ∈ lw_tbl := tl_1 _ (List.mem_of_getElem? (i := 81) rfl)
theorem ct_83 : (Jvm.Cond.lays "LostSheets$Drawer" "LostSheets$Drawer" "drew" "I") ∈ lw_tbl := tl_1 _ (List.mem_of_getElem? (i := 83) rfl)
theorem ct_85 : (Jvm.Cond.lays "LostSheets$Drawer" "LostSheets$Drawer" "done" "Z") ∈ lw_tbl := tl_1 _ (List.mem_of_getElem? (i := 85) rfl)
theorem ct_87 : (Jvm.Cond.laysFinal "LostSheets$Drawer" "LostSheets$Drawer" "sheetWays" "[I") ∈ lw_tbl := tl_1 _ (List.mem_of_getElem? (i := 87) rfl)
theorem ct_89 : (Jvm.Cond.laysFinal "LostSheets$Drawer" "LostSheets$Drawer" "sheetMarks" "[I") ∈ lw_tbl := tl_1 _ (List.mem_of_getElem? (i := 89) rfl)
theorem ct_91 : (Jvm.Cond.laysFinal "LostSheets$Drawer" "LostSheets$Drawer" "toldRow" "[I") ∈ lw_tbl := tl_1 _ (List.mem_of_getElem? (i := 91) rfl)
theorem ct_35 : (Jvm.Cond.instantiable "LostSheets$Drawer" (10 : Nat)) ∈ lw_tbl := tl_1 _ (List.mem_of_getElem? (i := 35) rfl)
theorem ct_108 : (Jvm.Cond.laysFinal "LostSheets$Land" "LostSheets$Land" "marks" "[I") ∈ lw_tbl := tl_1 _ (List.mem_of_getElem? (i := 108) rfl)
theorem ct_110 : (Jvm.Cond.lays "LostSheets$Land" "LostSheets$Land" "drawn" "I") ∈ lw_tbl := tl_1 _ (List.mem_of_getElem? (i := 110) rfl)
theorem ct_112 : (Jvm.Cond.lays "LostSheets$Land" "LostSheets$Land" "hour" "I") ∈ lw_tbl := tl_1 _ (List.mem_of_getElem? (i := 112) rfl)
theorem ct_114 : (Jvm.Cond.lays "LostSheets$Land" "LostSheets$Land" "office" "LLostSheets$Office;") ∈ lw_tbl := tl_1 _ (List.mem_of_getElem? (i := 114) rfl)
theorem ct_116 : (Jvm.Cond.laysFinal "LostSheets$Land" "LostSheets$Land" "drawers" "[LLostSheets$Drawer;") ∈ lw_tbl := tl_1 _ (List.mem_of_getElem? (i := 116) rfl)
theorem ct_118 : (Jvm.Cond.lays "LostSheets$Land" "LostSheets$Land" "drawerCount" "I") ∈ lw_tbl := tl_1 _ (List.mem_of_getElem? (i := 118) rfl)
theorem ct_120 : (Jvm.Cond.laysFinal "LostSheets$Land" "LostSheets$Land" "waysAhead" "[I") ∈ lw_tbl := tl_1 _ (List.mem_of_getElem? (i := 120) rfl)
theorem ct_122 : (Jvm.Cond.laysFinal "LostSheets$Land" "LostSheets$Land" "answers" "[I") ∈ lw_tbl := tl_1 _ (List.mem_of_getElem? (i := 122) rfl)
theorem ct_124 : (Jvm.Cond.laysFinal "LostSheets$Land" "LostSheets$Land" "atMark" "[I") ∈ lw_tbl := tl_1 _ (List.mem_of_getElem? (i := 124) rfl)
theorem ct_28 : (Jvm.Cond.instantiable "LostSheets$Land" (9 : Nat)) ∈ lw_tbl := tl_1 _ (List.mem_of_getElem? (i := 28) rfl)
theorem ct_233 : (Jvm.Cond.lays "LostSheets$Office" "LostSheets$Office" "know" "I") ∈ lw_tbl := tl_1 _ (List.mem_of_getElem? (i := 233) rfl)
theorem ct_235 : (Jvm.Cond.laysFinal "LostSheets$Office" "LostSheets$Office" "steps" "[I") ∈ lw_tbl := tl_1 _ (List.mem_of_getElem? (i := 235) rfl)
theorem ct_237 : (Jvm.Cond.laysFinal "LostSheets$Office" "LostSheets$Office" "numbers" "[I") ∈ lw_tbl := tl_1 _ (List.mem_of_getElem? (i := 237) rfl)
theorem ct_239 : (Jvm.Cond.lays "LostSheets$Office" "LostSheets$Office" "size" "I") ∈ lw_tbl := tl_1 _ (List.mem_of_getElem? (i := 239) rfl)
theorem ct_222 : (Jvm.Cond.instantiable "LostSheets$Office" (4 : Nat)) ∈ lw_tbl := tl_1 _ (List.mem_of_getElem? (i := 222) rfl)
theorem ct_155 : (Jvm.Cond.laysFinal "LostSheets$Rows" "LostSheets$Rows" "most" "I") ∈ lw_tbl := tl_1 _ (List.mem_of_getElem? (i := 155) rfl)
theorem ct_157 : (Jvm.Cond.laysFinal "LostSheets$Rows" "LostSheets$Rows" "first" "[I") ∈ lw_tbl := tl_1 _ (List.mem_of_getElem? (i := 157) rfl)
theorem ct_159 : (Jvm.Cond.laysFinal "LostSheets$Rows" "LostSheets$Rows" "second" "[I") ∈ lw_tbl := tl_1 _ (List.mem_of_getElem? (i := 159) rfl)
theorem ct_161 : (Jvm.Cond.laysFinal "LostSheets$Rows" "LostSheets$Rows" "third" "[I") ∈ lw_tbl := tl_1 _ (List.mem_of_getElem? (i := 161) rfl)
theorem ct_163 : (Jvm.Cond.lays "LostSheets$Rows" "LostSheets$Rows" "size" "I") ∈ lw_tbl := tl_1 _ (List.mem_of_getElem? (i := 163) rfl)
theorem ct_134 : (Jvm.Cond.instantiable "LostSheets$Rows" (5 : Nat)) ∈ lw_tbl := tl_1 _ (List.mem_of_getElem? (i := 134) rfl)
theorem ct_253 : (Jvm.Cond.lays "LostSheets$Tape" "LostSheets$Tape" "sort" "I") ∈ lw_tbl := tl_2 _ (List.mem_of_getElem? (i := 13) rfl)
theorem ct_255 : (Jvm.Cond.lays "LostSheets$Tape" "LostSheets$Tape" "length" "I") ∈ lw_tbl := tl_2 _ (List.mem_of_getElem? (i := 15) rfl)
theorem ct_257 : (Jvm.Cond.laysFinal "LostSheets$Tape" "LostSheets$Tape" "items" "[J") ∈ lw_tbl := tl_2 _ (List.mem_of_getElem? (i := 17) rfl)
theorem ct_242 : (Jvm.Cond.instantiable "LostSheets$Tape" (3 : Nat)) ∈ lw_tbl := tl_2 _ (List.mem_of_getElem? (i := 2) rfl)
theorem ct_191 : (Jvm.Cond.laysFinal "LostSheets$Text" "LostSheets$Text" "signs" "[B") ∈ lw_tbl := tl_1 _ (List.mem_of_getElem? (i := 191) rfl)
theorem ct_193 : (Jvm.Cond.lays "LostSheets$Text" "LostSheets$Text" "size" "I") ∈ lw_tbl := tl_1 _ (List.mem_of_getElem? (i := 193) rfl)
theorem ct_195 : (Jvm.Cond.lays "LostSheets$Text" "LostSheets$Text" "place" "I") ∈ lw_tbl := tl_1 _ (List.mem_of_getElem? (i := 195) rfl)
theorem ct_197 : (Jvm.Cond.lays "LostSheets$Text" "LostSheets$Text" "number" "I") ∈ lw_tbl := tl_1 _ (List.mem_of_getElem? (i := 197) rfl)
theorem ct_199 : (Jvm.Cond.lays "LostSheets$Text" "LostSheets$Text" "into" "LLostSheets$Office;") ∈ lw_tbl := tl_1 _ (List.mem_of_getElem? (i := 199) rfl)
theorem ct_180 : (Jvm.Cond.instantiable "LostSheets$Text" (5 : Nat)) ∈ lw_tbl := tl_1 _ (List.mem_of_getElem? (i := 180) rfl)
theorem ct_215 : (Jvm.Cond.laysFinal "LostSheets$Trace" "LostSheets$Trace" "kept" "[I") ∈ lw_tbl := tl_1 _ (List.mem_of_getElem? (i := 215) rfl)
theorem ct_217 : (Jvm.Cond.lays "LostSheets$Trace" "LostSheets$Trace" "ran" "I") ∈ lw_tbl := tl_1 _ (List.mem_of_getElem? (i := 217) rfl)
theorem ct_206 : (Jvm.Cond.instantiable "LostSheets$Trace" (2 : Nat)) ∈ lw_tbl := tl_1 _ (List.mem_of_getElem? (i := 206) rfl)
theorem ct_272 : (Jvm.Cond.laysFinal "LostSheets" "LostSheets" "now" "LLostSheets$Land;") ∈ lw_tbl := tl_2 _ (List.mem_of_getElem? (i := 32) rfl)
theorem ct_274 : (Jvm.Cond.laysFinal "LostSheets" "LostSheets" "imageLand" "LLostSheets$Land;") ∈ lw_tbl := tl_2 _ (List.mem_of_getElem? (i := 34) rfl)
theorem ct_276 : (Jvm.Cond.laysFinal "LostSheets" "LostSheets" "trial" "LLostSheets$Land;") ∈ lw_tbl := tl_2 _ (List.mem_of_getElem? (i := 36) rfl)
theorem ct_278 : (Jvm.Cond.laysFinal "LostSheets" "LostSheets" "byHand" "LLostSheets$ByHand;") ∈ lw_tbl := tl_2 _ (List.mem_of_getElem? (i := 38) rfl)
theorem ct_280 : (Jvm.Cond.laysFinal "LostSheets" "LostSheets" "imageByHand" "LLostSheets$ByHand;") ∈ lw_tbl := tl_2 _ (List.mem_of_getElem? (i := 40) rfl)
theorem ct_282 : (Jvm.Cond.lays "LostSheets" "LostSheets" "imageTaken" "Z") ∈ lw_tbl := tl_2 _ (List.mem_of_getElem? (i := 42) rfl)
theorem ct_284 : (Jvm.Cond.laysFinal "LostSheets" "LostSheets" "text" "LLostSheets$Text;") ∈ lw_tbl := tl_2 _ (List.mem_of_getElem? (i := 44) rfl)
theorem ct_286 : (Jvm.Cond.laysFinal "LostSheets" "LostSheets" "offices" "[LLostSheets$Office;") ∈ lw_tbl := tl_2 _ (List.mem_of_getElem? (i := 46) rfl)
theorem ct_288 : (Jvm.Cond.lays "LostSheets" "LostSheets" "officeCount" "I") ∈ lw_tbl := tl_2 _ (List.mem_of_getElem? (i := 48) rfl)
theorem ct_290 : (Jvm.Cond.laysFinal "LostSheets" "LostSheets" "bodies" "LLostSheets$Trace;") ∈ lw_tbl := tl_2 _ (List.mem_of_getElem? (i := 50) rfl)
theorem ct_292 : (Jvm.Cond.laysFinal "LostSheets" "LostSheets" "tapes" "[LLostSheets$Tape;") ∈ lw_tbl := tl_2 _ (List.mem_of_getElem? (i := 52) rfl)
theorem ct_20 : (Jvm.Cond.instantiable "LostSheets" (11 : Nat)) ∈ lw_tbl := tl_1 _ (List.mem_of_getElem? (i := 20) rfl)
theorem ct_900 : (Jvm.Cond.lays "LostSheetsModel" "LostSheetsModel" "drawers" "I") ∈ lw_tbl := tl_4 _ (List.mem_of_getElem? (i := 180) rfl)
theorem ct_902 : (Jvm.Cond.laysFinal "LostSheetsModel" "LostSheetsModel" "kind" "[I") ∈ lw_tbl := tl_4 _ (List.mem_of_getElem? (i := 182) rfl)
theorem ct_904 : (Jvm.Cond.laysFinal "LostSheetsModel" "LostSheetsModel" "v" "[I") ∈ lw_tbl := tl_4 _ (List.mem_of_getElem? (i := 184) rfl)
theorem ct_906 : (Jvm.Cond.laysFinal "LostSheetsModel" "LostSheetsModel" "cell" "[I") ∈ lw_tbl := tl_4 _ (List.mem_of_getElem? (i := 186) rfl)
theorem ct_908 : (Jvm.Cond.laysFinal "LostSheetsModel" "LostSheetsModel" "sheeted" "[I") ∈ lw_tbl := tl_4 _ (List.mem_of_getElem? (i := 188) rfl)
theorem ct_910 : (Jvm.Cond.laysFinal "LostSheetsModel" "LostSheetsModel" "done" "[I") ∈ lw_tbl := tl_4 _ (List.mem_of_getElem? (i := 190) rfl)
theorem ct_912 : (Jvm.Cond.laysFinal "LostSheetsModel" "LostSheetsModel" "drew" "[I") ∈ lw_tbl := tl_4 _ (List.mem_of_getElem? (i := 192) rfl)
theorem ct_914 : (Jvm.Cond.laysFinal "LostSheetsModel" "LostSheetsModel" "sheets" "[I") ∈ lw_tbl := tl_4 _ (List.mem_of_getElem? (i := 194) rfl)
theorem ct_916 : (Jvm.Cond.laysFinal "LostSheetsModel" "LostSheetsModel" "rows" "[I") ∈ lw_tbl := tl_4 _ (List.mem_of_getElem? (i := 196) rfl)
theorem ct_918 : (Jvm.Cond.laysFinal "LostSheetsModel" "LostSheetsModel" "marks" "[I") ∈ lw_tbl := tl_4 _ (List.mem_of_getElem? (i := 198) rfl)
theorem ct_920 : (Jvm.Cond.lays "LostSheetsModel" "LostSheetsModel" "drawn" "I") ∈ lw_tbl := tl_4 _ (List.mem_of_getElem? (i := 200) rfl)
theorem ct_922 : (Jvm.Cond.lays "LostSheetsModel" "LostSheetsModel" "hour" "I") ∈ lw_tbl := tl_4 _ (List.mem_of_getElem? (i := 202) rfl)
theorem ct_924 : (Jvm.Cond.lays "LostSheetsModel" "LostSheetsModel" "texted" "I") ∈ lw_tbl := tl_4 _ (List.mem_of_getElem? (i := 204) rfl)
theorem ct_926 : (Jvm.Cond.laysFinal "LostSheetsModel" "LostSheetsModel" "text" "[I") ∈ lw_tbl := tl_4 _ (List.mem_of_getElem? (i := 206) rfl)
theorem ct_928 : (Jvm.Cond.lays "LostSheetsModel" "LostSheetsModel" "at" "I") ∈ lw_tbl := tl_4 _ (List.mem_of_getElem? (i := 208) rfl)
theorem ct_930 : (Jvm.Cond.lays "LostSheetsModel" "LostSheetsModel" "value" "I") ∈ lw_tbl := tl_4 _ (List.mem_of_getElem? (i := 210) rfl)
theorem ct_932 : (Jvm.Cond.lays "LostSheetsModel" "LostSheetsModel" "digits" "I") ∈ lw_tbl := tl_4 _ (List.mem_of_getElem? (i := 212) rfl)
theorem ct_934 : (Jvm.Cond.lays "LostSheetsModel" "LostSheetsModel" "open" "I") ∈ lw_tbl := tl_4 _ (List.mem_of_getElem? (i := 214) rfl)
theorem ct_936 : (Jvm.Cond.lays "LostSheetsModel" "LostSheetsModel" "offices" "I") ∈ lw_tbl := tl_4 _ (List.mem_of_getElem? (i := 216) rfl)
theorem ct_938 : (Jvm.Cond.lays "LostSheetsModel" "LostSheetsModel" "holds" "I") ∈ lw_tbl := tl_4 _ (List.mem_of_getElem? (i := 218) rfl)
theorem ct_940 : (Jvm.Cond.laysFinal "LostSheetsModel" "LostSheetsModel" "clauses" "[I") ∈ lw_tbl := tl_4 _ (List.mem_of_getElem? (i := 220) rfl)
theorem ct_942 : (Jvm.Cond.laysFinal "LostSheetsModel" "LostSheetsModel" "word" "[I") ∈ lw_tbl := tl_4 _ (List.mem_of_getElem? (i := 222) rfl)
theorem ct_944 : (Jvm.Cond.laysFinal "LostSheetsModel" "LostSheetsModel" "number" "[I") ∈ lw_tbl := tl_4 _ (List.mem_of_getElem? (i := 224) rfl)
theorem ct_946 : (Jvm.Cond.laysFinal "LostSheetsModel" "LostSheetsModel" "begins" "[I") ∈ lw_tbl := tl_4 _ (List.mem_of_getElem? (i := 226) rfl)
theorem ct_948 : (Jvm.Cond.laysFinal "LostSheetsModel" "LostSheetsModel" "length" "[I") ∈ lw_tbl := tl_4 _ (List.mem_of_getElem? (i := 228) rfl)
theorem ct_950 : (Jvm.Cond.laysFinal "LostSheetsModel" "LostSheetsModel" "code" "[I") ∈ lw_tbl := tl_4 _ (List.mem_of_getElem? (i := 230) rfl)
theorem ct_952 : (Jvm.Cond.lays "LostSheetsModel" "LostSheetsModel" "coded" "I") ∈ lw_tbl := tl_4 _ (List.mem_of_getElem? (i := 232) rfl)
theorem ct_954 : (Jvm.Cond.laysFinal "LostSheetsModel" "LostSheetsModel" "stack" "[Z") ∈ lw_tbl := tl_4 _ (List.mem_of_getElem? (i := 234) rfl)
theorem ct_956 : (Jvm.Cond.lays "LostSheetsModel" "LostSheetsModel" "seen" "I") ∈ lw_tbl := tl_4 _ (List.mem_of_getElem? (i := 236) rfl)
theorem ct_958 : (Jvm.Cond.laysFinal "LostSheetsModel" "LostSheetsModel" "seenOf" "[I") ∈ lw_tbl := tl_4 _ (List.mem_of_getElem? (i := 238) rfl)
theorem ct_960 : (Jvm.Cond.laysFinal "LostSheetsModel" "LostSheetsModel" "seenIn" "[I") ∈ lw_tbl := tl_5 _ (List.mem_of_getElem? (i := 0) rfl)
theorem ct_962 : (Jvm.Cond.laysFinal "LostSheetsModel" "LostSheetsModel" "seenMark" "[I") ∈ lw_tbl := tl_5 _ (List.mem_of_getElem? (i := 2) rfl)
theorem ct_964 : (Jvm.Cond.lays "LostSheetsModel" "LostSheetsModel" "inPlan" "I") ∈ lw_tbl := tl_5 _ (List.mem_of_getElem? (i := 4) rfl)
theorem ct_966 : (Jvm.Cond.laysFinal "LostSheetsModel" "LostSheetsModel" "goes" "[I") ∈ lw_tbl := tl_5 _ (List.mem_of_getElem? (i := 6) rfl)
theorem ct_968 : (Jvm.Cond.laysFinal "LostSheetsModel" "LostSheetsModel" "whose" "[I") ∈ lw_tbl := tl_5 _ (List.mem_of_getElem? (i := 8) rfl)
theorem ct_970 : (Jvm.Cond.lays "LostSheetsModel" "LostSheetsModel" "inBook" "I") ∈ lw_tbl := tl_5 _ (List.mem_of_getElem? (i := 10) rfl)
theorem ct_972 : (Jvm.Cond.laysFinal "LostSheetsModel" "LostSheetsModel" "booked" "[I") ∈ lw_tbl := tl_5 _ (List.mem_of_getElem? (i := 12) rfl)
theorem ct_974 : (Jvm.Cond.laysFinal "LostSheetsModel" "LostSheetsModel" "bookMark" "[I") ∈ lw_tbl := tl_5 _ (List.mem_of_getElem? (i := 14) rfl)
theorem ct_976 : (Jvm.Cond.lays "LostSheetsModel" "LostSheetsModel" "traced" "I") ∈ lw_tbl := tl_5 _ (List.mem_of_getElem? (i := 16) rfl)
theorem ct_978 : (Jvm.Cond.laysFinal "LostSheetsModel" "LostSheetsModel" "traces" "[I") ∈ lw_tbl := tl_5 _ (List.mem_of_getElem? (i := 18) rfl)
theorem ct_980 : (Jvm.Cond.lays "LostSheetsModel" "LostSheetsModel" "imaged" "Z") ∈ lw_tbl := tl_5 _ (List.mem_of_getElem? (i := 20) rfl)
theorem ct_982 : (Jvm.Cond.laysFinal "LostSheetsModel" "LostSheetsModel" "image" "[I") ∈ lw_tbl := tl_5 _ (List.mem_of_getElem? (i := 22) rfl)
theorem ct_984 : (Jvm.Cond.laysFinal "LostSheetsModel" "LostSheetsModel" "ahead" "[I") ∈ lw_tbl := tl_5 _ (List.mem_of_getElem? (i := 24) rfl)
theorem ct_986 : (Jvm.Cond.laysFinal "LostSheetsModel" "LostSheetsModel" "ways" "[I") ∈ lw_tbl := tl_5 _ (List.mem_of_getElem? (i := 26) rfl)
theorem ct_988 : (Jvm.Cond.laysFinal "LostSheetsModel" "LostSheetsModel" "tapeSort" "[I") ∈ lw_tbl := tl_5 _ (List.mem_of_getElem? (i := 28) rfl)
theorem ct_990 : (Jvm.Cond.laysFinal "LostSheetsModel" "LostSheetsModel" "tapeSize" "[I") ∈ lw_tbl := tl_5 _ (List.mem_of_getElem? (i := 30) rfl)
theorem ct_992 : (Jvm.Cond.laysFinal "LostSheetsModel" "LostSheetsModel" "items" "[J") ∈ lw_tbl := tl_5 _ (List.mem_of_getElem? (i := 32) rfl)
theorem ct_848 : (Jvm.Cond.instantiable "LostSheetsModel" (47 : Nat)) ∈ lw_tbl := tl_4 _ (List.mem_of_getElem? (i := 128) rfl)
theorem ct_19 : (Jvm.Cond.classLink "LostSheetsLaw" (7 : Nat) "LostSheets") ∈ lw_tbl := tl_1 _ (List.mem_of_getElem? (i := 19) rfl)
theorem ct_847 : (Jvm.Cond.classLink "LostSheetsLaw" (10 : Nat) "LostSheetsModel") ∈ lw_tbl := tl_4 _ (List.mem_of_getElem? (i := 127) rfl)
theorem ct_27 : (Jvm.Cond.classLink "LostSheets" (9 : Nat) "LostSheets$Land") ∈ lw_tbl := tl_1 _ (List.mem_of_getElem? (i := 27) rfl)
theorem ct_127 : (Jvm.Cond.classLink "LostSheets" (24 : Nat) "LostSheets$ByHand") ∈ lw_tbl := tl_1 _ (List.mem_of_getElem? (i := 127) rfl)
theorem ct_179 : (Jvm.Cond.classLink "LostSheets" (38 : Nat) "LostSheets$Text") ∈ lw_tbl := tl_1 _ (List.mem_of_getElem? (i := 179) rfl)
theorem ct_203 : (Jvm.Cond.classLink "LostSheets" (45 : Nat) "LostSheets$Office") ∈ lw_tbl := tl_1 _ (List.mem_of_getElem? (i := 203) rfl)
theorem ct_205 : (Jvm.Cond.classLink "LostSheets" (55 : Nat) "LostSheets$Trace") ∈ lw_tbl := tl_1 _ (List.mem_of_getElem? (i := 205) rfl)
theorem ct_220 : (Jvm.Cond.classLink "LostSheets" (62 : Nat) "LostSheets$Tape") ∈ lw_tbl := tl_1 _ (List.mem_of_getElem? (i := 220) rfl)
theorem ct_33 : (Jvm.Cond.classLink "LostSheets$Land" (26 : Nat) "LostSheets$Drawer") ∈ lw_tbl := tl_1 _ (List.mem_of_getElem? (i := 33) rfl)
theorem ct_133 : (Jvm.Cond.classLink "LostSheets$ByHand" (9 : Nat) "LostSheets$Rows") ∈ lw_tbl := tl_1 _ (List.mem_of_getElem? (i := 133) rfl)
theorem ct_1373 : (Jvm.Cond.fieldLink "java/lang/String" (9 : Nat) "java/lang/String" "value" "[B") ∈ lw_tbl := tl_6 _ (List.mem_of_getElem? (i := 173) rfl)
theorem ct_1374 : (Jvm.Cond.fieldLink "java/lang/String" (15 : Nat) "java/lang/String" "coder" "B") ∈ lw_tbl := tl_6 _ (List.mem_of_getElem? (i := 174) rfl)
theorem ct_524 : (Jvm.Cond.fieldLink "java/lang/String" (38 : Nat) "java/lang/String" "COMPACT_STRINGS" "Z") ∈ lw_tbl := tl_3 _ (List.mem_of_getElem? (i := 44) rfl)
theorem ct_540 : (Jvm.Cond.fieldLink "java/lang/String" (1053 : Nat) "jdk/internal/util/Preconditions" "SIOOBE_FORMATTER" "Ljava/util/function/BiFunction;") ∈ lw_tbl := tl_3 _ (List.mem_of_getElem? (i := 60) rfl)
theorem ct_787 : (Jvm.Cond.fieldLink "LostSheets$Trace" (19 : Nat) "LostSheets$Trace" "BODIES" "[I") ∈ lw_tbl := tl_4 _ (List.mem_of_getElem? (i := 67) rfl)
theorem ct_792 : (Jvm.Cond.fieldLink "LostSheets" (313 : Nat) "LostSheets" "ABOVE" "[I") ∈ lw_tbl := tl_4 _ (List.mem_of_getElem? (i := 72) rfl)
theorem ct_509 : (Jvm.Cond.stringRef "LostSheets$Text" (55 : Nat) "turn ") ∈ lw_tbl := tl_3 _ (List.mem_of_getElem? (i := 29) rfl)
theorem ct_510 : (Jvm.Cond.stringRef "LostSheets$Text" (57 : Nat) "back ") ∈ lw_tbl := tl_3 _ (List.mem_of_getElem? (i := 30) rfl)
theorem ct_511 : (Jvm.Cond.stringRef "LostSheets$Text" (59 : Nat) "know ") ∈ lw_tbl := tl_3 _ (List.mem_of_getElem? (i := 31) rfl)
theorem ct_588 : (Jvm.Cond.stringRef "LostSheets$Text" (93 : Nat) "pkvmsh") ∈ lw_tbl := tl_3 _ (List.mem_of_getElem? (i := 108) rfl)
theorem ct_592 : (Jvm.Cond.stringRef "LostSheets$Text" (99 : Nat) "<=>") ∈ lw_tbl := tl_3 _ (List.mem_of_getElem? (i := 112) rfl)
theorem ct_622 : (Jvm.Cond.constant "LostSheets" (322 : Nat) (65535 : Int32)) ∈ lw_tbl := tl_3 _ (List.mem_of_getElem? (i := 142) rfl)
theorem ct_695 : (Jvm.Cond.constantLong "LostSheets" (228 : Nat) (-9223372036854775808 : Int64)) ∈ lw_tbl := tl_3 _ (List.mem_of_getElem? (i := 215) rfl)
theorem ct_696 : (Jvm.Cond.constantLong "LostSheets" (233 : Nat) (16 : Int64)) ∈ lw_tbl := tl_3 _ (List.mem_of_getElem? (i := 216) rfl)
theorem ct_653 : (Jvm.Cond.constant "java/lang/Integer" (265 : Nat) (1431655765 : Int32)) ∈ lw_tbl := tl_3 _ (List.mem_of_getElem? (i := 173) rfl)
theorem ct_654 : (Jvm.Cond.constant "java/lang/Integer" (266 : Nat) (858993459 : Int32)) ∈ lw_tbl := tl_3 _ (List.mem_of_getElem? (i := 174) rfl)
theorem ct_655 : (Jvm.Cond.constant "java/lang/Integer" (267 : Nat) (252645135 : Int32)) ∈ lw_tbl := tl_3 _ (List.mem_of_getElem? (i := 175) rfl)
theorem ct_1110 : (Jvm.Cond.stringRef "LostSheetsModel" (204 : Nat) "turn ") ∈ lw_tbl := tl_5 _ (List.mem_of_getElem? (i := 150) rfl)
theorem ct_1121 : (Jvm.Cond.stringRef "LostSheetsModel" (210 : Nat) "back ") ∈ lw_tbl := tl_5 _ (List.mem_of_getElem? (i := 161) rfl)
theorem ct_1122 : (Jvm.Cond.stringRef "LostSheetsModel" (212 : Nat) "know ") ∈ lw_tbl := tl_5 _ (List.mem_of_getElem? (i := 162) rfl)
theorem ct_1155 : (Jvm.Cond.stringRef "LostSheetsModel" (173 : Nat) "pkvmsh") ∈ lw_tbl := tl_5 _ (List.mem_of_getElem? (i := 195) rfl)
theorem ct_1211 : (Jvm.Cond.stringRef "LostSheetsModel" (178 : Nat) "<=>") ∈ lw_tbl := tl_6 _ (List.mem_of_getElem? (i := 11) rfl)
theorem ct_1228 : (Jvm.Cond.constant "LostSheetsModel" (257 : Nat) (65535 : Int32)) ∈ lw_tbl := tl_6 _ (List.mem_of_getElem? (i := 28) rfl)
theorem ct_1271 : (Jvm.Cond.constantLong "LostSheetsModel" (306 : Nat) (-9223372036854775808 : Int64)) ∈ lw_tbl := tl_6 _ (List.mem_of_getElem? (i := 71) rfl)
theorem ct_1272 : (Jvm.Cond.constantLong "LostSheetsModel" (308 : Nat) (16 : Int64)) ∈ lw_tbl := tl_6 _ (List.mem_of_getElem? (i := 72) rfl)
theorem ct_1372 : (Jvm.Cond.constantLong "LostSheetsLaw" (135 : Nat) (4294967295 : Int64)) ∈ lw_tbl := tl_6 _ (List.mem_of_getElem? (i := 172) rfl)
theorem ct_394 : (Jvm.Cond.native ({ cls := "java/lang/System", name := "arraycopy", desc := "(Ljava/lang/Object;ILjava/lang/Object;II)V" } : Jvm.MethodName)) ∈ lw_tbl := tl_2 _ (List.mem_of_getElem? (i := 154) rfl)
theorem ct_393 : (Jvm.Cond.static ({ cls := "java/lang/System", name := "arraycopy", desc := "(Ljava/lang/Object;ILjava/lang/Object;II)V" } : Jvm.MethodName)) ∈ lw_tbl := tl_2 _ (List.mem_of_getElem? (i := 153) rfl)
theorem ct_12 : (Jvm.Cond.initialized "java/lang/System") ∈ lw_tbl := tl_1 _ (List.mem_of_getElem? (i := 12) rfl)
theorem ct_25 : (Jvm.Cond.instanceMethod ({ cls := "java/lang/Object", name := "<init>", desc := "()V" } : Jvm.MethodName)) ∈ lw_tbl := tl_1 _ (List.mem_of_getElem? (i := 25) rfl)
theorem ct_26 : (Jvm.Cond.code ({ cls := "java/lang/Object", name := "<init>", desc := "()V" } : Jvm.MethodName) object_method_1_code (1 : Nat) (Option.none : Option FieldType)) ∈ lw_tbl := tl_1 _ (List.mem_of_getElem? (i := 26) rfl)
theorem ct_34 : (Jvm.Cond.arrayOver (FieldType.object "LostSheets$Drawer")) ∈ lw_tbl := tl_1 _ (List.mem_of_getElem? (i := 34) rfl)
theorem ct_94 : (Jvm.Cond.arrayClass FieldType.int) ∈ lw_tbl := tl_1 _ (List.mem_of_getElem? (i := 94) rfl)
theorem ct_202 : (Jvm.Cond.arrayClass FieldType.byte) ∈ lw_tbl := tl_1 _ (List.mem_of_getElem? (i := 202) rfl)
theorem ct_204 : (Jvm.Cond.arrayOver (FieldType.object "LostSheets$Office")) ∈ lw_tbl := tl_1 _ (List.mem_of_getElem? (i := 204) rfl)
theorem ct_221 : (Jvm.Cond.arrayOver (FieldType.object "LostSheets$Tape")) ∈ lw_tbl := tl_1 _ (List.mem_of_getElem? (i := 221) rfl)
theorem ct_260 : (Jvm.Cond.arrayClass FieldType.long) ∈ lw_tbl := tl_2 _ (List.mem_of_getElem? (i := 20) rfl)
theorem ct_525 : (Jvm.Cond.laysStatic "java/lang/String" "COMPACT_STRINGS" "Z") ∈ lw_tbl := tl_3 _ (List.mem_of_getElem? (i := 45) rfl)
theorem ct_541 : (Jvm.Cond.laysStatic "jdk/internal/util/Preconditions" "SIOOBE_FORMATTER" "Ljava/util/function/BiFunction;") ∈ lw_tbl := tl_3 _ (List.mem_of_getElem? (i := 61) rfl)
theorem ct_788 : (Jvm.Cond.laysStatic "LostSheets$Trace" "BODIES" "[I") ∈ lw_tbl := tl_4 _ (List.mem_of_getElem? (i := 68) rfl)
theorem ct_793 : (Jvm.Cond.laysStatic "LostSheets" "ABOVE" "[I") ∈ lw_tbl := tl_4 _ (List.mem_of_getElem? (i := 73) rfl)
theorem ct_995 : (Jvm.Cond.arrayClass FieldType.boolean) ∈ lw_tbl := tl_5 _ (List.mem_of_getElem? (i := 35) rfl)
def am_tok (t : MethodName × (ByteArray × am_M)) : Prop := (∀ q ∈ t.2.2.2.2.2.2, decode t.2.1 q.1 = .ok q.2 ∧ am_il q.2.1 q.2.2 = true) ∧ Cond.code t.1 t.2.1 t.2.2.2.2.1 t.2.2.2.1 ∈ lw_tbl ∧ t.1.cls = am_cn t.2.2.1 ∧ plainFor t.1 = true ∧ Cond.initialized t.1.cls ∈ lw_tbl ∧ (t.2.2.2.2.2.1 = true → t.1.name = "<init>") ∧ t.2.2.2.2.1 ≤ 12 ∧ t.2.2.1 < 16
theorem tk_k_init : am_tok (⟨"LostSheets", "<init>", "()V"⟩, prog_1_method_1_code, k_init) := ⟨List.forall_mem_append.mpr ⟨am_dk dk_k_init_0, am_dk dk_k_init_1⟩, ct_23, rfl, by decide +kernel, ct_1, fun _ => rfl, by decide +kernel, by decide +kernel⟩
theorem tk_la_init : am_tok (⟨"LostSheets$Land", "<init>", "()V"⟩, prog_4_method_1_code, la_init) := ⟨List.forall_mem_append.mpr ⟨am_dk dk_la_init_0, am_dk dk_la_init_1⟩, ct_31, rfl, by decide +kernel, ct_2, fun _ => rfl, by decide +kernel, by decide +kernel⟩
theorem tk_dr_init : am_tok (⟨"LostSheets$Drawer", "<init>", "(I)V"⟩, prog_3_method_1_code, dr_init) := ⟨am_dk dk_dr_init_0, ct_38, rfl, by decide +kernel, ct_3, fun _ => rfl, by decide +kernel, by decide +kernel⟩
theorem tk_bh_init : am_tok (⟨"LostSheets$ByHand", "<init>", "()V"⟩, prog_2_method_1_code, bh_init) := ⟨am_dk dk_bh_init_0, ct_131, rfl, by decide +kernel, ct_4, fun _ => rfl, by decide +kernel, by decide +kernel⟩
theorem tk_ro_init : am_tok (⟨"LostSheets$Rows", "<init>", "(I)V"⟩, prog_6_method_1_code, ro_init) := ⟨am_dk dk_ro_init_0, ct_137, rfl, by decide +kernel, ct_5, fun _ => rfl, by decide +kernel, by decide +kernel⟩
theorem tk_jm_max : am_tok (⟨"java/lang/Math", "max", "(II)I"⟩, prog_14_method_65_code, jm_max) := ⟨am_dk dk_jm_max_0, ct_141, rfl, by decide +kernel, ct_6, fun h => absurd h (by decide +kernel), by decide +kernel, by decide +kernel⟩
theorem tk_tx_init : am_tok (⟨"LostSheets$Text", "<init>", "()V"⟩, prog_8_method_1_code, tx_init) := ⟨am_dk dk_tx_init_0, ct_183, rfl, by decide +kernel, ct_7, fun _ => rfl, by decide +kernel, by decide +kernel⟩
theorem tk_tr_init : am_tok (⟨"LostSheets$Trace", "<init>", "()V"⟩, prog_9_method_1_code, tr_init) := ⟨am_dk dk_tr_init_0, ct_209, rfl, by decide +kernel, ct_8, fun _ => rfl, by decide +kernel, by decide +kernel⟩
theorem tk_of_init : am_tok (⟨"LostSheets$Office", "<init>", "()V"⟩, prog_5_method_1_code, of_init) := ⟨am_dk dk_of_init_0, ct_225, rfl, by decide +kernel, ct_9, fun _ => rfl, by decide +kernel, by decide +kernel⟩
theorem tk_tp_init : am_tok (⟨"LostSheets$Tape", "<init>", "()V"⟩, prog_7_method_1_code, tp_init) := ⟨am_dk dk_tp_init_0, ct_245, rfl, by decide +kernel, ct_10, fun _ => rfl, by decide +kernel, by decide +kernel⟩
theorem tk_k_drawer : am_tok (⟨"LostSheets", "drawer", "(III)I"⟩, prog_1_method_2_code, k_drawer) := ⟨am_dk dk_k_drawer_0, ct_298, rfl, by decide +kernel, ct_1, fun h => absurd h (by decide +kernel), by decide +kernel, by decide +kernel⟩
theorem tk_k_isCell : am_tok (⟨"LostSheets", "isCell", "(I)Z"⟩, prog_1_method_34_code, k_isCell) := ⟨am_dk dk_k_isCell_0, ct_301, rfl, by decide +kernel, ct_1, fun h => absurd h (by decide +kernel), by decide +kernel, by decide +kernel⟩
theorem tk_k_isDigit : am_tok (⟨"LostSheets", "isDigit", "(I)Z"⟩, prog_1_method_36_code, k_isDigit) := ⟨am_dk dk_k_isDigit_0, ct_304, rfl, by decide +kernel, ct_1, fun h => absurd h (by decide +kernel), by decide +kernel, by decide +kernel⟩
theorem tk_la_addDrawer : am_tok (⟨"LostSheets$Land", "addDrawer", "(III)Z"⟩, prog_4_method_4_code, la_addDrawer) := ⟨am_dk dk_la_addDrawer_0, ct_308, rfl, by decide +kernel, ct_2, fun h => absurd h (by decide +kernel), by decide +kernel, by decide +kernel⟩
theorem tk_dr_begins : am_tok (⟨"LostSheets$Drawer", "begins", "(III)V"⟩, prog_3_method_2_code, dr_begins) := ⟨am_dk dk_dr_begins_0, ct_312, rfl, by decide +kernel, ct_3, fun h => absurd h (by decide +kernel), by decide +kernel, by decide +kernel⟩
theorem tk_k_of : am_tok (⟨"LostSheets", "of", "(II)I"⟩, prog_1_method_3_code, k_of) := ⟨List.forall_mem_append.mpr ⟨am_dk dk_k_of_0, am_dk dk_k_of_1⟩, ct_316, rfl, by decide +kernel, ct_1, fun h => absurd h (by decide +kernel), by decide +kernel, by decide +kernel⟩
theorem tk_la_drawerAt : am_tok (⟨"LostSheets$Land", "drawerAt", "(I)LLostSheets$Drawer;"⟩, prog_4_method_3_code, la_drawerAt) := ⟨am_dk dk_la_drawerAt_0, ct_320, rfl, by decide +kernel, ct_2, fun h => absurd h (by decide +kernel), by decide +kernel, by decide +kernel⟩
theorem tk_la_feelOf : am_tok (⟨"LostSheets$Land", "feelOf", "(LLostSheets$Drawer;)I"⟩, prog_4_method_19_code, la_feelOf) := ⟨List.forall_mem_append.mpr ⟨am_dk dk_la_feelOf_0, am_dk dk_la_feelOf_1⟩, ct_324, rfl, by decide +kernel, ct_2, fun h => absurd h (by decide +kernel), by decide +kernel, by decide +kernel⟩
theorem tk_la_answersOf : am_tok (⟨"LostSheets$Land", "answersOf", "(LLostSheets$Drawer;)[I"⟩, prog_4_method_17_code, la_answersOf) := ⟨am_dk dk_la_answersOf_0, ct_328, rfl, by decide +kernel, ct_2, fun h => absurd h (by decide +kernel), by decide +kernel, by decide +kernel⟩
theorem tk_la_markAt : am_tok (⟨"LostSheets$Land", "markAt", "(I)I"⟩, prog_4_method_5_code, la_markAt) := ⟨am_dk dk_la_markAt_0, ct_332, rfl, by decide +kernel, ct_2, fun h => absurd h (by decide +kernel), by decide +kernel, by decide +kernel⟩
theorem tk_of_turnsBy : am_tok (⟨"LostSheets$Office", "turnsBy", "([I)I"⟩, prog_5_method_4_code, of_turnsBy) := ⟨List.forall_mem_append.mpr ⟨am_dk dk_of_turnsBy_0, am_dk dk_of_turnsBy_1⟩, ct_336, rfl, by decide +kernel, ct_9, fun h => absurd h (by decide +kernel), by decide +kernel, by decide +kernel⟩
theorem tk_of_holds : am_tok (⟨"LostSheets$Office", "holds", "([III)I"⟩, prog_5_method_5_code, of_holds) := ⟨am_dk dk_of_holds_0, ct_339, rfl, by decide +kernel, ct_9, fun h => absurd h (by decide +kernel), by decide +kernel, by decide +kernel⟩
theorem tk_la_othersWith : am_tok (⟨"LostSheets$Land", "othersWith", "(LLostSheets$Drawer;)I"⟩, prog_4_method_18_code, la_othersWith) := ⟨am_dk dk_la_othersWith_0, ct_343, rfl, by decide +kernel, ct_2, fun h => absurd h (by decide +kernel), by decide +kernel, by decide +kernel⟩
theorem tk_jm_floorMod : am_tok (⟨"java/lang/Math", "floorMod", "(II)I"⟩, prog_14_method_50_code, jm_floorMod) := ⟨am_dk dk_jm_floorMod_0, ct_346, rfl, by decide +kernel, ct_6, fun h => absurd h (by decide +kernel), by decide +kernel, by decide +kernel⟩
theorem tk_la_wayOf : am_tok (⟨"LostSheets$Land", "wayOf", "(LLostSheets$Drawer;)I"⟩, prog_4_method_20_code, la_wayOf) := ⟨am_dk dk_la_wayOf_0, ct_350, rfl, by decide +kernel, ct_2, fun h => absurd h (by decide +kernel), by decide +kernel, by decide +kernel⟩
theorem tk_la_cameOf : am_tok (⟨"LostSheets$Land", "cameOf", "(LLostSheets$Drawer;)I"⟩, prog_4_method_27_code, la_cameOf) := ⟨am_dk dk_la_cameOf_0, ct_355, rfl, by decide +kernel, ct_2, fun h => absurd h (by decide +kernel), by decide +kernel, by decide +kernel⟩
theorem tk_la_endBySheet : am_tok (⟨"LostSheets$Land", "endBySheet", "(LLostSheets$Drawer;I)I"⟩, prog_4_method_26_code, la_endBySheet) := ⟨am_dk dk_la_endBySheet_0, ct_359, rfl, by decide +kernel, ct_2, fun h => absurd h (by decide +kernel), by decide +kernel, by decide +kernel⟩
theorem tk_la_stepFrom : am_tok (⟨"LostSheets$Land", "stepFrom", "(II)I"⟩, prog_4_method_25_code, la_stepFrom) := ⟨am_dk dk_la_stepFrom_0, ct_362, rfl, by decide +kernel, ct_2, fun h => absurd h (by decide +kernel), by decide +kernel, by decide +kernel⟩
theorem tk_la_hereOf : am_tok (⟨"LostSheets$Land", "hereOf", "(LLostSheets$Drawer;)I"⟩, prog_4_method_28_code, la_hereOf) := ⟨am_dk dk_la_hereOf_0, ct_366, rfl, by decide +kernel, ct_2, fun h => absurd h (by decide +kernel), by decide +kernel, by decide +kernel⟩
theorem tk_la_lookOf : am_tok (⟨"LostSheets$Land", "lookOf", "(LLostSheets$Drawer;)I"⟩, prog_4_method_29_code, la_lookOf) := ⟨am_dk dk_la_lookOf_0, ct_370, rfl, by decide +kernel, ct_2, fun h => absurd h (by decide +kernel), by decide +kernel, by decide +kernel⟩
theorem tk_la_mostAtOneMark : am_tok (⟨"LostSheets$Land", "mostAtOneMark", "(II)I"⟩, prog_4_method_30_code, la_mostAtOneMark) := ⟨am_dk dk_la_mostAtOneMark_0, ct_375, rfl, by decide +kernel, ct_2, fun h => absurd h (by decide +kernel), by decide +kernel, by decide +kernel⟩
theorem tk_k_isMark : am_tok (⟨"LostSheets", "isMark", "(I)Z"⟩, prog_1_method_35_code, k_isMark) := ⟨am_dk dk_k_isMark_0, ct_378, rfl, by decide +kernel, ct_1, fun h => absurd h (by decide +kernel), by decide +kernel, by decide +kernel⟩
theorem tk_k_placesOf : am_tok (⟨"LostSheets", "placesOf", "(LLostSheets$Drawer;)I"⟩, prog_1_method_47_code, k_placesOf) := ⟨am_dk dk_k_placesOf_0, ct_383, rfl, by decide +kernel, ct_1, fun h => absurd h (by decide +kernel), by decide +kernel, by decide +kernel⟩
theorem tk_k_tryAt : am_tok (⟨"LostSheets", "tryAt", "(II)V"⟩, prog_1_method_42_code, k_tryAt) := ⟨am_dk dk_k_tryAt_0, ct_387, rfl, by decide +kernel, ct_1, fun h => absurd h (by decide +kernel), by decide +kernel, by decide +kernel⟩
theorem tk_la_copyFrom : am_tok (⟨"LostSheets$Land", "copyFrom", "(LLostSheets$Land;)V"⟩, prog_4_method_2_code, la_copyFrom) := ⟨am_dk dk_la_copyFrom_0, ct_391, rfl, by decide +kernel, ct_2, fun h => absurd h (by decide +kernel), by decide +kernel, by decide +kernel⟩
theorem tk_dr_copyFrom : am_tok (⟨"LostSheets$Drawer", "copyFrom", "(LLostSheets$Drawer;)V"⟩, prog_3_method_3_code, dr_copyFrom) := ⟨am_dk dk_dr_copyFrom_0, ct_398, rfl, by decide +kernel, ct_3, fun h => absurd h (by decide +kernel), by decide +kernel, by decide +kernel⟩
theorem tk_la_putAt : am_tok (⟨"LostSheets$Land", "putAt", "(II)V"⟩, prog_4_method_8_code, la_putAt) := ⟨am_dk dk_la_putAt_0, ct_403, rfl, by decide +kernel, ct_2, fun h => absurd h (by decide +kernel), by decide +kernel, by decide +kernel⟩
theorem tk_k_seenIsSo : am_tok (⟨"LostSheets", "seenIsSo", "()Z"⟩, prog_1_method_50_code, k_seenIsSo) := ⟨am_dk dk_k_seenIsSo_0, ct_409, rfl, by decide +kernel, ct_1, fun h => absurd h (by decide +kernel), by decide +kernel, by decide +kernel⟩
theorem tk_bh_lastHourSeen : am_tok (⟨"LostSheets$ByHand", "lastHourSeen", "()I"⟩, prog_2_method_3_code, bh_lastHourSeen) := ⟨am_dk dk_bh_lastHourSeen_0, ct_413, rfl, by decide +kernel, ct_4, fun h => absurd h (by decide +kernel), by decide +kernel, by decide +kernel⟩
theorem tk_k_seenIsSoIn : am_tok (⟨"LostSheets", "seenIsSoIn", "(I)Z"⟩, prog_1_method_51_code, k_seenIsSoIn) := ⟨am_dk dk_k_seenIsSoIn_0, ct_418, rfl, by decide +kernel, ct_1, fun h => absurd h (by decide +kernel), by decide +kernel, by decide +kernel⟩
theorem tk_la_whereIs : am_tok (⟨"LostSheets$Land", "whereIs", "(I)I"⟩, prog_4_method_7_code, la_whereIs) := ⟨am_dk dk_la_whereIs_0, ct_422, rfl, by decide +kernel, ct_2, fun h => absurd h (by decide +kernel), by decide +kernel, by decide +kernel⟩
theorem tk_la_hoursGo : am_tok (⟨"LostSheets$Land", "hoursGo", "(I)V"⟩, prog_4_method_23_code, la_hoursGo) := ⟨am_dk dk_la_hoursGo_0, ct_427, rfl, by decide +kernel, ct_2, fun h => absurd h (by decide +kernel), by decide +kernel, by decide +kernel⟩
theorem tk_la_anyGoes : am_tok (⟨"LostSheets$Land", "anyGoes", "()Z"⟩, prog_4_method_24_code, la_anyGoes) := ⟨am_dk dk_la_anyGoes_0, ct_431, rfl, by decide +kernel, ct_2, fun h => absurd h (by decide +kernel), by decide +kernel, by decide +kernel⟩
theorem tk_dr_goes : am_tok (⟨"LostSheets$Drawer", "goes", "()Z"⟩, prog_3_method_4_code, dr_goes) := ⟨am_dk dk_dr_goes_0, ct_435, rfl, by decide +kernel, ct_3, fun h => absurd h (by decide +kernel), by decide +kernel, by decide +kernel⟩
theorem tk_la_hourGoes : am_tok (⟨"LostSheets$Land", "hourGoes", "()V"⟩, prog_4_method_21_code, la_hourGoes) := ⟨List.forall_mem_append.mpr ⟨am_dk dk_la_hourGoes_0, am_dk dk_la_hourGoes_1⟩, ct_439, rfl, by decide +kernel, ct_2, fun h => absurd h (by decide +kernel), by decide +kernel, by decide +kernel⟩
theorem tk_la_know : am_tok (⟨"LostSheets$Land", "know", "()I"⟩, prog_4_method_16_code, la_know) := ⟨am_dk dk_la_know_0, ct_443, rfl, by decide +kernel, ct_2, fun h => absurd h (by decide +kernel), by decide +kernel, by decide +kernel⟩
theorem tk_la_stepsAndDraws : am_tok (⟨"LostSheets$Land", "stepsAndDraws", "(LLostSheets$Drawer;II)V"⟩, prog_4_method_22_code, la_stepsAndDraws) := ⟨am_dk dk_la_stepsAndDraws_0, ct_447, rfl, by decide +kernel, ct_2, fun h => absurd h (by decide +kernel), by decide +kernel, by decide +kernel⟩
theorem tk_dr_writes : am_tok (⟨"LostSheets$Drawer", "writes", "(II)V"⟩, prog_3_method_5_code, dr_writes) := ⟨am_dk dk_dr_writes_0, ct_451, rfl, by decide +kernel, ct_3, fun h => absurd h (by decide +kernel), by decide +kernel, by decide +kernel⟩
theorem tk_dr_rowsWith : am_tok (⟨"LostSheets$Drawer", "rowsWith", "(I)I"⟩, prog_3_method_6_code, dr_rowsWith) := ⟨am_dk dk_dr_rowsWith_0, ct_455, rfl, by decide +kernel, ct_3, fun h => absurd h (by decide +kernel), by decide +kernel, by decide +kernel⟩
theorem tk_k_sheet : am_tok (⟨"LostSheets", "sheet", "(II)I"⟩, prog_1_method_4_code, k_sheet) := ⟨am_dk dk_k_sheet_0, ct_459, rfl, by decide +kernel, ct_1, fun h => absurd h (by decide +kernel), by decide +kernel, by decide +kernel⟩
theorem tk_k_put : am_tok (⟨"LostSheets", "put", "(II)I"⟩, prog_1_method_5_code, k_put) := ⟨am_dk dk_k_put_0, ct_463, rfl, by decide +kernel, ct_1, fun h => absurd h (by decide +kernel), by decide +kernel, by decide +kernel⟩
theorem tk_k_anew : am_tok (⟨"LostSheets", "anew", "(I)I"⟩, prog_1_method_6_code, k_anew) := ⟨am_dk dk_k_anew_0, ct_467, rfl, by decide +kernel, ct_1, fun h => absurd h (by decide +kernel), by decide +kernel, by decide +kernel⟩
theorem tk_k_mark : am_tok (⟨"LostSheets", "mark", "(II)I"⟩, prog_1_method_7_code, k_mark) := ⟨am_dk dk_k_mark_0, ct_471, rfl, by decide +kernel, ct_1, fun h => absurd h (by decide +kernel), by decide +kernel, by decide +kernel⟩
theorem tk_la_setMark : am_tok (⟨"LostSheets$Land", "setMark", "(II)V"⟩, prog_4_method_6_code, la_setMark) := ⟨am_dk dk_la_setMark_0, ct_476, rfl, by decide +kernel, ct_2, fun h => absurd h (by decide +kernel), by decide +kernel, by decide +kernel⟩
theorem tk_k_row : am_tok (⟨"LostSheets", "row", "(III)I"⟩, prog_1_method_8_code, k_row) := ⟨am_dk dk_k_row_0, ct_480, rfl, by decide +kernel, ct_1, fun h => absurd h (by decide +kernel), by decide +kernel, by decide +kernel⟩
theorem tk_k_feed : am_tok (⟨"LostSheets", "feed", "(I)I"⟩, prog_1_method_9_code, k_feed) := ⟨am_dk dk_k_feed_0, ct_484, rfl, by decide +kernel, ct_1, fun h => absurd h (by decide +kernel), by decide +kernel, by decide +kernel⟩
theorem tk_tx_append : am_tok (⟨"LostSheets$Text", "append", "(I)Z"⟩, prog_8_method_2_code, tx_append) := ⟨am_dk dk_tx_append_0, ct_488, rfl, by decide +kernel, ct_7, fun h => absurd h (by decide +kernel), by decide +kernel, by decide +kernel⟩
theorem tk_k_office : am_tok (⟨"LostSheets", "office", "()I"⟩, prog_1_method_10_code, k_office) := ⟨am_dk dk_k_office_0, ct_492, rfl, by decide +kernel, ct_1, fun h => absurd h (by decide +kernel), by decide +kernel, by decide +kernel⟩
theorem tk_tx_readInto : am_tok (⟨"LostSheets$Text", "readInto", "(LLostSheets$Office;)I"⟩, prog_8_method_3_code, tx_readInto) := ⟨am_dk dk_tx_readInto_0, ct_496, rfl, by decide +kernel, ct_7, fun h => absurd h (by decide +kernel), by decide +kernel, by decide +kernel⟩
theorem tk_of_clear : am_tok (⟨"LostSheets$Office", "clear", "()V"⟩, prog_5_method_2_code, of_clear) := ⟨am_dk dk_of_clear_0, ct_500, rfl, by decide +kernel, ct_9, fun h => absurd h (by decide +kernel), by decide +kernel, by decide +kernel⟩
theorem tk_tx_clause : am_tok (⟨"LostSheets$Text", "clause", "()Z"⟩, prog_8_method_8_code, tx_clause) := ⟨am_dk dk_tx_clause_0, ct_504, rfl, by decide +kernel, ct_7, fun h => absurd h (by decide +kernel), by decide +kernel, by decide +kernel⟩
theorem tk_tx_ahead : am_tok (⟨"LostSheets$Text", "ahead", "()I"⟩, prog_8_method_4_code, tx_ahead) := ⟨am_dk dk_tx_ahead_0, ct_508, rfl, by decide +kernel, ct_7, fun h => absurd h (by decide +kernel), by decide +kernel, by decide +kernel⟩
theorem tk_tx_takesAll : am_tok (⟨"LostSheets$Text", "takesAll", "(Ljava/lang/String;)Z"⟩, prog_8_method_6_code, tx_takesAll) := ⟨am_dk dk_tx_takesAll_0, ct_515, rfl, by decide +kernel, ct_7, fun h => absurd h (by decide +kernel), by decide +kernel, by decide +kernel⟩
theorem tk_js_length : am_tok (⟨"java/lang/String", "length", "()I"⟩, prog_15_method_54_code, js_length) := ⟨am_dk dk_js_length_0, ct_519, rfl, by decide +kernel, ct_13, fun h => absurd h (by decide +kernel), by decide +kernel, by decide +kernel⟩
theorem tk_js_coder : am_tok (⟨"java/lang/String", "coder", "()B"⟩, prog_15_method_152_code, js_coder) := ⟨am_dk dk_js_coder_0, ct_523, rfl, by decide +kernel, ct_13, fun h => absurd h (by decide +kernel), by decide +kernel, by decide +kernel⟩
theorem tk_js_charAt : am_tok (⟨"java/lang/String", "charAt", "(I)C"⟩, prog_15_method_56_code, js_charAt) := ⟨am_dk dk_js_charAt_0, ct_529, rfl, by decide +kernel, ct_13, fun h => absurd h (by decide +kernel), by decide +kernel, by decide +kernel⟩
theorem tk_js_isLatin1 : am_tok (⟨"java/lang/String", "isLatin1", "()Z"⟩, prog_15_method_154_code, js_isLatin1) := ⟨am_dk dk_js_isLatin1_0, ct_533, rfl, by decide +kernel, ct_13, fun h => absurd h (by decide +kernel), by decide +kernel, by decide +kernel⟩
theorem tk_jl_charAt : am_tok (⟨"java/lang/StringLatin1", "charAt", "([BI)C"⟩, prog_16_method_2_code, jl_charAt) := ⟨am_dk dk_jl_charAt_0, ct_536, rfl, by decide +kernel, ct_14, fun h => absurd h (by decide +kernel), by decide +kernel, by decide +kernel⟩
theorem tk_js_checkIndex : am_tok (⟨"java/lang/String", "checkIndex", "(II)V"⟩, prog_15_method_155_code, js_checkIndex) := ⟨am_dk dk_js_checkIndex_0, ct_539, rfl, by decide +kernel, ct_13, fun h => absurd h (by decide +kernel), by decide +kernel, by decide +kernel⟩
theorem tk_jp_checkIndex : am_tok (⟨"jdk/internal/util/Preconditions", "checkIndex", "(IILjava/util/function/BiFunction;)I"⟩, prog_19_method_11_code, jp_checkIndex) := ⟨am_dk dk_jp_checkIndex_0, ct_544, rfl, by decide +kernel, ct_15, fun h => absurd h (by decide +kernel), by decide +kernel, by decide +kernel⟩
theorem tk_tx_takes : am_tok (⟨"LostSheets$Text", "takes", "(I)Z"⟩, prog_8_method_5_code, tx_takes) := ⟨am_dk dk_tx_takes_0, ct_567, rfl, by decide +kernel, ct_7, fun h => absurd h (by decide +kernel), by decide +kernel, by decide +kernel⟩
theorem tk_tx_oneOrTwoDigits : am_tok (⟨"LostSheets$Text", "oneOrTwoDigits", "()Z"⟩, prog_8_method_7_code, tx_oneOrTwoDigits) := ⟨am_dk dk_tx_oneOrTwoDigits_0, ct_571, rfl, by decide +kernel, ct_7, fun h => absurd h (by decide +kernel), by decide +kernel, by decide +kernel⟩
theorem tk_tx_anyOf : am_tok (⟨"LostSheets$Text", "anyOf", "(I)Z"⟩, prog_8_method_9_code, tx_anyOf) := ⟨am_dk dk_tx_anyOf_0, ct_575, rfl, by decide +kernel, ct_7, fun h => absurd h (by decide +kernel), by decide +kernel, by decide +kernel⟩
theorem tk_tx_allOf : am_tok (⟨"LostSheets$Text", "allOf", "(I)Z"⟩, prog_8_method_10_code, tx_allOf) := ⟨am_dk dk_tx_allOf_0, ct_579, rfl, by decide +kernel, ct_7, fun h => absurd h (by decide +kernel), by decide +kernel, by decide +kernel⟩
theorem tk_tx_one : am_tok (⟨"LostSheets$Text", "one", "(I)Z"⟩, prog_8_method_11_code, tx_one) := ⟨am_dk dk_tx_one_0, ct_583, rfl, by decide +kernel, ct_7, fun h => absurd h (by decide +kernel), by decide +kernel, by decide +kernel⟩
theorem tk_tx_test : am_tok (⟨"LostSheets$Text", "test", "()Z"⟩, prog_8_method_14_code, tx_test) := ⟨am_dk dk_tx_test_0, ct_587, rfl, by decide +kernel, ct_7, fun h => absurd h (by decide +kernel), by decide +kernel, by decide +kernel⟩
theorem tk_tx_placeIn : am_tok (⟨"LostSheets$Text", "placeIn", "(Ljava/lang/String;I)I"⟩, prog_8_method_15_code, tx_placeIn) := ⟨am_dk dk_tx_placeIn_0, ct_591, rfl, by decide +kernel, ct_7, fun h => absurd h (by decide +kernel), by decide +kernel, by decide +kernel⟩
theorem tk_of_append : am_tok (⟨"LostSheets$Office", "append", "(II)V"⟩, prog_5_method_3_code, of_append) := ⟨am_dk dk_of_append_0, ct_596, rfl, by decide +kernel, ct_9, fun h => absurd h (by decide +kernel), by decide +kernel, by decide +kernel⟩
theorem tk_tx_not : am_tok (⟨"LostSheets$Text", "not", "(I)Z"⟩, prog_8_method_12_code, tx_not) := ⟨am_dk dk_tx_not_0, ct_600, rfl, by decide +kernel, ct_7, fun h => absurd h (by decide +kernel), by decide +kernel, by decide +kernel⟩
theorem tk_tx_inBrackets : am_tok (⟨"LostSheets$Text", "inBrackets", "(I)Z"⟩, prog_8_method_13_code, tx_inBrackets) := ⟨am_dk dk_tx_inBrackets_0, ct_604, rfl, by decide +kernel, ct_7, fun h => absurd h (by decide +kernel), by decide +kernel, by decide +kernel⟩
theorem tk_k_told : am_tok (⟨"LostSheets", "told", "(I)I"⟩, prog_1_method_11_code, k_told) := ⟨am_dk dk_k_told_0, ct_608, rfl, by decide +kernel, ct_1, fun h => absurd h (by decide +kernel), by decide +kernel, by decide +kernel⟩
theorem tk_k_marksOf : am_tok (⟨"LostSheets", "marksOf", "(I)I"⟩, prog_1_method_46_code, k_marksOf) := ⟨am_dk dk_k_marksOf_0, ct_612, rfl, by decide +kernel, ct_1, fun h => absurd h (by decide +kernel), by decide +kernel, by decide +kernel⟩
theorem tk_la_doneBits : am_tok (⟨"LostSheets$Land", "doneBits", "()I"⟩, prog_4_method_13_code, la_doneBits) := ⟨am_dk dk_la_doneBits_0, ct_617, rfl, by decide +kernel, ct_2, fun h => absurd h (by decide +kernel), by decide +kernel, by decide +kernel⟩
theorem tk_k_whole : am_tok (⟨"LostSheets", "whole", "()I"⟩, prog_1_method_43_code, k_whole) := ⟨am_dk dk_k_whole_0, ct_621, rfl, by decide +kernel, ct_1, fun h => absurd h (by decide +kernel), by decide +kernel, by decide +kernel⟩
theorem tk_k_pass : am_tok (⟨"LostSheets", "pass", "(I)I"⟩, prog_1_method_12_code, k_pass) := ⟨am_dk dk_k_pass_0, ct_626, rfl, by decide +kernel, ct_1, fun h => absurd h (by decide +kernel), by decide +kernel, by decide +kernel⟩
theorem tk_la_capDrew : am_tok (⟨"LostSheets$Land", "capDrew", "()V"⟩, prog_4_method_15_code, la_capDrew) := ⟨am_dk dk_la_capDrew_0, ct_630, rfl, by decide +kernel, ct_2, fun h => absurd h (by decide +kernel), by decide +kernel, by decide +kernel⟩
theorem tk_jm_min : am_tok (⟨"java/lang/Math", "min", "(II)I"⟩, prog_14_method_69_code, jm_min) := ⟨am_dk dk_jm_min_0, ct_633, rfl, by decide +kernel, ct_6, fun h => absurd h (by decide +kernel), by decide +kernel, by decide +kernel⟩
theorem tk_k_on : am_tok (⟨"LostSheets", "on", "(II)I"⟩, prog_1_method_13_code, k_on) := ⟨am_dk dk_k_on_0, ct_637, rfl, by decide +kernel, ct_1, fun h => absurd h (by decide +kernel), by decide +kernel, by decide +kernel⟩
theorem tk_k_drawerBehindTen : am_tok (⟨"LostSheets", "drawerBehindTen", "(I)LLostSheets$Drawer;"⟩, prog_1_method_38_code, k_drawerBehindTen) := ⟨am_dk dk_k_drawerBehindTen_0, ct_641, rfl, by decide +kernel, ct_1, fun h => absurd h (by decide +kernel), by decide +kernel, by decide +kernel⟩
theorem tk_k_best : am_tok (⟨"LostSheets", "best", "(II)I"⟩, prog_1_method_14_code, k_best) := ⟨am_dk dk_k_best_0, ct_645, rfl, by decide +kernel, ct_1, fun h => absurd h (by decide +kernel), by decide +kernel, by decide +kernel⟩
theorem tk_k_crew : am_tok (⟨"LostSheets", "crew", "(I)I"⟩, prog_1_method_45_code, k_crew) := ⟨am_dk dk_k_crew_0, ct_649, rfl, by decide +kernel, ct_1, fun h => absurd h (by decide +kernel), by decide +kernel, by decide +kernel⟩
theorem tk_ji_bitCount : am_tok (⟨"java/lang/Integer", "bitCount", "(I)I"⟩, prog_13_method_49_code, ji_bitCount) := ⟨am_dk dk_ji_bitCount_0, ct_652, rfl, by decide +kernel, ct_18, fun h => absurd h (by decide +kernel), by decide +kernel, by decide +kernel⟩
theorem tk_la_othersAreDone : am_tok (⟨"LostSheets$Land", "othersAreDone", "(I)V"⟩, prog_4_method_12_code, la_othersAreDone) := ⟨am_dk dk_la_othersAreDone_0, ct_659, rfl, by decide +kernel, ct_2, fun h => absurd h (by decide +kernel), by decide +kernel, by decide +kernel⟩
theorem tk_k_landing : am_tok (⟨"LostSheets", "landing", "(II)I"⟩, prog_1_method_44_code, k_landing) := ⟨am_dk dk_k_landing_0, ct_663, rfl, by decide +kernel, ct_1, fun h => absurd h (by decide +kernel), by decide +kernel, by decide +kernel⟩
theorem tk_k_see : am_tok (⟨"LostSheets", "see", "(III)I"⟩, prog_1_method_15_code, k_see) := ⟨am_dk dk_k_see_0, ct_667, rfl, by decide +kernel, ct_1, fun h => absurd h (by decide +kernel), by decide +kernel, by decide +kernel⟩
theorem tk_ro_clear : am_tok (⟨"LostSheets$Rows", "clear", "()V"⟩, prog_6_method_2_code, ro_clear) := ⟨am_dk dk_ro_clear_0, ct_671, rfl, by decide +kernel, ct_5, fun h => absurd h (by decide +kernel), by decide +kernel, by decide +kernel⟩
theorem tk_ro_append : am_tok (⟨"LostSheets$Rows", "append", "(III)Z"⟩, prog_6_method_3_code, ro_append) := ⟨am_dk dk_ro_append_0, ct_675, rfl, by decide +kernel, ct_5, fun h => absurd h (by decide +kernel), by decide +kernel, by decide +kernel⟩
theorem tk_k_can : am_tok (⟨"LostSheets", "can", "(II)I"⟩, prog_1_method_16_code, k_can) := ⟨am_dk dk_k_can_0, ct_679, rfl, by decide +kernel, ct_1, fun h => absurd h (by decide +kernel), by decide +kernel, by decide +kernel⟩
theorem tk_k_possibleNumbers : am_tok (⟨"LostSheets", "possibleNumbers", "(I)I"⟩, prog_1_method_48_code, k_possibleNumbers) := ⟨am_dk dk_k_possibleNumbers_0, ct_683, rfl, by decide +kernel, ct_1, fun h => absurd h (by decide +kernel), by decide +kernel, by decide +kernel⟩
theorem tk_la_setNumber : am_tok (⟨"LostSheets$Land", "setNumber", "(II)V"⟩, prog_4_method_9_code, la_setNumber) := ⟨am_dk dk_la_setNumber_0, ct_687, rfl, by decide +kernel, ct_2, fun h => absurd h (by decide +kernel), by decide +kernel, by decide +kernel⟩
theorem tk_k_leastOf : am_tok (⟨"LostSheets", "leastOf", "(I)I"⟩, prog_1_method_49_code, k_leastOf) := ⟨am_dk dk_k_leastOf_0, ct_690, rfl, by decide +kernel, ct_1, fun h => absurd h (by decide +kernel), by decide +kernel, by decide +kernel⟩
theorem tk_k_odds : am_tok (⟨"LostSheets", "odds", "(III)J"⟩, prog_1_method_17_code, k_odds) := ⟨am_dk dk_k_odds_0, ct_694, rfl, by decide +kernel, ct_1, fun h => absurd h (by decide +kernel), by decide +kernel, by decide +kernel⟩
theorem tk_k_partOfFraction : am_tok (⟨"LostSheets", "partOfFraction", "(JJI)J"⟩, prog_1_method_53_code, k_partOfFraction) := ⟨am_dk dk_k_partOfFraction_0, ct_699, rfl, by decide +kernel, ct_1, fun h => absurd h (by decide +kernel), by decide +kernel, by decide +kernel⟩
theorem tk_k_greatestDivisor : am_tok (⟨"LostSheets", "greatestDivisor", "(JJ)J"⟩, prog_1_method_54_code, k_greatestDivisor) := ⟨am_dk dk_k_greatestDivisor_0, ct_702, rfl, by decide +kernel, ct_1, fun h => absurd h (by decide +kernel), by decide +kernel, by decide +kernel⟩
theorem tk_k_mean : am_tok (⟨"LostSheets", "mean", "(II)J"⟩, prog_1_method_18_code, k_mean) := ⟨am_dk dk_k_mean_0, ct_706, rfl, by decide +kernel, ct_1, fun h => absurd h (by decide +kernel), by decide +kernel, by decide +kernel⟩
theorem tk_la_drewOfAll : am_tok (⟨"LostSheets$Land", "drewOfAll", "()I"⟩, prog_4_method_14_code, la_drewOfAll) := ⟨am_dk dk_la_drewOfAll_0, ct_710, rfl, by decide +kernel, ct_2, fun h => absurd h (by decide +kernel), by decide +kernel, by decide +kernel⟩
theorem tk_k_plan : am_tok (⟨"LostSheets", "plan", "(II)I"⟩, prog_1_method_19_code, k_plan) := ⟨am_dk dk_k_plan_0, ct_714, rfl, by decide +kernel, ct_1, fun h => absurd h (by decide +kernel), by decide +kernel, by decide +kernel⟩
theorem tk_k_isPlanRow : am_tok (⟨"LostSheets", "isPlanRow", "(II)Z"⟩, prog_1_method_37_code, k_isPlanRow) := ⟨am_dk dk_k_isPlanRow_0, ct_718, rfl, by decide +kernel, ct_1, fun h => absurd h (by decide +kernel), by decide +kernel, by decide +kernel⟩
theorem tk_k_ends : am_tok (⟨"LostSheets", "ends", "(I)I"⟩, prog_1_method_20_code, k_ends) := ⟨am_dk dk_k_ends_0, ct_722, rfl, by decide +kernel, ct_1, fun h => absurd h (by decide +kernel), by decide +kernel, by decide +kernel⟩
theorem tk_k_tryPlan : am_tok (⟨"LostSheets", "tryPlan", "()V"⟩, prog_1_method_52_code, k_tryPlan) := ⟨am_dk dk_k_tryPlan_0, ct_726, rfl, by decide +kernel, ct_1, fun h => absurd h (by decide +kernel), by decide +kernel, by decide +kernel⟩
theorem tk_la_emptySheet : am_tok (⟨"LostSheets$Land", "emptySheet", "(I)V"⟩, prog_4_method_10_code, la_emptySheet) := ⟨am_dk dk_la_emptySheet_0, ct_730, rfl, by decide +kernel, ct_2, fun h => absurd h (by decide +kernel), by decide +kernel, by decide +kernel⟩
theorem tk_la_notDone : am_tok (⟨"LostSheets$Land", "notDone", "(I)V"⟩, prog_4_method_11_code, la_notDone) := ⟨am_dk dk_la_notDone_0, ct_734, rfl, by decide +kernel, ct_2, fun h => absurd h (by decide +kernel), by decide +kernel, by decide +kernel⟩
theorem tk_k_book : am_tok (⟨"LostSheets", "book", "(II)I"⟩, prog_1_method_21_code, k_book) := ⟨am_dk dk_k_book_0, ct_738, rfl, by decide +kernel, ct_1, fun h => absurd h (by decide +kernel), by decide +kernel, by decide +kernel⟩
theorem tk_k_looked : am_tok (⟨"LostSheets", "looked", "()I"⟩, prog_1_method_22_code, k_looked) := ⟨am_dk dk_k_looked_0, ct_742, rfl, by decide +kernel, ct_1, fun h => absurd h (by decide +kernel), by decide +kernel, by decide +kernel⟩
theorem tk_k_judge : am_tok (⟨"LostSheets", "judge", "(II)I"⟩, prog_1_method_23_code, k_judge) := ⟨am_dk dk_k_judge_0, ct_746, rfl, by decide +kernel, ct_1, fun h => absurd h (by decide +kernel), by decide +kernel, by decide +kernel⟩
theorem tk_k_tapeAt : am_tok (⟨"LostSheets", "tapeAt", "(I)LLostSheets$Tape;"⟩, prog_1_method_39_code, k_tapeAt) := ⟨am_dk dk_k_tapeAt_0, ct_750, rfl, by decide +kernel, ct_1, fun h => absurd h (by decide +kernel), by decide +kernel, by decide +kernel⟩
theorem tk_tp_has : am_tok (⟨"LostSheets$Tape", "has", "(I)Z"⟩, prog_7_method_3_code, tp_has) := ⟨am_dk dk_tp_has_0, ct_754, rfl, by decide +kernel, ct_10, fun h => absurd h (by decide +kernel), by decide +kernel, by decide +kernel⟩
theorem tk_k_image : am_tok (⟨"LostSheets", "image", "()I"⟩, prog_1_method_24_code, k_image) := ⟨am_dk dk_k_image_0, ct_758, rfl, by decide +kernel, ct_1, fun h => absurd h (by decide +kernel), by decide +kernel, by decide +kernel⟩
theorem tk_bh_copyFrom : am_tok (⟨"LostSheets$ByHand", "copyFrom", "(LLostSheets$ByHand;)V"⟩, prog_2_method_2_code, bh_copyFrom) := ⟨am_dk dk_bh_copyFrom_0, ct_762, rfl, by decide +kernel, ct_4, fun h => absurd h (by decide +kernel), by decide +kernel, by decide +kernel⟩
theorem tk_ro_copyFrom : am_tok (⟨"LostSheets$Rows", "copyFrom", "(LLostSheets$Rows;)V"⟩, prog_6_method_4_code, ro_copyFrom) := ⟨am_dk dk_ro_copyFrom_0, ct_766, rfl, by decide +kernel, ct_5, fun h => absurd h (by decide +kernel), by decide +kernel, by decide +kernel⟩
theorem tk_k_undo : am_tok (⟨"LostSheets", "undo", "()I"⟩, prog_1_method_25_code, k_undo) := ⟨am_dk dk_k_undo_0, ct_771, rfl, by decide +kernel, ct_1, fun h => absurd h (by decide +kernel), by decide +kernel, by decide +kernel⟩
theorem tk_k_act : am_tok (⟨"LostSheets", "act", "(III)I"⟩, prog_1_method_26_code, k_act) := ⟨am_dk dk_k_act_0, ct_775, rfl, by decide +kernel, ct_1, fun h => absurd h (by decide +kernel), by decide +kernel, by decide +kernel⟩
theorem tk_tr_ofAct : am_tok (⟨"LostSheets$Trace", "ofAct", "(LLostSheets$Drawer;II)I"⟩, prog_9_method_4_code, tr_ofAct) := ⟨am_dk dk_tr_ofAct_0, ct_779, rfl, by decide +kernel, ct_8, fun h => absurd h (by decide +kernel), by decide +kernel, by decide +kernel⟩
theorem tk_tr_run : am_tok (⟨"LostSheets$Trace", "run", "(LLostSheets$Drawer;IIII)I"⟩, prog_9_method_5_code, tr_run) := ⟨am_dk dk_tr_run_0, ct_783, rfl, by decide +kernel, ct_8, fun h => absurd h (by decide +kernel), by decide +kernel, by decide +kernel⟩
theorem tk_tr_bodyOf : am_tok (⟨"LostSheets$Trace", "bodyOf", "(II)I"⟩, prog_9_method_2_code, tr_bodyOf) := ⟨am_dk dk_tr_bodyOf_0, ct_786, rfl, by decide +kernel, ct_8, fun h => absurd h (by decide +kernel), by decide +kernel, by decide +kernel⟩
theorem tk_k_aboveOf : am_tok (⟨"LostSheets", "aboveOf", "(I)I"⟩, prog_1_method_40_code, k_aboveOf) := ⟨am_dk dk_k_aboveOf_0, ct_791, rfl, by decide +kernel, ct_1, fun h => absurd h (by decide +kernel), by decide +kernel, by decide +kernel⟩
theorem tk_tr_begins : am_tok (⟨"LostSheets$Trace", "begins", "(I)V"⟩, prog_9_method_3_code, tr_begins) := ⟨am_dk dk_tr_begins_0, ct_797, rfl, by decide +kernel, ct_8, fun h => absurd h (by decide +kernel), by decide +kernel, by decide +kernel⟩
theorem tk_tr_does : am_tok (⟨"LostSheets$Trace", "does", "(ILLostSheets$Drawer;II)I"⟩, prog_9_method_6_code, tr_does) := ⟨List.forall_mem_append.mpr ⟨am_dk dk_tr_does_0, List.forall_mem_append.mpr ⟨am_dk dk_tr_does_1, am_dk dk_tr_does_2⟩⟩, ct_801, rfl, by decide +kernel, ct_8, fun h => absurd h (by decide +kernel), by decide +kernel, by decide +kernel⟩
theorem tk_k_trace : am_tok (⟨"LostSheets", "trace", "(I)I"⟩, prog_1_method_27_code, k_trace) := ⟨am_dk dk_k_trace_0, ct_805, rfl, by decide +kernel, ct_1, fun h => absurd h (by decide +kernel), by decide +kernel, by decide +kernel⟩
theorem tk_k_taken : am_tok (⟨"LostSheets", "taken", "(II)I"⟩, prog_1_method_28_code, k_taken) := ⟨am_dk dk_k_taken_0, ct_809, rfl, by decide +kernel, ct_1, fun h => absurd h (by decide +kernel), by decide +kernel, by decide +kernel⟩
theorem tk_k_isUnder : am_tok (⟨"LostSheets", "isUnder", "(II)Z"⟩, prog_1_method_41_code, k_isUnder) := ⟨am_dk dk_k_isUnder_0, ct_812, rfl, by decide +kernel, ct_1, fun h => absurd h (by decide +kernel), by decide +kernel, by decide +kernel⟩
theorem tk_k_count : am_tok (⟨"LostSheets", "count", "(I)I"⟩, prog_1_method_29_code, k_count) := ⟨am_dk dk_k_count_0, ct_817, rfl, by decide +kernel, ct_1, fun h => absurd h (by decide +kernel), by decide +kernel, by decide +kernel⟩
theorem tk_k_tape : am_tok (⟨"LostSheets", "tape", "(III)I"⟩, prog_1_method_30_code, k_tape) := ⟨am_dk dk_k_tape_0, ct_821, rfl, by decide +kernel, ct_1, fun h => absurd h (by decide +kernel), by decide +kernel, by decide +kernel⟩
theorem tk_tp_becomes : am_tok (⟨"LostSheets$Tape", "becomes", "(II)V"⟩, prog_7_method_2_code, tp_becomes) := ⟨am_dk dk_tp_becomes_0, ct_825, rfl, by decide +kernel, ct_10, fun h => absurd h (by decide +kernel), by decide +kernel, by decide +kernel⟩
theorem tk_k_item : am_tok (⟨"LostSheets", "item", "(IIJ)I"⟩, prog_1_method_31_code, k_item) := ⟨am_dk dk_k_item_0, ct_829, rfl, by decide +kernel, ct_1, fun h => absurd h (by decide +kernel), by decide +kernel, by decide +kernel⟩
theorem tk_tp_asItem : am_tok (⟨"LostSheets$Tape", "asItem", "(J)J"⟩, prog_7_method_5_code, tp_asItem) := ⟨am_dk dk_tp_asItem_0, ct_833, rfl, by decide +kernel, ct_10, fun h => absurd h (by decide +kernel), by decide +kernel, by decide +kernel⟩
theorem tk_k_read : am_tok (⟨"LostSheets", "read", "(II)J"⟩, prog_1_method_32_code, k_read) := ⟨am_dk dk_k_read_0, ct_837, rfl, by decide +kernel, ct_1, fun h => absurd h (by decide +kernel), by decide +kernel, by decide +kernel⟩
theorem tk_k_shift : am_tok (⟨"LostSheets", "shift", "(IIIII)I"⟩, prog_1_method_33_code, k_shift) := ⟨am_dk dk_k_shift_0, ct_841, rfl, by decide +kernel, ct_1, fun h => absurd h (by decide +kernel), by decide +kernel, by decide +kernel⟩
theorem tk_tp_hasRun : am_tok (⟨"LostSheets$Tape", "hasRun", "(II)Z"⟩, prog_7_method_4_code, tp_hasRun) := ⟨am_dk dk_tp_hasRun_0, ct_845, rfl, by decide +kernel, ct_10, fun h => absurd h (by decide +kernel), by decide +kernel, by decide +kernel⟩
theorem tk_m_init : am_tok (⟨"LostSheetsModel", "<init>", "()V"⟩, prog_11_method_1_code, m_init) := ⟨List.forall_mem_append.mpr ⟨am_dk dk_m_init_0, List.forall_mem_append.mpr ⟨am_dk dk_m_init_1, am_dk dk_m_init_2⟩⟩, ct_851, rfl, by decide +kernel, ct_11, fun _ => rfl, by decide +kernel, by decide +kernel⟩
theorem tk_m_drawer : am_tok (⟨"LostSheetsModel", "drawer", "(III)I"⟩, prog_11_method_5_code, m_drawer) := ⟨List.forall_mem_append.mpr ⟨am_dk dk_m_drawer_0, am_dk dk_m_drawer_1⟩, ct_999, rfl, by decide +kernel, ct_11, fun h => absurd h (by decide +kernel), by decide +kernel, by decide +kernel⟩
theorem tk_m_within : am_tok (⟨"LostSheetsModel", "within", "(III)Z"⟩, prog_11_method_2_code, m_within) := ⟨am_dk dk_m_within_0, ct_1002, rfl, by decide +kernel, ct_11, fun h => absurd h (by decide +kernel), by decide +kernel, by decide +kernel⟩
theorem tk_m_isCell : am_tok (⟨"LostSheetsModel", "isCell", "(I)Z"⟩, prog_11_method_4_code, m_isCell) := ⟨am_dk dk_m_isCell_0, ct_1005, rfl, by decide +kernel, ct_11, fun h => absurd h (by decide +kernel), by decide +kernel, by decide +kernel⟩
theorem tk_m_of : am_tok (⟨"LostSheetsModel", "of", "(II)I"⟩, prog_11_method_6_code, m_of) := ⟨List.forall_mem_append.mpr ⟨am_dk dk_m_of_0, am_dk dk_m_of_1⟩, ct_1009, rfl, by decide +kernel, ct_11, fun h => absurd h (by decide +kernel), by decide +kernel, by decide +kernel⟩
theorem tk_m_isOne : am_tok (⟨"LostSheetsModel", "isOne", "(I)Z"⟩, prog_11_method_3_code, m_isOne) := ⟨am_dk dk_m_isOne_0, ct_1013, rfl, by decide +kernel, ct_11, fun h => absurd h (by decide +kernel), by decide +kernel, by decide +kernel⟩
theorem tk_m_feel : am_tok (⟨"LostSheetsModel", "feel", "(I)I"⟩, prog_11_method_30_code, m_feel) := ⟨List.forall_mem_append.mpr ⟨am_dk dk_m_feel_0, am_dk dk_m_feel_1⟩, ct_1017, rfl, by decide +kernel, ct_11, fun h => absurd h (by decide +kernel), by decide +kernel, by decide +kernel⟩
theorem tk_m_sum : am_tok (⟨"LostSheetsModel", "sum", "(I)I"⟩, prog_11_method_27_code, m_sum) := ⟨List.forall_mem_append.mpr ⟨am_dk dk_m_sum_0, am_dk dk_m_sum_1⟩, ct_1021, rfl, by decide +kernel, ct_11, fun h => absurd h (by decide +kernel), by decide +kernel, by decide +kernel⟩
theorem tk_m_isTrue : am_tok (⟨"LostSheetsModel", "isTrue", "(II)Z"⟩, prog_11_method_26_code, m_isTrue) := ⟨List.forall_mem_append.mpr ⟨am_dk dk_m_isTrue_0, List.forall_mem_append.mpr ⟨am_dk dk_m_isTrue_1, am_dk dk_m_isTrue_2⟩⟩, ct_1025, rfl, by decide +kernel, ct_11, fun h => absurd h (by decide +kernel), by decide +kernel, by decide +kernel⟩
theorem tk_m_letterOf : am_tok (⟨"LostSheetsModel", "letterOf", "(II)I"⟩, prog_11_method_25_code, m_letterOf) := ⟨am_dk dk_m_letterOf_0, ct_1029, rfl, by decide +kernel, ct_11, fun h => absurd h (by decide +kernel), by decide +kernel, by decide +kernel⟩
theorem tk_m_others : am_tok (⟨"LostSheetsModel", "others", "(I)I"⟩, prog_11_method_29_code, m_others) := ⟨am_dk dk_m_others_0, ct_1033, rfl, by decide +kernel, ct_11, fun h => absurd h (by decide +kernel), by decide +kernel, by decide +kernel⟩
theorem tk_m_wayOf : am_tok (⟨"LostSheetsModel", "wayOf", "(I)I"⟩, prog_11_method_31_code, m_wayOf) := ⟨am_dk dk_m_wayOf_0, ct_1037, rfl, by decide +kernel, ct_11, fun h => absurd h (by decide +kernel), by decide +kernel, by decide +kernel⟩
theorem tk_m_came : am_tok (⟨"LostSheetsModel", "came", "(IZ)I"⟩, prog_11_method_41_code, m_came) := ⟨List.forall_mem_append.mpr ⟨am_dk dk_m_came_0, am_dk dk_m_came_1⟩, ct_1041, rfl, by decide +kernel, ct_11, fun h => absurd h (by decide +kernel), by decide +kernel, by decide +kernel⟩
theorem tk_m_step : am_tok (⟨"LostSheetsModel", "step", "(II)I"⟩, prog_11_method_32_code, m_step) := ⟨am_dk dk_m_step_0, ct_1044, rfl, by decide +kernel, ct_11, fun h => absurd h (by decide +kernel), by decide +kernel, by decide +kernel⟩
theorem tk_m_look : am_tok (⟨"LostSheetsModel", "look", "(I)I"⟩, prog_11_method_42_code, m_look) := ⟨List.forall_mem_append.mpr ⟨am_dk dk_m_look_0, am_dk dk_m_look_1⟩, ct_1048, rfl, by decide +kernel, ct_11, fun h => absurd h (by decide +kernel), by decide +kernel, by decide +kernel⟩
theorem tk_m_places : am_tok (⟨"LostSheetsModel", "places", "(I)I"⟩, prog_11_method_50_code, m_places) := ⟨am_dk dk_m_places_0, ct_1053, rfl, by decide +kernel, ct_11, fun h => absurd h (by decide +kernel), by decide +kernel, by decide +kernel⟩
theorem tk_m_isSeen : am_tok (⟨"LostSheetsModel", "isSeen", "()Z"⟩, prog_11_method_48_code, m_isSeen) := ⟨am_dk dk_m_isSeen_0, ct_1057, rfl, by decide +kernel, ct_11, fun h => absurd h (by decide +kernel), by decide +kernel, by decide +kernel⟩
theorem tk_m_keep : am_tok (⟨"LostSheetsModel", "keep", "([I)V"⟩, prog_11_method_61_code, m_keep) := ⟨List.forall_mem_append.mpr ⟨am_dk dk_m_keep_0, List.forall_mem_append.mpr ⟨am_dk dk_m_keep_1, List.forall_mem_append.mpr ⟨am_dk dk_m_keep_2, am_dk dk_m_keep_3⟩⟩⟩, ct_1061, rfl, by decide +kernel, ct_11, fun h => absurd h (by decide +kernel), by decide +kernel, by decide +kernel⟩
theorem tk_m_goesHour : am_tok (⟨"LostSheetsModel", "goesHour", "()V"⟩, prog_11_method_34_code, m_goesHour) := ⟨List.forall_mem_append.mpr ⟨am_dk dk_m_goesHour_0, am_dk dk_m_goesHour_1⟩, ct_1065, rfl, by decide +kernel, ct_11, fun h => absurd h (by decide +kernel), by decide +kernel, by decide +kernel⟩
theorem tk_m_know : am_tok (⟨"LostSheetsModel", "know", "()I"⟩, prog_11_method_28_code, m_know) := ⟨am_dk dk_m_know_0, ct_1069, rfl, by decide +kernel, ct_11, fun h => absurd h (by decide +kernel), by decide +kernel, by decide +kernel⟩
theorem tk_m_goesBy : am_tok (⟨"LostSheetsModel", "goesBy", "(III)V"⟩, prog_11_method_33_code, m_goesBy) := ⟨List.forall_mem_append.mpr ⟨am_dk dk_m_goesBy_0, am_dk dk_m_goesBy_1⟩, ct_1073, rfl, by decide +kernel, ct_11, fun h => absurd h (by decide +kernel), by decide +kernel, by decide +kernel⟩
theorem tk_m_again : am_tok (⟨"LostSheetsModel", "again", "([I)V"⟩, prog_11_method_62_code, m_again) := ⟨List.forall_mem_append.mpr ⟨am_dk dk_m_again_0, List.forall_mem_append.mpr ⟨am_dk dk_m_again_1, List.forall_mem_append.mpr ⟨am_dk dk_m_again_2, am_dk dk_m_again_3⟩⟩⟩, ct_1077, rfl, by decide +kernel, ct_11, fun h => absurd h (by decide +kernel), by decide +kernel, by decide +kernel⟩
theorem tk_m_sheet : am_tok (⟨"LostSheetsModel", "sheet", "(II)I"⟩, prog_11_method_7_code, m_sheet) := ⟨am_dk dk_m_sheet_0, ct_1081, rfl, by decide +kernel, ct_11, fun h => absurd h (by decide +kernel), by decide +kernel, by decide +kernel⟩
theorem tk_m_put : am_tok (⟨"LostSheetsModel", "put", "(II)I"⟩, prog_11_method_8_code, m_put) := ⟨am_dk dk_m_put_0, ct_1085, rfl, by decide +kernel, ct_11, fun h => absurd h (by decide +kernel), by decide +kernel, by decide +kernel⟩
theorem tk_m_anew : am_tok (⟨"LostSheetsModel", "anew", "(I)I"⟩, prog_11_method_9_code, m_anew) := ⟨am_dk dk_m_anew_0, ct_1089, rfl, by decide +kernel, ct_11, fun h => absurd h (by decide +kernel), by decide +kernel, by decide +kernel⟩
theorem tk_m_mark : am_tok (⟨"LostSheetsModel", "mark", "(II)I"⟩, prog_11_method_10_code, m_mark) := ⟨am_dk dk_m_mark_0, ct_1093, rfl, by decide +kernel, ct_11, fun h => absurd h (by decide +kernel), by decide +kernel, by decide +kernel⟩
theorem tk_m_row : am_tok (⟨"LostSheetsModel", "row", "(III)I"⟩, prog_11_method_11_code, m_row) := ⟨am_dk dk_m_row_0, ct_1097, rfl, by decide +kernel, ct_11, fun h => absurd h (by decide +kernel), by decide +kernel, by decide +kernel⟩
theorem tk_m_feed : am_tok (⟨"LostSheetsModel", "feed", "(I)I"⟩, prog_11_method_12_code, m_feed) := ⟨am_dk dk_m_feed_0, ct_1101, rfl, by decide +kernel, ct_11, fun h => absurd h (by decide +kernel), by decide +kernel, by decide +kernel⟩
theorem tk_m_office : am_tok (⟨"LostSheetsModel", "office", "()I"⟩, prog_11_method_24_code, m_office) := ⟨List.forall_mem_append.mpr ⟨am_dk dk_m_office_0, am_dk dk_m_office_1⟩, ct_1105, rfl, by decide +kernel, ct_11, fun h => absurd h (by decide +kernel), by decide +kernel, by decide +kernel⟩
theorem tk_m_isClause : am_tok (⟨"LostSheetsModel", "isClause", "(I)Z"⟩, prog_11_method_23_code, m_isClause) := ⟨List.forall_mem_append.mpr ⟨am_dk dk_m_isClause_0, am_dk dk_m_isClause_1⟩, ct_1109, rfl, by decide +kernel, ct_11, fun h => absurd h (by decide +kernel), by decide +kernel, by decide +kernel⟩
theorem tk_m_isAll : am_tok (⟨"LostSheetsModel", "isAll", "(Ljava/lang/String;)Z"⟩, prog_11_method_16_code, m_isAll) := ⟨am_dk dk_m_isAll_0, ct_1114, rfl, by decide +kernel, ct_11, fun h => absurd h (by decide +kernel), by decide +kernel, by decide +kernel⟩
theorem tk_m_is : am_tok (⟨"LostSheetsModel", "is", "(I)Z"⟩, prog_11_method_13_code, m_is) := ⟨am_dk dk_m_is_0, ct_1120, rfl, by decide +kernel, ct_11, fun h => absurd h (by decide +kernel), by decide +kernel, by decide +kernel⟩
theorem tk_m_isNumber : am_tok (⟨"LostSheetsModel", "isNumber", "()Z"⟩, prog_11_method_15_code, m_isNumber) := ⟨am_dk dk_m_isNumber_0, ct_1126, rfl, by decide +kernel, ct_11, fun h => absurd h (by decide +kernel), by decide +kernel, by decide +kernel⟩
theorem tk_m_isDigit : am_tok (⟨"LostSheetsModel", "isDigit", "()Z"⟩, prog_11_method_14_code, m_isDigit) := ⟨am_dk dk_m_isDigit_0, ct_1130, rfl, by decide +kernel, ct_11, fun h => absurd h (by decide +kernel), by decide +kernel, by decide +kernel⟩
theorem tk_m_isE : am_tok (⟨"LostSheetsModel", "isE", "()Z"⟩, prog_11_method_22_code, m_isE) := ⟨am_dk dk_m_isE_0, ct_1134, rfl, by decide +kernel, ct_11, fun h => absurd h (by decide +kernel), by decide +kernel, by decide +kernel⟩
theorem tk_m_isT : am_tok (⟨"LostSheetsModel", "isT", "()Z"⟩, prog_11_method_21_code, m_isT) := ⟨am_dk dk_m_isT_0, ct_1138, rfl, by decide +kernel, ct_11, fun h => absurd h (by decide +kernel), by decide +kernel, by decide +kernel⟩
theorem tk_m_isF : am_tok (⟨"LostSheetsModel", "isF", "()Z"⟩, prog_11_method_20_code, m_isF) := ⟨am_dk dk_m_isF_0, ct_1142, rfl, by decide +kernel, ct_11, fun h => absurd h (by decide +kernel), by decide +kernel, by decide +kernel⟩
theorem tk_m_isOpened : am_tok (⟨"LostSheetsModel", "isOpened", "(I)Z"⟩, prog_11_method_19_code, m_isOpened) := ⟨am_dk dk_m_isOpened_0, ct_1146, rfl, by decide +kernel, ct_11, fun h => absurd h (by decide +kernel), by decide +kernel, by decide +kernel⟩
theorem tk_m_codes : am_tok (⟨"LostSheetsModel", "codes", "(I)Z"⟩, prog_11_method_17_code, m_codes) := ⟨am_dk dk_m_codes_0, ct_1150, rfl, by decide +kernel, ct_11, fun h => absurd h (by decide +kernel), by decide +kernel, by decide +kernel⟩
theorem tk_m_isTest : am_tok (⟨"LostSheetsModel", "isTest", "()Z"⟩, prog_11_method_18_code, m_isTest) := ⟨List.forall_mem_append.mpr ⟨am_dk dk_m_isTest_0, am_dk dk_m_isTest_1⟩, ct_1154, rfl, by decide +kernel, ct_11, fun h => absurd h (by decide +kernel), by decide +kernel, by decide +kernel⟩
theorem tk_js_indexOf : am_tok (⟨"java/lang/String", "indexOf", "(I)I"⟩, prog_15_method_79_code, js_indexOf) := ⟨am_dk dk_js_indexOf_0, ct_1159, rfl, by decide +kernel, ct_13, fun h => absurd h (by decide +kernel), by decide +kernel, by decide +kernel⟩
theorem tk_js_indexOf2 : am_tok (⟨"java/lang/String", "indexOf", "(II)I"⟩, prog_15_method_80_code, js_indexOf2) := ⟨am_dk dk_js_indexOf2_0, ct_1163, rfl, by decide +kernel, ct_13, fun h => absurd h (by decide +kernel), by decide +kernel, by decide +kernel⟩
theorem tk_jl_indexOf : am_tok (⟨"java/lang/StringLatin1", "indexOf", "([BIII)I"⟩, prog_16_method_22_code, jl_indexOf) := ⟨am_dk dk_jl_indexOf_0, ct_1167, rfl, by decide +kernel, ct_14, fun h => absurd h (by decide +kernel), by decide +kernel, by decide +kernel⟩
theorem tk_jl_canEncode : am_tok (⟨"java/lang/StringLatin1", "canEncode", "(I)Z"⟩, prog_16_method_4_code, jl_canEncode) := ⟨am_dk dk_jl_canEncode_0, ct_1170, rfl, by decide +kernel, ct_14, fun h => absurd h (by decide +kernel), by decide +kernel, by decide +kernel⟩
theorem tk_jl_indexOfChar : am_tok (⟨"java/lang/StringLatin1", "indexOfChar", "([BIII)I"⟩, prog_16_method_23_code, jl_indexOfChar) := ⟨am_dk dk_jl_indexOfChar_0, ct_1175, rfl, by decide +kernel, ct_14, fun h => absurd h (by decide +kernel), by decide +kernel, by decide +kernel⟩
theorem tk_js_checkBoundsBeginEnd : am_tok (⟨"java/lang/String", "checkBoundsBeginEnd", "(III)V"⟩, prog_15_method_158_code, js_checkBoundsBeginEnd) := ⟨am_dk dk_js_checkBoundsBeginEnd_0, ct_1190, rfl, by decide +kernel, ct_13, fun h => absurd h (by decide +kernel), by decide +kernel, by decide +kernel⟩
theorem tk_jp_checkFromToIndex : am_tok (⟨"jdk/internal/util/Preconditions", "checkFromToIndex", "(IIILjava/util/function/BiFunction;)I"⟩, prog_19_method_12_code, jp_checkFromToIndex) := ⟨am_dk dk_jp_checkFromToIndex_0, ct_1193, rfl, by decide +kernel, ct_15, fun h => absurd h (by decide +kernel), by decide +kernel, by decide +kernel⟩
theorem tk_m_told : am_tok (⟨"LostSheetsModel", "told", "(I)I"⟩, prog_11_method_38_code, m_told) := ⟨am_dk dk_m_told_0, ct_1215, rfl, by decide +kernel, ct_11, fun h => absurd h (by decide +kernel), by decide +kernel, by decide +kernel⟩
theorem tk_m_marksOf : am_tok (⟨"LostSheetsModel", "marksOf", "(I)I"⟩, prog_11_method_49_code, m_marksOf) := ⟨am_dk dk_m_marksOf_0, ct_1219, rfl, by decide +kernel, ct_11, fun h => absurd h (by decide +kernel), by decide +kernel, by decide +kernel⟩
theorem tk_m_allDone : am_tok (⟨"LostSheetsModel", "allDone", "()I"⟩, prog_11_method_36_code, m_allDone) := ⟨am_dk dk_m_allDone_0, ct_1223, rfl, by decide +kernel, ct_11, fun h => absurd h (by decide +kernel), by decide +kernel, by decide +kernel⟩
theorem tk_m_whole : am_tok (⟨"LostSheetsModel", "whole", "()I"⟩, prog_11_method_37_code, m_whole) := ⟨am_dk dk_m_whole_0, ct_1227, rfl, by decide +kernel, ct_11, fun h => absurd h (by decide +kernel), by decide +kernel, by decide +kernel⟩
theorem tk_m_pass : am_tok (⟨"LostSheetsModel", "pass", "(I)I"⟩, prog_11_method_39_code, m_pass) := ⟨am_dk dk_m_pass_0, ct_1232, rfl, by decide +kernel, ct_11, fun h => absurd h (by decide +kernel), by decide +kernel, by decide +kernel⟩
theorem tk_m_on : am_tok (⟨"LostSheetsModel", "on", "(II)I"⟩, prog_11_method_40_code, m_on) := ⟨am_dk dk_m_on_0, ct_1237, rfl, by decide +kernel, ct_11, fun h => absurd h (by decide +kernel), by decide +kernel, by decide +kernel⟩
theorem tk_m_goesOn : am_tok (⟨"LostSheetsModel", "goesOn", "(I)V"⟩, prog_11_method_35_code, m_goesOn) := ⟨am_dk dk_m_goesOn_0, ct_1241, rfl, by decide +kernel, ct_11, fun h => absurd h (by decide +kernel), by decide +kernel, by decide +kernel⟩
theorem tk_m_best : am_tok (⟨"LostSheetsModel", "best", "(II)I"⟩, prog_11_method_46_code, m_best) := ⟨am_dk dk_m_best_0, ct_1245, rfl, by decide +kernel, ct_11, fun h => absurd h (by decide +kernel), by decide +kernel, by decide +kernel⟩
theorem tk_m_crew : am_tok (⟨"LostSheetsModel", "crew", "(I)I"⟩, prog_11_method_45_code, m_crew) := ⟨List.forall_mem_append.mpr ⟨am_dk dk_m_crew_0, am_dk dk_m_crew_1⟩, ct_1249, rfl, by decide +kernel, ct_11, fun h => absurd h (by decide +kernel), by decide +kernel, by decide +kernel⟩
theorem tk_m_drawnBehind : am_tok (⟨"LostSheetsModel", "drawnBehind", "(I)I"⟩, prog_11_method_43_code, m_drawnBehind) := ⟨am_dk dk_m_drawnBehind_0, ct_1253, rfl, by decide +kernel, ct_11, fun h => absurd h (by decide +kernel), by decide +kernel, by decide +kernel⟩
theorem tk_m_landing : am_tok (⟨"LostSheetsModel", "landing", "(II)I"⟩, prog_11_method_44_code, m_landing) := ⟨am_dk dk_m_landing_0, ct_1258, rfl, by decide +kernel, ct_11, fun h => absurd h (by decide +kernel), by decide +kernel, by decide +kernel⟩
theorem tk_m_see : am_tok (⟨"LostSheetsModel", "see", "(III)I"⟩, prog_11_method_47_code, m_see) := ⟨am_dk dk_m_see_0, ct_1262, rfl, by decide +kernel, ct_11, fun h => absurd h (by decide +kernel), by decide +kernel, by decide +kernel⟩
theorem tk_m_can : am_tok (⟨"LostSheetsModel", "can", "(II)I"⟩, prog_11_method_51_code, m_can) := ⟨am_dk dk_m_can_0, ct_1266, rfl, by decide +kernel, ct_11, fun h => absurd h (by decide +kernel), by decide +kernel, by decide +kernel⟩
theorem tk_m_odds : am_tok (⟨"LostSheetsModel", "odds", "(III)J"⟩, prog_11_method_53_code, m_odds) := ⟨List.forall_mem_append.mpr ⟨am_dk dk_m_odds_0, am_dk dk_m_odds_1⟩, ct_1270, rfl, by decide +kernel, ct_11, fun h => absurd h (by decide +kernel), by decide +kernel, by decide +kernel⟩
theorem tk_m_part : am_tok (⟨"LostSheetsModel", "part", "(JJI)J"⟩, prog_11_method_52_code, m_part) := ⟨am_dk dk_m_part_0, ct_1275, rfl, by decide +kernel, ct_11, fun h => absurd h (by decide +kernel), by decide +kernel, by decide +kernel⟩
theorem tk_jm_abs : am_tok (⟨"java/lang/Math", "abs", "(J)J"⟩, prog_14_method_61_code, jm_abs) := ⟨am_dk dk_jm_abs_0, ct_1278, rfl, by decide +kernel, ct_6, fun h => absurd h (by decide +kernel), by decide +kernel, by decide +kernel⟩
theorem tk_m_mean : am_tok (⟨"LostSheetsModel", "mean", "(II)J"⟩, prog_11_method_55_code, m_mean) := ⟨am_dk dk_m_mean_0, ct_1282, rfl, by decide +kernel, ct_11, fun h => absurd h (by decide +kernel), by decide +kernel, by decide +kernel⟩
theorem tk_m_allDrew : am_tok (⟨"LostSheetsModel", "allDrew", "()I"⟩, prog_11_method_54_code, m_allDrew) := ⟨am_dk dk_m_allDrew_0, ct_1286, rfl, by decide +kernel, ct_11, fun h => absurd h (by decide +kernel), by decide +kernel, by decide +kernel⟩
theorem tk_m_plan : am_tok (⟨"LostSheetsModel", "plan", "(II)I"⟩, prog_11_method_56_code, m_plan) := ⟨am_dk dk_m_plan_0, ct_1290, rfl, by decide +kernel, ct_11, fun h => absurd h (by decide +kernel), by decide +kernel, by decide +kernel⟩
theorem tk_m_ends : am_tok (⟨"LostSheetsModel", "ends", "(I)I"⟩, prog_11_method_57_code, m_ends) := ⟨List.forall_mem_append.mpr ⟨am_dk dk_m_ends_0, am_dk dk_m_ends_1⟩, ct_1294, rfl, by decide +kernel, ct_11, fun h => absurd h (by decide +kernel), by decide +kernel, by decide +kernel⟩
theorem tk_m_book : am_tok (⟨"LostSheetsModel", "book", "(II)I"⟩, prog_11_method_58_code, m_book) := ⟨am_dk dk_m_book_0, ct_1298, rfl, by decide +kernel, ct_11, fun h => absurd h (by decide +kernel), by decide +kernel, by decide +kernel⟩
theorem tk_m_looked : am_tok (⟨"LostSheetsModel", "looked", "()I"⟩, prog_11_method_59_code, m_looked) := ⟨am_dk dk_m_looked_0, ct_1302, rfl, by decide +kernel, ct_11, fun h => absurd h (by decide +kernel), by decide +kernel, by decide +kernel⟩
theorem tk_m_judge : am_tok (⟨"LostSheetsModel", "judge", "(II)I"⟩, prog_11_method_60_code, m_judge) := ⟨List.forall_mem_append.mpr ⟨am_dk dk_m_judge_0, am_dk dk_m_judge_1⟩, ct_1306, rfl, by decide +kernel, ct_11, fun h => absurd h (by decide +kernel), by decide +kernel, by decide +kernel⟩
theorem tk_m_image : am_tok (⟨"LostSheetsModel", "image", "()I"⟩, prog_11_method_63_code, m_image) := ⟨am_dk dk_m_image_0, ct_1310, rfl, by decide +kernel, ct_11, fun h => absurd h (by decide +kernel), by decide +kernel, by decide +kernel⟩
theorem tk_m_undo : am_tok (⟨"LostSheetsModel", "undo", "()I"⟩, prog_11_method_64_code, m_undo) := ⟨am_dk dk_m_undo_0, ct_1314, rfl, by decide +kernel, ct_11, fun h => absurd h (by decide +kernel), by decide +kernel, by decide +kernel⟩
theorem tk_m_act : am_tok (⟨"LostSheetsModel", "act", "(III)I"⟩, prog_11_method_70_code, m_act) := ⟨am_dk dk_m_act_0, ct_1318, rfl, by decide +kernel, ct_11, fun h => absurd h (by decide +kernel), by decide +kernel, by decide +kernel⟩
theorem tk_m_weeps : am_tok (⟨"LostSheetsModel", "weeps", "(III)I"⟩, prog_11_method_67_code, m_weeps) := ⟨am_dk dk_m_weeps_0, ct_1322, rfl, by decide +kernel, ct_11, fun h => absurd h (by decide +kernel), by decide +kernel, by decide +kernel⟩
theorem tk_m_ran : am_tok (⟨"LostSheetsModel", "ran", "(I)V"⟩, prog_11_method_65_code, m_ran) := ⟨am_dk dk_m_ran_0, ct_1326, rfl, by decide +kernel, ct_11, fun h => absurd h (by decide +kernel), by decide +kernel, by decide +kernel⟩
theorem tk_m_above : am_tok (⟨"LostSheetsModel", "above", "(I)I"⟩, prog_11_method_66_code, m_above) := ⟨am_dk dk_m_above_0, ct_1329, rfl, by decide +kernel, ct_11, fun h => absurd h (by decide +kernel), by decide +kernel, by decide +kernel⟩
theorem tk_m_draws : am_tok (⟨"LostSheetsModel", "draws", "(III)I"⟩, prog_11_method_68_code, m_draws) := ⟨List.forall_mem_append.mpr ⟨am_dk dk_m_draws_0, am_dk dk_m_draws_1⟩, ct_1333, rfl, by decide +kernel, ct_11, fun h => absurd h (by decide +kernel), by decide +kernel, by decide +kernel⟩
theorem tk_m_tells : am_tok (⟨"LostSheetsModel", "tells", "(III)I"⟩, prog_11_method_69_code, m_tells) := ⟨am_dk dk_m_tells_0, ct_1337, rfl, by decide +kernel, ct_11, fun h => absurd h (by decide +kernel), by decide +kernel, by decide +kernel⟩
theorem tk_m_trace : am_tok (⟨"LostSheetsModel", "trace", "(I)I"⟩, prog_11_method_71_code, m_trace) := ⟨am_dk dk_m_trace_0, ct_1341, rfl, by decide +kernel, ct_11, fun h => absurd h (by decide +kernel), by decide +kernel, by decide +kernel⟩
theorem tk_m_taken : am_tok (⟨"LostSheetsModel", "taken", "(II)I"⟩, prog_11_method_72_code, m_taken) := ⟨am_dk dk_m_taken_0, ct_1345, rfl, by decide +kernel, ct_11, fun h => absurd h (by decide +kernel), by decide +kernel, by decide +kernel⟩
theorem tk_m_count : am_tok (⟨"LostSheetsModel", "count", "(I)I"⟩, prog_11_method_73_code, m_count) := ⟨am_dk dk_m_count_0, ct_1349, rfl, by decide +kernel, ct_11, fun h => absurd h (by decide +kernel), by decide +kernel, by decide +kernel⟩
theorem tk_m_tape : am_tok (⟨"LostSheetsModel", "tape", "(III)I"⟩, prog_11_method_75_code, m_tape) := ⟨am_dk dk_m_tape_0, ct_1353, rfl, by decide +kernel, ct_11, fun h => absurd h (by decide +kernel), by decide +kernel, by decide +kernel⟩
theorem tk_m_isTape : am_tok (⟨"LostSheetsModel", "isTape", "(I)Z"⟩, prog_11_method_74_code, m_isTape) := ⟨am_dk dk_m_isTape_0, ct_1356, rfl, by decide +kernel, ct_11, fun h => absurd h (by decide +kernel), by decide +kernel, by decide +kernel⟩
theorem tk_m_item : am_tok (⟨"LostSheetsModel", "item", "(IIJ)I"⟩, prog_11_method_77_code, m_item) := ⟨am_dk dk_m_item_0, ct_1360, rfl, by decide +kernel, ct_11, fun h => absurd h (by decide +kernel), by decide +kernel, by decide +kernel⟩
theorem tk_m_kept : am_tok (⟨"LostSheetsModel", "kept", "(IJ)J"⟩, prog_11_method_76_code, m_kept) := ⟨am_dk dk_m_kept_0, ct_1363, rfl, by decide +kernel, ct_11, fun h => absurd h (by decide +kernel), by decide +kernel, by decide +kernel⟩
theorem tk_m_read : am_tok (⟨"LostSheetsModel", "read", "(II)J"⟩, prog_11_method_78_code, m_read) := ⟨am_dk dk_m_read_0, ct_1367, rfl, by decide +kernel, ct_11, fun h => absurd h (by decide +kernel), by decide +kernel, by decide +kernel⟩
theorem tk_m_shift : am_tok (⟨"LostSheetsModel", "shift", "(IIIII)I"⟩, prog_11_method_79_code, m_shift) := ⟨List.forall_mem_append.mpr ⟨am_dk dk_m_shift_0, List.forall_mem_append.mpr ⟨am_dk dk_m_shift_1, am_dk dk_m_shift_2⟩⟩, ct_1371, rfl, by decide +kernel, ct_11, fun h => absurd h (by decide +kernel), by decide +kernel, by decide +kernel⟩
theorem am_msO_0 : ∀ t ∈ am_ms_0, am_tok t := List.forall_mem_cons.mpr ⟨tk_k_init, List.forall_mem_cons.mpr ⟨tk_la_init, List.forall_mem_cons.mpr ⟨tk_dr_init, List.forall_mem_cons.mpr ⟨tk_bh_init, List.forall_mem_cons.mpr ⟨tk_ro_init, List.forall_mem_cons.mpr ⟨tk_jm_max, List.forall_mem_cons.mpr ⟨tk_tx_init, List.forall_mem_cons.mpr ⟨tk_tr_init, List.forall_mem_cons.mpr ⟨tk_of_init, List.forall_mem_cons.mpr ⟨tk_tp_init, List.forall_mem_cons.mpr ⟨tk_k_drawer, List.forall_mem_cons.mpr ⟨tk_k_isCell, List.forall_mem_cons.mpr ⟨tk_k_isDigit, List.forall_mem_cons.mpr ⟨tk_la_addDrawer, List.forall_mem_cons.mpr ⟨tk_dr_begins, List.forall_mem_cons.mpr ⟨tk_k_of, List.forall_mem_cons.mpr ⟨tk_la_drawerAt, List.forall_mem_cons.mpr ⟨tk_la_feelOf, List.forall_mem_cons.mpr ⟨tk_la_answersOf, List.forall_mem_cons.mpr ⟨tk_la_markAt, List.forall_mem_cons.mpr ⟨tk_of_turnsBy, List.forall_mem_cons.mpr ⟨tk_of_holds, List.forall_mem_cons.mpr ⟨tk_la_othersWith, List.forall_mem_cons.mpr ⟨tk_jm_floorMod, List.forall_mem_cons.mpr ⟨tk_la_wayOf, List.forall_mem_cons.mpr ⟨tk_la_cameOf, List.forall_mem_cons.mpr ⟨tk_la_endBySheet, List.forall_mem_cons.mpr ⟨tk_la_stepFrom, List.forall_mem_cons.mpr ⟨tk_la_hereOf, List.forall_mem_cons.mpr ⟨tk_la_lookOf, List.forall_mem_cons.mpr ⟨tk_la_mostAtOneMark, List.forall_mem_cons.mpr ⟨tk_k_isMark, fun _ h => absurd h List.not_mem_nil⟩⟩⟩⟩⟩⟩⟩⟩⟩⟩⟩⟩⟩⟩⟩⟩⟩⟩⟩⟩⟩⟩⟩⟩⟩⟩⟩⟩⟩⟩⟩⟩
theorem am_msO_1 : ∀ t ∈ am_ms_1, am_tok t := List.forall_mem_cons.mpr ⟨tk_k_placesOf, List.forall_mem_cons.mpr ⟨tk_k_tryAt, List.forall_mem_cons.mpr ⟨tk_la_copyFrom, List.forall_mem_cons.mpr ⟨tk_dr_copyFrom, List.forall_mem_cons.mpr ⟨tk_la_putAt, List.forall_mem_cons.mpr ⟨tk_k_seenIsSo, List.forall_mem_cons.mpr ⟨tk_bh_lastHourSeen, List.forall_mem_cons.mpr ⟨tk_k_seenIsSoIn, List.forall_mem_cons.mpr ⟨tk_la_whereIs, List.forall_mem_cons.mpr ⟨tk_la_hoursGo, List.forall_mem_cons.mpr ⟨tk_la_anyGoes, List.forall_mem_cons.mpr ⟨tk_dr_goes, List.forall_mem_cons.mpr ⟨tk_la_hourGoes, List.forall_mem_cons.mpr ⟨tk_la_know, List.forall_mem_cons.mpr ⟨tk_la_stepsAndDraws, List.forall_mem_cons.mpr ⟨tk_dr_writes, List.forall_mem_cons.mpr ⟨tk_dr_rowsWith, List.forall_mem_cons.mpr ⟨tk_k_sheet, List.forall_mem_cons.mpr ⟨tk_k_put, List.forall_mem_cons.mpr ⟨tk_k_anew, List.forall_mem_cons.mpr ⟨tk_k_mark, List.forall_mem_cons.mpr ⟨tk_la_setMark, List.forall_mem_cons.mpr ⟨tk_k_row, List.forall_mem_cons.mpr ⟨tk_k_feed, List.forall_mem_cons.mpr ⟨tk_tx_append, List.forall_mem_cons.mpr ⟨tk_k_office, List.forall_mem_cons.mpr ⟨tk_tx_readInto, List.forall_mem_cons.mpr ⟨tk_of_clear, List.forall_mem_cons.mpr ⟨tk_tx_clause, List.forall_mem_cons.mpr ⟨tk_tx_ahead, List.forall_mem_cons.mpr ⟨tk_tx_takesAll, List.forall_mem_cons.mpr ⟨tk_js_length, fun _ h => absurd h List.not_mem_nil⟩⟩⟩⟩⟩⟩⟩⟩⟩⟩⟩⟩⟩⟩⟩⟩⟩⟩⟩⟩⟩⟩⟩⟩⟩⟩⟩⟩⟩⟩⟩⟩
theorem am_msO_2 : ∀ t ∈ am_ms_2, am_tok t := List.forall_mem_cons.mpr ⟨tk_js_coder, List.forall_mem_cons.mpr ⟨tk_js_charAt, List.forall_mem_cons.mpr ⟨tk_js_isLatin1, List.forall_mem_cons.mpr ⟨tk_jl_charAt, List.forall_mem_cons.mpr ⟨tk_js_checkIndex, List.forall_mem_cons.mpr ⟨tk_jp_checkIndex, List.forall_mem_cons.mpr ⟨tk_tx_takes, List.forall_mem_cons.mpr ⟨tk_tx_oneOrTwoDigits, List.forall_mem_cons.mpr ⟨tk_tx_anyOf, List.forall_mem_cons.mpr ⟨tk_tx_allOf, List.forall_mem_cons.mpr ⟨tk_tx_one, List.forall_mem_cons.mpr ⟨tk_tx_test, List.forall_mem_cons.mpr ⟨tk_tx_placeIn, List.forall_mem_cons.mpr ⟨tk_of_append, List.forall_mem_cons.mpr ⟨tk_tx_not, List.forall_mem_cons.mpr ⟨tk_tx_inBrackets, List.forall_mem_cons.mpr ⟨tk_k_told, List.forall_mem_cons.mpr ⟨tk_k_marksOf, List.forall_mem_cons.mpr ⟨tk_la_doneBits, List.forall_mem_cons.mpr ⟨tk_k_whole, List.forall_mem_cons.mpr ⟨tk_k_pass, List.forall_mem_cons.mpr ⟨tk_la_capDrew, List.forall_mem_cons.mpr ⟨tk_jm_min, List.forall_mem_cons.mpr ⟨tk_k_on, List.forall_mem_cons.mpr ⟨tk_k_drawerBehindTen, List.forall_mem_cons.mpr ⟨tk_k_best, List.forall_mem_cons.mpr ⟨tk_k_crew, List.forall_mem_cons.mpr ⟨tk_ji_bitCount, List.forall_mem_cons.mpr ⟨tk_la_othersAreDone, List.forall_mem_cons.mpr ⟨tk_k_landing, List.forall_mem_cons.mpr ⟨tk_k_see, List.forall_mem_cons.mpr ⟨tk_ro_clear, fun _ h => absurd h List.not_mem_nil⟩⟩⟩⟩⟩⟩⟩⟩⟩⟩⟩⟩⟩⟩⟩⟩⟩⟩⟩⟩⟩⟩⟩⟩⟩⟩⟩⟩⟩⟩⟩⟩
theorem am_msO_3 : ∀ t ∈ am_ms_3, am_tok t := List.forall_mem_cons.mpr ⟨tk_ro_append, List.forall_mem_cons.mpr ⟨tk_k_can, List.forall_mem_cons.mpr ⟨tk_k_possibleNumbers, List.forall_mem_cons.mpr ⟨tk_la_setNumber, List.forall_mem_cons.mpr ⟨tk_k_leastOf, List.forall_mem_cons.mpr ⟨tk_k_odds, List.forall_mem_cons.mpr ⟨tk_k_partOfFraction, List.forall_mem_cons.mpr ⟨tk_k_greatestDivisor, List.forall_mem_cons.mpr ⟨tk_k_mean, List.forall_mem_cons.mpr ⟨tk_la_drewOfAll, List.forall_mem_cons.mpr ⟨tk_k_plan, List.forall_mem_cons.mpr ⟨tk_k_isPlanRow, List.forall_mem_cons.mpr ⟨tk_k_ends, List.forall_mem_cons.mpr ⟨tk_k_tryPlan, List.forall_mem_cons.mpr ⟨tk_la_emptySheet, List.forall_mem_cons.mpr ⟨tk_la_notDone, List.forall_mem_cons.mpr ⟨tk_k_book, List.forall_mem_cons.mpr ⟨tk_k_looked, List.forall_mem_cons.mpr ⟨tk_k_judge, List.forall_mem_cons.mpr ⟨tk_k_tapeAt, List.forall_mem_cons.mpr ⟨tk_tp_has, List.forall_mem_cons.mpr ⟨tk_k_image, List.forall_mem_cons.mpr ⟨tk_bh_copyFrom, List.forall_mem_cons.mpr ⟨tk_ro_copyFrom, List.forall_mem_cons.mpr ⟨tk_k_undo, List.forall_mem_cons.mpr ⟨tk_k_act, List.forall_mem_cons.mpr ⟨tk_tr_ofAct, List.forall_mem_cons.mpr ⟨tk_tr_run, List.forall_mem_cons.mpr ⟨tk_tr_bodyOf, List.forall_mem_cons.mpr ⟨tk_k_aboveOf, List.forall_mem_cons.mpr ⟨tk_tr_begins, List.forall_mem_cons.mpr ⟨tk_tr_does, fun _ h => absurd h List.not_mem_nil⟩⟩⟩⟩⟩⟩⟩⟩⟩⟩⟩⟩⟩⟩⟩⟩⟩⟩⟩⟩⟩⟩⟩⟩⟩⟩⟩⟩⟩⟩⟩⟩
theorem am_msO_4 : ∀ t ∈ am_ms_4, am_tok t := List.forall_mem_cons.mpr ⟨tk_k_trace, List.forall_mem_cons.mpr ⟨tk_k_taken, List.forall_mem_cons.mpr ⟨tk_k_isUnder, List.forall_mem_cons.mpr ⟨tk_k_count, List.forall_mem_cons.mpr ⟨tk_k_tape, List.forall_mem_cons.mpr ⟨tk_tp_becomes, List.forall_mem_cons.mpr ⟨tk_k_item, List.forall_mem_cons.mpr ⟨tk_tp_asItem, List.forall_mem_cons.mpr ⟨tk_k_read, List.forall_mem_cons.mpr ⟨tk_k_shift, List.forall_mem_cons.mpr ⟨tk_tp_hasRun, List.forall_mem_cons.mpr ⟨tk_m_init, List.forall_mem_cons.mpr ⟨tk_m_drawer, List.forall_mem_cons.mpr ⟨tk_m_within, List.forall_mem_cons.mpr ⟨tk_m_isCell, List.forall_mem_cons.mpr ⟨tk_m_of, List.forall_mem_cons.mpr ⟨tk_m_isOne, List.forall_mem_cons.mpr ⟨tk_m_feel, List.forall_mem_cons.mpr ⟨tk_m_sum, List.forall_mem_cons.mpr ⟨tk_m_isTrue, List.forall_mem_cons.mpr ⟨tk_m_letterOf, List.forall_mem_cons.mpr ⟨tk_m_others, List.forall_mem_cons.mpr ⟨tk_m_wayOf, List.forall_mem_cons.mpr ⟨tk_m_came, List.forall_mem_cons.mpr ⟨tk_m_step, List.forall_mem_cons.mpr ⟨tk_m_look, List.forall_mem_cons.mpr ⟨tk_m_places, List.forall_mem_cons.mpr ⟨tk_m_isSeen, List.forall_mem_cons.mpr ⟨tk_m_keep, List.forall_mem_cons.mpr ⟨tk_m_goesHour, List.forall_mem_cons.mpr ⟨tk_m_know, List.forall_mem_cons.mpr ⟨tk_m_goesBy, fun _ h => absurd h List.not_mem_nil⟩⟩⟩⟩⟩⟩⟩⟩⟩⟩⟩⟩⟩⟩⟩⟩⟩⟩⟩⟩⟩⟩⟩⟩⟩⟩⟩⟩⟩⟩⟩⟩
theorem am_msO_5 : ∀ t ∈ am_ms_5, am_tok t := List.forall_mem_cons.mpr ⟨tk_m_again, List.forall_mem_cons.mpr ⟨tk_m_sheet, List.forall_mem_cons.mpr ⟨tk_m_put, List.forall_mem_cons.mpr ⟨tk_m_anew, List.forall_mem_cons.mpr ⟨tk_m_mark, List.forall_mem_cons.mpr ⟨tk_m_row, List.forall_mem_cons.mpr ⟨tk_m_feed, List.forall_mem_cons.mpr ⟨tk_m_office, List.forall_mem_cons.mpr ⟨tk_m_isClause, List.forall_mem_cons.mpr ⟨tk_m_isAll, List.forall_mem_cons.mpr ⟨tk_m_is, List.forall_mem_cons.mpr ⟨tk_m_isNumber, List.forall_mem_cons.mpr ⟨tk_m_isDigit, List.forall_mem_cons.mpr ⟨tk_m_isE, List.forall_mem_cons.mpr ⟨tk_m_isT, List.forall_mem_cons.mpr ⟨tk_m_isF, List.forall_mem_cons.mpr ⟨tk_m_isOpened, List.forall_mem_cons.mpr ⟨tk_m_codes, List.forall_mem_cons.mpr ⟨tk_m_isTest, List.forall_mem_cons.mpr ⟨tk_js_indexOf, List.forall_mem_cons.mpr ⟨tk_js_indexOf2, List.forall_mem_cons.mpr ⟨tk_jl_indexOf, List.forall_mem_cons.mpr ⟨tk_jl_canEncode, List.forall_mem_cons.mpr ⟨tk_jl_indexOfChar, List.forall_mem_cons.mpr ⟨tk_js_checkBoundsBeginEnd, List.forall_mem_cons.mpr ⟨tk_jp_checkFromToIndex, List.forall_mem_cons.mpr ⟨tk_m_told, List.forall_mem_cons.mpr ⟨tk_m_marksOf, List.forall_mem_cons.mpr ⟨tk_m_allDone, List.forall_mem_cons.mpr ⟨tk_m_whole, List.forall_mem_cons.mpr ⟨tk_m_pass, List.forall_mem_cons.mpr ⟨tk_m_on, fun _ h => absurd h List.not_mem_nil⟩⟩⟩⟩⟩⟩⟩⟩⟩⟩⟩⟩⟩⟩⟩⟩⟩⟩⟩⟩⟩⟩⟩⟩⟩⟩⟩⟩⟩⟩⟩⟩
theorem am_msO_6 : ∀ t ∈ am_ms_6, am_tok t := List.forall_mem_cons.mpr ⟨tk_m_goesOn, List.forall_mem_cons.mpr ⟨tk_m_best, List.forall_mem_cons.mpr ⟨tk_m_crew, List.forall_mem_cons.mpr ⟨tk_m_drawnBehind, List.forall_mem_cons.mpr ⟨tk_m_landing, List.forall_mem_cons.mpr ⟨tk_m_see, List.forall_mem_cons.mpr ⟨tk_m_can, List.forall_mem_cons.mpr ⟨tk_m_odds, List.forall_mem_cons.mpr ⟨tk_m_part, List.forall_mem_cons.mpr ⟨tk_jm_abs, List.forall_mem_cons.mpr ⟨tk_m_mean, List.forall_mem_cons.mpr ⟨tk_m_allDrew, List.forall_mem_cons.mpr ⟨tk_m_plan, List.forall_mem_cons.mpr ⟨tk_m_ends, List.forall_mem_cons.mpr ⟨tk_m_book, List.forall_mem_cons.mpr ⟨tk_m_looked, List.forall_mem_cons.mpr ⟨tk_m_judge, List.forall_mem_cons.mpr ⟨tk_m_image, List.forall_mem_cons.mpr ⟨tk_m_undo, List.forall_mem_cons.mpr ⟨tk_m_act, List.forall_mem_cons.mpr ⟨tk_m_weeps, List.forall_mem_cons.mpr ⟨tk_m_ran, List.forall_mem_cons.mpr ⟨tk_m_above, List.forall_mem_cons.mpr ⟨tk_m_draws, List.forall_mem_cons.mpr ⟨tk_m_tells, List.forall_mem_cons.mpr ⟨tk_m_trace, List.forall_mem_cons.mpr ⟨tk_m_taken, List.forall_mem_cons.mpr ⟨tk_m_count, List.forall_mem_cons.mpr ⟨tk_m_tape, List.forall_mem_cons.mpr ⟨tk_m_isTape, List.forall_mem_cons.mpr ⟨tk_m_item, List.forall_mem_cons.mpr ⟨tk_m_kept, fun _ h => absurd h List.not_mem_nil⟩⟩⟩⟩⟩⟩⟩⟩⟩⟩⟩⟩⟩⟩⟩⟩⟩⟩⟩⟩⟩⟩⟩⟩⟩⟩⟩⟩⟩⟩⟩⟩
theorem am_msO_7 : ∀ t ∈ am_ms_7, am_tok t := List.forall_mem_cons.mpr ⟨tk_m_read, List.forall_mem_cons.mpr ⟨tk_m_shift, fun _ h => absurd h List.not_mem_nil⟩⟩
theorem am_msO : ∀ t ∈ am_ms, am_tok t := by
  show ∀ t ∈ am_ms_0 ++ (am_ms_1 ++ (am_ms_2 ++ (am_ms_3 ++ (am_ms_4 ++ (am_ms_5 ++ (am_ms_6 ++ (am_ms_7))))))), am_tok t
  exact List.forall_mem_append.mpr ⟨am_msO_0, List.forall_mem_append.mpr ⟨am_msO_1, List.forall_mem_append.mpr ⟨am_msO_2, List.forall_mem_append.mpr ⟨am_msO_3, List.forall_mem_append.mpr ⟨am_msO_4, List.forall_mem_append.mpr ⟨am_msO_5, List.forall_mem_append.mpr ⟨am_msO_6, am_msO_7⟩⟩⟩⟩⟩⟩⟩
def am_mkP (o idx k : Nat) (y : MethodName) (ret : Option FieldType) : Prop := match k with
  | 0 => Cond.methodLink (am_cn o) idx y ∈ lw_tbl ∧ Cond.instanceMethod y ∈ lw_tbl ∧ Cond.selects y.cls y y ∈ lw_tbl
  | 1 => Cond.methodLink (am_cn o) idx y ∈ lw_tbl ∧ Cond.static y ∈ lw_tbl
  | 2 => Cond.methodLink (am_cn o) idx y ∈ lw_tbl ∧ Cond.instanceMethod y ∈ lw_tbl ∧ y.name = "<init>" ∧ ret = none
  | 3 => Cond.methodLinkNest (am_cn o) idx y "LostSheets" ∈ lw_tbl ∧ Cond.instanceMethod y ∈ lw_tbl ∧ Cond.selects y.cls y y ∈ lw_tbl
  | 4 => Cond.methodLinkNest (am_cn o) idx y "LostSheets" ∈ lw_tbl ∧ Cond.static y ∈ lw_tbl
  | 5 => Cond.methodLinkNest (am_cn o) idx y "LostSheets" ∈ lw_tbl ∧ Cond.instanceMethod y ∈ lw_tbl ∧ y.name = "<init>" ∧ ret = none
  | _ => False
def am_mok (o : Nat) (e : Nat × (Nat × (Nat × Nat))) : Prop := (e.2.1 = 6 ∧ Cond.methodLink (am_cn o) e.1 Lib.objectInit ∈ lw_tbl) ∨ (e.2.1 = 7 ∧ Cond.methodLink (am_cn o) e.1 arraycopyName ∈ lw_tbl) ∨ (e.2.1 < 6 ∧ ∃ t, am_ms[e.2.2.1]? = some t ∧ (t.1.cls ≠ "java/lang/invoke/MethodHandle" ∧ t.1.cls ≠ "java/lang/invoke/VarHandle" ∧ (parseMethodDescriptor t.1.desc).map (fun d => d.parameters.length) = some e.2.2.2) ∧ am_mkP o e.1 e.2.1 t.1 t.2.2.2.1)
theorem ky_0 : am_ms[0]? = some (⟨"LostSheets", "<init>", "()V"⟩, prog_1_method_1_code, k_init) := rfl
theorem ky_1 : am_ms[1]? = some (⟨"LostSheets$Land", "<init>", "()V"⟩, prog_4_method_1_code, la_init) := rfl
theorem ky_2 : am_ms[2]? = some (⟨"LostSheets$Drawer", "<init>", "(I)V"⟩, prog_3_method_1_code, dr_init) := rfl
theorem ky_3 : am_ms[3]? = some (⟨"LostSheets$ByHand", "<init>", "()V"⟩, prog_2_method_1_code, bh_init) := rfl
theorem ky_4 : am_ms[4]? = some (⟨"LostSheets$Rows", "<init>", "(I)V"⟩, prog_6_method_1_code, ro_init) := rfl
theorem ky_5 : am_ms[5]? = some (⟨"java/lang/Math", "max", "(II)I"⟩, prog_14_method_65_code, jm_max) := rfl
theorem ky_6 : am_ms[6]? = some (⟨"LostSheets$Text", "<init>", "()V"⟩, prog_8_method_1_code, tx_init) := rfl
theorem ky_7 : am_ms[7]? = some (⟨"LostSheets$Trace", "<init>", "()V"⟩, prog_9_method_1_code, tr_init) := rfl
theorem ky_8 : am_ms[8]? = some (⟨"LostSheets$Office", "<init>", "()V"⟩, prog_5_method_1_code, of_init) := rfl
theorem ky_9 : am_ms[9]? = some (⟨"LostSheets$Tape", "<init>", "()V"⟩, prog_7_method_1_code, tp_init) := rfl
theorem ky_10 : am_ms[10]? = some (⟨"LostSheets", "drawer", "(III)I"⟩, prog_1_method_2_code, k_drawer) := rfl
theorem ky_11 : am_ms[11]? = some (⟨"LostSheets", "isCell", "(I)Z"⟩, prog_1_method_34_code, k_isCell) := rfl
theorem ky_12 : am_ms[12]? = some (⟨"LostSheets", "isDigit", "(I)Z"⟩, prog_1_method_36_code, k_isDigit) := rfl
theorem ky_13 : am_ms[13]? = some (⟨"LostSheets$Land", "addDrawer", "(III)Z"⟩, prog_4_method_4_code, la_addDrawer) := rfl
theorem ky_14 : am_ms[14]? = some (⟨"LostSheets$Drawer", "begins", "(III)V"⟩, prog_3_method_2_code, dr_begins) := rfl
theorem ky_15 : am_ms[15]? = some (⟨"LostSheets", "of", "(II)I"⟩, prog_1_method_3_code, k_of) := rfl
theorem ky_16 : am_ms[16]? = some (⟨"LostSheets$Land", "drawerAt", "(I)LLostSheets$Drawer;"⟩, prog_4_method_3_code, la_drawerAt) := rfl
theorem ky_17 : am_ms[17]? = some (⟨"LostSheets$Land", "feelOf", "(LLostSheets$Drawer;)I"⟩, prog_4_method_19_code, la_feelOf) := rfl
theorem ky_18 : am_ms[18]? = some (⟨"LostSheets$Land", "answersOf", "(LLostSheets$Drawer;)[I"⟩, prog_4_method_17_code, la_answersOf) := rfl
theorem ky_19 : am_ms[19]? = some (⟨"LostSheets$Land", "markAt", "(I)I"⟩, prog_4_method_5_code, la_markAt) := rfl
theorem ky_20 : am_ms[20]? = some (⟨"LostSheets$Office", "turnsBy", "([I)I"⟩, prog_5_method_4_code, of_turnsBy) := rfl
theorem ky_21 : am_ms[21]? = some (⟨"LostSheets$Office", "holds", "([III)I"⟩, prog_5_method_5_code, of_holds) := rfl
theorem ky_22 : am_ms[22]? = some (⟨"LostSheets$Land", "othersWith", "(LLostSheets$Drawer;)I"⟩, prog_4_method_18_code, la_othersWith) := rfl
theorem ky_23 : am_ms[23]? = some (⟨"java/lang/Math", "floorMod", "(II)I"⟩, prog_14_method_50_code, jm_floorMod) := rfl
theorem ky_24 : am_ms[24]? = some (⟨"LostSheets$Land", "wayOf", "(LLostSheets$Drawer;)I"⟩, prog_4_method_20_code, la_wayOf) := rfl
theorem ky_25 : am_ms[25]? = some (⟨"LostSheets$Land", "cameOf", "(LLostSheets$Drawer;)I"⟩, prog_4_method_27_code, la_cameOf) := rfl
theorem ky_26 : am_ms[26]? = some (⟨"LostSheets$Land", "endBySheet", "(LLostSheets$Drawer;I)I"⟩, prog_4_method_26_code, la_endBySheet) := rfl
theorem ky_27 : am_ms[27]? = some (⟨"LostSheets$Land", "stepFrom", "(II)I"⟩, prog_4_method_25_code, la_stepFrom) := rfl
theorem ky_28 : am_ms[28]? = some (⟨"LostSheets$Land", "hereOf", "(LLostSheets$Drawer;)I"⟩, prog_4_method_28_code, la_hereOf) := rfl
theorem ky_29 : am_ms[29]? = some (⟨"LostSheets$Land", "lookOf", "(LLostSheets$Drawer;)I"⟩, prog_4_method_29_code, la_lookOf) := rfl
theorem ky_30 : am_ms[30]? = some (⟨"LostSheets$Land", "mostAtOneMark", "(II)I"⟩, prog_4_method_30_code, la_mostAtOneMark) := rfl
theorem ky_31 : am_ms[31]? = some (⟨"LostSheets", "isMark", "(I)Z"⟩, prog_1_method_35_code, k_isMark) := rfl
theorem ky_32 : am_ms[32]? = some (⟨"LostSheets", "placesOf", "(LLostSheets$Drawer;)I"⟩, prog_1_method_47_code, k_placesOf) := rfl
theorem ky_33 : am_ms[33]? = some (⟨"LostSheets", "tryAt", "(II)V"⟩, prog_1_method_42_code, k_tryAt) := rfl
theorem ky_34 : am_ms[34]? = some (⟨"LostSheets$Land", "copyFrom", "(LLostSheets$Land;)V"⟩, prog_4_method_2_code, la_copyFrom) := rfl
theorem ky_35 : am_ms[35]? = some (⟨"LostSheets$Drawer", "copyFrom", "(LLostSheets$Drawer;)V"⟩, prog_3_method_3_code, dr_copyFrom) := rfl
theorem ky_36 : am_ms[36]? = some (⟨"LostSheets$Land", "putAt", "(II)V"⟩, prog_4_method_8_code, la_putAt) := rfl
theorem ky_37 : am_ms[37]? = some (⟨"LostSheets", "seenIsSo", "()Z"⟩, prog_1_method_50_code, k_seenIsSo) := rfl
theorem ky_38 : am_ms[38]? = some (⟨"LostSheets$ByHand", "lastHourSeen", "()I"⟩, prog_2_method_3_code, bh_lastHourSeen) := rfl
theorem ky_39 : am_ms[39]? = some (⟨"LostSheets", "seenIsSoIn", "(I)Z"⟩, prog_1_method_51_code, k_seenIsSoIn) := rfl
theorem ky_40 : am_ms[40]? = some (⟨"LostSheets$Land", "whereIs", "(I)I"⟩, prog_4_method_7_code, la_whereIs) := rfl
theorem ky_41 : am_ms[41]? = some (⟨"LostSheets$Land", "hoursGo", "(I)V"⟩, prog_4_method_23_code, la_hoursGo) := rfl
theorem ky_42 : am_ms[42]? = some (⟨"LostSheets$Land", "anyGoes", "()Z"⟩, prog_4_method_24_code, la_anyGoes) := rfl
theorem ky_43 : am_ms[43]? = some (⟨"LostSheets$Drawer", "goes", "()Z"⟩, prog_3_method_4_code, dr_goes) := rfl
theorem ky_44 : am_ms[44]? = some (⟨"LostSheets$Land", "hourGoes", "()V"⟩, prog_4_method_21_code, la_hourGoes) := rfl
theorem ky_45 : am_ms[45]? = some (⟨"LostSheets$Land", "know", "()I"⟩, prog_4_method_16_code, la_know) := rfl
theorem ky_46 : am_ms[46]? = some (⟨"LostSheets$Land", "stepsAndDraws", "(LLostSheets$Drawer;II)V"⟩, prog_4_method_22_code, la_stepsAndDraws) := rfl
theorem ky_47 : am_ms[47]? = some (⟨"LostSheets$Drawer", "writes", "(II)V"⟩, prog_3_method_5_code, dr_writes) := rfl
theorem ky_48 : am_ms[48]? = some (⟨"LostSheets$Drawer", "rowsWith", "(I)I"⟩, prog_3_method_6_code, dr_rowsWith) := rfl
theorem ky_49 : am_ms[49]? = some (⟨"LostSheets", "sheet", "(II)I"⟩, prog_1_method_4_code, k_sheet) := rfl
theorem ky_50 : am_ms[50]? = some (⟨"LostSheets", "put", "(II)I"⟩, prog_1_method_5_code, k_put) := rfl
theorem ky_51 : am_ms[51]? = some (⟨"LostSheets", "anew", "(I)I"⟩, prog_1_method_6_code, k_anew) := rfl
theorem ky_52 : am_ms[52]? = some (⟨"LostSheets", "mark", "(II)I"⟩, prog_1_method_7_code, k_mark) := rfl
theorem ky_53 : am_ms[53]? = some (⟨"LostSheets$Land", "setMark", "(II)V"⟩, prog_4_method_6_code, la_setMark) := rfl
theorem ky_54 : am_ms[54]? = some (⟨"LostSheets", "row", "(III)I"⟩, prog_1_method_8_code, k_row) := rfl
theorem ky_55 : am_ms[55]? = some (⟨"LostSheets", "feed", "(I)I"⟩, prog_1_method_9_code, k_feed) := rfl
theorem ky_56 : am_ms[56]? = some (⟨"LostSheets$Text", "append", "(I)Z"⟩, prog_8_method_2_code, tx_append) := rfl
theorem ky_57 : am_ms[57]? = some (⟨"LostSheets", "office", "()I"⟩, prog_1_method_10_code, k_office) := rfl
theorem ky_58 : am_ms[58]? = some (⟨"LostSheets$Text", "readInto", "(LLostSheets$Office;)I"⟩, prog_8_method_3_code, tx_readInto) := rfl
theorem ky_59 : am_ms[59]? = some (⟨"LostSheets$Office", "clear", "()V"⟩, prog_5_method_2_code, of_clear) := rfl
theorem ky_60 : am_ms[60]? = some (⟨"LostSheets$Text", "clause", "()Z"⟩, prog_8_method_8_code, tx_clause) := rfl
theorem ky_61 : am_ms[61]? = some (⟨"LostSheets$Text", "ahead", "()I"⟩, prog_8_method_4_code, tx_ahead) := rfl
theorem ky_62 : am_ms[62]? = some (⟨"LostSheets$Text", "takesAll", "(Ljava/lang/String;)Z"⟩, prog_8_method_6_code, tx_takesAll) := rfl
theorem ky_63 : am_ms[63]? = some (⟨"java/lang/String", "length", "()I"⟩, prog_15_method_54_code, js_length) := rfl
theorem ky_64 : am_ms[64]? = some (⟨"java/lang/String", "coder", "()B"⟩, prog_15_method_152_code, js_coder) := rfl
theorem ky_65 : am_ms[65]? = some (⟨"java/lang/String", "charAt", "(I)C"⟩, prog_15_method_56_code, js_charAt) := rfl
theorem ky_66 : am_ms[66]? = some (⟨"java/lang/String", "isLatin1", "()Z"⟩, prog_15_method_154_code, js_isLatin1) := rfl
theorem ky_67 : am_ms[67]? = some (⟨"java/lang/StringLatin1", "charAt", "([BI)C"⟩, prog_16_method_2_code, jl_charAt) := rfl
theorem ky_68 : am_ms[68]? = some (⟨"java/lang/String", "checkIndex", "(II)V"⟩, prog_15_method_155_code, js_checkIndex) := rfl
theorem ky_69 : am_ms[69]? = some (⟨"jdk/internal/util/Preconditions", "checkIndex", "(IILjava/util/function/BiFunction;)I"⟩, prog_19_method_11_code, jp_checkIndex) := rfl
theorem ky_70 : am_ms[70]? = some (⟨"LostSheets$Text", "takes", "(I)Z"⟩, prog_8_method_5_code, tx_takes) := rfl
theorem ky_71 : am_ms[71]? = some (⟨"LostSheets$Text", "oneOrTwoDigits", "()Z"⟩, prog_8_method_7_code, tx_oneOrTwoDigits) := rfl
theorem ky_72 : am_ms[72]? = some (⟨"LostSheets$Text", "anyOf", "(I)Z"⟩, prog_8_method_9_code, tx_anyOf) := rfl
theorem ky_73 : am_ms[73]? = some (⟨"LostSheets$Text", "allOf", "(I)Z"⟩, prog_8_method_10_code, tx_allOf) := rfl
theorem ky_74 : am_ms[74]? = some (⟨"LostSheets$Text", "one", "(I)Z"⟩, prog_8_method_11_code, tx_one) := rfl
theorem ky_75 : am_ms[75]? = some (⟨"LostSheets$Text", "test", "()Z"⟩, prog_8_method_14_code, tx_test) := rfl
theorem ky_76 : am_ms[76]? = some (⟨"LostSheets$Text", "placeIn", "(Ljava/lang/String;I)I"⟩, prog_8_method_15_code, tx_placeIn) := rfl
theorem ky_77 : am_ms[77]? = some (⟨"LostSheets$Office", "append", "(II)V"⟩, prog_5_method_3_code, of_append) := rfl
theorem ky_78 : am_ms[78]? = some (⟨"LostSheets$Text", "not", "(I)Z"⟩, prog_8_method_12_code, tx_not) := rfl
theorem ky_79 : am_ms[79]? = some (⟨"LostSheets$Text", "inBrackets", "(I)Z"⟩, prog_8_method_13_code, tx_inBrackets) := rfl
theorem ky_80 : am_ms[80]? = some (⟨"LostSheets", "told", "(I)I"⟩, prog_1_method_11_code, k_told) := rfl
theorem ky_81 : am_ms[81]? = some (⟨"LostSheets", "marksOf", "(I)I"⟩, prog_1_method_46_code, k_marksOf) := rfl
theorem ky_82 : am_ms[82]? = some (⟨"LostSheets$Land", "doneBits", "()I"⟩, prog_4_method_13_code, la_doneBits) := rfl
theorem ky_83 : am_ms[83]? = some (⟨"LostSheets", "whole", "()I"⟩, prog_1_method_43_code, k_whole) := rfl
theorem ky_84 : am_ms[84]? = some (⟨"LostSheets", "pass", "(I)I"⟩, prog_1_method_12_code, k_pass) := rfl
theorem ky_85 : am_ms[85]? = some (⟨"LostSheets$Land", "capDrew", "()V"⟩, prog_4_method_15_code, la_capDrew) := rfl
theorem ky_86 : am_ms[86]? = some (⟨"java/lang/Math", "min", "(II)I"⟩, prog_14_method_69_code, jm_min) := rfl
theorem ky_87 : am_ms[87]? = some (⟨"LostSheets", "on", "(II)I"⟩, prog_1_method_13_code, k_on) := rfl
theorem ky_88 : am_ms[88]? = some (⟨"LostSheets", "drawerBehindTen", "(I)LLostSheets$Drawer;"⟩, prog_1_method_38_code, k_drawerBehindTen) := rfl
theorem ky_89 : am_ms[89]? = some (⟨"LostSheets", "best", "(II)I"⟩, prog_1_method_14_code, k_best) := rfl
theorem ky_90 : am_ms[90]? = some (⟨"LostSheets", "crew", "(I)I"⟩, prog_1_method_45_code, k_crew) := rfl
theorem ky_91 : am_ms[91]? = some (⟨"java/lang/Integer", "bitCount", "(I)I"⟩, prog_13_method_49_code, ji_bitCount) := rfl
theorem ky_92 : am_ms[92]? = some (⟨"LostSheets$Land", "othersAreDone", "(I)V"⟩, prog_4_method_12_code, la_othersAreDone) := rfl
theorem ky_93 : am_ms[93]? = some (⟨"LostSheets", "landing", "(II)I"⟩, prog_1_method_44_code, k_landing) := rfl
theorem ky_94 : am_ms[94]? = some (⟨"LostSheets", "see", "(III)I"⟩, prog_1_method_15_code, k_see) := rfl
theorem ky_95 : am_ms[95]? = some (⟨"LostSheets$Rows", "clear", "()V"⟩, prog_6_method_2_code, ro_clear) := rfl
theorem ky_96 : am_ms[96]? = some (⟨"LostSheets$Rows", "append", "(III)Z"⟩, prog_6_method_3_code, ro_append) := rfl
theorem ky_97 : am_ms[97]? = some (⟨"LostSheets", "can", "(II)I"⟩, prog_1_method_16_code, k_can) := rfl
theorem ky_98 : am_ms[98]? = some (⟨"LostSheets", "possibleNumbers", "(I)I"⟩, prog_1_method_48_code, k_possibleNumbers) := rfl
theorem ky_99 : am_ms[99]? = some (⟨"LostSheets$Land", "setNumber", "(II)V"⟩, prog_4_method_9_code, la_setNumber) := rfl
theorem ky_100 : am_ms[100]? = some (⟨"LostSheets", "leastOf", "(I)I"⟩, prog_1_method_49_code, k_leastOf) := rfl
theorem ky_101 : am_ms[101]? = some (⟨"LostSheets", "odds", "(III)J"⟩, prog_1_method_17_code, k_odds) := rfl
theorem ky_102 : am_ms[102]? = some (⟨"LostSheets", "partOfFraction", "(JJI)J"⟩, prog_1_method_53_code, k_partOfFraction) := rfl
theorem ky_103 : am_ms[103]? = some (⟨"LostSheets", "greatestDivisor", "(JJ)J"⟩, prog_1_method_54_code, k_greatestDivisor) := rfl
theorem ky_104 : am_ms[104]? = some (⟨"LostSheets", "mean", "(II)J"⟩, prog_1_method_18_code, k_mean) := rfl
theorem ky_105 : am_ms[105]? = some (⟨"LostSheets$Land", "drewOfAll", "()I"⟩, prog_4_method_14_code, la_drewOfAll) := rfl
theorem ky_106 : am_ms[106]? = some (⟨"LostSheets", "plan", "(II)I"⟩, prog_1_method_19_code, k_plan) := rfl
theorem ky_107 : am_ms[107]? = some (⟨"LostSheets", "isPlanRow", "(II)Z"⟩, prog_1_method_37_code, k_isPlanRow) := rfl
theorem ky_108 : am_ms[108]? = some (⟨"LostSheets", "ends", "(I)I"⟩, prog_1_method_20_code, k_ends) := rfl
theorem ky_109 : am_ms[109]? = some (⟨"LostSheets", "tryPlan", "()V"⟩, prog_1_method_52_code, k_tryPlan) := rfl
theorem ky_110 : am_ms[110]? = some (⟨"LostSheets$Land", "emptySheet", "(I)V"⟩, prog_4_method_10_code, la_emptySheet) := rfl
theorem ky_111 : am_ms[111]? = some (⟨"LostSheets$Land", "notDone", "(I)V"⟩, prog_4_method_11_code, la_notDone) := rfl
theorem ky_112 : am_ms[112]? = some (⟨"LostSheets", "book", "(II)I"⟩, prog_1_method_21_code, k_book) := rfl
theorem ky_113 : am_ms[113]? = some (⟨"LostSheets", "looked", "()I"⟩, prog_1_method_22_code, k_looked) := rfl
theorem ky_114 : am_ms[114]? = some (⟨"LostSheets", "judge", "(II)I"⟩, prog_1_method_23_code, k_judge) := rfl
theorem ky_115 : am_ms[115]? = some (⟨"LostSheets", "tapeAt", "(I)LLostSheets$Tape;"⟩, prog_1_method_39_code, k_tapeAt) := rfl
theorem ky_116 : am_ms[116]? = some (⟨"LostSheets$Tape", "has", "(I)Z"⟩, prog_7_method_3_code, tp_has) := rfl
theorem ky_117 : am_ms[117]? = some (⟨"LostSheets", "image", "()I"⟩, prog_1_method_24_code, k_image) := rfl
theorem ky_118 : am_ms[118]? = some (⟨"LostSheets$ByHand", "copyFrom", "(LLostSheets$ByHand;)V"⟩, prog_2_method_2_code, bh_copyFrom) := rfl
theorem ky_119 : am_ms[119]? = some (⟨"LostSheets$Rows", "copyFrom", "(LLostSheets$Rows;)V"⟩, prog_6_method_4_code, ro_copyFrom) := rfl
theorem ky_120 : am_ms[120]? = some (⟨"LostSheets", "undo", "()I"⟩, prog_1_method_25_code, k_undo) := rfl
theorem ky_121 : am_ms[121]? = some (⟨"LostSheets", "act", "(III)I"⟩, prog_1_method_26_code, k_act) := rfl
theorem ky_122 : am_ms[122]? = some (⟨"LostSheets$Trace", "ofAct", "(LLostSheets$Drawer;II)I"⟩, prog_9_method_4_code, tr_ofAct) := rfl
theorem ky_123 : am_ms[123]? = some (⟨"LostSheets$Trace", "run", "(LLostSheets$Drawer;IIII)I"⟩, prog_9_method_5_code, tr_run) := rfl
theorem ky_124 : am_ms[124]? = some (⟨"LostSheets$Trace", "bodyOf", "(II)I"⟩, prog_9_method_2_code, tr_bodyOf) := rfl
theorem ky_125 : am_ms[125]? = some (⟨"LostSheets", "aboveOf", "(I)I"⟩, prog_1_method_40_code, k_aboveOf) := rfl
theorem ky_126 : am_ms[126]? = some (⟨"LostSheets$Trace", "begins", "(I)V"⟩, prog_9_method_3_code, tr_begins) := rfl
theorem ky_127 : am_ms[127]? = some (⟨"LostSheets$Trace", "does", "(ILLostSheets$Drawer;II)I"⟩, prog_9_method_6_code, tr_does) := rfl
theorem ky_128 : am_ms[128]? = some (⟨"LostSheets", "trace", "(I)I"⟩, prog_1_method_27_code, k_trace) := rfl
theorem ky_129 : am_ms[129]? = some (⟨"LostSheets", "taken", "(II)I"⟩, prog_1_method_28_code, k_taken) := rfl
theorem ky_130 : am_ms[130]? = some (⟨"LostSheets", "isUnder", "(II)Z"⟩, prog_1_method_41_code, k_isUnder) := rfl
theorem ky_131 : am_ms[131]? = some (⟨"LostSheets", "count", "(I)I"⟩, prog_1_method_29_code, k_count) := rfl
theorem ky_132 : am_ms[132]? = some (⟨"LostSheets", "tape", "(III)I"⟩, prog_1_method_30_code, k_tape) := rfl
theorem ky_133 : am_ms[133]? = some (⟨"LostSheets$Tape", "becomes", "(II)V"⟩, prog_7_method_2_code, tp_becomes) := rfl
theorem ky_134 : am_ms[134]? = some (⟨"LostSheets", "item", "(IIJ)I"⟩, prog_1_method_31_code, k_item) := rfl
theorem ky_135 : am_ms[135]? = some (⟨"LostSheets$Tape", "asItem", "(J)J"⟩, prog_7_method_5_code, tp_asItem) := rfl
theorem ky_136 : am_ms[136]? = some (⟨"LostSheets", "read", "(II)J"⟩, prog_1_method_32_code, k_read) := rfl
theorem ky_137 : am_ms[137]? = some (⟨"LostSheets", "shift", "(IIIII)I"⟩, prog_1_method_33_code, k_shift) := rfl
theorem ky_138 : am_ms[138]? = some (⟨"LostSheets$Tape", "hasRun", "(II)Z"⟩, prog_7_method_4_code, tp_hasRun) := rfl
theorem ky_139 : am_ms[139]? = some (⟨"LostSheetsModel", "<init>", "()V"⟩, prog_11_method_1_code, m_init) := rfl
theorem ky_140 : am_ms[140]? = some (⟨"LostSheetsModel", "drawer", "(III)I"⟩, prog_11_method_5_code, m_drawer) := rfl
theorem ky_141 : am_ms[141]? = some (⟨"LostSheetsModel", "within", "(III)Z"⟩, prog_11_method_2_code, m_within) := rfl
theorem ky_142 : am_ms[142]? = some (⟨"LostSheetsModel", "isCell", "(I)Z"⟩, prog_11_method_4_code, m_isCell) := rfl
theorem ky_143 : am_ms[143]? = some (⟨"LostSheetsModel", "of", "(II)I"⟩, prog_11_method_6_code, m_of) := rfl
theorem ky_144 : am_ms[144]? = some (⟨"LostSheetsModel", "isOne", "(I)Z"⟩, prog_11_method_3_code, m_isOne) := rfl
theorem ky_145 : am_ms[145]? = some (⟨"LostSheetsModel", "feel", "(I)I"⟩, prog_11_method_30_code, m_feel) := rfl
theorem ky_146 : am_ms[146]? = some (⟨"LostSheetsModel", "sum", "(I)I"⟩, prog_11_method_27_code, m_sum) := rfl
theorem ky_147 : am_ms[147]? = some (⟨"LostSheetsModel", "isTrue", "(II)Z"⟩, prog_11_method_26_code, m_isTrue) := rfl
theorem ky_148 : am_ms[148]? = some (⟨"LostSheetsModel", "letterOf", "(II)I"⟩, prog_11_method_25_code, m_letterOf) := rfl
theorem ky_149 : am_ms[149]? = some (⟨"LostSheetsModel", "others", "(I)I"⟩, prog_11_method_29_code, m_others) := rfl
theorem ky_150 : am_ms[150]? = some (⟨"LostSheetsModel", "wayOf", "(I)I"⟩, prog_11_method_31_code, m_wayOf) := rfl
theorem ky_151 : am_ms[151]? = some (⟨"LostSheetsModel", "came", "(IZ)I"⟩, prog_11_method_41_code, m_came) := rfl
theorem ky_152 : am_ms[152]? = some (⟨"LostSheetsModel", "step", "(II)I"⟩, prog_11_method_32_code, m_step) := rfl
theorem ky_153 : am_ms[153]? = some (⟨"LostSheetsModel", "look", "(I)I"⟩, prog_11_method_42_code, m_look) := rfl
theorem ky_154 : am_ms[154]? = some (⟨"LostSheetsModel", "places", "(I)I"⟩, prog_11_method_50_code, m_places) := rfl
theorem ky_155 : am_ms[155]? = some (⟨"LostSheetsModel", "isSeen", "()Z"⟩, prog_11_method_48_code, m_isSeen) := rfl
theorem ky_156 : am_ms[156]? = some (⟨"LostSheetsModel", "keep", "([I)V"⟩, prog_11_method_61_code, m_keep) := rfl
theorem ky_157 : am_ms[157]? = some (⟨"LostSheetsModel", "goesHour", "()V"⟩, prog_11_method_34_code, m_goesHour) := rfl
theorem ky_158 : am_ms[158]? = some (⟨"LostSheetsModel", "know", "()I"⟩, prog_11_method_28_code, m_know) := rfl
theorem ky_159 : am_ms[159]? = some (⟨"LostSheetsModel", "goesBy", "(III)V"⟩, prog_11_method_33_code, m_goesBy) := rfl
theorem ky_160 : am_ms[160]? = some (⟨"LostSheetsModel", "again", "([I)V"⟩, prog_11_method_62_code, m_again) := rfl
theorem ky_161 : am_ms[161]? = some (⟨"LostSheetsModel", "sheet", "(II)I"⟩, prog_11_method_7_code, m_sheet) := rfl
theorem ky_162 : am_ms[162]? = some (⟨"LostSheetsModel", "put", "(II)I"⟩, prog_11_method_8_code, m_put) := rfl
theorem ky_163 : am_ms[163]? = some (⟨"LostSheetsModel", "anew", "(I)I"⟩, prog_11_method_9_code, m_anew) := rfl
theorem ky_164 : am_ms[164]? = some (⟨"LostSheetsModel", "mark", "(II)I"⟩, prog_11_method_10_code, m_mark) := rfl
theorem ky_165 : am_ms[165]? = some (⟨"LostSheetsModel", "row", "(III)I"⟩, prog_11_method_11_code, m_row) := rfl
theorem ky_166 : am_ms[166]? = some (⟨"LostSheetsModel", "feed", "(I)I"⟩, prog_11_method_12_code, m_feed) := rfl
theorem ky_167 : am_ms[167]? = some (⟨"LostSheetsModel", "office", "()I"⟩, prog_11_method_24_code, m_office) := rfl
theorem ky_168 : am_ms[168]? = some (⟨"LostSheetsModel", "isClause", "(I)Z"⟩, prog_11_method_23_code, m_isClause) := rfl
theorem ky_169 : am_ms[169]? = some (⟨"LostSheetsModel", "isAll", "(Ljava/lang/String;)Z"⟩, prog_11_method_16_code, m_isAll) := rfl
theorem ky_170 : am_ms[170]? = some (⟨"LostSheetsModel", "is", "(I)Z"⟩, prog_11_method_13_code, m_is) := rfl
theorem ky_171 : am_ms[171]? = some (⟨"LostSheetsModel", "isNumber", "()Z"⟩, prog_11_method_15_code, m_isNumber) := rfl
theorem ky_172 : am_ms[172]? = some (⟨"LostSheetsModel", "isDigit", "()Z"⟩, prog_11_method_14_code, m_isDigit) := rfl
theorem ky_173 : am_ms[173]? = some (⟨"LostSheetsModel", "isE", "()Z"⟩, prog_11_method_22_code, m_isE) := rfl
theorem ky_174 : am_ms[174]? = some (⟨"LostSheetsModel", "isT", "()Z"⟩, prog_11_method_21_code, m_isT) := rfl
theorem ky_175 : am_ms[175]? = some (⟨"LostSheetsModel", "isF", "()Z"⟩, prog_11_method_20_code, m_isF) := rfl
theorem ky_176 : am_ms[176]? = some (⟨"LostSheetsModel", "isOpened", "(I)Z"⟩, prog_11_method_19_code, m_isOpened) := rfl
theorem ky_177 : am_ms[177]? = some (⟨"LostSheetsModel", "codes", "(I)Z"⟩, prog_11_method_17_code, m_codes) := rfl
theorem ky_178 : am_ms[178]? = some (⟨"LostSheetsModel", "isTest", "()Z"⟩, prog_11_method_18_code, m_isTest) := rfl
theorem ky_179 : am_ms[179]? = some (⟨"java/lang/String", "indexOf", "(I)I"⟩, prog_15_method_79_code, js_indexOf) := rfl
theorem ky_180 : am_ms[180]? = some (⟨"java/lang/String", "indexOf", "(II)I"⟩, prog_15_method_80_code, js_indexOf2) := rfl
theorem ky_181 : am_ms[181]? = some (⟨"java/lang/StringLatin1", "indexOf", "([BIII)I"⟩, prog_16_method_22_code, jl_indexOf) := rfl
theorem ky_182 : am_ms[182]? = some (⟨"java/lang/StringLatin1", "canEncode", "(I)Z"⟩, prog_16_method_4_code, jl_canEncode) := rfl
theorem ky_183 : am_ms[183]? = some (⟨"java/lang/StringLatin1", "indexOfChar", "([BIII)I"⟩, prog_16_method_23_code, jl_indexOfChar) := rfl
theorem ky_184 : am_ms[184]? = some (⟨"java/lang/String", "checkBoundsBeginEnd", "(III)V"⟩, prog_15_method_158_code, js_checkBoundsBeginEnd) := rfl
theorem ky_185 : am_ms[185]? = some (⟨"jdk/internal/util/Preconditions", "checkFromToIndex", "(IIILjava/util/function/BiFunction;)I"⟩, prog_19_method_12_code, jp_checkFromToIndex) := rfl
theorem ky_186 : am_ms[186]? = some (⟨"LostSheetsModel", "told", "(I)I"⟩, prog_11_method_38_code, m_told) := rfl
theorem ky_187 : am_ms[187]? = some (⟨"LostSheetsModel", "marksOf", "(I)I"⟩, prog_11_method_49_code, m_marksOf) := rfl
theorem ky_188 : am_ms[188]? = some (⟨"LostSheetsModel", "allDone", "()I"⟩, prog_11_method_36_code, m_allDone) := rfl
theorem ky_189 : am_ms[189]? = some (⟨"LostSheetsModel", "whole", "()I"⟩, prog_11_method_37_code, m_whole) := rfl
theorem ky_190 : am_ms[190]? = some (⟨"LostSheetsModel", "pass", "(I)I"⟩, prog_11_method_39_code, m_pass) := rfl
theorem ky_191 : am_ms[191]? = some (⟨"LostSheetsModel", "on", "(II)I"⟩, prog_11_method_40_code, m_on) := rfl
theorem ky_192 : am_ms[192]? = some (⟨"LostSheetsModel", "goesOn", "(I)V"⟩, prog_11_method_35_code, m_goesOn) := rfl
theorem ky_193 : am_ms[193]? = some (⟨"LostSheetsModel", "best", "(II)I"⟩, prog_11_method_46_code, m_best) := rfl
theorem ky_194 : am_ms[194]? = some (⟨"LostSheetsModel", "crew", "(I)I"⟩, prog_11_method_45_code, m_crew) := rfl
theorem ky_195 : am_ms[195]? = some (⟨"LostSheetsModel", "drawnBehind", "(I)I"⟩, prog_11_method_43_code, m_drawnBehind) := rfl
theorem ky_196 : am_ms[196]? = some (⟨"LostSheetsModel", "landing", "(II)I"⟩, prog_11_method_44_code, m_landing) := rfl
theorem ky_197 : am_ms[197]? = some (⟨"LostSheetsModel", "see", "(III)I"⟩, prog_11_method_47_code, m_see) := rfl
theorem ky_198 : am_ms[198]? = some (⟨"LostSheetsModel", "can", "(II)I"⟩, prog_11_method_51_code, m_can) := rfl
theorem ky_199 : am_ms[199]? = some (⟨"LostSheetsModel", "odds", "(III)J"⟩, prog_11_method_53_code, m_odds) := rfl
theorem ky_200 : am_ms[200]? = some (⟨"LostSheetsModel", "part", "(JJI)J"⟩, prog_11_method_52_code, m_part) := rfl
theorem ky_201 : am_ms[201]? = some (⟨"java/lang/Math", "abs", "(J)J"⟩, prog_14_method_61_code, jm_abs) := rfl
theorem ky_202 : am_ms[202]? = some (⟨"LostSheetsModel", "mean", "(II)J"⟩, prog_11_method_55_code, m_mean) := rfl
theorem ky_203 : am_ms[203]? = some (⟨"LostSheetsModel", "allDrew", "()I"⟩, prog_11_method_54_code, m_allDrew) := rfl
theorem ky_204 : am_ms[204]? = some (⟨"LostSheetsModel", "plan", "(II)I"⟩, prog_11_method_56_code, m_plan) := rfl
theorem ky_205 : am_ms[205]? = some (⟨"LostSheetsModel", "ends", "(I)I"⟩, prog_11_method_57_code, m_ends) := rfl
theorem ky_206 : am_ms[206]? = some (⟨"LostSheetsModel", "book", "(II)I"⟩, prog_11_method_58_code, m_book) := rfl
theorem ky_207 : am_ms[207]? = some (⟨"LostSheetsModel", "looked", "()I"⟩, prog_11_method_59_code, m_looked) := rfl
theorem ky_208 : am_ms[208]? = some (⟨"LostSheetsModel", "judge", "(II)I"⟩, prog_11_method_60_code, m_judge) := rfl
theorem ky_209 : am_ms[209]? = some (⟨"LostSheetsModel", "image", "()I"⟩, prog_11_method_63_code, m_image) := rfl
theorem ky_210 : am_ms[210]? = some (⟨"LostSheetsModel", "undo", "()I"⟩, prog_11_method_64_code, m_undo) := rfl
theorem ky_211 : am_ms[211]? = some (⟨"LostSheetsModel", "act", "(III)I"⟩, prog_11_method_70_code, m_act) := rfl
theorem ky_212 : am_ms[212]? = some (⟨"LostSheetsModel", "weeps", "(III)I"⟩, prog_11_method_67_code, m_weeps) := rfl
theorem ky_213 : am_ms[213]? = some (⟨"LostSheetsModel", "ran", "(I)V"⟩, prog_11_method_65_code, m_ran) := rfl
theorem ky_214 : am_ms[214]? = some (⟨"LostSheetsModel", "above", "(I)I"⟩, prog_11_method_66_code, m_above) := rfl
theorem ky_215 : am_ms[215]? = some (⟨"LostSheetsModel", "draws", "(III)I"⟩, prog_11_method_68_code, m_draws) := rfl
theorem ky_216 : am_ms[216]? = some (⟨"LostSheetsModel", "tells", "(III)I"⟩, prog_11_method_69_code, m_tells) := rfl
theorem ky_217 : am_ms[217]? = some (⟨"LostSheetsModel", "trace", "(I)I"⟩, prog_11_method_71_code, m_trace) := rfl
theorem ky_218 : am_ms[218]? = some (⟨"LostSheetsModel", "taken", "(II)I"⟩, prog_11_method_72_code, m_taken) := rfl
theorem ky_219 : am_ms[219]? = some (⟨"LostSheetsModel", "count", "(I)I"⟩, prog_11_method_73_code, m_count) := rfl
theorem ky_220 : am_ms[220]? = some (⟨"LostSheetsModel", "tape", "(III)I"⟩, prog_11_method_75_code, m_tape) := rfl
theorem ky_221 : am_ms[221]? = some (⟨"LostSheetsModel", "isTape", "(I)Z"⟩, prog_11_method_74_code, m_isTape) := rfl
theorem ky_222 : am_ms[222]? = some (⟨"LostSheetsModel", "item", "(IIJ)I"⟩, prog_11_method_77_code, m_item) := rfl
theorem ky_223 : am_ms[223]? = some (⟨"LostSheetsModel", "kept", "(IJ)J"⟩, prog_11_method_76_code, m_kept) := rfl
theorem ky_224 : am_ms[224]? = some (⟨"LostSheetsModel", "read", "(II)J"⟩, prog_11_method_78_code, m_read) := rfl
theorem ky_225 : am_ms[225]? = some (⟨"LostSheetsModel", "shift", "(IIIII)I"⟩, prog_11_method_79_code, m_shift) := rfl
theorem km_0_3 : am_mok 0 (3, 6, 0, 0) := Or.inl ⟨rfl, ct_132⟩
theorem kn_4 : ("LostSheets$Rows" ≠ "java/lang/invoke/MethodHandle" ∧ "LostSheets$Rows" ≠ "java/lang/invoke/VarHandle" ∧ (parseMethodDescriptor "(I)V").map (fun d => d.parameters.length) = some 1) := by decide +kernel
theorem km_0_11 : am_mok 0 (11, 2, 4, 1) := Or.inr (Or.inr ⟨by decide, _, ky_4, kn_4, ⟨ct_135, ct_136, rfl, rfl⟩⟩)
theorem kn_5 : ("java/lang/Math" ≠ "java/lang/invoke/MethodHandle" ∧ "java/lang/Math" ≠ "java/lang/invoke/VarHandle" ∧ (parseMethodDescriptor "(II)I").map (fun d => d.parameters.length) = some 2) := by decide +kernel
theorem km_0_41 : am_mok 0 (41, 1, 5, 2) := Or.inr (Or.inr ⟨by decide, _, ky_5, kn_5, ⟨ct_414, ct_140⟩⟩)
theorem kn_119 : ("LostSheets$Rows" ≠ "java/lang/invoke/MethodHandle" ∧ "LostSheets$Rows" ≠ "java/lang/invoke/VarHandle" ∧ (parseMethodDescriptor "(LLostSheets$Rows;)V").map (fun d => d.parameters.length) = some 1) := by decide +kernel
theorem km_0_26 : am_mok 0 (26, 0, 119, 1) := Or.inr (Or.inr ⟨by decide, _, ky_119, kn_119, ⟨ct_763, ct_764, ct_765⟩⟩)
theorem am_mt_ok_0 : ∀ e ∈ am_mt 0, am_mok 0 e := List.forall_mem_cons.mpr ⟨km_0_3, List.forall_mem_cons.mpr ⟨km_0_11, List.forall_mem_cons.mpr ⟨km_0_41, List.forall_mem_cons.mpr ⟨km_0_26, fun _ h => absurd h List.not_mem_nil⟩⟩⟩⟩
theorem km_1_3 : am_mok 1 (3, 6, 0, 0) := Or.inl ⟨rfl, ct_39⟩
theorem km_1_44 : am_mok 1 (44, 7, 0, 0) := Or.inr (Or.inl ⟨rfl, ct_399⟩)
theorem am_mt_ok_1 : ∀ e ∈ am_mt 1, am_mok 1 e := List.forall_mem_cons.mpr ⟨km_1_3, List.forall_mem_cons.mpr ⟨km_1_44, fun _ h => absurd h List.not_mem_nil⟩⟩
theorem km_2_3 : am_mok 2 (3, 6, 0, 0) := Or.inl ⟨rfl, ct_32⟩
theorem kn_2 : ("LostSheets$Drawer" ≠ "java/lang/invoke/MethodHandle" ∧ "LostSheets$Drawer" ≠ "java/lang/invoke/VarHandle" ∧ (parseMethodDescriptor "(I)V").map (fun d => d.parameters.length) = some 1) := by decide +kernel
theorem km_2_46 : am_mok 2 (46, 2, 2, 1) := Or.inr (Or.inr ⟨by decide, _, ky_2, kn_2, ⟨ct_36, ct_37, rfl, rfl⟩⟩)
theorem kn_14 : ("LostSheets$Drawer" ≠ "java/lang/invoke/MethodHandle" ∧ "LostSheets$Drawer" ≠ "java/lang/invoke/VarHandle" ∧ (parseMethodDescriptor "(III)V").map (fun d => d.parameters.length) = some 3) := by decide +kernel
theorem km_2_59 : am_mok 2 (59, 0, 14, 3) := Or.inr (Or.inr ⟨by decide, _, ky_14, kn_14, ⟨ct_309, ct_310, ct_311⟩⟩)
theorem kn_18 : ("LostSheets$Land" ≠ "java/lang/invoke/MethodHandle" ∧ "LostSheets$Land" ≠ "java/lang/invoke/VarHandle" ∧ (parseMethodDescriptor "(LLostSheets$Drawer;)[I").map (fun d => d.parameters.length) = some 1) := by decide +kernel
theorem km_2_109 : am_mok 2 (109, 0, 18, 1) := Or.inr (Or.inr ⟨by decide, _, ky_18, kn_18, ⟨ct_325, ct_327, cts_0⟩⟩)
theorem kn_19 : ("LostSheets$Land" ≠ "java/lang/invoke/MethodHandle" ∧ "LostSheets$Land" ≠ "java/lang/invoke/VarHandle" ∧ (parseMethodDescriptor "(I)I").map (fun d => d.parameters.length) = some 1) := by decide +kernel
theorem km_2_105 : am_mok 2 (105, 0, 19, 1) := Or.inr (Or.inr ⟨by decide, _, ky_19, kn_19, ⟨ct_329, ct_330, ct_331⟩⟩)
theorem kn_20 : ("LostSheets$Office" ≠ "java/lang/invoke/MethodHandle" ∧ "LostSheets$Office" ≠ "java/lang/invoke/VarHandle" ∧ (parseMethodDescriptor "([I)I").map (fun d => d.parameters.length) = some 1) := by decide +kernel
theorem km_2_113 : am_mok 2 (113, 0, 20, 1) := Or.inr (Or.inr ⟨by decide, _, ky_20, kn_20, ⟨ct_333, ct_334, ct_335⟩⟩)
theorem kn_22 : ("LostSheets$Land" ≠ "java/lang/invoke/MethodHandle" ∧ "LostSheets$Land" ≠ "java/lang/invoke/VarHandle" ∧ (parseMethodDescriptor "(LLostSheets$Drawer;)I").map (fun d => d.parameters.length) = some 1) := by decide +kernel
theorem km_2_117 : am_mok 2 (117, 0, 22, 1) := Or.inr (Or.inr ⟨by decide, _, ky_22, kn_22, ⟨ct_340, ct_342, cts_1⟩⟩)
theorem kn_23 : ("java/lang/Math" ≠ "java/lang/invoke/MethodHandle" ∧ "java/lang/Math" ≠ "java/lang/invoke/VarHandle" ∧ (parseMethodDescriptor "(II)I").map (fun d => d.parameters.length) = some 2) := by decide +kernel
theorem km_2_124 : am_mok 2 (124, 1, 23, 2) := Or.inr (Or.inr ⟨by decide, _, ky_23, kn_23, ⟨ct_344, ct_345⟩⟩)
theorem kn_17 : ("LostSheets$Land" ≠ "java/lang/invoke/MethodHandle" ∧ "LostSheets$Land" ≠ "java/lang/invoke/VarHandle" ∧ (parseMethodDescriptor "(LLostSheets$Drawer;)I").map (fun d => d.parameters.length) = some 1) := by decide +kernel
theorem km_2_127 : am_mok 2 (127, 0, 17, 1) := Or.inr (Or.inr ⟨by decide, _, ky_17, kn_17, ⟨ct_351, ct_322, ct_323⟩⟩)
theorem kn_26 : ("LostSheets$Land" ≠ "java/lang/invoke/MethodHandle" ∧ "LostSheets$Land" ≠ "java/lang/invoke/VarHandle" ∧ (parseMethodDescriptor "(LLostSheets$Drawer;I)I").map (fun d => d.parameters.length) = some 2) := by decide +kernel
theorem km_2_163 : am_mok 2 (163, 0, 26, 2) := Or.inr (Or.inr ⟨by decide, _, ky_26, kn_26, ⟨ct_356, ct_358, cts_2⟩⟩)
theorem kn_27 : ("LostSheets$Land" ≠ "java/lang/invoke/MethodHandle" ∧ "LostSheets$Land" ≠ "java/lang/invoke/VarHandle" ∧ (parseMethodDescriptor "(II)I").map (fun d => d.parameters.length) = some 2) := by decide +kernel
theorem km_2_141 : am_mok 2 (141, 1, 27, 2) := Or.inr (Or.inr ⟨by decide, _, ky_27, kn_27, ⟨ct_360, ct_361⟩⟩)
theorem kn_28 : ("LostSheets$Land" ≠ "java/lang/invoke/MethodHandle" ∧ "LostSheets$Land" ≠ "java/lang/invoke/VarHandle" ∧ (parseMethodDescriptor "(LLostSheets$Drawer;)I").map (fun d => d.parameters.length) = some 1) := by decide +kernel
theorem km_2_167 : am_mok 2 (167, 0, 28, 1) := Or.inr (Or.inr ⟨by decide, _, ky_28, kn_28, ⟨ct_371, ct_364, ct_365⟩⟩)
theorem kn_30 : ("LostSheets$Land" ≠ "java/lang/invoke/MethodHandle" ∧ "LostSheets$Land" ≠ "java/lang/invoke/VarHandle" ∧ (parseMethodDescriptor "(II)I").map (fun d => d.parameters.length) = some 2) := by decide +kernel
theorem km_2_170 : am_mok 2 (170, 0, 30, 2) := Or.inr (Or.inr ⟨by decide, _, ky_30, kn_30, ⟨ct_372, ct_374, cts_3⟩⟩)
theorem kn_31 : ("LostSheets" ≠ "java/lang/invoke/MethodHandle" ∧ "LostSheets" ≠ "java/lang/invoke/VarHandle" ∧ (parseMethodDescriptor "(I)Z").map (fun d => d.parameters.length) = some 1) := by decide +kernel
theorem km_2_67 : am_mok 2 (67, 4, 31, 1) := Or.inr (Or.inr ⟨by decide, _, ky_31, kn_31, ⟨ct_376, ct_377⟩⟩)
theorem km_2_173 : am_mok 2 (173, 1, 5, 2) := Or.inr (Or.inr ⟨by decide, _, ky_5, kn_5, ⟨ct_379, ct_140⟩⟩)
theorem km_2_49 : am_mok 2 (49, 7, 0, 0) := Or.inr (Or.inl ⟨rfl, ct_392⟩)
theorem kn_35 : ("LostSheets$Drawer" ≠ "java/lang/invoke/MethodHandle" ∧ "LostSheets$Drawer" ≠ "java/lang/invoke/VarHandle" ∧ (parseMethodDescriptor "(LLostSheets$Drawer;)V").map (fun d => d.parameters.length) = some 1) := by decide +kernel
theorem km_2_55 : am_mok 2 (55, 0, 35, 1) := Or.inr (Or.inr ⟨by decide, _, ky_35, kn_35, ⟨ct_395, ct_396, ct_397⟩⟩)
theorem kn_16 : ("LostSheets$Land" ≠ "java/lang/invoke/MethodHandle" ∧ "LostSheets$Land" ≠ "java/lang/invoke/VarHandle" ∧ (parseMethodDescriptor "(I)LLostSheets$Drawer;").map (fun d => d.parameters.length) = some 1) := by decide +kernel
theorem km_2_70 : am_mok 2 (70, 0, 16, 1) := Or.inr (Or.inr ⟨by decide, _, ky_16, kn_16, ⟨ct_404, ct_318, ct_319⟩⟩)
theorem kn_11 : ("LostSheets" ≠ "java/lang/invoke/MethodHandle" ∧ "LostSheets" ≠ "java/lang/invoke/VarHandle" ∧ (parseMethodDescriptor "(I)Z").map (fun d => d.parameters.length) = some 1) := by decide +kernel
theorem km_2_63 : am_mok 2 (63, 4, 11, 1) := Or.inr (Or.inr ⟨by decide, _, ky_11, kn_11, ⟨ct_405, ct_300⟩⟩)
theorem kn_42 : ("LostSheets$Land" ≠ "java/lang/invoke/MethodHandle" ∧ "LostSheets$Land" ≠ "java/lang/invoke/VarHandle" ∧ (parseMethodDescriptor "()Z").map (fun d => d.parameters.length) = some 0) := by decide +kernel
theorem km_2_151 : am_mok 2 (151, 0, 42, 0) := Or.inr (Or.inr ⟨by decide, _, ky_42, kn_42, ⟨ct_428, ct_430, cts_8⟩⟩)
theorem kn_43 : ("LostSheets$Drawer" ≠ "java/lang/invoke/MethodHandle" ∧ "LostSheets$Drawer" ≠ "java/lang/invoke/VarHandle" ∧ (parseMethodDescriptor "()Z").map (fun d => d.parameters.length) = some 0) := by decide +kernel
theorem km_2_130 : am_mok 2 (130, 0, 43, 0) := Or.inr (Or.inr ⟨by decide, _, ky_43, kn_43, ⟨ct_432, ct_433, ct_434⟩⟩)
theorem kn_44 : ("LostSheets$Land" ≠ "java/lang/invoke/MethodHandle" ∧ "LostSheets$Land" ≠ "java/lang/invoke/VarHandle" ∧ (parseMethodDescriptor "()V").map (fun d => d.parameters.length) = some 0) := by decide +kernel
theorem km_2_154 : am_mok 2 (154, 0, 44, 0) := Or.inr (Or.inr ⟨by decide, _, ky_44, kn_44, ⟨ct_436, ct_437, ct_438⟩⟩)
theorem kn_45 : ("LostSheets$Land" ≠ "java/lang/invoke/MethodHandle" ∧ "LostSheets$Land" ≠ "java/lang/invoke/VarHandle" ∧ (parseMethodDescriptor "()I").map (fun d => d.parameters.length) = some 0) := by decide +kernel
theorem km_2_134 : am_mok 2 (134, 0, 45, 0) := Or.inr (Or.inr ⟨by decide, _, ky_45, kn_45, ⟨ct_440, ct_441, ct_442⟩⟩)
theorem kn_46 : ("LostSheets$Land" ≠ "java/lang/invoke/MethodHandle" ∧ "LostSheets$Land" ≠ "java/lang/invoke/VarHandle" ∧ (parseMethodDescriptor "(LLostSheets$Drawer;II)V").map (fun d => d.parameters.length) = some 3) := by decide +kernel
theorem km_2_137 : am_mok 2 (137, 0, 46, 3) := Or.inr (Or.inr ⟨by decide, _, ky_46, kn_46, ⟨ct_444, ct_446, cts_9⟩⟩)
theorem kn_47 : ("LostSheets$Drawer" ≠ "java/lang/invoke/MethodHandle" ∧ "LostSheets$Drawer" ≠ "java/lang/invoke/VarHandle" ∧ (parseMethodDescriptor "(II)V").map (fun d => d.parameters.length) = some 2) := by decide +kernel
theorem km_2_144 : am_mok 2 (144, 0, 47, 2) := Or.inr (Or.inr ⟨by decide, _, ky_47, kn_47, ⟨ct_448, ct_449, ct_450⟩⟩)
theorem kn_48 : ("LostSheets$Drawer" ≠ "java/lang/invoke/MethodHandle" ∧ "LostSheets$Drawer" ≠ "java/lang/invoke/VarHandle" ∧ (parseMethodDescriptor "(I)I").map (fun d => d.parameters.length) = some 1) := by decide +kernel
theorem km_2_148 : am_mok 2 (148, 0, 48, 1) := Or.inr (Or.inr ⟨by decide, _, ky_48, kn_48, ⟨ct_452, ct_453, ct_454⟩⟩)
theorem kn_86 : ("java/lang/Math" ≠ "java/lang/invoke/MethodHandle" ∧ "java/lang/Math" ≠ "java/lang/invoke/VarHandle" ∧ (parseMethodDescriptor "(II)I").map (fun d => d.parameters.length) = some 2) := by decide +kernel
theorem km_2_90 : am_mok 2 (90, 1, 86, 2) := Or.inr (Or.inr ⟨by decide, _, ky_86, kn_86, ⟨ct_631, ct_632⟩⟩)
theorem am_mt_ok_2 : ∀ e ∈ am_mt 2, am_mok 2 e := List.forall_mem_cons.mpr ⟨km_2_3, List.forall_mem_cons.mpr ⟨km_2_46, List.forall_mem_cons.mpr ⟨km_2_59, List.forall_mem_cons.mpr ⟨km_2_109, List.forall_mem_cons.mpr ⟨km_2_105, List.forall_mem_cons.mpr ⟨km_2_113, List.forall_mem_cons.mpr ⟨km_2_117, List.forall_mem_cons.mpr ⟨km_2_124, List.forall_mem_cons.mpr ⟨km_2_127, List.forall_mem_cons.mpr ⟨km_2_163, List.forall_mem_cons.mpr ⟨km_2_141, List.forall_mem_cons.mpr ⟨km_2_167, List.forall_mem_cons.mpr ⟨km_2_170, List.forall_mem_cons.mpr ⟨km_2_67, List.forall_mem_cons.mpr ⟨km_2_173, List.forall_mem_cons.mpr ⟨km_2_49, List.forall_mem_cons.mpr ⟨km_2_55, List.forall_mem_cons.mpr ⟨km_2_70, List.forall_mem_cons.mpr ⟨km_2_63, List.forall_mem_cons.mpr ⟨km_2_151, List.forall_mem_cons.mpr ⟨km_2_130, List.forall_mem_cons.mpr ⟨km_2_154, List.forall_mem_cons.mpr ⟨km_2_134, List.forall_mem_cons.mpr ⟨km_2_137, List.forall_mem_cons.mpr ⟨km_2_144, List.forall_mem_cons.mpr ⟨km_2_148, List.forall_mem_cons.mpr ⟨km_2_90, fun _ h => absurd h List.not_mem_nil⟩⟩⟩⟩⟩⟩⟩⟩⟩⟩⟩⟩⟩⟩⟩⟩⟩⟩⟩⟩⟩⟩⟩⟩⟩⟩⟩
theorem km_3_3 : am_mok 3 (3, 6, 0, 0) := Or.inl ⟨rfl, ct_226⟩
theorem kn_21 : ("LostSheets$Office" ≠ "java/lang/invoke/MethodHandle" ∧ "LostSheets$Office" ≠ "java/lang/invoke/VarHandle" ∧ (parseMethodDescriptor "([III)I").map (fun d => d.parameters.length) = some 3) := by decide +kernel
theorem km_3_25 : am_mok 3 (25, 1, 21, 3) := Or.inr (Or.inr ⟨by decide, _, ky_21, kn_21, ⟨ct_337, ct_338⟩⟩)
theorem am_mt_ok_3 : ∀ e ∈ am_mt 3, am_mok 3 e := List.forall_mem_cons.mpr ⟨km_3_3, List.forall_mem_cons.mpr ⟨km_3_25, fun _ h => absurd h List.not_mem_nil⟩⟩
theorem km_4_1 : am_mok 4 (1, 6, 0, 0) := Or.inl ⟨rfl, ct_138⟩
theorem km_4_13 : am_mok 4 (13, 1, 5, 2) := Or.inr (Or.inr ⟨by decide, _, ky_5, kn_5, ⟨ct_139, ct_140⟩⟩)
theorem kn_96 : ("LostSheets$Rows" ≠ "java/lang/invoke/MethodHandle" ∧ "LostSheets$Rows" ≠ "java/lang/invoke/VarHandle" ∧ (parseMethodDescriptor "(III)Z").map (fun d => d.parameters.length) = some 3) := by decide +kernel
theorem km_4_32 : am_mok 4 (32, 0, 96, 3) := Or.inr (Or.inr ⟨by decide, _, ky_96, kn_96, ⟨ct_767, ct_673, ct_674⟩⟩)
theorem am_mt_ok_4 : ∀ e ∈ am_mt 4, am_mok 4 e := List.forall_mem_cons.mpr ⟨km_4_1, List.forall_mem_cons.mpr ⟨km_4_13, List.forall_mem_cons.mpr ⟨km_4_32, fun _ h => absurd h List.not_mem_nil⟩⟩⟩
theorem km_5_3 : am_mok 5 (3, 6, 0, 0) := Or.inl ⟨rfl, ct_246⟩
theorem am_mt_ok_5 : ∀ e ∈ am_mt 5, am_mok 5 e := List.forall_mem_cons.mpr ⟨km_5_3, fun _ h => absurd h List.not_mem_nil⟩
theorem km_6_3 : am_mok 6 (3, 6, 0, 0) := Or.inl ⟨rfl, ct_184⟩
theorem kn_59 : ("LostSheets$Office" ≠ "java/lang/invoke/MethodHandle" ∧ "LostSheets$Office" ≠ "java/lang/invoke/VarHandle" ∧ (parseMethodDescriptor "()V").map (fun d => d.parameters.length) = some 0) := by decide +kernel
theorem km_6_29 : am_mok 6 (29, 0, 59, 0) := Or.inr (Or.inr ⟨by decide, _, ky_59, kn_59, ⟨ct_497, ct_498, ct_499⟩⟩)
theorem kn_60 : ("LostSheets$Text" ≠ "java/lang/invoke/MethodHandle" ∧ "LostSheets$Text" ≠ "java/lang/invoke/VarHandle" ∧ (parseMethodDescriptor "()Z").map (fun d => d.parameters.length) = some 0) := by decide +kernel
theorem km_6_34 : am_mok 6 (34, 0, 60, 0) := Or.inr (Or.inr ⟨by decide, _, ky_60, kn_60, ⟨ct_501, ct_503, cts_10⟩⟩)
theorem kn_61 : ("LostSheets$Text" ≠ "java/lang/invoke/MethodHandle" ∧ "LostSheets$Text" ≠ "java/lang/invoke/VarHandle" ∧ (parseMethodDescriptor "()I").map (fun d => d.parameters.length) = some 0) := by decide +kernel
theorem km_6_42 : am_mok 6 (42, 0, 61, 0) := Or.inr (Or.inr ⟨by decide, _, ky_61, kn_61, ⟨ct_505, ct_507, cts_11⟩⟩)
theorem kn_62 : ("LostSheets$Text" ≠ "java/lang/invoke/MethodHandle" ∧ "LostSheets$Text" ≠ "java/lang/invoke/VarHandle" ∧ (parseMethodDescriptor "(Ljava/lang/String;)Z").map (fun d => d.parameters.length) = some 1) := by decide +kernel
theorem km_6_61 : am_mok 6 (61, 0, 62, 1) := Or.inr (Or.inr ⟨by decide, _, ky_62, kn_62, ⟨ct_512, ct_514, cts_12⟩⟩)
theorem kn_63 : ("java/lang/String" ≠ "java/lang/invoke/MethodHandle" ∧ "java/lang/String" ≠ "java/lang/invoke/VarHandle" ∧ (parseMethodDescriptor "()I").map (fun d => d.parameters.length) = some 0) := by decide +kernel
theorem km_6_46 : am_mok 6 (46, 0, 63, 0) := Or.inr (Or.inr ⟨by decide, _, ky_63, kn_63, ⟨ct_516, ct_517, ct_518⟩⟩)
theorem kn_65 : ("java/lang/String" ≠ "java/lang/invoke/MethodHandle" ∧ "java/lang/String" ≠ "java/lang/invoke/VarHandle" ∧ (parseMethodDescriptor "(I)C").map (fun d => d.parameters.length) = some 1) := by decide +kernel
theorem km_6_51 : am_mok 6 (51, 0, 65, 1) := Or.inr (Or.inr ⟨by decide, _, ky_65, kn_65, ⟨ct_526, ct_527, ct_528⟩⟩)
theorem kn_70 : ("LostSheets$Text" ≠ "java/lang/invoke/MethodHandle" ∧ "LostSheets$Text" ≠ "java/lang/invoke/VarHandle" ∧ (parseMethodDescriptor "(I)Z").map (fun d => d.parameters.length) = some 1) := by decide +kernel
theorem km_6_38 : am_mok 6 (38, 0, 70, 1) := Or.inr (Or.inr ⟨by decide, _, ky_70, kn_70, ⟨ct_564, ct_566, cts_13⟩⟩)
theorem kn_71 : ("LostSheets$Text" ≠ "java/lang/invoke/MethodHandle" ∧ "LostSheets$Text" ≠ "java/lang/invoke/VarHandle" ∧ (parseMethodDescriptor "()Z").map (fun d => d.parameters.length) = some 0) := by decide +kernel
theorem km_6_65 : am_mok 6 (65, 0, 71, 0) := Or.inr (Or.inr ⟨by decide, _, ky_71, kn_71, ⟨ct_568, ct_570, cts_14⟩⟩)
theorem kn_72 : ("LostSheets$Text" ≠ "java/lang/invoke/MethodHandle" ∧ "LostSheets$Text" ≠ "java/lang/invoke/VarHandle" ∧ (parseMethodDescriptor "(I)Z").map (fun d => d.parameters.length) = some 1) := by decide +kernel
theorem km_6_71 : am_mok 6 (71, 0, 72, 1) := Or.inr (Or.inr ⟨by decide, _, ky_72, kn_72, ⟨ct_572, ct_574, cts_15⟩⟩)
theorem kn_73 : ("LostSheets$Text" ≠ "java/lang/invoke/MethodHandle" ∧ "LostSheets$Text" ≠ "java/lang/invoke/VarHandle" ∧ (parseMethodDescriptor "(I)Z").map (fun d => d.parameters.length) = some 1) := by decide +kernel
theorem km_6_78 : am_mok 6 (78, 0, 73, 1) := Or.inr (Or.inr ⟨by decide, _, ky_73, kn_73, ⟨ct_576, ct_578, cts_16⟩⟩)
theorem kn_74 : ("LostSheets$Text" ≠ "java/lang/invoke/MethodHandle" ∧ "LostSheets$Text" ≠ "java/lang/invoke/VarHandle" ∧ (parseMethodDescriptor "(I)Z").map (fun d => d.parameters.length) = some 1) := by decide +kernel
theorem km_6_81 : am_mok 6 (81, 0, 74, 1) := Or.inr (Or.inr ⟨by decide, _, ky_74, kn_74, ⟨ct_580, ct_582, cts_17⟩⟩)
theorem kn_75 : ("LostSheets$Text" ≠ "java/lang/invoke/MethodHandle" ∧ "LostSheets$Text" ≠ "java/lang/invoke/VarHandle" ∧ (parseMethodDescriptor "()Z").map (fun d => d.parameters.length) = some 0) := by decide +kernel
theorem km_6_84 : am_mok 6 (84, 0, 75, 0) := Or.inr (Or.inr ⟨by decide, _, ky_75, kn_75, ⟨ct_584, ct_586, cts_18⟩⟩)
theorem kn_76 : ("LostSheets$Text" ≠ "java/lang/invoke/MethodHandle" ∧ "LostSheets$Text" ≠ "java/lang/invoke/VarHandle" ∧ (parseMethodDescriptor "(Ljava/lang/String;I)I").map (fun d => d.parameters.length) = some 2) := by decide +kernel
theorem km_6_95 : am_mok 6 (95, 1, 76, 2) := Or.inr (Or.inr ⟨by decide, _, ky_76, kn_76, ⟨ct_589, ct_590⟩⟩)
theorem kn_77 : ("LostSheets$Office" ≠ "java/lang/invoke/MethodHandle" ∧ "LostSheets$Office" ≠ "java/lang/invoke/VarHandle" ∧ (parseMethodDescriptor "(II)V").map (fun d => d.parameters.length) = some 2) := by decide +kernel
theorem km_6_74 : am_mok 6 (74, 0, 77, 2) := Or.inr (Or.inr ⟨by decide, _, ky_77, kn_77, ⟨ct_593, ct_594, ct_595⟩⟩)
theorem kn_78 : ("LostSheets$Text" ≠ "java/lang/invoke/MethodHandle" ∧ "LostSheets$Text" ≠ "java/lang/invoke/VarHandle" ∧ (parseMethodDescriptor "(I)Z").map (fun d => d.parameters.length) = some 1) := by decide +kernel
theorem km_6_87 : am_mok 6 (87, 0, 78, 1) := Or.inr (Or.inr ⟨by decide, _, ky_78, kn_78, ⟨ct_597, ct_599, cts_19⟩⟩)
theorem kn_79 : ("LostSheets$Text" ≠ "java/lang/invoke/MethodHandle" ∧ "LostSheets$Text" ≠ "java/lang/invoke/VarHandle" ∧ (parseMethodDescriptor "(I)Z").map (fun d => d.parameters.length) = some 1) := by decide +kernel
theorem km_6_90 : am_mok 6 (90, 0, 79, 1) := Or.inr (Or.inr ⟨by decide, _, ky_79, kn_79, ⟨ct_601, ct_603, cts_20⟩⟩)
theorem am_mt_ok_6 : ∀ e ∈ am_mt 6, am_mok 6 e := List.forall_mem_cons.mpr ⟨km_6_3, List.forall_mem_cons.mpr ⟨km_6_29, List.forall_mem_cons.mpr ⟨km_6_34, List.forall_mem_cons.mpr ⟨km_6_42, List.forall_mem_cons.mpr ⟨km_6_61, List.forall_mem_cons.mpr ⟨km_6_46, List.forall_mem_cons.mpr ⟨km_6_51, List.forall_mem_cons.mpr ⟨km_6_38, List.forall_mem_cons.mpr ⟨km_6_65, List.forall_mem_cons.mpr ⟨km_6_71, List.forall_mem_cons.mpr ⟨km_6_78, List.forall_mem_cons.mpr ⟨km_6_81, List.forall_mem_cons.mpr ⟨km_6_84, List.forall_mem_cons.mpr ⟨km_6_95, List.forall_mem_cons.mpr ⟨km_6_74, List.forall_mem_cons.mpr ⟨km_6_87, List.forall_mem_cons.mpr ⟨km_6_90, fun _ h => absurd h List.not_mem_nil⟩⟩⟩⟩⟩⟩⟩⟩⟩⟩⟩⟩⟩⟩⟩⟩⟩
theorem km_7_3 : am_mok 7 (3, 6, 0, 0) := Or.inl ⟨rfl, ct_210⟩
theorem kn_123 : ("LostSheets$Trace" ≠ "java/lang/invoke/MethodHandle" ∧ "LostSheets$Trace" ≠ "java/lang/invoke/VarHandle" ∧ (parseMethodDescriptor "(LLostSheets$Drawer;IIII)I").map (fun d => d.parameters.length) = some 5) := by decide +kernel
theorem km_7_31 : am_mok 7 (31, 0, 123, 5) := Or.inr (Or.inr ⟨by decide, _, ky_123, kn_123, ⟨ct_780, ct_782, cts_30⟩⟩)
theorem kn_124 : ("LostSheets$Trace" ≠ "java/lang/invoke/MethodHandle" ∧ "LostSheets$Trace" ≠ "java/lang/invoke/VarHandle" ∧ (parseMethodDescriptor "(II)I").map (fun d => d.parameters.length) = some 2) := by decide +kernel
theorem km_7_35 : am_mok 7 (35, 1, 124, 2) := Or.inr (Or.inr ⟨by decide, _, ky_124, kn_124, ⟨ct_784, ct_785⟩⟩)
theorem kn_125 : ("LostSheets" ≠ "java/lang/invoke/MethodHandle" ∧ "LostSheets" ≠ "java/lang/invoke/VarHandle" ∧ (parseMethodDescriptor "(I)I").map (fun d => d.parameters.length) = some 1) := by decide +kernel
theorem km_7_22 : am_mok 7 (22, 4, 125, 1) := Or.inr (Or.inr ⟨by decide, _, ky_125, kn_125, ⟨ct_789, ct_790⟩⟩)
theorem kn_126 : ("LostSheets$Trace" ≠ "java/lang/invoke/MethodHandle" ∧ "LostSheets$Trace" ≠ "java/lang/invoke/VarHandle" ∧ (parseMethodDescriptor "(I)V").map (fun d => d.parameters.length) = some 1) := by decide +kernel
theorem km_7_39 : am_mok 7 (39, 0, 126, 1) := Or.inr (Or.inr ⟨by decide, _, ky_126, kn_126, ⟨ct_794, ct_796, cts_31⟩⟩)
theorem kn_127 : ("LostSheets$Trace" ≠ "java/lang/invoke/MethodHandle" ∧ "LostSheets$Trace" ≠ "java/lang/invoke/VarHandle" ∧ (parseMethodDescriptor "(ILLostSheets$Drawer;II)I").map (fun d => d.parameters.length) = some 4) := by decide +kernel
theorem km_7_43 : am_mok 7 (43, 0, 127, 4) := Or.inr (Or.inr ⟨by decide, _, ky_127, kn_127, ⟨ct_798, ct_800, cts_32⟩⟩)
theorem am_mt_ok_7 : ∀ e ∈ am_mt 7, am_mok 7 e := List.forall_mem_cons.mpr ⟨km_7_3, List.forall_mem_cons.mpr ⟨km_7_31, List.forall_mem_cons.mpr ⟨km_7_35, List.forall_mem_cons.mpr ⟨km_7_22, List.forall_mem_cons.mpr ⟨km_7_39, List.forall_mem_cons.mpr ⟨km_7_43, fun _ h => absurd h List.not_mem_nil⟩⟩⟩⟩⟩⟩
theorem km_8_3 : am_mok 8 (3, 6, 0, 0) := Or.inl ⟨rfl, ct_24⟩
theorem kn_1 : ("LostSheets$Land" ≠ "java/lang/invoke/MethodHandle" ∧ "LostSheets$Land" ≠ "java/lang/invoke/VarHandle" ∧ (parseMethodDescriptor "()V").map (fun d => d.parameters.length) = some 0) := by decide +kernel
theorem km_8_11 : am_mok 8 (11, 2, 1, 0) := Or.inr (Or.inr ⟨by decide, _, ky_1, kn_1, ⟨ct_29, ct_30, rfl, rfl⟩⟩)
theorem kn_3 : ("LostSheets$ByHand" ≠ "java/lang/invoke/MethodHandle" ∧ "LostSheets$ByHand" ≠ "java/lang/invoke/VarHandle" ∧ (parseMethodDescriptor "()V").map (fun d => d.parameters.length) = some 0) := by decide +kernel
theorem km_8_26 : am_mok 8 (26, 5, 3, 0) := Or.inr (Or.inr ⟨by decide, _, ky_3, kn_3, ⟨ct_129, ct_130, rfl, rfl⟩⟩)
theorem kn_6 : ("LostSheets$Text" ≠ "java/lang/invoke/MethodHandle" ∧ "LostSheets$Text" ≠ "java/lang/invoke/VarHandle" ∧ (parseMethodDescriptor "()V").map (fun d => d.parameters.length) = some 0) := by decide +kernel
theorem km_8_40 : am_mok 8 (40, 5, 6, 0) := Or.inr (Or.inr ⟨by decide, _, ky_6, kn_6, ⟨ct_181, ct_182, rfl, rfl⟩⟩)
theorem kn_7 : ("LostSheets$Trace" ≠ "java/lang/invoke/MethodHandle" ∧ "LostSheets$Trace" ≠ "java/lang/invoke/VarHandle" ∧ (parseMethodDescriptor "()V").map (fun d => d.parameters.length) = some 0) := by decide +kernel
theorem km_8_57 : am_mok 8 (57, 5, 7, 0) := Or.inr (Or.inr ⟨by decide, _, ky_7, kn_7, ⟨ct_207, ct_208, rfl, rfl⟩⟩)
theorem kn_8 : ("LostSheets$Office" ≠ "java/lang/invoke/MethodHandle" ∧ "LostSheets$Office" ≠ "java/lang/invoke/VarHandle" ∧ (parseMethodDescriptor "()V").map (fun d => d.parameters.length) = some 0) := by decide +kernel
theorem km_8_68 : am_mok 8 (68, 5, 8, 0) := Or.inr (Or.inr ⟨by decide, _, ky_8, kn_8, ⟨ct_223, ct_224, rfl, rfl⟩⟩)
theorem kn_9 : ("LostSheets$Tape" ≠ "java/lang/invoke/MethodHandle" ∧ "LostSheets$Tape" ≠ "java/lang/invoke/VarHandle" ∧ (parseMethodDescriptor "()V").map (fun d => d.parameters.length) = some 0) := by decide +kernel
theorem km_8_69 : am_mok 8 (69, 5, 9, 0) := Or.inr (Or.inr ⟨by decide, _, ky_9, kn_9, ⟨ct_243, ct_244, rfl, rfl⟩⟩)
theorem km_8_70 : am_mok 8 (70, 1, 11, 1) := Or.inr (Or.inr ⟨by decide, _, ky_11, kn_11, ⟨ct_299, ct_300⟩⟩)
theorem kn_12 : ("LostSheets" ≠ "java/lang/invoke/MethodHandle" ∧ "LostSheets" ≠ "java/lang/invoke/VarHandle" ∧ (parseMethodDescriptor "(I)Z").map (fun d => d.parameters.length) = some 1) := by decide +kernel
theorem km_8_74 : am_mok 8 (74, 1, 12, 1) := Or.inr (Or.inr ⟨by decide, _, ky_12, kn_12, ⟨ct_302, ct_303⟩⟩)
theorem kn_13 : ("LostSheets$Land" ≠ "java/lang/invoke/MethodHandle" ∧ "LostSheets$Land" ≠ "java/lang/invoke/VarHandle" ∧ (parseMethodDescriptor "(III)Z").map (fun d => d.parameters.length) = some 3) := by decide +kernel
theorem km_8_77 : am_mok 8 (77, 0, 13, 3) := Or.inr (Or.inr ⟨by decide, _, ky_13, kn_13, ⟨ct_305, ct_306, ct_307⟩⟩)
theorem km_8_84 : am_mok 8 (84, 0, 16, 1) := Or.inr (Or.inr ⟨by decide, _, ky_16, kn_16, ⟨ct_317, ct_318, ct_319⟩⟩)
theorem km_8_108 : am_mok 8 (108, 0, 17, 1) := Or.inr (Or.inr ⟨by decide, _, ky_17, kn_17, ⟨ct_321, ct_322, ct_323⟩⟩)
theorem kn_24 : ("LostSheets$Land" ≠ "java/lang/invoke/MethodHandle" ∧ "LostSheets$Land" ≠ "java/lang/invoke/VarHandle" ∧ (parseMethodDescriptor "(LLostSheets$Drawer;)I").map (fun d => d.parameters.length) = some 1) := by decide +kernel
theorem km_8_112 : am_mok 8 (112, 0, 24, 1) := Or.inr (Or.inr ⟨by decide, _, ky_24, kn_24, ⟨ct_347, ct_348, ct_349⟩⟩)
theorem kn_25 : ("LostSheets$Land" ≠ "java/lang/invoke/MethodHandle" ∧ "LostSheets$Land" ≠ "java/lang/invoke/VarHandle" ∧ (parseMethodDescriptor "(LLostSheets$Drawer;)I").map (fun d => d.parameters.length) = some 1) := by decide +kernel
theorem km_8_115 : am_mok 8 (115, 0, 25, 1) := Or.inr (Or.inr ⟨by decide, _, ky_25, kn_25, ⟨ct_352, ct_353, ct_354⟩⟩)
theorem km_8_118 : am_mok 8 (118, 0, 28, 1) := Or.inr (Or.inr ⟨by decide, _, ky_28, kn_28, ⟨ct_363, ct_364, ct_365⟩⟩)
theorem kn_29 : ("LostSheets$Land" ≠ "java/lang/invoke/MethodHandle" ∧ "LostSheets$Land" ≠ "java/lang/invoke/VarHandle" ∧ (parseMethodDescriptor "(LLostSheets$Drawer;)I").map (fun d => d.parameters.length) = some 1) := by decide +kernel
theorem km_8_121 : am_mok 8 (121, 0, 29, 1) := Or.inr (Or.inr ⟨by decide, _, ky_29, kn_29, ⟨ct_367, ct_368, ct_369⟩⟩)
theorem kn_32 : ("LostSheets" ≠ "java/lang/invoke/MethodHandle" ∧ "LostSheets" ≠ "java/lang/invoke/VarHandle" ∧ (parseMethodDescriptor "(LLostSheets$Drawer;)I").map (fun d => d.parameters.length) = some 1) := by decide +kernel
theorem km_8_124 : am_mok 8 (124, 0, 32, 1) := Or.inr (Or.inr ⟨by decide, _, ky_32, kn_32, ⟨ct_380, ct_382, cts_4⟩⟩)
theorem kn_33 : ("LostSheets" ≠ "java/lang/invoke/MethodHandle" ∧ "LostSheets" ≠ "java/lang/invoke/VarHandle" ∧ (parseMethodDescriptor "(II)V").map (fun d => d.parameters.length) = some 2) := by decide +kernel
theorem km_8_230 : am_mok 8 (230, 0, 33, 2) := Or.inr (Or.inr ⟨by decide, _, ky_33, kn_33, ⟨ct_384, ct_386, cts_5⟩⟩)
theorem kn_34 : ("LostSheets$Land" ≠ "java/lang/invoke/MethodHandle" ∧ "LostSheets$Land" ≠ "java/lang/invoke/VarHandle" ∧ (parseMethodDescriptor "(LLostSheets$Land;)V").map (fun d => d.parameters.length) = some 1) := by decide +kernel
theorem km_8_191 : am_mok 8 (191, 0, 34, 1) := Or.inr (Or.inr ⟨by decide, _, ky_34, kn_34, ⟨ct_388, ct_389, ct_390⟩⟩)
theorem kn_36 : ("LostSheets$Land" ≠ "java/lang/invoke/MethodHandle" ∧ "LostSheets$Land" ≠ "java/lang/invoke/VarHandle" ∧ (parseMethodDescriptor "(II)V").map (fun d => d.parameters.length) = some 2) := by decide +kernel
theorem km_8_319 : am_mok 8 (319, 0, 36, 2) := Or.inr (Or.inr ⟨by decide, _, ky_36, kn_36, ⟨ct_400, ct_401, ct_402⟩⟩)
theorem kn_37 : ("LostSheets" ≠ "java/lang/invoke/MethodHandle" ∧ "LostSheets" ≠ "java/lang/invoke/VarHandle" ∧ (parseMethodDescriptor "()Z").map (fun d => d.parameters.length) = some 0) := by decide +kernel
theorem km_8_326 : am_mok 8 (326, 0, 37, 0) := Or.inr (Or.inr ⟨by decide, _, ky_37, kn_37, ⟨ct_406, ct_408, cts_6⟩⟩)
theorem kn_38 : ("LostSheets$ByHand" ≠ "java/lang/invoke/MethodHandle" ∧ "LostSheets$ByHand" ≠ "java/lang/invoke/VarHandle" ∧ (parseMethodDescriptor "()I").map (fun d => d.parameters.length) = some 0) := by decide +kernel
theorem km_8_336 : am_mok 8 (336, 0, 38, 0) := Or.inr (Or.inr ⟨by decide, _, ky_38, kn_38, ⟨ct_410, ct_411, ct_412⟩⟩)
theorem kn_39 : ("LostSheets" ≠ "java/lang/invoke/MethodHandle" ∧ "LostSheets" ≠ "java/lang/invoke/VarHandle" ∧ (parseMethodDescriptor "(I)Z").map (fun d => d.parameters.length) = some 1) := by decide +kernel
theorem km_8_339 : am_mok 8 (339, 0, 39, 1) := Or.inr (Or.inr ⟨by decide, _, ky_39, kn_39, ⟨ct_415, ct_417, cts_7⟩⟩)
theorem kn_40 : ("LostSheets$Land" ≠ "java/lang/invoke/MethodHandle" ∧ "LostSheets$Land" ≠ "java/lang/invoke/VarHandle" ∧ (parseMethodDescriptor "(I)I").map (fun d => d.parameters.length) = some 1) := by decide +kernel
theorem km_8_195 : am_mok 8 (195, 0, 40, 1) := Or.inr (Or.inr ⟨by decide, _, ky_40, kn_40, ⟨ct_419, ct_420, ct_421⟩⟩)
theorem km_8_137 : am_mok 8 (137, 0, 19, 1) := Or.inr (Or.inr ⟨by decide, _, ky_19, kn_19, ⟨ct_423, ct_330, ct_331⟩⟩)
theorem kn_41 : ("LostSheets$Land" ≠ "java/lang/invoke/MethodHandle" ∧ "LostSheets$Land" ≠ "java/lang/invoke/VarHandle" ∧ (parseMethodDescriptor "(I)V").map (fun d => d.parameters.length) = some 1) := by decide +kernel
theorem km_8_181 : am_mok 8 (181, 0, 41, 1) := Or.inr (Or.inr ⟨by decide, _, ky_41, kn_41, ⟨ct_424, ct_425, ct_426⟩⟩)
theorem km_8_134 : am_mok 8 (134, 1, 31, 1) := Or.inr (Or.inr ⟨by decide, _, ky_31, kn_31, ⟨ct_472, ct_377⟩⟩)
theorem kn_53 : ("LostSheets$Land" ≠ "java/lang/invoke/MethodHandle" ∧ "LostSheets$Land" ≠ "java/lang/invoke/VarHandle" ∧ (parseMethodDescriptor "(II)V").map (fun d => d.parameters.length) = some 2) := by decide +kernel
theorem km_8_141 : am_mok 8 (141, 0, 53, 2) := Or.inr (Or.inr ⟨by decide, _, ky_53, kn_53, ⟨ct_473, ct_474, ct_475⟩⟩)
theorem kn_56 : ("LostSheets$Text" ≠ "java/lang/invoke/MethodHandle" ∧ "LostSheets$Text" ≠ "java/lang/invoke/VarHandle" ∧ (parseMethodDescriptor "(I)Z").map (fun d => d.parameters.length) = some 1) := by decide +kernel
theorem km_8_148 : am_mok 8 (148, 0, 56, 1) := Or.inr (Or.inr ⟨by decide, _, ky_56, kn_56, ⟨ct_485, ct_486, ct_487⟩⟩)
theorem kn_58 : ("LostSheets$Text" ≠ "java/lang/invoke/MethodHandle" ∧ "LostSheets$Text" ≠ "java/lang/invoke/VarHandle" ∧ (parseMethodDescriptor "(LLostSheets$Office;)I").map (fun d => d.parameters.length) = some 1) := by decide +kernel
theorem km_8_154 : am_mok 8 (154, 0, 58, 1) := Or.inr (Or.inr ⟨by decide, _, ky_58, kn_58, ⟨ct_493, ct_494, ct_495⟩⟩)
theorem kn_81 : ("LostSheets" ≠ "java/lang/invoke/MethodHandle" ∧ "LostSheets" ≠ "java/lang/invoke/VarHandle" ∧ (parseMethodDescriptor "(I)I").map (fun d => d.parameters.length) = some 1) := by decide +kernel
theorem km_8_162 : am_mok 8 (162, 0, 81, 1) := Or.inr (Or.inr ⟨by decide, _, ky_81, kn_81, ⟨ct_609, ct_611, cts_21⟩⟩)
theorem km_8_168 : am_mok 8 (168, 0, 45, 0) := Or.inr (Or.inr ⟨by decide, _, ky_45, kn_45, ⟨ct_613, ct_441, ct_442⟩⟩)
theorem kn_82 : ("LostSheets$Land" ≠ "java/lang/invoke/MethodHandle" ∧ "LostSheets$Land" ≠ "java/lang/invoke/VarHandle" ∧ (parseMethodDescriptor "()I").map (fun d => d.parameters.length) = some 0) := by decide +kernel
theorem km_8_175 : am_mok 8 (175, 0, 82, 0) := Or.inr (Or.inr ⟨by decide, _, ky_82, kn_82, ⟨ct_614, ct_615, ct_616⟩⟩)
theorem kn_83 : ("LostSheets" ≠ "java/lang/invoke/MethodHandle" ∧ "LostSheets" ≠ "java/lang/invoke/VarHandle" ∧ (parseMethodDescriptor "()I").map (fun d => d.parameters.length) = some 0) := by decide +kernel
theorem km_8_178 : am_mok 8 (178, 0, 83, 0) := Or.inr (Or.inr ⟨by decide, _, ky_83, kn_83, ⟨ct_618, ct_620, cts_22⟩⟩)
theorem kn_85 : ("LostSheets$Land" ≠ "java/lang/invoke/MethodHandle" ∧ "LostSheets$Land" ≠ "java/lang/invoke/VarHandle" ∧ (parseMethodDescriptor "()V").map (fun d => d.parameters.length) = some 0) := by decide +kernel
theorem km_8_185 : am_mok 8 (185, 0, 85, 0) := Or.inr (Or.inr ⟨by decide, _, ky_85, kn_85, ⟨ct_627, ct_628, ct_629⟩⟩)
theorem kn_88 : ("LostSheets" ≠ "java/lang/invoke/MethodHandle" ∧ "LostSheets" ≠ "java/lang/invoke/VarHandle" ∧ (parseMethodDescriptor "(I)LLostSheets$Drawer;").map (fun d => d.parameters.length) = some 1) := by decide +kernel
theorem km_8_188 : am_mok 8 (188, 0, 88, 1) := Or.inr (Or.inr ⟨by decide, _, ky_88, kn_88, ⟨ct_638, ct_640, cts_23⟩⟩)
theorem kn_90 : ("LostSheets" ≠ "java/lang/invoke/MethodHandle" ∧ "LostSheets" ≠ "java/lang/invoke/VarHandle" ∧ (parseMethodDescriptor "(I)I").map (fun d => d.parameters.length) = some 1) := by decide +kernel
theorem km_8_198 : am_mok 8 (198, 0, 90, 1) := Or.inr (Or.inr ⟨by decide, _, ky_90, kn_90, ⟨ct_646, ct_648, cts_24⟩⟩)
theorem kn_91 : ("java/lang/Integer" ≠ "java/lang/invoke/MethodHandle" ∧ "java/lang/Integer" ≠ "java/lang/invoke/VarHandle" ∧ (parseMethodDescriptor "(I)I").map (fun d => d.parameters.length) = some 1) := by decide +kernel
theorem km_8_220 : am_mok 8 (220, 1, 91, 1) := Or.inr (Or.inr ⟨by decide, _, ky_91, kn_91, ⟨ct_650, ct_651⟩⟩)
theorem kn_92 : ("LostSheets$Land" ≠ "java/lang/invoke/MethodHandle" ∧ "LostSheets$Land" ≠ "java/lang/invoke/VarHandle" ∧ (parseMethodDescriptor "(I)V").map (fun d => d.parameters.length) = some 1) := by decide +kernel
theorem km_8_323 : am_mok 8 (323, 0, 92, 1) := Or.inr (Or.inr ⟨by decide, _, ky_92, kn_92, ⟨ct_656, ct_657, ct_658⟩⟩)
theorem kn_93 : ("LostSheets" ≠ "java/lang/invoke/MethodHandle" ∧ "LostSheets" ≠ "java/lang/invoke/VarHandle" ∧ (parseMethodDescriptor "(II)I").map (fun d => d.parameters.length) = some 2) := by decide +kernel
theorem km_8_201 : am_mok 8 (201, 0, 93, 2) := Or.inr (Or.inr ⟨by decide, _, ky_93, kn_93, ⟨ct_660, ct_662, cts_25⟩⟩)
theorem kn_95 : ("LostSheets$Rows" ≠ "java/lang/invoke/MethodHandle" ∧ "LostSheets$Rows" ≠ "java/lang/invoke/VarHandle" ∧ (parseMethodDescriptor "()V").map (fun d => d.parameters.length) = some 0) := by decide +kernel
theorem km_8_209 : am_mok 8 (209, 0, 95, 0) := Or.inr (Or.inr ⟨by decide, _, ky_95, kn_95, ⟨ct_668, ct_669, ct_670⟩⟩)
theorem km_8_214 : am_mok 8 (214, 0, 96, 3) := Or.inr (Or.inr ⟨by decide, _, ky_96, kn_96, ⟨ct_672, ct_673, ct_674⟩⟩)
theorem kn_98 : ("LostSheets" ≠ "java/lang/invoke/MethodHandle" ∧ "LostSheets" ≠ "java/lang/invoke/VarHandle" ∧ (parseMethodDescriptor "(I)I").map (fun d => d.parameters.length) = some 1) := by decide +kernel
theorem km_8_217 : am_mok 8 (217, 0, 98, 1) := Or.inr (Or.inr ⟨by decide, _, ky_98, kn_98, ⟨ct_680, ct_682, cts_26⟩⟩)
theorem kn_99 : ("LostSheets$Land" ≠ "java/lang/invoke/MethodHandle" ∧ "LostSheets$Land" ≠ "java/lang/invoke/VarHandle" ∧ (parseMethodDescriptor "(II)V").map (fun d => d.parameters.length) = some 2) := by decide +kernel
theorem km_8_333 : am_mok 8 (333, 0, 99, 2) := Or.inr (Or.inr ⟨by decide, _, ky_99, kn_99, ⟨ct_684, ct_685, ct_686⟩⟩)
theorem kn_100 : ("LostSheets" ≠ "java/lang/invoke/MethodHandle" ∧ "LostSheets" ≠ "java/lang/invoke/VarHandle" ∧ (parseMethodDescriptor "(I)I").map (fun d => d.parameters.length) = some 1) := by decide +kernel
theorem km_8_225 : am_mok 8 (225, 1, 100, 1) := Or.inr (Or.inr ⟨by decide, _, ky_100, kn_100, ⟨ct_688, ct_689⟩⟩)
theorem kn_102 : ("LostSheets" ≠ "java/lang/invoke/MethodHandle" ∧ "LostSheets" ≠ "java/lang/invoke/VarHandle" ∧ (parseMethodDescriptor "(JJI)J").map (fun d => d.parameters.length) = some 3) := by decide +kernel
theorem km_8_235 : am_mok 8 (235, 1, 102, 3) := Or.inr (Or.inr ⟨by decide, _, ky_102, kn_102, ⟨ct_697, ct_698⟩⟩)
theorem kn_103 : ("LostSheets" ≠ "java/lang/invoke/MethodHandle" ∧ "LostSheets" ≠ "java/lang/invoke/VarHandle" ∧ (parseMethodDescriptor "(JJ)J").map (fun d => d.parameters.length) = some 2) := by decide +kernel
theorem km_8_351 : am_mok 8 (351, 1, 103, 2) := Or.inr (Or.inr ⟨by decide, _, ky_103, kn_103, ⟨ct_700, ct_701⟩⟩)
theorem kn_105 : ("LostSheets$Land" ≠ "java/lang/invoke/MethodHandle" ∧ "LostSheets$Land" ≠ "java/lang/invoke/VarHandle" ∧ (parseMethodDescriptor "()I").map (fun d => d.parameters.length) = some 0) := by decide +kernel
theorem km_8_239 : am_mok 8 (239, 0, 105, 0) := Or.inr (Or.inr ⟨by decide, _, ky_105, kn_105, ⟨ct_707, ct_708, ct_709⟩⟩)
theorem kn_107 : ("LostSheets" ≠ "java/lang/invoke/MethodHandle" ∧ "LostSheets" ≠ "java/lang/invoke/VarHandle" ∧ (parseMethodDescriptor "(II)Z").map (fun d => d.parameters.length) = some 2) := by decide +kernel
theorem km_8_245 : am_mok 8 (245, 0, 107, 2) := Or.inr (Or.inr ⟨by decide, _, ky_107, kn_107, ⟨ct_715, ct_717, cts_27⟩⟩)
theorem kn_109 : ("LostSheets" ≠ "java/lang/invoke/MethodHandle" ∧ "LostSheets" ≠ "java/lang/invoke/VarHandle" ∧ (parseMethodDescriptor "()V").map (fun d => d.parameters.length) = some 0) := by decide +kernel
theorem km_8_249 : am_mok 8 (249, 0, 109, 0) := Or.inr (Or.inr ⟨by decide, _, ky_109, kn_109, ⟨ct_723, ct_725, cts_28⟩⟩)
theorem kn_110 : ("LostSheets$Land" ≠ "java/lang/invoke/MethodHandle" ∧ "LostSheets$Land" ≠ "java/lang/invoke/VarHandle" ∧ (parseMethodDescriptor "(I)V").map (fun d => d.parameters.length) = some 1) := by decide +kernel
theorem km_8_345 : am_mok 8 (345, 0, 110, 1) := Or.inr (Or.inr ⟨by decide, _, ky_110, kn_110, ⟨ct_727, ct_728, ct_729⟩⟩)
theorem kn_111 : ("LostSheets$Land" ≠ "java/lang/invoke/MethodHandle" ∧ "LostSheets$Land" ≠ "java/lang/invoke/VarHandle" ∧ (parseMethodDescriptor "(I)V").map (fun d => d.parameters.length) = some 1) := by decide +kernel
theorem km_8_348 : am_mok 8 (348, 0, 111, 1) := Or.inr (Or.inr ⟨by decide, _, ky_111, kn_111, ⟨ct_731, ct_732, ct_733⟩⟩)
theorem kn_115 : ("LostSheets" ≠ "java/lang/invoke/MethodHandle" ∧ "LostSheets" ≠ "java/lang/invoke/VarHandle" ∧ (parseMethodDescriptor "(I)LLostSheets$Tape;").map (fun d => d.parameters.length) = some 1) := by decide +kernel
theorem km_8_264 : am_mok 8 (264, 0, 115, 1) := Or.inr (Or.inr ⟨by decide, _, ky_115, kn_115, ⟨ct_747, ct_749, cts_29⟩⟩)
theorem kn_116 : ("LostSheets$Tape" ≠ "java/lang/invoke/MethodHandle" ∧ "LostSheets$Tape" ≠ "java/lang/invoke/VarHandle" ∧ (parseMethodDescriptor "(I)Z").map (fun d => d.parameters.length) = some 1) := by decide +kernel
theorem km_8_274 : am_mok 8 (274, 0, 116, 1) := Or.inr (Or.inr ⟨by decide, _, ky_116, kn_116, ⟨ct_751, ct_752, ct_753⟩⟩)
theorem kn_118 : ("LostSheets$ByHand" ≠ "java/lang/invoke/MethodHandle" ∧ "LostSheets$ByHand" ≠ "java/lang/invoke/VarHandle" ∧ (parseMethodDescriptor "(LLostSheets$ByHand;)V").map (fun d => d.parameters.length) = some 1) := by decide +kernel
theorem km_8_281 : am_mok 8 (281, 0, 118, 1) := Or.inr (Or.inr ⟨by decide, _, ky_118, kn_118, ⟨ct_759, ct_760, ct_761⟩⟩)
theorem kn_122 : ("LostSheets$Trace" ≠ "java/lang/invoke/MethodHandle" ∧ "LostSheets$Trace" ≠ "java/lang/invoke/VarHandle" ∧ (parseMethodDescriptor "(LLostSheets$Drawer;II)I").map (fun d => d.parameters.length) = some 3) := by decide +kernel
theorem km_8_284 : am_mok 8 (284, 0, 122, 3) := Or.inr (Or.inr ⟨by decide, _, ky_122, kn_122, ⟨ct_776, ct_777, ct_778⟩⟩)
theorem kn_130 : ("LostSheets" ≠ "java/lang/invoke/MethodHandle" ∧ "LostSheets" ≠ "java/lang/invoke/VarHandle" ∧ (parseMethodDescriptor "(II)Z").map (fun d => d.parameters.length) = some 2) := by decide +kernel
theorem km_8_294 : am_mok 8 (294, 1, 130, 2) := Or.inr (Or.inr ⟨by decide, _, ky_130, kn_130, ⟨ct_810, ct_811⟩⟩)
theorem km_8_316 : am_mok 8 (316, 1, 125, 1) := Or.inr (Or.inr ⟨by decide, _, ky_125, kn_125, ⟨ct_813, ct_790⟩⟩)
theorem kn_133 : ("LostSheets$Tape" ≠ "java/lang/invoke/MethodHandle" ∧ "LostSheets$Tape" ≠ "java/lang/invoke/VarHandle" ∧ (parseMethodDescriptor "(II)V").map (fun d => d.parameters.length) = some 2) := by decide +kernel
theorem km_8_297 : am_mok 8 (297, 0, 133, 2) := Or.inr (Or.inr ⟨by decide, _, ky_133, kn_133, ⟨ct_822, ct_823, ct_824⟩⟩)
theorem kn_135 : ("LostSheets$Tape" ≠ "java/lang/invoke/MethodHandle" ∧ "LostSheets$Tape" ≠ "java/lang/invoke/VarHandle" ∧ (parseMethodDescriptor "(J)J").map (fun d => d.parameters.length) = some 1) := by decide +kernel
theorem km_8_300 : am_mok 8 (300, 0, 135, 1) := Or.inr (Or.inr ⟨by decide, _, ky_135, kn_135, ⟨ct_830, ct_831, ct_832⟩⟩)
theorem kn_138 : ("LostSheets$Tape" ≠ "java/lang/invoke/MethodHandle" ∧ "LostSheets$Tape" ≠ "java/lang/invoke/VarHandle" ∧ (parseMethodDescriptor "(II)Z").map (fun d => d.parameters.length) = some 2) := by decide +kernel
theorem km_8_304 : am_mok 8 (304, 0, 138, 2) := Or.inr (Or.inr ⟨by decide, _, ky_138, kn_138, ⟨ct_842, ct_843, ct_844⟩⟩)
theorem km_8_307 : am_mok 8 (307, 7, 0, 0) := Or.inr (Or.inl ⟨rfl, ct_846⟩)
theorem am_mt_ok_8 : ∀ e ∈ am_mt 8, am_mok 8 e := List.forall_mem_cons.mpr ⟨km_8_3, List.forall_mem_cons.mpr ⟨km_8_11, List.forall_mem_cons.mpr ⟨km_8_26, List.forall_mem_cons.mpr ⟨km_8_40, List.forall_mem_cons.mpr ⟨km_8_57, List.forall_mem_cons.mpr ⟨km_8_68, List.forall_mem_cons.mpr ⟨km_8_69, List.forall_mem_cons.mpr ⟨km_8_70, List.forall_mem_cons.mpr ⟨km_8_74, List.forall_mem_cons.mpr ⟨km_8_77, List.forall_mem_cons.mpr ⟨km_8_84, List.forall_mem_cons.mpr ⟨km_8_108, List.forall_mem_cons.mpr ⟨km_8_112, List.forall_mem_cons.mpr ⟨km_8_115, List.forall_mem_cons.mpr ⟨km_8_118, List.forall_mem_cons.mpr ⟨km_8_121, List.forall_mem_cons.mpr ⟨km_8_124, List.forall_mem_cons.mpr ⟨km_8_230, List.forall_mem_cons.mpr ⟨km_8_191, List.forall_mem_cons.mpr ⟨km_8_319, List.forall_mem_cons.mpr ⟨km_8_326, List.forall_mem_cons.mpr ⟨km_8_336, List.forall_mem_cons.mpr ⟨km_8_339, List.forall_mem_cons.mpr ⟨km_8_195, List.forall_mem_cons.mpr ⟨km_8_137, List.forall_mem_cons.mpr ⟨km_8_181, List.forall_mem_cons.mpr ⟨km_8_134, List.forall_mem_cons.mpr ⟨km_8_141, List.forall_mem_cons.mpr ⟨km_8_148, List.forall_mem_cons.mpr ⟨km_8_154, List.forall_mem_cons.mpr ⟨km_8_162, List.forall_mem_cons.mpr ⟨km_8_168, List.forall_mem_cons.mpr ⟨km_8_175, List.forall_mem_cons.mpr ⟨km_8_178, List.forall_mem_cons.mpr ⟨km_8_185, List.forall_mem_cons.mpr ⟨km_8_188, List.forall_mem_cons.mpr ⟨km_8_198, List.forall_mem_cons.mpr ⟨km_8_220, List.forall_mem_cons.mpr ⟨km_8_323, List.forall_mem_cons.mpr ⟨km_8_201, List.forall_mem_cons.mpr ⟨km_8_209, List.forall_mem_cons.mpr ⟨km_8_214, List.forall_mem_cons.mpr ⟨km_8_217, List.forall_mem_cons.mpr ⟨km_8_333, List.forall_mem_cons.mpr ⟨km_8_225, List.forall_mem_cons.mpr ⟨km_8_235, List.forall_mem_cons.mpr ⟨km_8_351, List.forall_mem_cons.mpr ⟨km_8_239, List.forall_mem_cons.mpr ⟨km_8_245, List.forall_mem_cons.mpr ⟨km_8_249, List.forall_mem_cons.mpr ⟨km_8_345, List.forall_mem_cons.mpr ⟨km_8_348, List.forall_mem_cons.mpr ⟨km_8_264, List.forall_mem_cons.mpr ⟨km_8_274, List.forall_mem_cons.mpr ⟨km_8_281, List.forall_mem_cons.mpr ⟨km_8_284, List.forall_mem_cons.mpr ⟨km_8_294, List.forall_mem_cons.mpr ⟨km_8_316, List.forall_mem_cons.mpr ⟨km_8_297, List.forall_mem_cons.mpr ⟨km_8_300, List.forall_mem_cons.mpr ⟨km_8_304, List.forall_mem_cons.mpr ⟨km_8_307, fun _ h => absurd h List.not_mem_nil⟩⟩⟩⟩⟩⟩⟩⟩⟩⟩⟩⟩⟩⟩⟩⟩⟩⟩⟩⟩⟩⟩⟩⟩⟩⟩⟩⟩⟩⟩⟩⟩⟩⟩⟩⟩⟩⟩⟩⟩⟩⟩⟩⟩⟩⟩⟩⟩⟩⟩⟩⟩⟩⟩⟩⟩⟩⟩⟩⟩⟩⟩
theorem km_9_3 : am_mok 9 (3, 6, 0, 0) := Or.inl ⟨rfl, ct_852⟩
theorem kn_141 : ("LostSheetsModel" ≠ "java/lang/invoke/MethodHandle" ∧ "LostSheetsModel" ≠ "java/lang/invoke/VarHandle" ∧ (parseMethodDescriptor "(III)Z").map (fun d => d.parameters.length) = some 3) := by decide +kernel
theorem km_9_114 : am_mok 9 (114, 1, 141, 3) := Or.inr (Or.inr ⟨by decide, _, ky_141, kn_141, ⟨ct_1000, ct_1001⟩⟩)
theorem kn_142 : ("LostSheetsModel" ≠ "java/lang/invoke/MethodHandle" ∧ "LostSheetsModel" ≠ "java/lang/invoke/VarHandle" ∧ (parseMethodDescriptor "(I)Z").map (fun d => d.parameters.length) = some 1) := by decide +kernel
theorem km_9_118 : am_mok 9 (118, 1, 142, 1) := Or.inr (Or.inr ⟨by decide, _, ky_142, kn_142, ⟨ct_1003, ct_1004⟩⟩)
theorem kn_144 : ("LostSheetsModel" ≠ "java/lang/invoke/MethodHandle" ∧ "LostSheetsModel" ≠ "java/lang/invoke/VarHandle" ∧ (parseMethodDescriptor "(I)Z").map (fun d => d.parameters.length) = some 1) := by decide +kernel
theorem km_9_122 : am_mok 9 (122, 0, 144, 1) := Or.inr (Or.inr ⟨by decide, _, ky_144, kn_144, ⟨ct_1010, ct_1012, cts_33⟩⟩)
theorem kn_145 : ("LostSheetsModel" ≠ "java/lang/invoke/MethodHandle" ∧ "LostSheetsModel" ≠ "java/lang/invoke/VarHandle" ∧ (parseMethodDescriptor "(I)I").map (fun d => d.parameters.length) = some 1) := by decide +kernel
theorem km_9_125 : am_mok 9 (125, 0, 145, 1) := Or.inr (Or.inr ⟨by decide, _, ky_145, kn_145, ⟨ct_1014, ct_1016, cts_34⟩⟩)
theorem kn_146 : ("LostSheetsModel" ≠ "java/lang/invoke/MethodHandle" ∧ "LostSheetsModel" ≠ "java/lang/invoke/VarHandle" ∧ (parseMethodDescriptor "(I)I").map (fun d => d.parameters.length) = some 1) := by decide +kernel
theorem km_9_231 : am_mok 9 (231, 0, 146, 1) := Or.inr (Or.inr ⟨by decide, _, ky_146, kn_146, ⟨ct_1018, ct_1020, cts_35⟩⟩)
theorem kn_147 : ("LostSheetsModel" ≠ "java/lang/invoke/MethodHandle" ∧ "LostSheetsModel" ≠ "java/lang/invoke/VarHandle" ∧ (parseMethodDescriptor "(II)Z").map (fun d => d.parameters.length) = some 2) := by decide +kernel
theorem km_9_227 : am_mok 9 (227, 0, 147, 2) := Or.inr (Or.inr ⟨by decide, _, ky_147, kn_147, ⟨ct_1022, ct_1024, cts_36⟩⟩)
theorem kn_148 : ("LostSheetsModel" ≠ "java/lang/invoke/MethodHandle" ∧ "LostSheetsModel" ≠ "java/lang/invoke/VarHandle" ∧ (parseMethodDescriptor "(II)I").map (fun d => d.parameters.length) = some 2) := by decide +kernel
theorem km_9_223 : am_mok 9 (223, 0, 148, 2) := Or.inr (Or.inr ⟨by decide, _, ky_148, kn_148, ⟨ct_1026, ct_1028, cts_37⟩⟩)
theorem kn_149 : ("LostSheetsModel" ≠ "java/lang/invoke/MethodHandle" ∧ "LostSheetsModel" ≠ "java/lang/invoke/VarHandle" ∧ (parseMethodDescriptor "(I)I").map (fun d => d.parameters.length) = some 1) := by decide +kernel
theorem km_9_234 : am_mok 9 (234, 0, 149, 1) := Or.inr (Or.inr ⟨by decide, _, ky_149, kn_149, ⟨ct_1030, ct_1032, cts_38⟩⟩)
theorem kn_150 : ("LostSheetsModel" ≠ "java/lang/invoke/MethodHandle" ∧ "LostSheetsModel" ≠ "java/lang/invoke/VarHandle" ∧ (parseMethodDescriptor "(I)I").map (fun d => d.parameters.length) = some 1) := by decide +kernel
theorem km_9_129 : am_mok 9 (129, 0, 150, 1) := Or.inr (Or.inr ⟨by decide, _, ky_150, kn_150, ⟨ct_1034, ct_1036, cts_39⟩⟩)
theorem kn_151 : ("LostSheetsModel" ≠ "java/lang/invoke/MethodHandle" ∧ "LostSheetsModel" ≠ "java/lang/invoke/VarHandle" ∧ (parseMethodDescriptor "(IZ)I").map (fun d => d.parameters.length) = some 2) := by decide +kernel
theorem km_9_132 : am_mok 9 (132, 0, 151, 2) := Or.inr (Or.inr ⟨by decide, _, ky_151, kn_151, ⟨ct_1038, ct_1040, cts_40⟩⟩)
theorem kn_152 : ("LostSheetsModel" ≠ "java/lang/invoke/MethodHandle" ∧ "LostSheetsModel" ≠ "java/lang/invoke/VarHandle" ∧ (parseMethodDescriptor "(II)I").map (fun d => d.parameters.length) = some 2) := by decide +kernel
theorem km_9_237 : am_mok 9 (237, 1, 152, 2) := Or.inr (Or.inr ⟨by decide, _, ky_152, kn_152, ⟨ct_1042, ct_1043⟩⟩)
theorem kn_153 : ("LostSheetsModel" ≠ "java/lang/invoke/MethodHandle" ∧ "LostSheetsModel" ≠ "java/lang/invoke/VarHandle" ∧ (parseMethodDescriptor "(I)I").map (fun d => d.parameters.length) = some 1) := by decide +kernel
theorem km_9_136 : am_mok 9 (136, 0, 153, 1) := Or.inr (Or.inr ⟨by decide, _, ky_153, kn_153, ⟨ct_1045, ct_1047, cts_41⟩⟩)
theorem km_9_279 : am_mok 9 (279, 1, 5, 2) := Or.inr (Or.inr ⟨by decide, _, ky_5, kn_5, ⟨ct_1049, ct_140⟩⟩)
theorem kn_154 : ("LostSheetsModel" ≠ "java/lang/invoke/MethodHandle" ∧ "LostSheetsModel" ≠ "java/lang/invoke/VarHandle" ∧ (parseMethodDescriptor "(I)I").map (fun d => d.parameters.length) = some 1) := by decide +kernel
theorem km_9_139 : am_mok 9 (139, 0, 154, 1) := Or.inr (Or.inr ⟨by decide, _, ky_154, kn_154, ⟨ct_1050, ct_1052, cts_42⟩⟩)
theorem kn_155 : ("LostSheetsModel" ≠ "java/lang/invoke/MethodHandle" ∧ "LostSheetsModel" ≠ "java/lang/invoke/VarHandle" ∧ (parseMethodDescriptor "()Z").map (fun d => d.parameters.length) = some 0) := by decide +kernel
theorem km_9_299 : am_mok 9 (299, 0, 155, 0) := Or.inr (Or.inr ⟨by decide, _, ky_155, kn_155, ⟨ct_1054, ct_1056, cts_43⟩⟩)
theorem kn_156 : ("LostSheetsModel" ≠ "java/lang/invoke/MethodHandle" ∧ "LostSheetsModel" ≠ "java/lang/invoke/VarHandle" ∧ (parseMethodDescriptor "([I)V").map (fun d => d.parameters.length) = some 1) := by decide +kernel
theorem km_9_253 : am_mok 9 (253, 0, 156, 1) := Or.inr (Or.inr ⟨by decide, _, ky_156, kn_156, ⟨ct_1058, ct_1060, cts_44⟩⟩)
theorem kn_157 : ("LostSheetsModel" ≠ "java/lang/invoke/MethodHandle" ∧ "LostSheetsModel" ≠ "java/lang/invoke/VarHandle" ∧ (parseMethodDescriptor "()V").map (fun d => d.parameters.length) = some 0) := by decide +kernel
theorem km_9_250 : am_mok 9 (250, 0, 157, 0) := Or.inr (Or.inr ⟨by decide, _, ky_157, kn_157, ⟨ct_1062, ct_1064, cts_45⟩⟩)
theorem kn_158 : ("LostSheetsModel" ≠ "java/lang/invoke/MethodHandle" ∧ "LostSheetsModel" ≠ "java/lang/invoke/VarHandle" ∧ (parseMethodDescriptor "()I").map (fun d => d.parameters.length) = some 0) := by decide +kernel
theorem km_9_243 : am_mok 9 (243, 0, 158, 0) := Or.inr (Or.inr ⟨by decide, _, ky_158, kn_158, ⟨ct_1066, ct_1068, cts_46⟩⟩)
theorem kn_159 : ("LostSheetsModel" ≠ "java/lang/invoke/MethodHandle" ∧ "LostSheetsModel" ≠ "java/lang/invoke/VarHandle" ∧ (parseMethodDescriptor "(III)V").map (fun d => d.parameters.length) = some 3) := by decide +kernel
theorem km_9_246 : am_mok 9 (246, 0, 159, 3) := Or.inr (Or.inr ⟨by decide, _, ky_159, kn_159, ⟨ct_1070, ct_1072, cts_47⟩⟩)
theorem kn_160 : ("LostSheetsModel" ≠ "java/lang/invoke/MethodHandle" ∧ "LostSheetsModel" ≠ "java/lang/invoke/VarHandle" ∧ (parseMethodDescriptor "([I)V").map (fun d => d.parameters.length) = some 1) := by decide +kernel
theorem km_9_258 : am_mok 9 (258, 0, 160, 1) := Or.inr (Or.inr ⟨by decide, _, ky_160, kn_160, ⟨ct_1074, ct_1076, cts_48⟩⟩)
theorem kn_168 : ("LostSheetsModel" ≠ "java/lang/invoke/MethodHandle" ∧ "LostSheetsModel" ≠ "java/lang/invoke/VarHandle" ∧ (parseMethodDescriptor "(I)Z").map (fun d => d.parameters.length) = some 1) := by decide +kernel
theorem km_9_217 : am_mok 9 (217, 0, 168, 1) := Or.inr (Or.inr ⟨by decide, _, ky_168, kn_168, ⟨ct_1106, ct_1108, cts_49⟩⟩)
theorem kn_169 : ("LostSheetsModel" ≠ "java/lang/invoke/MethodHandle" ∧ "LostSheetsModel" ≠ "java/lang/invoke/VarHandle" ∧ (parseMethodDescriptor "(Ljava/lang/String;)Z").map (fun d => d.parameters.length) = some 1) := by decide +kernel
theorem km_9_206 : am_mok 9 (206, 0, 169, 1) := Or.inr (Or.inr ⟨by decide, _, ky_169, kn_169, ⟨ct_1111, ct_1113, cts_50⟩⟩)
theorem km_9_158 : am_mok 9 (158, 0, 63, 0) := Or.inr (Or.inr ⟨by decide, _, ky_63, kn_63, ⟨ct_1115, ct_517, ct_518⟩⟩)
theorem km_9_163 : am_mok 9 (163, 0, 65, 1) := Or.inr (Or.inr ⟨by decide, _, ky_65, kn_65, ⟨ct_1116, ct_527, ct_528⟩⟩)
theorem kn_170 : ("LostSheetsModel" ≠ "java/lang/invoke/MethodHandle" ∧ "LostSheetsModel" ≠ "java/lang/invoke/VarHandle" ∧ (parseMethodDescriptor "(I)Z").map (fun d => d.parameters.length) = some 1) := by decide +kernel
theorem km_9_167 : am_mok 9 (167, 0, 170, 1) := Or.inr (Or.inr ⟨by decide, _, ky_170, kn_170, ⟨ct_1117, ct_1119, cts_51⟩⟩)
theorem kn_171 : ("LostSheetsModel" ≠ "java/lang/invoke/MethodHandle" ∧ "LostSheetsModel" ≠ "java/lang/invoke/VarHandle" ∧ (parseMethodDescriptor "()Z").map (fun d => d.parameters.length) = some 0) := by decide +kernel
theorem km_9_180 : am_mok 9 (180, 0, 171, 0) := Or.inr (Or.inr ⟨by decide, _, ky_171, kn_171, ⟨ct_1123, ct_1125, cts_52⟩⟩)
theorem kn_172 : ("LostSheetsModel" ≠ "java/lang/invoke/MethodHandle" ∧ "LostSheetsModel" ≠ "java/lang/invoke/VarHandle" ∧ (parseMethodDescriptor "()Z").map (fun d => d.parameters.length) = some 0) := by decide +kernel
theorem km_9_154 : am_mok 9 (154, 0, 172, 0) := Or.inr (Or.inr ⟨by decide, _, ky_172, kn_172, ⟨ct_1127, ct_1129, cts_53⟩⟩)
theorem kn_173 : ("LostSheetsModel" ≠ "java/lang/invoke/MethodHandle" ∧ "LostSheetsModel" ≠ "java/lang/invoke/VarHandle" ∧ (parseMethodDescriptor "()Z").map (fun d => d.parameters.length) = some 0) := by decide +kernel
theorem km_9_195 : am_mok 9 (195, 0, 173, 0) := Or.inr (Or.inr ⟨by decide, _, ky_173, kn_173, ⟨ct_1131, ct_1133, cts_54⟩⟩)
theorem kn_174 : ("LostSheetsModel" ≠ "java/lang/invoke/MethodHandle" ∧ "LostSheetsModel" ≠ "java/lang/invoke/VarHandle" ∧ (parseMethodDescriptor "()Z").map (fun d => d.parameters.length) = some 0) := by decide +kernel
theorem km_9_201 : am_mok 9 (201, 0, 174, 0) := Or.inr (Or.inr ⟨by decide, _, ky_174, kn_174, ⟨ct_1135, ct_1137, cts_55⟩⟩)
theorem kn_175 : ("LostSheetsModel" ≠ "java/lang/invoke/MethodHandle" ∧ "LostSheetsModel" ≠ "java/lang/invoke/VarHandle" ∧ (parseMethodDescriptor "()Z").map (fun d => d.parameters.length) = some 0) := by decide +kernel
theorem km_9_192 : am_mok 9 (192, 0, 175, 0) := Or.inr (Or.inr ⟨by decide, _, ky_175, kn_175, ⟨ct_1139, ct_1141, cts_56⟩⟩)
theorem kn_176 : ("LostSheetsModel" ≠ "java/lang/invoke/MethodHandle" ∧ "LostSheetsModel" ≠ "java/lang/invoke/VarHandle" ∧ (parseMethodDescriptor "(I)Z").map (fun d => d.parameters.length) = some 1) := by decide +kernel
theorem km_9_189 : am_mok 9 (189, 0, 176, 1) := Or.inr (Or.inr ⟨by decide, _, ky_176, kn_176, ⟨ct_1143, ct_1145, cts_57⟩⟩)
theorem kn_177 : ("LostSheetsModel" ≠ "java/lang/invoke/MethodHandle" ∧ "LostSheetsModel" ≠ "java/lang/invoke/VarHandle" ∧ (parseMethodDescriptor "(I)Z").map (fun d => d.parameters.length) = some 1) := by decide +kernel
theorem km_9_183 : am_mok 9 (183, 0, 177, 1) := Or.inr (Or.inr ⟨by decide, _, ky_177, kn_177, ⟨ct_1147, ct_1149, cts_58⟩⟩)
theorem kn_178 : ("LostSheetsModel" ≠ "java/lang/invoke/MethodHandle" ∧ "LostSheetsModel" ≠ "java/lang/invoke/VarHandle" ∧ (parseMethodDescriptor "()Z").map (fun d => d.parameters.length) = some 0) := by decide +kernel
theorem km_9_198 : am_mok 9 (198, 0, 178, 0) := Or.inr (Or.inr ⟨by decide, _, ky_178, kn_178, ⟨ct_1151, ct_1153, cts_59⟩⟩)
theorem kn_179 : ("java/lang/String" ≠ "java/lang/invoke/MethodHandle" ∧ "java/lang/String" ≠ "java/lang/invoke/VarHandle" ∧ (parseMethodDescriptor "(I)I").map (fun d => d.parameters.length) = some 1) := by decide +kernel
theorem km_9_175 : am_mok 9 (175, 0, 179, 1) := Or.inr (Or.inr ⟨by decide, _, ky_179, kn_179, ⟨ct_1156, ct_1157, ct_1158⟩⟩)
theorem kn_187 : ("LostSheetsModel" ≠ "java/lang/invoke/MethodHandle" ∧ "LostSheetsModel" ≠ "java/lang/invoke/VarHandle" ∧ (parseMethodDescriptor "(I)I").map (fun d => d.parameters.length) = some 1) := by decide +kernel
theorem km_9_261 : am_mok 9 (261, 0, 187, 1) := Or.inr (Or.inr ⟨by decide, _, ky_187, kn_187, ⟨ct_1216, ct_1218, cts_60⟩⟩)
theorem kn_188 : ("LostSheetsModel" ≠ "java/lang/invoke/MethodHandle" ∧ "LostSheetsModel" ≠ "java/lang/invoke/VarHandle" ∧ (parseMethodDescriptor "()I").map (fun d => d.parameters.length) = some 0) := by decide +kernel
theorem km_9_264 : am_mok 9 (264, 0, 188, 0) := Or.inr (Or.inr ⟨by decide, _, ky_188, kn_188, ⟨ct_1220, ct_1222, cts_61⟩⟩)
theorem kn_189 : ("LostSheetsModel" ≠ "java/lang/invoke/MethodHandle" ∧ "LostSheetsModel" ≠ "java/lang/invoke/VarHandle" ∧ (parseMethodDescriptor "()I").map (fun d => d.parameters.length) = some 0) := by decide +kernel
theorem km_9_267 : am_mok 9 (267, 0, 189, 0) := Or.inr (Or.inr ⟨by decide, _, ky_189, kn_189, ⟨ct_1224, ct_1226, cts_62⟩⟩)
theorem km_9_270 : am_mok 9 (270, 1, 86, 2) := Or.inr (Or.inr ⟨by decide, _, ky_86, kn_86, ⟨ct_1233, ct_632⟩⟩)
theorem kn_192 : ("LostSheetsModel" ≠ "java/lang/invoke/MethodHandle" ∧ "LostSheetsModel" ≠ "java/lang/invoke/VarHandle" ∧ (parseMethodDescriptor "(I)V").map (fun d => d.parameters.length) = some 1) := by decide +kernel
theorem km_9_275 : am_mok 9 (275, 0, 192, 1) := Or.inr (Or.inr ⟨by decide, _, ky_192, kn_192, ⟨ct_1238, ct_1240, cts_63⟩⟩)
theorem kn_194 : ("LostSheetsModel" ≠ "java/lang/invoke/MethodHandle" ∧ "LostSheetsModel" ≠ "java/lang/invoke/VarHandle" ∧ (parseMethodDescriptor "(I)I").map (fun d => d.parameters.length) = some 1) := by decide +kernel
theorem km_9_290 : am_mok 9 (290, 0, 194, 1) := Or.inr (Or.inr ⟨by decide, _, ky_194, kn_194, ⟨ct_1246, ct_1248, cts_64⟩⟩)
theorem kn_195 : ("LostSheetsModel" ≠ "java/lang/invoke/MethodHandle" ∧ "LostSheetsModel" ≠ "java/lang/invoke/VarHandle" ∧ (parseMethodDescriptor "(I)I").map (fun d => d.parameters.length) = some 1) := by decide +kernel
theorem km_9_287 : am_mok 9 (287, 0, 195, 1) := Or.inr (Or.inr ⟨by decide, _, ky_195, kn_195, ⟨ct_1250, ct_1252, cts_65⟩⟩)
theorem km_9_282 : am_mok 9 (282, 1, 91, 1) := Or.inr (Or.inr ⟨by decide, _, ky_91, kn_91, ⟨ct_1254, ct_651⟩⟩)
theorem kn_196 : ("LostSheetsModel" ≠ "java/lang/invoke/MethodHandle" ∧ "LostSheetsModel" ≠ "java/lang/invoke/VarHandle" ∧ (parseMethodDescriptor "(II)I").map (fun d => d.parameters.length) = some 2) := by decide +kernel
theorem km_9_293 : am_mok 9 (293, 0, 196, 2) := Or.inr (Or.inr ⟨by decide, _, ky_196, kn_196, ⟨ct_1255, ct_1257, cts_66⟩⟩)
theorem kn_200 : ("LostSheetsModel" ≠ "java/lang/invoke/MethodHandle" ∧ "LostSheetsModel" ≠ "java/lang/invoke/VarHandle" ∧ (parseMethodDescriptor "(JJI)J").map (fun d => d.parameters.length) = some 3) := by decide +kernel
theorem km_9_310 : am_mok 9 (310, 1, 200, 3) := Or.inr (Or.inr ⟨by decide, _, ky_200, kn_200, ⟨ct_1273, ct_1274⟩⟩)
theorem kn_201 : ("java/lang/Math" ≠ "java/lang/invoke/MethodHandle" ∧ "java/lang/Math" ≠ "java/lang/invoke/VarHandle" ∧ (parseMethodDescriptor "(J)J").map (fun d => d.parameters.length) = some 1) := by decide +kernel
theorem km_9_302 : am_mok 9 (302, 1, 201, 1) := Or.inr (Or.inr ⟨by decide, _, ky_201, kn_201, ⟨ct_1276, ct_1277⟩⟩)
theorem kn_203 : ("LostSheetsModel" ≠ "java/lang/invoke/MethodHandle" ∧ "LostSheetsModel" ≠ "java/lang/invoke/VarHandle" ∧ (parseMethodDescriptor "()I").map (fun d => d.parameters.length) = some 0) := by decide +kernel
theorem km_9_314 : am_mok 9 (314, 0, 203, 0) := Or.inr (Or.inr ⟨by decide, _, ky_203, kn_203, ⟨ct_1283, ct_1285, cts_67⟩⟩)
theorem kn_212 : ("LostSheetsModel" ≠ "java/lang/invoke/MethodHandle" ∧ "LostSheetsModel" ≠ "java/lang/invoke/VarHandle" ∧ (parseMethodDescriptor "(III)I").map (fun d => d.parameters.length) = some 3) := by decide +kernel
theorem km_9_333 : am_mok 9 (333, 0, 212, 3) := Or.inr (Or.inr ⟨by decide, _, ky_212, kn_212, ⟨ct_1319, ct_1321, cts_68⟩⟩)
theorem kn_213 : ("LostSheetsModel" ≠ "java/lang/invoke/MethodHandle" ∧ "LostSheetsModel" ≠ "java/lang/invoke/VarHandle" ∧ (parseMethodDescriptor "(I)V").map (fun d => d.parameters.length) = some 1) := by decide +kernel
theorem km_9_330 : am_mok 9 (330, 0, 213, 1) := Or.inr (Or.inr ⟨by decide, _, ky_213, kn_213, ⟨ct_1323, ct_1325, cts_69⟩⟩)
theorem kn_214 : ("LostSheetsModel" ≠ "java/lang/invoke/MethodHandle" ∧ "LostSheetsModel" ≠ "java/lang/invoke/VarHandle" ∧ (parseMethodDescriptor "(I)I").map (fun d => d.parameters.length) = some 1) := by decide +kernel
theorem km_9_337 : am_mok 9 (337, 1, 214, 1) := Or.inr (Or.inr ⟨by decide, _, ky_214, kn_214, ⟨ct_1327, ct_1328⟩⟩)
theorem kn_215 : ("LostSheetsModel" ≠ "java/lang/invoke/MethodHandle" ∧ "LostSheetsModel" ≠ "java/lang/invoke/VarHandle" ∧ (parseMethodDescriptor "(III)I").map (fun d => d.parameters.length) = some 3) := by decide +kernel
theorem km_9_340 : am_mok 9 (340, 0, 215, 3) := Or.inr (Or.inr ⟨by decide, _, ky_215, kn_215, ⟨ct_1330, ct_1332, cts_70⟩⟩)
theorem kn_216 : ("LostSheetsModel" ≠ "java/lang/invoke/MethodHandle" ∧ "LostSheetsModel" ≠ "java/lang/invoke/VarHandle" ∧ (parseMethodDescriptor "(III)I").map (fun d => d.parameters.length) = some 3) := by decide +kernel
theorem km_9_343 : am_mok 9 (343, 0, 216, 3) := Or.inr (Or.inr ⟨by decide, _, ky_216, kn_216, ⟨ct_1334, ct_1336, cts_71⟩⟩)
theorem kn_221 : ("LostSheetsModel" ≠ "java/lang/invoke/MethodHandle" ∧ "LostSheetsModel" ≠ "java/lang/invoke/VarHandle" ∧ (parseMethodDescriptor "(I)Z").map (fun d => d.parameters.length) = some 1) := by decide +kernel
theorem km_9_346 : am_mok 9 (346, 1, 221, 1) := Or.inr (Or.inr ⟨by decide, _, ky_221, kn_221, ⟨ct_1354, ct_1355⟩⟩)
theorem kn_223 : ("LostSheetsModel" ≠ "java/lang/invoke/MethodHandle" ∧ "LostSheetsModel" ≠ "java/lang/invoke/VarHandle" ∧ (parseMethodDescriptor "(IJ)J").map (fun d => d.parameters.length) = some 2) := by decide +kernel
theorem km_9_349 : am_mok 9 (349, 1, 223, 2) := Or.inr (Or.inr ⟨by decide, _, ky_223, kn_223, ⟨ct_1361, ct_1362⟩⟩)
theorem am_mt_ok_9 : ∀ e ∈ am_mt 9, am_mok 9 e := List.forall_mem_cons.mpr ⟨km_9_3, List.forall_mem_cons.mpr ⟨km_9_114, List.forall_mem_cons.mpr ⟨km_9_118, List.forall_mem_cons.mpr ⟨km_9_122, List.forall_mem_cons.mpr ⟨km_9_125, List.forall_mem_cons.mpr ⟨km_9_231, List.forall_mem_cons.mpr ⟨km_9_227, List.forall_mem_cons.mpr ⟨km_9_223, List.forall_mem_cons.mpr ⟨km_9_234, List.forall_mem_cons.mpr ⟨km_9_129, List.forall_mem_cons.mpr ⟨km_9_132, List.forall_mem_cons.mpr ⟨km_9_237, List.forall_mem_cons.mpr ⟨km_9_136, List.forall_mem_cons.mpr ⟨km_9_279, List.forall_mem_cons.mpr ⟨km_9_139, List.forall_mem_cons.mpr ⟨km_9_299, List.forall_mem_cons.mpr ⟨km_9_253, List.forall_mem_cons.mpr ⟨km_9_250, List.forall_mem_cons.mpr ⟨km_9_243, List.forall_mem_cons.mpr ⟨km_9_246, List.forall_mem_cons.mpr ⟨km_9_258, List.forall_mem_cons.mpr ⟨km_9_217, List.forall_mem_cons.mpr ⟨km_9_206, List.forall_mem_cons.mpr ⟨km_9_158, List.forall_mem_cons.mpr ⟨km_9_163, List.forall_mem_cons.mpr ⟨km_9_167, List.forall_mem_cons.mpr ⟨km_9_180, List.forall_mem_cons.mpr ⟨km_9_154, List.forall_mem_cons.mpr ⟨km_9_195, List.forall_mem_cons.mpr ⟨km_9_201, List.forall_mem_cons.mpr ⟨km_9_192, List.forall_mem_cons.mpr ⟨km_9_189, List.forall_mem_cons.mpr ⟨km_9_183, List.forall_mem_cons.mpr ⟨km_9_198, List.forall_mem_cons.mpr ⟨km_9_175, List.forall_mem_cons.mpr ⟨km_9_261, List.forall_mem_cons.mpr ⟨km_9_264, List.forall_mem_cons.mpr ⟨km_9_267, List.forall_mem_cons.mpr ⟨km_9_270, List.forall_mem_cons.mpr ⟨km_9_275, List.forall_mem_cons.mpr ⟨km_9_290, List.forall_mem_cons.mpr ⟨km_9_287, List.forall_mem_cons.mpr ⟨km_9_282, List.forall_mem_cons.mpr ⟨km_9_293, List.forall_mem_cons.mpr ⟨km_9_310, List.forall_mem_cons.mpr ⟨km_9_302, List.forall_mem_cons.mpr ⟨km_9_314, List.forall_mem_cons.mpr ⟨km_9_333, List.forall_mem_cons.mpr ⟨km_9_330, List.forall_mem_cons.mpr ⟨km_9_337, List.forall_mem_cons.mpr ⟨km_9_340, List.forall_mem_cons.mpr ⟨km_9_343, List.forall_mem_cons.mpr ⟨km_9_346, List.forall_mem_cons.mpr ⟨km_9_349, fun _ h => absurd h List.not_mem_nil⟩⟩⟩⟩⟩⟩⟩⟩⟩⟩⟩⟩⟩⟩⟩⟩⟩⟩⟩⟩⟩⟩⟩⟩⟩⟩⟩⟩⟩⟩⟩⟩⟩⟩⟩⟩⟩⟩⟩⟩⟩⟩⟩⟩⟩⟩⟩⟩⟩⟩⟩⟩⟩⟩
theorem kn_64 : ("java/lang/String" ≠ "java/lang/invoke/MethodHandle" ∧ "java/lang/String" ≠ "java/lang/invoke/VarHandle" ∧ (parseMethodDescriptor "()B").map (fun d => d.parameters.length) = some 0) := by decide +kernel
theorem km_10_335 : am_mok 10 (335, 0, 64, 0) := Or.inr (Or.inr ⟨by decide, _, ky_64, kn_64, ⟨ct_520, ct_521, ct_522⟩⟩)
theorem kn_66 : ("java/lang/String" ≠ "java/lang/invoke/MethodHandle" ∧ "java/lang/String" ≠ "java/lang/invoke/VarHandle" ∧ (parseMethodDescriptor "()Z").map (fun d => d.parameters.length) = some 0) := by decide +kernel
theorem km_10_492 : am_mok 10 (492, 0, 66, 0) := Or.inr (Or.inr ⟨by decide, _, ky_66, kn_66, ⟨ct_530, ct_531, ct_532⟩⟩)
theorem kn_67 : ("java/lang/StringLatin1" ≠ "java/lang/invoke/MethodHandle" ∧ "java/lang/StringLatin1" ≠ "java/lang/invoke/VarHandle" ∧ (parseMethodDescriptor "([BI)C").map (fun d => d.parameters.length) = some 2) := by decide +kernel
theorem km_10_495 : am_mok 10 (495, 1, 67, 2) := Or.inr (Or.inr ⟨by decide, _, ky_67, kn_67, ⟨ct_534, ct_535⟩⟩)
theorem kn_69 : ("jdk/internal/util/Preconditions" ≠ "java/lang/invoke/MethodHandle" ∧ "jdk/internal/util/Preconditions" ≠ "java/lang/invoke/VarHandle" ∧ (parseMethodDescriptor "(IILjava/util/function/BiFunction;)I").map (fun d => d.parameters.length) = some 3) := by decide +kernel
theorem km_10_1059 : am_mok 10 (1059, 1, 69, 3) := Or.inr (Or.inr ⟨by decide, _, ky_69, kn_69, ⟨ct_542, ct_543⟩⟩)
theorem kn_180 : ("java/lang/String" ≠ "java/lang/invoke/MethodHandle" ∧ "java/lang/String" ≠ "java/lang/invoke/VarHandle" ∧ (parseMethodDescriptor "(II)I").map (fun d => d.parameters.length) = some 2) := by decide +kernel
theorem km_10_633 : am_mok 10 (633, 0, 180, 2) := Or.inr (Or.inr ⟨by decide, _, ky_180, kn_180, ⟨ct_1160, ct_1161, ct_1162⟩⟩)
theorem km_10_505 : am_mok 10 (505, 0, 63, 0) := Or.inr (Or.inr ⟨by decide, _, ky_63, kn_63, ⟨ct_1164, ct_517, ct_518⟩⟩)
theorem kn_181 : ("java/lang/StringLatin1" ≠ "java/lang/invoke/MethodHandle" ∧ "java/lang/StringLatin1" ≠ "java/lang/invoke/VarHandle" ∧ (parseMethodDescriptor "([BIII)I").map (fun d => d.parameters.length) = some 4) := by decide +kernel
theorem km_10_637 : am_mok 10 (637, 1, 181, 4) := Or.inr (Or.inr ⟨by decide, _, ky_181, kn_181, ⟨ct_1165, ct_1166⟩⟩)
theorem kn_185 : ("jdk/internal/util/Preconditions" ≠ "java/lang/invoke/MethodHandle" ∧ "jdk/internal/util/Preconditions" ≠ "java/lang/invoke/VarHandle" ∧ (parseMethodDescriptor "(IIILjava/util/function/BiFunction;)I").map (fun d => d.parameters.length) = some 4) := by decide +kernel
theorem km_10_1062 : am_mok 10 (1062, 1, 185, 4) := Or.inr (Or.inr ⟨by decide, _, ky_185, kn_185, ⟨ct_1191, ct_1192⟩⟩)
theorem am_mt_ok_10 : ∀ e ∈ am_mt 10, am_mok 10 e := List.forall_mem_cons.mpr ⟨km_10_335, List.forall_mem_cons.mpr ⟨km_10_492, List.forall_mem_cons.mpr ⟨km_10_495, List.forall_mem_cons.mpr ⟨km_10_1059, List.forall_mem_cons.mpr ⟨km_10_633, List.forall_mem_cons.mpr ⟨km_10_505, List.forall_mem_cons.mpr ⟨km_10_637, List.forall_mem_cons.mpr ⟨km_10_1062, fun _ h => absurd h List.not_mem_nil⟩⟩⟩⟩⟩⟩⟩⟩
theorem kn_68 : ("java/lang/String" ≠ "java/lang/invoke/MethodHandle" ∧ "java/lang/String" ≠ "java/lang/invoke/VarHandle" ∧ (parseMethodDescriptor "(II)V").map (fun d => d.parameters.length) = some 2) := by decide +kernel
theorem km_11_9 : am_mok 11 (9, 1, 68, 2) := Or.inr (Or.inr ⟨by decide, _, ky_68, kn_68, ⟨ct_537, ct_538⟩⟩)
theorem kn_182 : ("java/lang/StringLatin1" ≠ "java/lang/invoke/MethodHandle" ∧ "java/lang/StringLatin1" ≠ "java/lang/invoke/VarHandle" ∧ (parseMethodDescriptor "(I)Z").map (fun d => d.parameters.length) = some 1) := by decide +kernel
theorem km_11_88 : am_mok 11 (88, 1, 182, 1) := Or.inr (Or.inr ⟨by decide, _, ky_182, kn_182, ⟨ct_1168, ct_1169⟩⟩)
theorem km_11_92 : am_mok 11 (92, 1, 5, 2) := Or.inr (Or.inr ⟨by decide, _, ky_5, kn_5, ⟨ct_1171, ct_140⟩⟩)
theorem km_11_38 : am_mok 11 (38, 1, 86, 2) := Or.inr (Or.inr ⟨by decide, _, ky_86, kn_86, ⟨ct_1172, ct_632⟩⟩)
theorem kn_183 : ("java/lang/StringLatin1" ≠ "java/lang/invoke/MethodHandle" ∧ "java/lang/StringLatin1" ≠ "java/lang/invoke/VarHandle" ∧ (parseMethodDescriptor "([BIII)I").map (fun d => d.parameters.length) = some 4) := by decide +kernel
theorem km_11_95 : am_mok 11 (95, 1, 183, 4) := Or.inr (Or.inr ⟨by decide, _, ky_183, kn_183, ⟨ct_1173, ct_1174⟩⟩)
theorem am_mt_ok_11 : ∀ e ∈ am_mt 11, am_mok 11 e := List.forall_mem_cons.mpr ⟨km_11_9, List.forall_mem_cons.mpr ⟨km_11_88, List.forall_mem_cons.mpr ⟨km_11_92, List.forall_mem_cons.mpr ⟨km_11_38, List.forall_mem_cons.mpr ⟨km_11_95, fun _ h => absurd h List.not_mem_nil⟩⟩⟩⟩⟩
theorem kn_0 : ("LostSheets" ≠ "java/lang/invoke/MethodHandle" ∧ "LostSheets" ≠ "java/lang/invoke/VarHandle" ∧ (parseMethodDescriptor "()V").map (fun d => d.parameters.length) = some 0) := by decide +kernel
theorem km_15_9 : am_mok 15 (9, 2, 0, 0) := Or.inr (Or.inr ⟨by decide, _, ky_0, kn_0, ⟨ct_21, ct_22, rfl, rfl⟩⟩)
theorem kn_10 : ("LostSheets" ≠ "java/lang/invoke/MethodHandle" ∧ "LostSheets" ≠ "java/lang/invoke/VarHandle" ∧ (parseMethodDescriptor "(III)I").map (fun d => d.parameters.length) = some 3) := by decide +kernel
theorem km_15_13 : am_mok 15 (13, 0, 10, 3) := Or.inr (Or.inr ⟨by decide, _, ky_10, kn_10, ⟨ct_295, ct_296, ct_297⟩⟩)
theorem kn_15 : ("LostSheets" ≠ "java/lang/invoke/MethodHandle" ∧ "LostSheets" ≠ "java/lang/invoke/VarHandle" ∧ (parseMethodDescriptor "(II)I").map (fun d => d.parameters.length) = some 2) := by decide +kernel
theorem km_15_18 : am_mok 15 (18, 0, 15, 2) := Or.inr (Or.inr ⟨by decide, _, ky_15, kn_15, ⟨ct_313, ct_314, ct_315⟩⟩)
theorem kn_49 : ("LostSheets" ≠ "java/lang/invoke/MethodHandle" ∧ "LostSheets" ≠ "java/lang/invoke/VarHandle" ∧ (parseMethodDescriptor "(II)I").map (fun d => d.parameters.length) = some 2) := by decide +kernel
theorem km_15_23 : am_mok 15 (23, 0, 49, 2) := Or.inr (Or.inr ⟨by decide, _, ky_49, kn_49, ⟨ct_456, ct_457, ct_458⟩⟩)
theorem kn_50 : ("LostSheets" ≠ "java/lang/invoke/MethodHandle" ∧ "LostSheets" ≠ "java/lang/invoke/VarHandle" ∧ (parseMethodDescriptor "(II)I").map (fun d => d.parameters.length) = some 2) := by decide +kernel
theorem km_15_27 : am_mok 15 (27, 0, 50, 2) := Or.inr (Or.inr ⟨by decide, _, ky_50, kn_50, ⟨ct_460, ct_461, ct_462⟩⟩)
theorem kn_51 : ("LostSheets" ≠ "java/lang/invoke/MethodHandle" ∧ "LostSheets" ≠ "java/lang/invoke/VarHandle" ∧ (parseMethodDescriptor "(I)I").map (fun d => d.parameters.length) = some 1) := by decide +kernel
theorem km_15_31 : am_mok 15 (31, 0, 51, 1) := Or.inr (Or.inr ⟨by decide, _, ky_51, kn_51, ⟨ct_464, ct_465, ct_466⟩⟩)
theorem kn_52 : ("LostSheets" ≠ "java/lang/invoke/MethodHandle" ∧ "LostSheets" ≠ "java/lang/invoke/VarHandle" ∧ (parseMethodDescriptor "(II)I").map (fun d => d.parameters.length) = some 2) := by decide +kernel
theorem km_15_36 : am_mok 15 (36, 0, 52, 2) := Or.inr (Or.inr ⟨by decide, _, ky_52, kn_52, ⟨ct_468, ct_469, ct_470⟩⟩)
theorem kn_54 : ("LostSheets" ≠ "java/lang/invoke/MethodHandle" ∧ "LostSheets" ≠ "java/lang/invoke/VarHandle" ∧ (parseMethodDescriptor "(III)I").map (fun d => d.parameters.length) = some 3) := by decide +kernel
theorem km_15_40 : am_mok 15 (40, 0, 54, 3) := Or.inr (Or.inr ⟨by decide, _, ky_54, kn_54, ⟨ct_477, ct_478, ct_479⟩⟩)
theorem kn_55 : ("LostSheets" ≠ "java/lang/invoke/MethodHandle" ∧ "LostSheets" ≠ "java/lang/invoke/VarHandle" ∧ (parseMethodDescriptor "(I)I").map (fun d => d.parameters.length) = some 1) := by decide +kernel
theorem km_15_44 : am_mok 15 (44, 0, 55, 1) := Or.inr (Or.inr ⟨by decide, _, ky_55, kn_55, ⟨ct_481, ct_482, ct_483⟩⟩)
theorem kn_57 : ("LostSheets" ≠ "java/lang/invoke/MethodHandle" ∧ "LostSheets" ≠ "java/lang/invoke/VarHandle" ∧ (parseMethodDescriptor "()I").map (fun d => d.parameters.length) = some 0) := by decide +kernel
theorem km_15_48 : am_mok 15 (48, 0, 57, 0) := Or.inr (Or.inr ⟨by decide, _, ky_57, kn_57, ⟨ct_489, ct_490, ct_491⟩⟩)
theorem kn_80 : ("LostSheets" ≠ "java/lang/invoke/MethodHandle" ∧ "LostSheets" ≠ "java/lang/invoke/VarHandle" ∧ (parseMethodDescriptor "(I)I").map (fun d => d.parameters.length) = some 1) := by decide +kernel
theorem km_15_53 : am_mok 15 (53, 0, 80, 1) := Or.inr (Or.inr ⟨by decide, _, ky_80, kn_80, ⟨ct_605, ct_606, ct_607⟩⟩)
theorem kn_84 : ("LostSheets" ≠ "java/lang/invoke/MethodHandle" ∧ "LostSheets" ≠ "java/lang/invoke/VarHandle" ∧ (parseMethodDescriptor "(I)I").map (fun d => d.parameters.length) = some 1) := by decide +kernel
theorem km_15_57 : am_mok 15 (57, 0, 84, 1) := Or.inr (Or.inr ⟨by decide, _, ky_84, kn_84, ⟨ct_623, ct_624, ct_625⟩⟩)
theorem kn_87 : ("LostSheets" ≠ "java/lang/invoke/MethodHandle" ∧ "LostSheets" ≠ "java/lang/invoke/VarHandle" ∧ (parseMethodDescriptor "(II)I").map (fun d => d.parameters.length) = some 2) := by decide +kernel
theorem km_15_61 : am_mok 15 (61, 0, 87, 2) := Or.inr (Or.inr ⟨by decide, _, ky_87, kn_87, ⟨ct_634, ct_635, ct_636⟩⟩)
theorem kn_89 : ("LostSheets" ≠ "java/lang/invoke/MethodHandle" ∧ "LostSheets" ≠ "java/lang/invoke/VarHandle" ∧ (parseMethodDescriptor "(II)I").map (fun d => d.parameters.length) = some 2) := by decide +kernel
theorem km_15_65 : am_mok 15 (65, 0, 89, 2) := Or.inr (Or.inr ⟨by decide, _, ky_89, kn_89, ⟨ct_642, ct_643, ct_644⟩⟩)
theorem kn_94 : ("LostSheets" ≠ "java/lang/invoke/MethodHandle" ∧ "LostSheets" ≠ "java/lang/invoke/VarHandle" ∧ (parseMethodDescriptor "(III)I").map (fun d => d.parameters.length) = some 3) := by decide +kernel
theorem km_15_69 : am_mok 15 (69, 0, 94, 3) := Or.inr (Or.inr ⟨by decide, _, ky_94, kn_94, ⟨ct_664, ct_665, ct_666⟩⟩)
theorem kn_97 : ("LostSheets" ≠ "java/lang/invoke/MethodHandle" ∧ "LostSheets" ≠ "java/lang/invoke/VarHandle" ∧ (parseMethodDescriptor "(II)I").map (fun d => d.parameters.length) = some 2) := by decide +kernel
theorem km_15_73 : am_mok 15 (73, 0, 97, 2) := Or.inr (Or.inr ⟨by decide, _, ky_97, kn_97, ⟨ct_676, ct_677, ct_678⟩⟩)
theorem kn_101 : ("LostSheets" ≠ "java/lang/invoke/MethodHandle" ∧ "LostSheets" ≠ "java/lang/invoke/VarHandle" ∧ (parseMethodDescriptor "(III)J").map (fun d => d.parameters.length) = some 3) := by decide +kernel
theorem km_15_77 : am_mok 15 (77, 0, 101, 3) := Or.inr (Or.inr ⟨by decide, _, ky_101, kn_101, ⟨ct_691, ct_692, ct_693⟩⟩)
theorem kn_104 : ("LostSheets" ≠ "java/lang/invoke/MethodHandle" ∧ "LostSheets" ≠ "java/lang/invoke/VarHandle" ∧ (parseMethodDescriptor "(II)J").map (fun d => d.parameters.length) = some 2) := by decide +kernel
theorem km_15_82 : am_mok 15 (82, 0, 104, 2) := Or.inr (Or.inr ⟨by decide, _, ky_104, kn_104, ⟨ct_703, ct_704, ct_705⟩⟩)
theorem kn_106 : ("LostSheets" ≠ "java/lang/invoke/MethodHandle" ∧ "LostSheets" ≠ "java/lang/invoke/VarHandle" ∧ (parseMethodDescriptor "(II)I").map (fun d => d.parameters.length) = some 2) := by decide +kernel
theorem km_15_87 : am_mok 15 (87, 0, 106, 2) := Or.inr (Or.inr ⟨by decide, _, ky_106, kn_106, ⟨ct_711, ct_712, ct_713⟩⟩)
theorem kn_108 : ("LostSheets" ≠ "java/lang/invoke/MethodHandle" ∧ "LostSheets" ≠ "java/lang/invoke/VarHandle" ∧ (parseMethodDescriptor "(I)I").map (fun d => d.parameters.length) = some 1) := by decide +kernel
theorem km_15_91 : am_mok 15 (91, 0, 108, 1) := Or.inr (Or.inr ⟨by decide, _, ky_108, kn_108, ⟨ct_719, ct_720, ct_721⟩⟩)
theorem kn_112 : ("LostSheets" ≠ "java/lang/invoke/MethodHandle" ∧ "LostSheets" ≠ "java/lang/invoke/VarHandle" ∧ (parseMethodDescriptor "(II)I").map (fun d => d.parameters.length) = some 2) := by decide +kernel
theorem km_15_95 : am_mok 15 (95, 0, 112, 2) := Or.inr (Or.inr ⟨by decide, _, ky_112, kn_112, ⟨ct_735, ct_736, ct_737⟩⟩)
theorem kn_113 : ("LostSheets" ≠ "java/lang/invoke/MethodHandle" ∧ "LostSheets" ≠ "java/lang/invoke/VarHandle" ∧ (parseMethodDescriptor "()I").map (fun d => d.parameters.length) = some 0) := by decide +kernel
theorem km_15_99 : am_mok 15 (99, 0, 113, 0) := Or.inr (Or.inr ⟨by decide, _, ky_113, kn_113, ⟨ct_739, ct_740, ct_741⟩⟩)
theorem kn_114 : ("LostSheets" ≠ "java/lang/invoke/MethodHandle" ∧ "LostSheets" ≠ "java/lang/invoke/VarHandle" ∧ (parseMethodDescriptor "(II)I").map (fun d => d.parameters.length) = some 2) := by decide +kernel
theorem km_15_103 : am_mok 15 (103, 0, 114, 2) := Or.inr (Or.inr ⟨by decide, _, ky_114, kn_114, ⟨ct_743, ct_744, ct_745⟩⟩)
theorem kn_117 : ("LostSheets" ≠ "java/lang/invoke/MethodHandle" ∧ "LostSheets" ≠ "java/lang/invoke/VarHandle" ∧ (parseMethodDescriptor "()I").map (fun d => d.parameters.length) = some 0) := by decide +kernel
theorem km_15_107 : am_mok 15 (107, 0, 117, 0) := Or.inr (Or.inr ⟨by decide, _, ky_117, kn_117, ⟨ct_755, ct_756, ct_757⟩⟩)
theorem kn_120 : ("LostSheets" ≠ "java/lang/invoke/MethodHandle" ∧ "LostSheets" ≠ "java/lang/invoke/VarHandle" ∧ (parseMethodDescriptor "()I").map (fun d => d.parameters.length) = some 0) := by decide +kernel
theorem km_15_111 : am_mok 15 (111, 0, 120, 0) := Or.inr (Or.inr ⟨by decide, _, ky_120, kn_120, ⟨ct_768, ct_769, ct_770⟩⟩)
theorem kn_121 : ("LostSheets" ≠ "java/lang/invoke/MethodHandle" ∧ "LostSheets" ≠ "java/lang/invoke/VarHandle" ∧ (parseMethodDescriptor "(III)I").map (fun d => d.parameters.length) = some 3) := by decide +kernel
theorem km_15_115 : am_mok 15 (115, 0, 121, 3) := Or.inr (Or.inr ⟨by decide, _, ky_121, kn_121, ⟨ct_772, ct_773, ct_774⟩⟩)
theorem kn_128 : ("LostSheets" ≠ "java/lang/invoke/MethodHandle" ∧ "LostSheets" ≠ "java/lang/invoke/VarHandle" ∧ (parseMethodDescriptor "(I)I").map (fun d => d.parameters.length) = some 1) := by decide +kernel
theorem km_15_119 : am_mok 15 (119, 0, 128, 1) := Or.inr (Or.inr ⟨by decide, _, ky_128, kn_128, ⟨ct_802, ct_803, ct_804⟩⟩)
theorem kn_129 : ("LostSheets" ≠ "java/lang/invoke/MethodHandle" ∧ "LostSheets" ≠ "java/lang/invoke/VarHandle" ∧ (parseMethodDescriptor "(II)I").map (fun d => d.parameters.length) = some 2) := by decide +kernel
theorem km_15_123 : am_mok 15 (123, 0, 129, 2) := Or.inr (Or.inr ⟨by decide, _, ky_129, kn_129, ⟨ct_806, ct_807, ct_808⟩⟩)
theorem kn_131 : ("LostSheets" ≠ "java/lang/invoke/MethodHandle" ∧ "LostSheets" ≠ "java/lang/invoke/VarHandle" ∧ (parseMethodDescriptor "(I)I").map (fun d => d.parameters.length) = some 1) := by decide +kernel
theorem km_15_127 : am_mok 15 (127, 0, 131, 1) := Or.inr (Or.inr ⟨by decide, _, ky_131, kn_131, ⟨ct_814, ct_815, ct_816⟩⟩)
theorem kn_132 : ("LostSheets" ≠ "java/lang/invoke/MethodHandle" ∧ "LostSheets" ≠ "java/lang/invoke/VarHandle" ∧ (parseMethodDescriptor "(III)I").map (fun d => d.parameters.length) = some 3) := by decide +kernel
theorem km_15_131 : am_mok 15 (131, 0, 132, 3) := Or.inr (Or.inr ⟨by decide, _, ky_132, kn_132, ⟨ct_818, ct_819, ct_820⟩⟩)
theorem kn_134 : ("LostSheets" ≠ "java/lang/invoke/MethodHandle" ∧ "LostSheets" ≠ "java/lang/invoke/VarHandle" ∧ (parseMethodDescriptor "(IIJ)I").map (fun d => d.parameters.length) = some 3) := by decide +kernel
theorem km_15_137 : am_mok 15 (137, 0, 134, 3) := Or.inr (Or.inr ⟨by decide, _, ky_134, kn_134, ⟨ct_826, ct_827, ct_828⟩⟩)
theorem kn_136 : ("LostSheets" ≠ "java/lang/invoke/MethodHandle" ∧ "LostSheets" ≠ "java/lang/invoke/VarHandle" ∧ (parseMethodDescriptor "(II)J").map (fun d => d.parameters.length) = some 2) := by decide +kernel
theorem km_15_142 : am_mok 15 (142, 0, 136, 2) := Or.inr (Or.inr ⟨by decide, _, ky_136, kn_136, ⟨ct_834, ct_835, ct_836⟩⟩)
theorem kn_137 : ("LostSheets" ≠ "java/lang/invoke/MethodHandle" ∧ "LostSheets" ≠ "java/lang/invoke/VarHandle" ∧ (parseMethodDescriptor "(IIIII)I").map (fun d => d.parameters.length) = some 5) := by decide +kernel
theorem km_15_146 : am_mok 15 (146, 0, 137, 5) := Or.inr (Or.inr ⟨by decide, _, ky_137, kn_137, ⟨ct_838, ct_839, ct_840⟩⟩)
theorem kn_139 : ("LostSheetsModel" ≠ "java/lang/invoke/MethodHandle" ∧ "LostSheetsModel" ≠ "java/lang/invoke/VarHandle" ∧ (parseMethodDescriptor "()V").map (fun d => d.parameters.length) = some 0) := by decide +kernel
theorem km_15_12 : am_mok 15 (12, 2, 139, 0) := Or.inr (Or.inr ⟨by decide, _, ky_139, kn_139, ⟨ct_849, ct_850, rfl, rfl⟩⟩)
theorem kn_140 : ("LostSheetsModel" ≠ "java/lang/invoke/MethodHandle" ∧ "LostSheetsModel" ≠ "java/lang/invoke/VarHandle" ∧ (parseMethodDescriptor "(III)I").map (fun d => d.parameters.length) = some 3) := by decide +kernel
theorem km_15_17 : am_mok 15 (17, 0, 140, 3) := Or.inr (Or.inr ⟨by decide, _, ky_140, kn_140, ⟨ct_996, ct_997, ct_998⟩⟩)
theorem kn_143 : ("LostSheetsModel" ≠ "java/lang/invoke/MethodHandle" ∧ "LostSheetsModel" ≠ "java/lang/invoke/VarHandle" ∧ (parseMethodDescriptor "(II)I").map (fun d => d.parameters.length) = some 2) := by decide +kernel
theorem km_15_22 : am_mok 15 (22, 0, 143, 2) := Or.inr (Or.inr ⟨by decide, _, ky_143, kn_143, ⟨ct_1006, ct_1007, ct_1008⟩⟩)
theorem kn_161 : ("LostSheetsModel" ≠ "java/lang/invoke/MethodHandle" ∧ "LostSheetsModel" ≠ "java/lang/invoke/VarHandle" ∧ (parseMethodDescriptor "(II)I").map (fun d => d.parameters.length) = some 2) := by decide +kernel
theorem km_15_26 : am_mok 15 (26, 0, 161, 2) := Or.inr (Or.inr ⟨by decide, _, ky_161, kn_161, ⟨ct_1078, ct_1079, ct_1080⟩⟩)
theorem kn_162 : ("LostSheetsModel" ≠ "java/lang/invoke/MethodHandle" ∧ "LostSheetsModel" ≠ "java/lang/invoke/VarHandle" ∧ (parseMethodDescriptor "(II)I").map (fun d => d.parameters.length) = some 2) := by decide +kernel
theorem km_15_30 : am_mok 15 (30, 0, 162, 2) := Or.inr (Or.inr ⟨by decide, _, ky_162, kn_162, ⟨ct_1082, ct_1083, ct_1084⟩⟩)
theorem kn_163 : ("LostSheetsModel" ≠ "java/lang/invoke/MethodHandle" ∧ "LostSheetsModel" ≠ "java/lang/invoke/VarHandle" ∧ (parseMethodDescriptor "(I)I").map (fun d => d.parameters.length) = some 1) := by decide +kernel
theorem km_15_35 : am_mok 15 (35, 0, 163, 1) := Or.inr (Or.inr ⟨by decide, _, ky_163, kn_163, ⟨ct_1086, ct_1087, ct_1088⟩⟩)
theorem kn_164 : ("LostSheetsModel" ≠ "java/lang/invoke/MethodHandle" ∧ "LostSheetsModel" ≠ "java/lang/invoke/VarHandle" ∧ (parseMethodDescriptor "(II)I").map (fun d => d.parameters.length) = some 2) := by decide +kernel
theorem km_15_39 : am_mok 15 (39, 0, 164, 2) := Or.inr (Or.inr ⟨by decide, _, ky_164, kn_164, ⟨ct_1090, ct_1091, ct_1092⟩⟩)
theorem kn_165 : ("LostSheetsModel" ≠ "java/lang/invoke/MethodHandle" ∧ "LostSheetsModel" ≠ "java/lang/invoke/VarHandle" ∧ (parseMethodDescriptor "(III)I").map (fun d => d.parameters.length) = some 3) := by decide +kernel
theorem km_15_43 : am_mok 15 (43, 0, 165, 3) := Or.inr (Or.inr ⟨by decide, _, ky_165, kn_165, ⟨ct_1094, ct_1095, ct_1096⟩⟩)
theorem kn_166 : ("LostSheetsModel" ≠ "java/lang/invoke/MethodHandle" ∧ "LostSheetsModel" ≠ "java/lang/invoke/VarHandle" ∧ (parseMethodDescriptor "(I)I").map (fun d => d.parameters.length) = some 1) := by decide +kernel
theorem km_15_47 : am_mok 15 (47, 0, 166, 1) := Or.inr (Or.inr ⟨by decide, _, ky_166, kn_166, ⟨ct_1098, ct_1099, ct_1100⟩⟩)
theorem kn_167 : ("LostSheetsModel" ≠ "java/lang/invoke/MethodHandle" ∧ "LostSheetsModel" ≠ "java/lang/invoke/VarHandle" ∧ (parseMethodDescriptor "()I").map (fun d => d.parameters.length) = some 0) := by decide +kernel
theorem km_15_52 : am_mok 15 (52, 0, 167, 0) := Or.inr (Or.inr ⟨by decide, _, ky_167, kn_167, ⟨ct_1102, ct_1103, ct_1104⟩⟩)
theorem kn_186 : ("LostSheetsModel" ≠ "java/lang/invoke/MethodHandle" ∧ "LostSheetsModel" ≠ "java/lang/invoke/VarHandle" ∧ (parseMethodDescriptor "(I)I").map (fun d => d.parameters.length) = some 1) := by decide +kernel
theorem km_15_56 : am_mok 15 (56, 0, 186, 1) := Or.inr (Or.inr ⟨by decide, _, ky_186, kn_186, ⟨ct_1212, ct_1213, ct_1214⟩⟩)
theorem kn_190 : ("LostSheetsModel" ≠ "java/lang/invoke/MethodHandle" ∧ "LostSheetsModel" ≠ "java/lang/invoke/VarHandle" ∧ (parseMethodDescriptor "(I)I").map (fun d => d.parameters.length) = some 1) := by decide +kernel
theorem km_15_60 : am_mok 15 (60, 0, 190, 1) := Or.inr (Or.inr ⟨by decide, _, ky_190, kn_190, ⟨ct_1229, ct_1230, ct_1231⟩⟩)
theorem kn_191 : ("LostSheetsModel" ≠ "java/lang/invoke/MethodHandle" ∧ "LostSheetsModel" ≠ "java/lang/invoke/VarHandle" ∧ (parseMethodDescriptor "(II)I").map (fun d => d.parameters.length) = some 2) := by decide +kernel
theorem km_15_64 : am_mok 15 (64, 0, 191, 2) := Or.inr (Or.inr ⟨by decide, _, ky_191, kn_191, ⟨ct_1234, ct_1235, ct_1236⟩⟩)
theorem kn_193 : ("LostSheetsModel" ≠ "java/lang/invoke/MethodHandle" ∧ "LostSheetsModel" ≠ "java/lang/invoke/VarHandle" ∧ (parseMethodDescriptor "(II)I").map (fun d => d.parameters.length) = some 2) := by decide +kernel
theorem km_15_68 : am_mok 15 (68, 0, 193, 2) := Or.inr (Or.inr ⟨by decide, _, ky_193, kn_193, ⟨ct_1242, ct_1243, ct_1244⟩⟩)
theorem kn_197 : ("LostSheetsModel" ≠ "java/lang/invoke/MethodHandle" ∧ "LostSheetsModel" ≠ "java/lang/invoke/VarHandle" ∧ (parseMethodDescriptor "(III)I").map (fun d => d.parameters.length) = some 3) := by decide +kernel
theorem km_15_72 : am_mok 15 (72, 0, 197, 3) := Or.inr (Or.inr ⟨by decide, _, ky_197, kn_197, ⟨ct_1259, ct_1260, ct_1261⟩⟩)
theorem kn_198 : ("LostSheetsModel" ≠ "java/lang/invoke/MethodHandle" ∧ "LostSheetsModel" ≠ "java/lang/invoke/VarHandle" ∧ (parseMethodDescriptor "(II)I").map (fun d => d.parameters.length) = some 2) := by decide +kernel
theorem km_15_76 : am_mok 15 (76, 0, 198, 2) := Or.inr (Or.inr ⟨by decide, _, ky_198, kn_198, ⟨ct_1263, ct_1264, ct_1265⟩⟩)
theorem kn_199 : ("LostSheetsModel" ≠ "java/lang/invoke/MethodHandle" ∧ "LostSheetsModel" ≠ "java/lang/invoke/VarHandle" ∧ (parseMethodDescriptor "(III)J").map (fun d => d.parameters.length) = some 3) := by decide +kernel
theorem km_15_81 : am_mok 15 (81, 0, 199, 3) := Or.inr (Or.inr ⟨by decide, _, ky_199, kn_199, ⟨ct_1267, ct_1268, ct_1269⟩⟩)
theorem kn_202 : ("LostSheetsModel" ≠ "java/lang/invoke/MethodHandle" ∧ "LostSheetsModel" ≠ "java/lang/invoke/VarHandle" ∧ (parseMethodDescriptor "(II)J").map (fun d => d.parameters.length) = some 2) := by decide +kernel
theorem km_15_86 : am_mok 15 (86, 0, 202, 2) := Or.inr (Or.inr ⟨by decide, _, ky_202, kn_202, ⟨ct_1279, ct_1280, ct_1281⟩⟩)
theorem kn_204 : ("LostSheetsModel" ≠ "java/lang/invoke/MethodHandle" ∧ "LostSheetsModel" ≠ "java/lang/invoke/VarHandle" ∧ (parseMethodDescriptor "(II)I").map (fun d => d.parameters.length) = some 2) := by decide +kernel
theorem km_15_90 : am_mok 15 (90, 0, 204, 2) := Or.inr (Or.inr ⟨by decide, _, ky_204, kn_204, ⟨ct_1287, ct_1288, ct_1289⟩⟩)
theorem kn_205 : ("LostSheetsModel" ≠ "java/lang/invoke/MethodHandle" ∧ "LostSheetsModel" ≠ "java/lang/invoke/VarHandle" ∧ (parseMethodDescriptor "(I)I").map (fun d => d.parameters.length) = some 1) := by decide +kernel
theorem km_15_94 : am_mok 15 (94, 0, 205, 1) := Or.inr (Or.inr ⟨by decide, _, ky_205, kn_205, ⟨ct_1291, ct_1292, ct_1293⟩⟩)
theorem kn_206 : ("LostSheetsModel" ≠ "java/lang/invoke/MethodHandle" ∧ "LostSheetsModel" ≠ "java/lang/invoke/VarHandle" ∧ (parseMethodDescriptor "(II)I").map (fun d => d.parameters.length) = some 2) := by decide +kernel
theorem km_15_98 : am_mok 15 (98, 0, 206, 2) := Or.inr (Or.inr ⟨by decide, _, ky_206, kn_206, ⟨ct_1295, ct_1296, ct_1297⟩⟩)
theorem kn_207 : ("LostSheetsModel" ≠ "java/lang/invoke/MethodHandle" ∧ "LostSheetsModel" ≠ "java/lang/invoke/VarHandle" ∧ (parseMethodDescriptor "()I").map (fun d => d.parameters.length) = some 0) := by decide +kernel
theorem km_15_102 : am_mok 15 (102, 0, 207, 0) := Or.inr (Or.inr ⟨by decide, _, ky_207, kn_207, ⟨ct_1299, ct_1300, ct_1301⟩⟩)
theorem kn_208 : ("LostSheetsModel" ≠ "java/lang/invoke/MethodHandle" ∧ "LostSheetsModel" ≠ "java/lang/invoke/VarHandle" ∧ (parseMethodDescriptor "(II)I").map (fun d => d.parameters.length) = some 2) := by decide +kernel
theorem km_15_106 : am_mok 15 (106, 0, 208, 2) := Or.inr (Or.inr ⟨by decide, _, ky_208, kn_208, ⟨ct_1303, ct_1304, ct_1305⟩⟩)
theorem kn_209 : ("LostSheetsModel" ≠ "java/lang/invoke/MethodHandle" ∧ "LostSheetsModel" ≠ "java/lang/invoke/VarHandle" ∧ (parseMethodDescriptor "()I").map (fun d => d.parameters.length) = some 0) := by decide +kernel
theorem km_15_110 : am_mok 15 (110, 0, 209, 0) := Or.inr (Or.inr ⟨by decide, _, ky_209, kn_209, ⟨ct_1307, ct_1308, ct_1309⟩⟩)
theorem kn_210 : ("LostSheetsModel" ≠ "java/lang/invoke/MethodHandle" ∧ "LostSheetsModel" ≠ "java/lang/invoke/VarHandle" ∧ (parseMethodDescriptor "()I").map (fun d => d.parameters.length) = some 0) := by decide +kernel
theorem km_15_114 : am_mok 15 (114, 0, 210, 0) := Or.inr (Or.inr ⟨by decide, _, ky_210, kn_210, ⟨ct_1311, ct_1312, ct_1313⟩⟩)
theorem kn_211 : ("LostSheetsModel" ≠ "java/lang/invoke/MethodHandle" ∧ "LostSheetsModel" ≠ "java/lang/invoke/VarHandle" ∧ (parseMethodDescriptor "(III)I").map (fun d => d.parameters.length) = some 3) := by decide +kernel
theorem km_15_118 : am_mok 15 (118, 0, 211, 3) := Or.inr (Or.inr ⟨by decide, _, ky_211, kn_211, ⟨ct_1315, ct_1316, ct_1317⟩⟩)
theorem kn_217 : ("LostSheetsModel" ≠ "java/lang/invoke/MethodHandle" ∧ "LostSheetsModel" ≠ "java/lang/invoke/VarHandle" ∧ (parseMethodDescriptor "(I)I").map (fun d => d.parameters.length) = some 1) := by decide +kernel
theorem km_15_122 : am_mok 15 (122, 0, 217, 1) := Or.inr (Or.inr ⟨by decide, _, ky_217, kn_217, ⟨ct_1338, ct_1339, ct_1340⟩⟩)
theorem kn_218 : ("LostSheetsModel" ≠ "java/lang/invoke/MethodHandle" ∧ "LostSheetsModel" ≠ "java/lang/invoke/VarHandle" ∧ (parseMethodDescriptor "(II)I").map (fun d => d.parameters.length) = some 2) := by decide +kernel
theorem km_15_126 : am_mok 15 (126, 0, 218, 2) := Or.inr (Or.inr ⟨by decide, _, ky_218, kn_218, ⟨ct_1342, ct_1343, ct_1344⟩⟩)
theorem kn_219 : ("LostSheetsModel" ≠ "java/lang/invoke/MethodHandle" ∧ "LostSheetsModel" ≠ "java/lang/invoke/VarHandle" ∧ (parseMethodDescriptor "(I)I").map (fun d => d.parameters.length) = some 1) := by decide +kernel
theorem km_15_130 : am_mok 15 (130, 0, 219, 1) := Or.inr (Or.inr ⟨by decide, _, ky_219, kn_219, ⟨ct_1346, ct_1347, ct_1348⟩⟩)
theorem kn_220 : ("LostSheetsModel" ≠ "java/lang/invoke/MethodHandle" ∧ "LostSheetsModel" ≠ "java/lang/invoke/VarHandle" ∧ (parseMethodDescriptor "(III)I").map (fun d => d.parameters.length) = some 3) := by decide +kernel
theorem km_15_134 : am_mok 15 (134, 0, 220, 3) := Or.inr (Or.inr ⟨by decide, _, ky_220, kn_220, ⟨ct_1350, ct_1351, ct_1352⟩⟩)
theorem kn_222 : ("LostSheetsModel" ≠ "java/lang/invoke/MethodHandle" ∧ "LostSheetsModel" ≠ "java/lang/invoke/VarHandle" ∧ (parseMethodDescriptor "(IIJ)I").map (fun d => d.parameters.length) = some 3) := by decide +kernel
theorem km_15_141 : am_mok 15 (141, 0, 222, 3) := Or.inr (Or.inr ⟨by decide, _, ky_222, kn_222, ⟨ct_1357, ct_1358, ct_1359⟩⟩)
theorem kn_224 : ("LostSheetsModel" ≠ "java/lang/invoke/MethodHandle" ∧ "LostSheetsModel" ≠ "java/lang/invoke/VarHandle" ∧ (parseMethodDescriptor "(II)J").map (fun d => d.parameters.length) = some 2) := by decide +kernel
theorem km_15_145 : am_mok 15 (145, 0, 224, 2) := Or.inr (Or.inr ⟨by decide, _, ky_224, kn_224, ⟨ct_1364, ct_1365, ct_1366⟩⟩)
theorem kn_225 : ("LostSheetsModel" ≠ "java/lang/invoke/MethodHandle" ∧ "LostSheetsModel" ≠ "java/lang/invoke/VarHandle" ∧ (parseMethodDescriptor "(IIIII)I").map (fun d => d.parameters.length) = some 5) := by decide +kernel
theorem km_15_150 : am_mok 15 (150, 0, 225, 5) := Or.inr (Or.inr ⟨by decide, _, ky_225, kn_225, ⟨ct_1368, ct_1369, ct_1370⟩⟩)
theorem am_mt_ok_15 : ∀ e ∈ am_mt 15, am_mok 15 e := List.forall_mem_cons.mpr ⟨km_15_9, List.forall_mem_cons.mpr ⟨km_15_13, List.forall_mem_cons.mpr ⟨km_15_18, List.forall_mem_cons.mpr ⟨km_15_23, List.forall_mem_cons.mpr ⟨km_15_27, List.forall_mem_cons.mpr ⟨km_15_31, List.forall_mem_cons.mpr ⟨km_15_36, List.forall_mem_cons.mpr ⟨km_15_40, List.forall_mem_cons.mpr ⟨km_15_44, List.forall_mem_cons.mpr ⟨km_15_48, List.forall_mem_cons.mpr ⟨km_15_53, List.forall_mem_cons.mpr ⟨km_15_57, List.forall_mem_cons.mpr ⟨km_15_61, List.forall_mem_cons.mpr ⟨km_15_65, List.forall_mem_cons.mpr ⟨km_15_69, List.forall_mem_cons.mpr ⟨km_15_73, List.forall_mem_cons.mpr ⟨km_15_77, List.forall_mem_cons.mpr ⟨km_15_82, List.forall_mem_cons.mpr ⟨km_15_87, List.forall_mem_cons.mpr ⟨km_15_91, List.forall_mem_cons.mpr ⟨km_15_95, List.forall_mem_cons.mpr ⟨km_15_99, List.forall_mem_cons.mpr ⟨km_15_103, List.forall_mem_cons.mpr ⟨km_15_107, List.forall_mem_cons.mpr ⟨km_15_111, List.forall_mem_cons.mpr ⟨km_15_115, List.forall_mem_cons.mpr ⟨km_15_119, List.forall_mem_cons.mpr ⟨km_15_123, List.forall_mem_cons.mpr ⟨km_15_127, List.forall_mem_cons.mpr ⟨km_15_131, List.forall_mem_cons.mpr ⟨km_15_137, List.forall_mem_cons.mpr ⟨km_15_142, List.forall_mem_cons.mpr ⟨km_15_146, List.forall_mem_cons.mpr ⟨km_15_12, List.forall_mem_cons.mpr ⟨km_15_17, List.forall_mem_cons.mpr ⟨km_15_22, List.forall_mem_cons.mpr ⟨km_15_26, List.forall_mem_cons.mpr ⟨km_15_30, List.forall_mem_cons.mpr ⟨km_15_35, List.forall_mem_cons.mpr ⟨km_15_39, List.forall_mem_cons.mpr ⟨km_15_43, List.forall_mem_cons.mpr ⟨km_15_47, List.forall_mem_cons.mpr ⟨km_15_52, List.forall_mem_cons.mpr ⟨km_15_56, List.forall_mem_cons.mpr ⟨km_15_60, List.forall_mem_cons.mpr ⟨km_15_64, List.forall_mem_cons.mpr ⟨km_15_68, List.forall_mem_cons.mpr ⟨km_15_72, List.forall_mem_cons.mpr ⟨km_15_76, List.forall_mem_cons.mpr ⟨km_15_81, List.forall_mem_cons.mpr ⟨km_15_86, List.forall_mem_cons.mpr ⟨km_15_90, List.forall_mem_cons.mpr ⟨km_15_94, List.forall_mem_cons.mpr ⟨km_15_98, List.forall_mem_cons.mpr ⟨km_15_102, List.forall_mem_cons.mpr ⟨km_15_106, List.forall_mem_cons.mpr ⟨km_15_110, List.forall_mem_cons.mpr ⟨km_15_114, List.forall_mem_cons.mpr ⟨km_15_118, List.forall_mem_cons.mpr ⟨km_15_122, List.forall_mem_cons.mpr ⟨km_15_126, List.forall_mem_cons.mpr ⟨km_15_130, List.forall_mem_cons.mpr ⟨km_15_134, List.forall_mem_cons.mpr ⟨km_15_141, List.forall_mem_cons.mpr ⟨km_15_145, List.forall_mem_cons.mpr ⟨km_15_150, fun _ h => absurd h List.not_mem_nil⟩⟩⟩⟩⟩⟩⟩⟩⟩⟩⟩⟩⟩⟩⟩⟩⟩⟩⟩⟩⟩⟩⟩⟩⟩⟩⟩⟩⟩⟩⟩⟩⟩⟩⟩⟩⟩⟩⟩⟩⟩⟩⟩⟩⟩⟩⟩⟩⟩⟩⟩⟩⟩⟩⟩⟩⟩⟩⟩⟩⟩⟩⟩⟩⟩⟩
theorem am_mt_ok : ∀ o, ∀ e ∈ am_mt o, am_mok o e := fun o => match o with
  | 0 => am_mt_ok_0
  | 1 => am_mt_ok_1
  | 2 => am_mt_ok_2
  | 3 => am_mt_ok_3
  | 4 => am_mt_ok_4
  | 5 => am_mt_ok_5
  | 6 => am_mt_ok_6
  | 7 => am_mt_ok_7
  | 8 => am_mt_ok_8
  | 9 => am_mt_ok_9
  | 10 => am_mt_ok_10
  | 11 => am_mt_ok_11
  | 15 => am_mt_ok_15
  | 12 => fun _ h => absurd h List.not_mem_nil
  | 13 => fun _ h => absurd h List.not_mem_nil
  | 14 => fun _ h => absurd h List.not_mem_nil
  | _ + 16 => fun _ h => absurd h List.not_mem_nil
def am_fP (o : Nat) (e : Nat × (Nat × Nat)) : Prop := e.2.1 < 10 ∧ e.2.2 < am_nf e.2.1 ∧ Cond.fieldLink (am_cn o) e.1 (am_cn e.2.1) (am_T e.2.1 e.2.2).2.1 (am_T e.2.1 e.2.2).2.2.1 ∈ lw_tbl ∧ (am_T e.2.1 e.2.2).1 = am_cn e.2.1
theorem kf_0_34 : am_fP 0 (34, 4, 0) := ⟨by decide, by decide, ct_143, rfl⟩
theorem kf_0_37 : am_fP 0 (37, 4, 2) := ⟨by decide, by decide, ct_148, rfl⟩
theorem kf_0_30 : am_fP 0 (30, 4, 4) := ⟨by decide, by decide, ct_153, rfl⟩
theorem kf_0_14 : am_fP 0 (14, 0, 0) := ⟨by decide, by decide, ct_166, rfl⟩
theorem kf_0_20 : am_fP 0 (20, 0, 1) := ⟨by decide, by decide, ct_168, rfl⟩
theorem kf_0_23 : am_fP 0 (23, 0, 2) := ⟨by decide, by decide, ct_170, rfl⟩
theorem am_fld_ok_0 : ∀ e ∈ am_fld 0, am_fP 0 e := List.forall_mem_cons.mpr ⟨kf_0_34, List.forall_mem_cons.mpr ⟨kf_0_37, List.forall_mem_cons.mpr ⟨kf_0_30, List.forall_mem_cons.mpr ⟨kf_0_14, List.forall_mem_cons.mpr ⟨kf_0_20, List.forall_mem_cons.mpr ⟨kf_0_23, fun _ h => absurd h List.not_mem_nil⟩⟩⟩⟩⟩⟩
theorem kf_1_41 : am_fP 1 (41, 1, 0) := ⟨by decide, by decide, ct_40, rfl⟩
theorem kf_1_9 : am_fP 1 (9, 1, 1) := ⟨by decide, by decide, ct_44, rfl⟩
theorem kf_1_15 : am_fP 1 (15, 1, 2) := ⟨by decide, by decide, ct_48, rfl⟩
theorem kf_1_18 : am_fP 1 (18, 1, 3) := ⟨by decide, by decide, ct_52, rfl⟩
theorem kf_1_21 : am_fP 1 (21, 1, 4) := ⟨by decide, by decide, ct_55, rfl⟩
theorem kf_1_24 : am_fP 1 (24, 1, 5) := ⟨by decide, by decide, ct_58, rfl⟩
theorem kf_1_27 : am_fP 1 (27, 1, 6) := ⟨by decide, by decide, ct_61, rfl⟩
theorem kf_1_31 : am_fP 1 (31, 1, 7) := ⟨by decide, by decide, ct_64, rfl⟩
theorem kf_1_35 : am_fP 1 (35, 1, 8) := ⟨by decide, by decide, ct_67, rfl⟩
theorem kf_1_38 : am_fP 1 (38, 1, 9) := ⟨by decide, by decide, ct_70, rfl⟩
theorem am_fld_ok_1 : ∀ e ∈ am_fld 1, am_fP 1 e := List.forall_mem_cons.mpr ⟨kf_1_41, List.forall_mem_cons.mpr ⟨kf_1_9, List.forall_mem_cons.mpr ⟨kf_1_15, List.forall_mem_cons.mpr ⟨kf_1_18, List.forall_mem_cons.mpr ⟨kf_1_21, List.forall_mem_cons.mpr ⟨kf_1_24, List.forall_mem_cons.mpr ⟨kf_1_27, List.forall_mem_cons.mpr ⟨kf_1_31, List.forall_mem_cons.mpr ⟨kf_1_35, List.forall_mem_cons.mpr ⟨kf_1_38, fun _ h => absurd h List.not_mem_nil⟩⟩⟩⟩⟩⟩⟩⟩⟩⟩
theorem kf_2_99 : am_fP 2 (99, 1, 0) := ⟨by decide, by decide, ct_42, rfl⟩
theorem kf_2_102 : am_fP 2 (102, 1, 1) := ⟨by decide, by decide, ct_47, rfl⟩
theorem kf_2_77 : am_fP 2 (77, 1, 2) := ⟨by decide, by decide, ct_51, rfl⟩
theorem kf_2_74 : am_fP 2 (74, 1, 3) := ⟨by decide, by decide, ct_54, rfl⟩
theorem kf_2_80 : am_fP 2 (80, 1, 4) := ⟨by decide, by decide, ct_57, rfl⟩
theorem kf_2_87 : am_fP 2 (87, 1, 5) := ⟨by decide, by decide, ct_60, rfl⟩
theorem kf_2_83 : am_fP 2 (83, 1, 6) := ⟨by decide, by decide, ct_63, rfl⟩
theorem kf_2_157 : am_fP 2 (157, 1, 7) := ⟨by decide, by decide, ct_66, rfl⟩
theorem kf_2_160 : am_fP 2 (160, 1, 8) := ⟨by decide, by decide, ct_69, rfl⟩
theorem kf_2_121 : am_fP 2 (121, 1, 9) := ⟨by decide, by decide, ct_72, rfl⟩
theorem kf_2_9 : am_fP 2 (9, 2, 0) := ⟨by decide, by decide, ct_95, rfl⟩
theorem kf_2_15 : am_fP 2 (15, 2, 1) := ⟨by decide, by decide, ct_96, rfl⟩
theorem kf_2_19 : am_fP 2 (19, 2, 2) := ⟨by decide, by decide, ct_98, rfl⟩
theorem kf_2_22 : am_fP 2 (22, 2, 3) := ⟨by decide, by decide, ct_100, rfl⟩
theorem kf_2_28 : am_fP 2 (28, 2, 4) := ⟨by decide, by decide, ct_102, rfl⟩
theorem kf_2_32 : am_fP 2 (32, 2, 5) := ⟨by decide, by decide, ct_103, rfl⟩
theorem kf_2_35 : am_fP 2 (35, 2, 6) := ⟨by decide, by decide, ct_105, rfl⟩
theorem kf_2_40 : am_fP 2 (40, 2, 7) := ⟨by decide, by decide, ct_106, rfl⟩
theorem kf_2_43 : am_fP 2 (43, 2, 8) := ⟨by decide, by decide, ct_107, rfl⟩
theorem kf_2_96 : am_fP 2 (96, 3, 0) := ⟨by decide, by decide, ct_229, rfl⟩
theorem am_fld_ok_2 : ∀ e ∈ am_fld 2, am_fP 2 e := List.forall_mem_cons.mpr ⟨kf_2_99, List.forall_mem_cons.mpr ⟨kf_2_102, List.forall_mem_cons.mpr ⟨kf_2_77, List.forall_mem_cons.mpr ⟨kf_2_74, List.forall_mem_cons.mpr ⟨kf_2_80, List.forall_mem_cons.mpr ⟨kf_2_87, List.forall_mem_cons.mpr ⟨kf_2_83, List.forall_mem_cons.mpr ⟨kf_2_157, List.forall_mem_cons.mpr ⟨kf_2_160, List.forall_mem_cons.mpr ⟨kf_2_121, List.forall_mem_cons.mpr ⟨kf_2_9, List.forall_mem_cons.mpr ⟨kf_2_15, List.forall_mem_cons.mpr ⟨kf_2_19, List.forall_mem_cons.mpr ⟨kf_2_22, List.forall_mem_cons.mpr ⟨kf_2_28, List.forall_mem_cons.mpr ⟨kf_2_32, List.forall_mem_cons.mpr ⟨kf_2_35, List.forall_mem_cons.mpr ⟨kf_2_40, List.forall_mem_cons.mpr ⟨kf_2_43, List.forall_mem_cons.mpr ⟨kf_2_96, fun _ h => absurd h List.not_mem_nil⟩⟩⟩⟩⟩⟩⟩⟩⟩⟩⟩⟩⟩⟩⟩⟩⟩⟩⟩⟩
theorem kf_3_9 : am_fP 3 (9, 3, 0) := ⟨by decide, by decide, ct_227, rfl⟩
theorem kf_3_15 : am_fP 3 (15, 3, 1) := ⟨by decide, by decide, ct_230, rfl⟩
theorem kf_3_19 : am_fP 3 (19, 3, 2) := ⟨by decide, by decide, ct_231, rfl⟩
theorem kf_3_22 : am_fP 3 (22, 3, 3) := ⟨by decide, by decide, ct_232, rfl⟩
theorem am_fld_ok_3 : ∀ e ∈ am_fld 3, am_fP 3 e := List.forall_mem_cons.mpr ⟨kf_3_9, List.forall_mem_cons.mpr ⟨kf_3_15, List.forall_mem_cons.mpr ⟨kf_3_19, List.forall_mem_cons.mpr ⟨kf_3_22, fun _ h => absurd h List.not_mem_nil⟩⟩⟩⟩
theorem kf_4_19 : am_fP 4 (19, 4, 0) := ⟨by decide, by decide, ct_142, rfl⟩
theorem kf_4_22 : am_fP 4 (22, 4, 1) := ⟨by decide, by decide, ct_145, rfl⟩
theorem kf_4_26 : am_fP 4 (26, 4, 2) := ⟨by decide, by decide, ct_147, rfl⟩
theorem kf_4_29 : am_fP 4 (29, 4, 3) := ⟨by decide, by decide, ct_150, rfl⟩
theorem kf_4_7 : am_fP 4 (7, 4, 4) := ⟨by decide, by decide, ct_152, rfl⟩
theorem am_fld_ok_4 : ∀ e ∈ am_fld 4, am_fP 4 e := List.forall_mem_cons.mpr ⟨kf_4_19, List.forall_mem_cons.mpr ⟨kf_4_22, List.forall_mem_cons.mpr ⟨kf_4_26, List.forall_mem_cons.mpr ⟨kf_4_29, List.forall_mem_cons.mpr ⟨kf_4_7, fun _ h => absurd h List.not_mem_nil⟩⟩⟩⟩⟩
theorem kf_5_9 : am_fP 5 (9, 5, 0) := ⟨by decide, by decide, ct_247, rfl⟩
theorem kf_5_15 : am_fP 5 (15, 5, 1) := ⟨by decide, by decide, ct_249, rfl⟩
theorem kf_5_18 : am_fP 5 (18, 5, 2) := ⟨by decide, by decide, ct_251, rfl⟩
theorem am_fld_ok_5 : ∀ e ∈ am_fld 5, am_fP 5 e := List.forall_mem_cons.mpr ⟨kf_5_9, List.forall_mem_cons.mpr ⟨kf_5_15, List.forall_mem_cons.mpr ⟨kf_5_18, fun _ h => absurd h List.not_mem_nil⟩⟩⟩
theorem kf_6_9 : am_fP 6 (9, 6, 0) := ⟨by decide, by decide, ct_185, rfl⟩
theorem kf_6_15 : am_fP 6 (15, 6, 1) := ⟨by decide, by decide, ct_186, rfl⟩
theorem kf_6_19 : am_fP 6 (19, 6, 2) := ⟨by decide, by decide, ct_188, rfl⟩
theorem kf_6_22 : am_fP 6 (22, 6, 3) := ⟨by decide, by decide, ct_189, rfl⟩
theorem kf_6_25 : am_fP 6 (25, 6, 4) := ⟨by decide, by decide, ct_190, rfl⟩
theorem kf_6_68 : am_fP 6 (68, 3, 0) := ⟨by decide, by decide, ct_228, rfl⟩
theorem am_fld_ok_6 : ∀ e ∈ am_fld 6, am_fP 6 e := List.forall_mem_cons.mpr ⟨kf_6_9, List.forall_mem_cons.mpr ⟨kf_6_15, List.forall_mem_cons.mpr ⟨kf_6_19, List.forall_mem_cons.mpr ⟨kf_6_22, List.forall_mem_cons.mpr ⟨kf_6_25, List.forall_mem_cons.mpr ⟨kf_6_68, fun _ h => absurd h List.not_mem_nil⟩⟩⟩⟩⟩⟩
theorem kf_7_47 : am_fP 7 (47, 1, 0) := ⟨by decide, by decide, ct_41, rfl⟩
theorem kf_7_26 : am_fP 7 (26, 1, 1) := ⟨by decide, by decide, ct_46, rfl⟩
theorem kf_7_50 : am_fP 7 (50, 1, 2) := ⟨by decide, by decide, ct_50, rfl⟩
theorem kf_7_11 : am_fP 7 (11, 7, 0) := ⟨by decide, by decide, ct_211, rfl⟩
theorem kf_7_15 : am_fP 7 (15, 7, 1) := ⟨by decide, by decide, ct_213, rfl⟩
theorem am_fld_ok_7 : ∀ e ∈ am_fld 7, am_fP 7 e := List.forall_mem_cons.mpr ⟨kf_7_47, List.forall_mem_cons.mpr ⟨kf_7_26, List.forall_mem_cons.mpr ⟨kf_7_50, List.forall_mem_cons.mpr ⟨kf_7_11, List.forall_mem_cons.mpr ⟨kf_7_15, fun _ h => absurd h List.not_mem_nil⟩⟩⟩⟩⟩
theorem kf_8_330 : am_fP 8 (330, 1, 0) := ⟨by decide, by decide, ct_43, rfl⟩
theorem kf_8_88 : am_fP 8 (88, 1, 1) := ⟨by decide, by decide, ct_45, rfl⟩
theorem kf_8_93 : am_fP 8 (93, 1, 2) := ⟨by decide, by decide, ct_49, rfl⟩
theorem kf_8_96 : am_fP 8 (96, 1, 3) := ⟨by decide, by decide, ct_53, rfl⟩
theorem kf_8_99 : am_fP 8 (99, 1, 4) := ⟨by decide, by decide, ct_56, rfl⟩
theorem kf_8_105 : am_fP 8 (105, 1, 5) := ⟨by decide, by decide, ct_59, rfl⟩
theorem kf_8_102 : am_fP 8 (102, 1, 6) := ⟨by decide, by decide, ct_62, rfl⟩
theorem kf_8_127 : am_fP 8 (127, 1, 7) := ⟨by decide, by decide, ct_65, rfl⟩
theorem kf_8_131 : am_fP 8 (131, 1, 8) := ⟨by decide, by decide, ct_68, rfl⟩
theorem kf_8_145 : am_fP 8 (145, 1, 9) := ⟨by decide, by decide, ct_71, rfl⟩
theorem kf_8_172 : am_fP 8 (172, 2, 1) := ⟨by decide, by decide, ct_97, rfl⟩
theorem kf_8_165 : am_fP 8 (165, 2, 2) := ⟨by decide, by decide, ct_99, rfl⟩
theorem kf_8_158 : am_fP 8 (158, 2, 3) := ⟨by decide, by decide, ct_101, rfl⟩
theorem kf_8_81 : am_fP 8 (81, 2, 5) := ⟨by decide, by decide, ct_104, rfl⟩
theorem kf_8_255 : am_fP 8 (255, 4, 0) := ⟨by decide, by decide, ct_144, rfl⟩
theorem kf_8_258 : am_fP 8 (258, 4, 1) := ⟨by decide, by decide, ct_146, rfl⟩
theorem kf_8_261 : am_fP 8 (261, 4, 2) := ⟨by decide, by decide, ct_149, rfl⟩
theorem kf_8_342 : am_fP 8 (342, 4, 3) := ⟨by decide, by decide, ct_151, rfl⟩
theorem kf_8_216 : am_fP 8 (216, 4, 4) := ⟨by decide, by decide, ct_154, rfl⟩
theorem kf_8_205 : am_fP 8 (205, 0, 0) := ⟨by decide, by decide, ct_167, rfl⟩
theorem kf_8_242 : am_fP 8 (242, 0, 1) := ⟨by decide, by decide, ct_169, rfl⟩
theorem kf_8_252 : am_fP 8 (252, 0, 2) := ⟨by decide, by decide, ct_171, rfl⟩
theorem kf_8_151 : am_fP 8 (151, 6, 1) := ⟨by decide, by decide, ct_187, rfl⟩
theorem kf_8_291 : am_fP 8 (291, 7, 0) := ⟨by decide, by decide, ct_212, rfl⟩
theorem kf_8_288 : am_fP 8 (288, 7, 1) := ⟨by decide, by decide, ct_214, rfl⟩
theorem kf_8_268 : am_fP 8 (268, 5, 0) := ⟨by decide, by decide, ct_248, rfl⟩
theorem kf_8_271 : am_fP 8 (271, 5, 1) := ⟨by decide, by decide, ct_250, rfl⟩
theorem kf_8_277 : am_fP 8 (277, 5, 2) := ⟨by decide, by decide, ct_252, rfl⟩
theorem kf_8_12 : am_fP 8 (12, 8, 0) := ⟨by decide, by decide, ct_261, rfl⟩
theorem kf_8_18 : am_fP 8 (18, 8, 1) := ⟨by decide, by decide, ct_262, rfl⟩
theorem kf_8_21 : am_fP 8 (21, 8, 2) := ⟨by decide, by decide, ct_263, rfl⟩
theorem kf_8_27 : am_fP 8 (27, 8, 3) := ⟨by decide, by decide, ct_264, rfl⟩
theorem kf_8_31 : am_fP 8 (31, 8, 4) := ⟨by decide, by decide, ct_265, rfl⟩
theorem kf_8_34 : am_fP 8 (34, 8, 5) := ⟨by decide, by decide, ct_266, rfl⟩
theorem kf_8_41 : am_fP 8 (41, 8, 6) := ⟨by decide, by decide, ct_267, rfl⟩
theorem kf_8_47 : am_fP 8 (47, 8, 7) := ⟨by decide, by decide, ct_268, rfl⟩
theorem kf_8_51 : am_fP 8 (51, 8, 8) := ⟨by decide, by decide, ct_269, rfl⟩
theorem kf_8_58 : am_fP 8 (58, 8, 9) := ⟨by decide, by decide, ct_270, rfl⟩
theorem kf_8_64 : am_fP 8 (64, 8, 10) := ⟨by decide, by decide, ct_271, rfl⟩
theorem am_fld_ok_8 : ∀ e ∈ am_fld 8, am_fP 8 e := List.forall_mem_cons.mpr ⟨kf_8_330, List.forall_mem_cons.mpr ⟨kf_8_88, List.forall_mem_cons.mpr ⟨kf_8_93, List.forall_mem_cons.mpr ⟨kf_8_96, List.forall_mem_cons.mpr ⟨kf_8_99, List.forall_mem_cons.mpr ⟨kf_8_105, List.forall_mem_cons.mpr ⟨kf_8_102, List.forall_mem_cons.mpr ⟨kf_8_127, List.forall_mem_cons.mpr ⟨kf_8_131, List.forall_mem_cons.mpr ⟨kf_8_145, List.forall_mem_cons.mpr ⟨kf_8_172, List.forall_mem_cons.mpr ⟨kf_8_165, List.forall_mem_cons.mpr ⟨kf_8_158, List.forall_mem_cons.mpr ⟨kf_8_81, List.forall_mem_cons.mpr ⟨kf_8_255, List.forall_mem_cons.mpr ⟨kf_8_258, List.forall_mem_cons.mpr ⟨kf_8_261, List.forall_mem_cons.mpr ⟨kf_8_342, List.forall_mem_cons.mpr ⟨kf_8_216, List.forall_mem_cons.mpr ⟨kf_8_205, List.forall_mem_cons.mpr ⟨kf_8_242, List.forall_mem_cons.mpr ⟨kf_8_252, List.forall_mem_cons.mpr ⟨kf_8_151, List.forall_mem_cons.mpr ⟨kf_8_291, List.forall_mem_cons.mpr ⟨kf_8_288, List.forall_mem_cons.mpr ⟨kf_8_268, List.forall_mem_cons.mpr ⟨kf_8_271, List.forall_mem_cons.mpr ⟨kf_8_277, List.forall_mem_cons.mpr ⟨kf_8_12, List.forall_mem_cons.mpr ⟨kf_8_18, List.forall_mem_cons.mpr ⟨kf_8_21, List.forall_mem_cons.mpr ⟨kf_8_27, List.forall_mem_cons.mpr ⟨kf_8_31, List.forall_mem_cons.mpr ⟨kf_8_34, List.forall_mem_cons.mpr ⟨kf_8_41, List.forall_mem_cons.mpr ⟨kf_8_47, List.forall_mem_cons.mpr ⟨kf_8_51, List.forall_mem_cons.mpr ⟨kf_8_58, List.forall_mem_cons.mpr ⟨kf_8_64, fun _ h => absurd h List.not_mem_nil⟩⟩⟩⟩⟩⟩⟩⟩⟩⟩⟩⟩⟩⟩⟩⟩⟩⟩⟩⟩⟩⟩⟩⟩⟩⟩⟩⟩⟩⟩⟩⟩⟩⟩⟩⟩⟩⟩⟩
theorem kf_9_111 : am_fP 9 (111, 9, 0) := ⟨by decide, by decide, ct_853, rfl⟩
theorem kf_9_9 : am_fP 9 (9, 9, 1) := ⟨by decide, by decide, ct_854, rfl⟩
theorem kf_9_15 : am_fP 9 (15, 9, 2) := ⟨by decide, by decide, ct_855, rfl⟩
theorem kf_9_18 : am_fP 9 (18, 9, 3) := ⟨by decide, by decide, ct_856, rfl⟩
theorem kf_9_21 : am_fP 9 (21, 9, 4) := ⟨by decide, by decide, ct_857, rfl⟩
theorem kf_9_24 : am_fP 9 (24, 9, 5) := ⟨by decide, by decide, ct_858, rfl⟩
theorem kf_9_27 : am_fP 9 (27, 9, 6) := ⟨by decide, by decide, ct_859, rfl⟩
theorem kf_9_30 : am_fP 9 (30, 9, 7) := ⟨by decide, by decide, ct_860, rfl⟩
theorem kf_9_33 : am_fP 9 (33, 9, 8) := ⟨by decide, by decide, ct_861, rfl⟩
theorem kf_9_36 : am_fP 9 (36, 9, 9) := ⟨by decide, by decide, ct_862, rfl⟩
theorem kf_9_240 : am_fP 9 (240, 9, 10) := ⟨by decide, by decide, ct_863, rfl⟩
theorem kf_9_220 : am_fP 9 (220, 9, 11) := ⟨by decide, by decide, ct_864, rfl⟩
theorem kf_9_142 : am_fP 9 (142, 9, 12) := ⟨by decide, by decide, ct_865, rfl⟩
theorem kf_9_39 : am_fP 9 (39, 9, 13) := ⟨by decide, by decide, ct_866, rfl⟩
theorem kf_9_145 : am_fP 9 (145, 9, 14) := ⟨by decide, by decide, ct_867, rfl⟩
theorem kf_9_148 : am_fP 9 (148, 9, 15) := ⟨by decide, by decide, ct_868, rfl⟩
theorem kf_9_151 : am_fP 9 (151, 9, 16) := ⟨by decide, by decide, ct_869, rfl⟩
theorem kf_9_186 : am_fP 9 (186, 9, 17) := ⟨by decide, by decide, ct_870, rfl⟩
theorem kf_9_214 : am_fP 9 (214, 9, 18) := ⟨by decide, by decide, ct_871, rfl⟩
theorem kf_9_107 : am_fP 9 (107, 9, 19) := ⟨by decide, by decide, ct_872, rfl⟩
theorem kf_9_42 : am_fP 9 (42, 9, 20) := ⟨by decide, by decide, ct_873, rfl⟩
theorem kf_9_45 : am_fP 9 (45, 9, 21) := ⟨by decide, by decide, ct_874, rfl⟩
theorem kf_9_48 : am_fP 9 (48, 9, 22) := ⟨by decide, by decide, ct_875, rfl⟩
theorem kf_9_51 : am_fP 9 (51, 9, 23) := ⟨by decide, by decide, ct_876, rfl⟩
theorem kf_9_54 : am_fP 9 (54, 9, 24) := ⟨by decide, by decide, ct_877, rfl⟩
theorem kf_9_57 : am_fP 9 (57, 9, 25) := ⟨by decide, by decide, ct_878, rfl⟩
theorem kf_9_170 : am_fP 9 (170, 9, 26) := ⟨by decide, by decide, ct_879, rfl⟩
theorem kf_9_60 : am_fP 9 (60, 9, 27) := ⟨by decide, by decide, ct_880, rfl⟩
theorem kf_9_296 : am_fP 9 (296, 9, 28) := ⟨by decide, by decide, ct_881, rfl⟩
theorem kf_9_64 : am_fP 9 (64, 9, 29) := ⟨by decide, by decide, ct_882, rfl⟩
theorem kf_9_67 : am_fP 9 (67, 9, 30) := ⟨by decide, by decide, ct_883, rfl⟩
theorem kf_9_70 : am_fP 9 (70, 9, 31) := ⟨by decide, by decide, ct_884, rfl⟩
theorem kf_9_317 : am_fP 9 (317, 9, 32) := ⟨by decide, by decide, ct_885, rfl⟩
theorem kf_9_73 : am_fP 9 (73, 9, 33) := ⟨by decide, by decide, ct_886, rfl⟩
theorem kf_9_76 : am_fP 9 (76, 9, 34) := ⟨by decide, by decide, ct_887, rfl⟩
theorem kf_9_320 : am_fP 9 (320, 9, 35) := ⟨by decide, by decide, ct_888, rfl⟩
theorem kf_9_79 : am_fP 9 (79, 9, 36) := ⟨by decide, by decide, ct_889, rfl⟩
theorem kf_9_82 : am_fP 9 (82, 9, 37) := ⟨by decide, by decide, ct_890, rfl⟩
theorem kf_9_327 : am_fP 9 (327, 9, 38) := ⟨by decide, by decide, ct_891, rfl⟩
theorem kf_9_85 : am_fP 9 (85, 9, 39) := ⟨by decide, by decide, ct_892, rfl⟩
theorem kf_9_323 : am_fP 9 (323, 9, 40) := ⟨by decide, by decide, ct_893, rfl⟩
theorem kf_9_88 : am_fP 9 (88, 9, 41) := ⟨by decide, by decide, ct_894, rfl⟩
theorem kf_9_91 : am_fP 9 (91, 9, 42) := ⟨by decide, by decide, ct_895, rfl⟩
theorem kf_9_94 : am_fP 9 (94, 9, 43) := ⟨by decide, by decide, ct_896, rfl⟩
theorem kf_9_97 : am_fP 9 (97, 9, 44) := ⟨by decide, by decide, ct_897, rfl⟩
theorem kf_9_100 : am_fP 9 (100, 9, 45) := ⟨by decide, by decide, ct_898, rfl⟩
theorem kf_9_103 : am_fP 9 (103, 9, 46) := ⟨by decide, by decide, ct_899, rfl⟩
theorem am_fld_ok_9 : ∀ e ∈ am_fld 9, am_fP 9 e := List.forall_mem_cons.mpr ⟨kf_9_111, List.forall_mem_cons.mpr ⟨kf_9_9, List.forall_mem_cons.mpr ⟨kf_9_15, List.forall_mem_cons.mpr ⟨kf_9_18, List.forall_mem_cons.mpr ⟨kf_9_21, List.forall_mem_cons.mpr ⟨kf_9_24, List.forall_mem_cons.mpr ⟨kf_9_27, List.forall_mem_cons.mpr ⟨kf_9_30, List.forall_mem_cons.mpr ⟨kf_9_33, List.forall_mem_cons.mpr ⟨kf_9_36, List.forall_mem_cons.mpr ⟨kf_9_240, List.forall_mem_cons.mpr ⟨kf_9_220, List.forall_mem_cons.mpr ⟨kf_9_142, List.forall_mem_cons.mpr ⟨kf_9_39, List.forall_mem_cons.mpr ⟨kf_9_145, List.forall_mem_cons.mpr ⟨kf_9_148, List.forall_mem_cons.mpr ⟨kf_9_151, List.forall_mem_cons.mpr ⟨kf_9_186, List.forall_mem_cons.mpr ⟨kf_9_214, List.forall_mem_cons.mpr ⟨kf_9_107, List.forall_mem_cons.mpr ⟨kf_9_42, List.forall_mem_cons.mpr ⟨kf_9_45, List.forall_mem_cons.mpr ⟨kf_9_48, List.forall_mem_cons.mpr ⟨kf_9_51, List.forall_mem_cons.mpr ⟨kf_9_54, List.forall_mem_cons.mpr ⟨kf_9_57, List.forall_mem_cons.mpr ⟨kf_9_170, List.forall_mem_cons.mpr ⟨kf_9_60, List.forall_mem_cons.mpr ⟨kf_9_296, List.forall_mem_cons.mpr ⟨kf_9_64, List.forall_mem_cons.mpr ⟨kf_9_67, List.forall_mem_cons.mpr ⟨kf_9_70, List.forall_mem_cons.mpr ⟨kf_9_317, List.forall_mem_cons.mpr ⟨kf_9_73, List.forall_mem_cons.mpr ⟨kf_9_76, List.forall_mem_cons.mpr ⟨kf_9_320, List.forall_mem_cons.mpr ⟨kf_9_79, List.forall_mem_cons.mpr ⟨kf_9_82, List.forall_mem_cons.mpr ⟨kf_9_327, List.forall_mem_cons.mpr ⟨kf_9_85, List.forall_mem_cons.mpr ⟨kf_9_323, List.forall_mem_cons.mpr ⟨kf_9_88, List.forall_mem_cons.mpr ⟨kf_9_91, List.forall_mem_cons.mpr ⟨kf_9_94, List.forall_mem_cons.mpr ⟨kf_9_97, List.forall_mem_cons.mpr ⟨kf_9_100, List.forall_mem_cons.mpr ⟨kf_9_103, fun _ h => absurd h List.not_mem_nil⟩⟩⟩⟩⟩⟩⟩⟩⟩⟩⟩⟩⟩⟩⟩⟩⟩⟩⟩⟩⟩⟩⟩⟩⟩⟩⟩⟩⟩⟩⟩⟩⟩⟩⟩⟩⟩⟩⟩⟩⟩⟩⟩⟩⟩⟩⟩
theorem am_fld_ok : ∀ o, ∀ e ∈ am_fld o, am_fP o e := fun o => match o with
  | 0 => am_fld_ok_0
  | 1 => am_fld_ok_1
  | 2 => am_fld_ok_2
  | 3 => am_fld_ok_3
  | 4 => am_fld_ok_4
  | 5 => am_fld_ok_5
  | 6 => am_fld_ok_6
  | 7 => am_fld_ok_7
  | 8 => am_fld_ok_8
  | 9 => am_fld_ok_9
  | _ + 10 => fun _ h => absurd h List.not_mem_nil
theorem am_cls_ok : ∀ i, i < 10 → am_cl[i]? = some (am_cn i, am_T i, am_nf i) := fun i h => match i, h with
  | 0, _ => rfl | 1, _ => rfl | 2, _ => rfl | 3, _ => rfl | 4, _ => rfl | 5, _ => rfl | 6, _ => rfl | 7, _ => rfl | 8, _ => rfl | 9, _ => rfl
  | i + 10, h => absurd h (by omega)
theorem am_nm_0 : ∀ a, a < am_nf 0 → ∀ b, b < am_nf 0 → a ≠ b → (am_T 0 a).2.1 ≠ (am_T 0 b).2.1 := by decide +kernel
theorem am_tyk_0 : ∀ k, k < am_nf 0 → parseFieldDescriptor (am_T 0 k).2.2.1 = some (am_y 0 k) := by decide +kernel
theorem am_wsk_0 : ∀ w ∈ u_ws (am_cn 0) (am_T 0) (am_nf 0), w ∈ lw_tbl := List.forall_mem_cons.mpr ⟨ct_172, List.forall_mem_cons.mpr ⟨ct_174, List.forall_mem_cons.mpr ⟨ct_176, fun _ h => absurd h List.not_mem_nil⟩⟩⟩
theorem am_ink_0 : Cond.instantiable (am_cn 0) (am_nf 0) ∈ lw_tbl ∧ Cond.initialized (am_cn 0) ∈ lw_tbl := ⟨ct_128, ct_4⟩
theorem am_dfk_0 : (am_df 0).length = am_nf 0 ∧ ∀ k, k < am_nf 0 → defaultValue (am_y 0 k) = vp_V (am_df 0) k := by decide +kernel
theorem am_nm_1 : ∀ a, a < am_nf 1 → ∀ b, b < am_nf 1 → a ≠ b → (am_T 1 a).2.1 ≠ (am_T 1 b).2.1 := by decide +kernel
theorem am_tyk_1 : ∀ k, k < am_nf 1 → parseFieldDescriptor (am_T 1 k).2.2.1 = some (am_y 1 k) := by decide +kernel
theorem am_wsk_1 : ∀ w ∈ u_ws (am_cn 1) (am_T 1) (am_nf 1), w ∈ lw_tbl := List.forall_mem_cons.mpr ⟨ct_73, List.forall_mem_cons.mpr ⟨ct_75, List.forall_mem_cons.mpr ⟨ct_77, List.forall_mem_cons.mpr ⟨ct_79, List.forall_mem_cons.mpr ⟨ct_81, List.forall_mem_cons.mpr ⟨ct_83, List.forall_mem_cons.mpr ⟨ct_85, List.forall_mem_cons.mpr ⟨ct_87, List.forall_mem_cons.mpr ⟨ct_89, List.forall_mem_cons.mpr ⟨ct_91, fun _ h => absurd h List.not_mem_nil⟩⟩⟩⟩⟩⟩⟩⟩⟩⟩
theorem am_ink_1 : Cond.instantiable (am_cn 1) (am_nf 1) ∈ lw_tbl ∧ Cond.initialized (am_cn 1) ∈ lw_tbl := ⟨ct_35, ct_3⟩
theorem am_dfk_1 : (am_df 1).length = am_nf 1 ∧ ∀ k, k < am_nf 1 → defaultValue (am_y 1 k) = vp_V (am_df 1) k := by decide +kernel
theorem am_nm_2 : ∀ a, a < am_nf 2 → ∀ b, b < am_nf 2 → a ≠ b → (am_T 2 a).2.1 ≠ (am_T 2 b).2.1 := by decide +kernel
theorem am_tyk_2 : ∀ k, k < am_nf 2 → parseFieldDescriptor (am_T 2 k).2.2.1 = some (am_y 2 k) := by decide +kernel
theorem am_wsk_2 : ∀ w ∈ u_ws (am_cn 2) (am_T 2) (am_nf 2), w ∈ lw_tbl := List.forall_mem_cons.mpr ⟨ct_108, List.forall_mem_cons.mpr ⟨ct_110, List.forall_mem_cons.mpr ⟨ct_112, List.forall_mem_cons.mpr ⟨ct_114, List.forall_mem_cons.mpr ⟨ct_116, List.forall_mem_cons.mpr ⟨ct_118, List.forall_mem_cons.mpr ⟨ct_120, List.forall_mem_cons.mpr ⟨ct_122, List.forall_mem_cons.mpr ⟨ct_124, fun _ h => absurd h List.not_mem_nil⟩⟩⟩⟩⟩⟩⟩⟩⟩
theorem am_ink_2 : Cond.instantiable (am_cn 2) (am_nf 2) ∈ lw_tbl ∧ Cond.initialized (am_cn 2) ∈ lw_tbl := ⟨ct_28, ct_2⟩
theorem am_dfk_2 : (am_df 2).length = am_nf 2 ∧ ∀ k, k < am_nf 2 → defaultValue (am_y 2 k) = vp_V (am_df 2) k := by decide +kernel
theorem am_nm_3 : ∀ a, a < am_nf 3 → ∀ b, b < am_nf 3 → a ≠ b → (am_T 3 a).2.1 ≠ (am_T 3 b).2.1 := by decide +kernel
theorem am_tyk_3 : ∀ k, k < am_nf 3 → parseFieldDescriptor (am_T 3 k).2.2.1 = some (am_y 3 k) := by decide +kernel
theorem am_wsk_3 : ∀ w ∈ u_ws (am_cn 3) (am_T 3) (am_nf 3), w ∈ lw_tbl := List.forall_mem_cons.mpr ⟨ct_233, List.forall_mem_cons.mpr ⟨ct_235, List.forall_mem_cons.mpr ⟨ct_237, List.forall_mem_cons.mpr ⟨ct_239, fun _ h => absurd h List.not_mem_nil⟩⟩⟩⟩
theorem am_ink_3 : Cond.instantiable (am_cn 3) (am_nf 3) ∈ lw_tbl ∧ Cond.initialized (am_cn 3) ∈ lw_tbl := ⟨ct_222, ct_9⟩
theorem am_dfk_3 : (am_df 3).length = am_nf 3 ∧ ∀ k, k < am_nf 3 → defaultValue (am_y 3 k) = vp_V (am_df 3) k := by decide +kernel
theorem am_nm_4 : ∀ a, a < am_nf 4 → ∀ b, b < am_nf 4 → a ≠ b → (am_T 4 a).2.1 ≠ (am_T 4 b).2.1 := by decide +kernel
theorem am_tyk_4 : ∀ k, k < am_nf 4 → parseFieldDescriptor (am_T 4 k).2.2.1 = some (am_y 4 k) := by decide +kernel
theorem am_wsk_4 : ∀ w ∈ u_ws (am_cn 4) (am_T 4) (am_nf 4), w ∈ lw_tbl := List.forall_mem_cons.mpr ⟨ct_155, List.forall_mem_cons.mpr ⟨ct_157, List.forall_mem_cons.mpr ⟨ct_159, List.forall_mem_cons.mpr ⟨ct_161, List.forall_mem_cons.mpr ⟨ct_163, fun _ h => absurd h List.not_mem_nil⟩⟩⟩⟩⟩
theorem am_ink_4 : Cond.instantiable (am_cn 4) (am_nf 4) ∈ lw_tbl ∧ Cond.initialized (am_cn 4) ∈ lw_tbl := ⟨ct_134, ct_5⟩
theorem am_dfk_4 : (am_df 4).length = am_nf 4 ∧ ∀ k, k < am_nf 4 → defaultValue (am_y 4 k) = vp_V (am_df 4) k := by decide +kernel
theorem am_nm_5 : ∀ a, a < am_nf 5 → ∀ b, b < am_nf 5 → a ≠ b → (am_T 5 a).2.1 ≠ (am_T 5 b).2.1 := by decide +kernel
theorem am_tyk_5 : ∀ k, k < am_nf 5 → parseFieldDescriptor (am_T 5 k).2.2.1 = some (am_y 5 k) := by decide +kernel
theorem am_wsk_5 : ∀ w ∈ u_ws (am_cn 5) (am_T 5) (am_nf 5), w ∈ lw_tbl := List.forall_mem_cons.mpr ⟨ct_253, List.forall_mem_cons.mpr ⟨ct_255, List.forall_mem_cons.mpr ⟨ct_257, fun _ h => absurd h List.not_mem_nil⟩⟩⟩
theorem am_ink_5 : Cond.instantiable (am_cn 5) (am_nf 5) ∈ lw_tbl ∧ Cond.initialized (am_cn 5) ∈ lw_tbl := ⟨ct_242, ct_10⟩
theorem am_dfk_5 : (am_df 5).length = am_nf 5 ∧ ∀ k, k < am_nf 5 → defaultValue (am_y 5 k) = vp_V (am_df 5) k := by decide +kernel
theorem am_nm_6 : ∀ a, a < am_nf 6 → ∀ b, b < am_nf 6 → a ≠ b → (am_T 6 a).2.1 ≠ (am_T 6 b).2.1 := by decide +kernel
theorem am_tyk_6 : ∀ k, k < am_nf 6 → parseFieldDescriptor (am_T 6 k).2.2.1 = some (am_y 6 k) := by decide +kernel
theorem am_wsk_6 : ∀ w ∈ u_ws (am_cn 6) (am_T 6) (am_nf 6), w ∈ lw_tbl := List.forall_mem_cons.mpr ⟨ct_191, List.forall_mem_cons.mpr ⟨ct_193, List.forall_mem_cons.mpr ⟨ct_195, List.forall_mem_cons.mpr ⟨ct_197, List.forall_mem_cons.mpr ⟨ct_199, fun _ h => absurd h List.not_mem_nil⟩⟩⟩⟩⟩
theorem am_ink_6 : Cond.instantiable (am_cn 6) (am_nf 6) ∈ lw_tbl ∧ Cond.initialized (am_cn 6) ∈ lw_tbl := ⟨ct_180, ct_7⟩
theorem am_dfk_6 : (am_df 6).length = am_nf 6 ∧ ∀ k, k < am_nf 6 → defaultValue (am_y 6 k) = vp_V (am_df 6) k := by decide +kernel
theorem am_nm_7 : ∀ a, a < am_nf 7 → ∀ b, b < am_nf 7 → a ≠ b → (am_T 7 a).2.1 ≠ (am_T 7 b).2.1 := by decide +kernel
theorem am_tyk_7 : ∀ k, k < am_nf 7 → parseFieldDescriptor (am_T 7 k).2.2.1 = some (am_y 7 k) := by decide +kernel
theorem am_wsk_7 : ∀ w ∈ u_ws (am_cn 7) (am_T 7) (am_nf 7), w ∈ lw_tbl := List.forall_mem_cons.mpr ⟨ct_215, List.forall_mem_cons.mpr ⟨ct_217, fun _ h => absurd h List.not_mem_nil⟩⟩
theorem am_ink_7 : Cond.instantiable (am_cn 7) (am_nf 7) ∈ lw_tbl ∧ Cond.initialized (am_cn 7) ∈ lw_tbl := ⟨ct_206, ct_8⟩
theorem am_dfk_7 : (am_df 7).length = am_nf 7 ∧ ∀ k, k < am_nf 7 → defaultValue (am_y 7 k) = vp_V (am_df 7) k := by decide +kernel
theorem am_nm_8 : ∀ a, a < am_nf 8 → ∀ b, b < am_nf 8 → a ≠ b → (am_T 8 a).2.1 ≠ (am_T 8 b).2.1 := by decide +kernel
theorem am_tyk_8 : ∀ k, k < am_nf 8 → parseFieldDescriptor (am_T 8 k).2.2.1 = some (am_y 8 k) := by decide +kernel
theorem am_wsk_8 : ∀ w ∈ u_ws (am_cn 8) (am_T 8) (am_nf 8), w ∈ lw_tbl := List.forall_mem_cons.mpr ⟨ct_272, List.forall_mem_cons.mpr ⟨ct_274, List.forall_mem_cons.mpr ⟨ct_276, List.forall_mem_cons.mpr ⟨ct_278, List.forall_mem_cons.mpr ⟨ct_280, List.forall_mem_cons.mpr ⟨ct_282, List.forall_mem_cons.mpr ⟨ct_284, List.forall_mem_cons.mpr ⟨ct_286, List.forall_mem_cons.mpr ⟨ct_288, List.forall_mem_cons.mpr ⟨ct_290, List.forall_mem_cons.mpr ⟨ct_292, fun _ h => absurd h List.not_mem_nil⟩⟩⟩⟩⟩⟩⟩⟩⟩⟩⟩
theorem am_ink_8 : Cond.instantiable (am_cn 8) (am_nf 8) ∈ lw_tbl ∧ Cond.initialized (am_cn 8) ∈ lw_tbl := ⟨ct_20, ct_1⟩
theorem am_dfk_8 : (am_df 8).length = am_nf 8 ∧ ∀ k, k < am_nf 8 → defaultValue (am_y 8 k) = vp_V (am_df 8) k := by decide +kernel
theorem am_nm_9 : ∀ a, a < am_nf 9 → ∀ b, b < am_nf 9 → a ≠ b → (am_T 9 a).2.1 ≠ (am_T 9 b).2.1 := by decide +kernel
theorem am_tyk_9 : ∀ k, k < am_nf 9 → parseFieldDescriptor (am_T 9 k).2.2.1 = some (am_y 9 k) := by decide +kernel
theorem am_wsk_9 : ∀ w ∈ u_ws (am_cn 9) (am_T 9) (am_nf 9), w ∈ lw_tbl := List.forall_mem_cons.mpr ⟨ct_900, List.forall_mem_cons.mpr ⟨ct_902, List.forall_mem_cons.mpr ⟨ct_904, List.forall_mem_cons.mpr ⟨ct_906, List.forall_mem_cons.mpr ⟨ct_908, List.forall_mem_cons.mpr ⟨ct_910, List.forall_mem_cons.mpr ⟨ct_912, List.forall_mem_cons.mpr ⟨ct_914, List.forall_mem_cons.mpr ⟨ct_916, List.forall_mem_cons.mpr ⟨ct_918, List.forall_mem_cons.mpr ⟨ct_920, List.forall_mem_cons.mpr ⟨ct_922, List.forall_mem_cons.mpr ⟨ct_924, List.forall_mem_cons.mpr ⟨ct_926, List.forall_mem_cons.mpr ⟨ct_928, List.forall_mem_cons.mpr ⟨ct_930, List.forall_mem_cons.mpr ⟨ct_932, List.forall_mem_cons.mpr ⟨ct_934, List.forall_mem_cons.mpr ⟨ct_936, List.forall_mem_cons.mpr ⟨ct_938, List.forall_mem_cons.mpr ⟨ct_940, List.forall_mem_cons.mpr ⟨ct_942, List.forall_mem_cons.mpr ⟨ct_944, List.forall_mem_cons.mpr ⟨ct_946, List.forall_mem_cons.mpr ⟨ct_948, List.forall_mem_cons.mpr ⟨ct_950, List.forall_mem_cons.mpr ⟨ct_952, List.forall_mem_cons.mpr ⟨ct_954, List.forall_mem_cons.mpr ⟨ct_956, List.forall_mem_cons.mpr ⟨ct_958, List.forall_mem_cons.mpr ⟨ct_960, List.forall_mem_cons.mpr ⟨ct_962, List.forall_mem_cons.mpr ⟨ct_964, List.forall_mem_cons.mpr ⟨ct_966, List.forall_mem_cons.mpr ⟨ct_968, List.forall_mem_cons.mpr ⟨ct_970, List.forall_mem_cons.mpr ⟨ct_972, List.forall_mem_cons.mpr ⟨ct_974, List.forall_mem_cons.mpr ⟨ct_976, List.forall_mem_cons.mpr ⟨ct_978, List.forall_mem_cons.mpr ⟨ct_980, List.forall_mem_cons.mpr ⟨ct_982, List.forall_mem_cons.mpr ⟨ct_984, List.forall_mem_cons.mpr ⟨ct_986, List.forall_mem_cons.mpr ⟨ct_988, List.forall_mem_cons.mpr ⟨ct_990, List.forall_mem_cons.mpr ⟨ct_992, fun _ h => absurd h List.not_mem_nil⟩⟩⟩⟩⟩⟩⟩⟩⟩⟩⟩⟩⟩⟩⟩⟩⟩⟩⟩⟩⟩⟩⟩⟩⟩⟩⟩⟩⟩⟩⟩⟩⟩⟩⟩⟩⟩⟩⟩⟩⟩⟩⟩⟩⟩⟩⟩
theorem am_ink_9 : Cond.instantiable (am_cn 9) (am_nf 9) ∈ lw_tbl ∧ Cond.initialized (am_cn 9) ∈ lw_tbl := ⟨ct_848, ct_11⟩
theorem am_dfk_9 : (am_df 9).length = am_nf 9 ∧ ∀ k, k < am_nf 9 → defaultValue (am_y 9 k) = vp_V (am_df 9) k := by decide +kernel
theorem am_nm_ok : ∀ i, i < 10 → ∀ a, a < am_nf i → ∀ b, b < am_nf i → a ≠ b → (am_T i a).2.1 ≠ (am_T i b).2.1 := fun i h => match i, h with
  | 0, _ => am_nm_0
  | 1, _ => am_nm_1
  | 2, _ => am_nm_2
  | 3, _ => am_nm_3
  | 4, _ => am_nm_4
  | 5, _ => am_nm_5
  | 6, _ => am_nm_6
  | 7, _ => am_nm_7
  | 8, _ => am_nm_8
  | 9, _ => am_nm_9
  | i + 10, h => absurd h (by omega)
theorem am_tyk_ok : ∀ i, i < 10 → ∀ k, k < am_nf i → parseFieldDescriptor (am_T i k).2.2.1 = some (am_y i k) := fun i h => match i, h with
  | 0, _ => am_tyk_0
  | 1, _ => am_tyk_1
  | 2, _ => am_tyk_2
  | 3, _ => am_tyk_3
  | 4, _ => am_tyk_4
  | 5, _ => am_tyk_5
  | 6, _ => am_tyk_6
  | 7, _ => am_tyk_7
  | 8, _ => am_tyk_8
  | 9, _ => am_tyk_9
  | i + 10, h => absurd h (by omega)
theorem am_wsk_ok : ∀ i, i < 10 → ∀ w ∈ u_ws (am_cn i) (am_T i) (am_nf i), w ∈ lw_tbl := fun i h => match i, h with
  | 0, _ => am_wsk_0
  | 1, _ => am_wsk_1
  | 2, _ => am_wsk_2
  | 3, _ => am_wsk_3
  | 4, _ => am_wsk_4
  | 5, _ => am_wsk_5
  | 6, _ => am_wsk_6
  | 7, _ => am_wsk_7
  | 8, _ => am_wsk_8
  | 9, _ => am_wsk_9
  | i + 10, h => absurd h (by omega)
theorem am_ink_ok : ∀ i, i < 10 → Cond.instantiable (am_cn i) (am_nf i) ∈ lw_tbl ∧ Cond.initialized (am_cn i) ∈ lw_tbl := fun i h => match i, h with
  | 0, _ => am_ink_0
  | 1, _ => am_ink_1
  | 2, _ => am_ink_2
  | 3, _ => am_ink_3
  | 4, _ => am_ink_4
  | 5, _ => am_ink_5
  | 6, _ => am_ink_6
  | 7, _ => am_ink_7
  | 8, _ => am_ink_8
  | 9, _ => am_ink_9
  | i + 10, h => absurd h (by omega)
theorem am_dfk_ok : ∀ i, i < 10 → (am_df i).length = am_nf i ∧ ∀ k, k < am_nf i → defaultValue (am_y i k) = vp_V (am_df i) k := fun i h => match i, h with
  | 0, _ => am_dfk_0
  | 1, _ => am_dfk_1
  | 2, _ => am_dfk_2
  | 3, _ => am_dfk_3
  | 4, _ => am_dfk_4
  | 5, _ => am_dfk_5
  | 6, _ => am_dfk_6
  | 7, _ => am_dfk_7
  | 8, _ => am_dfk_8
  | 9, _ => am_dfk_9
  | i + 10, h => absurd h (by omega)
def am_nP (o : Nat) (e : Nat × Nat) : Prop := e.2 < 10 ∧ Cond.classLink (am_cn o) e.1 (am_cn e.2) ∈ lw_tbl
theorem am_new_ok_15 : ∀ e ∈ am_new 15, am_nP 15 e := List.forall_mem_cons.mpr ⟨⟨by decide, ct_19⟩, List.forall_mem_cons.mpr ⟨⟨by decide, ct_847⟩, fun _ h => absurd h List.not_mem_nil⟩⟩
theorem am_new_ok_8 : ∀ e ∈ am_new 8, am_nP 8 e := List.forall_mem_cons.mpr ⟨⟨by decide, ct_27⟩, List.forall_mem_cons.mpr ⟨⟨by decide, ct_127⟩, List.forall_mem_cons.mpr ⟨⟨by decide, ct_179⟩, List.forall_mem_cons.mpr ⟨⟨by decide, ct_203⟩, List.forall_mem_cons.mpr ⟨⟨by decide, ct_205⟩, List.forall_mem_cons.mpr ⟨⟨by decide, ct_220⟩, fun _ h => absurd h List.not_mem_nil⟩⟩⟩⟩⟩⟩
theorem am_new_ok_2 : ∀ e ∈ am_new 2, am_nP 2 e := List.forall_mem_cons.mpr ⟨⟨by decide, ct_33⟩, fun _ h => absurd h List.not_mem_nil⟩
theorem am_new_ok_0 : ∀ e ∈ am_new 0, am_nP 0 e := List.forall_mem_cons.mpr ⟨⟨by decide, ct_133⟩, fun _ h => absurd h List.not_mem_nil⟩
theorem am_new_ok : ∀ o, ∀ e ∈ am_new o, am_nP o e := fun o => match o with
  | 0 => am_new_ok_0
  | 2 => am_new_ok_2
  | 8 => am_new_ok_8
  | 15 => am_new_ok_15
  | 1 => fun _ h => absurd h List.not_mem_nil
  | 3 => fun _ h => absurd h List.not_mem_nil
  | 4 => fun _ h => absurd h List.not_mem_nil
  | 5 => fun _ h => absurd h List.not_mem_nil
  | 6 => fun _ h => absurd h List.not_mem_nil
  | 7 => fun _ h => absurd h List.not_mem_nil
  | 9 => fun _ h => absurd h List.not_mem_nil
  | 10 => fun _ h => absurd h List.not_mem_nil
  | 11 => fun _ h => absurd h List.not_mem_nil
  | 12 => fun _ h => absurd h List.not_mem_nil
  | 13 => fun _ h => absurd h List.not_mem_nil
  | 14 => fun _ h => absurd h List.not_mem_nil
  | _ + 16 => fun _ h => absurd h List.not_mem_nil
def am_sP (o : Nat) (e : Nat × Nat) : Prop := (e.2 = 0 ∧ Cond.fieldLink (am_cn o) e.1 "java/lang/String" "value" "[B" ∈ lw_tbl) ∨ (e.2 = 1 ∧ Cond.fieldLink (am_cn o) e.1 "java/lang/String" "coder" "B" ∈ lw_tbl)
theorem am_sfl_ok_10 : ∀ e ∈ am_sfl 10, am_sP 10 e := List.forall_mem_cons.mpr ⟨Or.inl ⟨rfl, ct_1373⟩, List.forall_mem_cons.mpr ⟨Or.inr ⟨rfl, ct_1374⟩, fun _ h => absurd h List.not_mem_nil⟩⟩
theorem am_sfl_ok : ∀ o, ∀ e ∈ am_sfl o, am_sP o e := fun o => match o with
  | 10 => am_sfl_ok_10
  | 0 => fun _ h => absurd h List.not_mem_nil
  | 1 => fun _ h => absurd h List.not_mem_nil
  | 2 => fun _ h => absurd h List.not_mem_nil
  | 3 => fun _ h => absurd h List.not_mem_nil
  | 4 => fun _ h => absurd h List.not_mem_nil
  | 5 => fun _ h => absurd h List.not_mem_nil
  | 6 => fun _ h => absurd h List.not_mem_nil
  | 7 => fun _ h => absurd h List.not_mem_nil
  | 8 => fun _ h => absurd h List.not_mem_nil
  | 9 => fun _ h => absurd h List.not_mem_nil
  | _ + 11 => fun _ h => absurd h List.not_mem_nil
def am_sd : Nat → String × String × String := fun k => match k with
  | 0 => ("java/lang/String", "COMPACT_STRINGS", "Z")
  | 1 => ("LostSheets", "ABOVE", "[I")
  | 2 => ("LostSheets$Trace", "BODIES", "[I")
  | _ => ("jdk/internal/util/Preconditions", "SIOOBE_FORMATTER", "Ljava/util/function/BiFunction;")
def am_aP (o : Nat) (e : Nat × Nat) : Prop := e.2 < 4 ∧ Cond.fieldLink (am_cn o) e.1 (am_sd e.2).1 (am_sd e.2).2.1 (am_sd e.2).2.2 ∈ lw_tbl
theorem am_sta_ok_10 : ∀ e ∈ am_sta 10, am_aP 10 e := List.forall_mem_cons.mpr ⟨⟨by decide, ct_524⟩, List.forall_mem_cons.mpr ⟨⟨by decide, ct_540⟩, fun _ h => absurd h List.not_mem_nil⟩⟩
theorem am_sta_ok_7 : ∀ e ∈ am_sta 7, am_aP 7 e := List.forall_mem_cons.mpr ⟨⟨by decide, ct_787⟩, fun _ h => absurd h List.not_mem_nil⟩
theorem am_sta_ok_8 : ∀ e ∈ am_sta 8, am_aP 8 e := List.forall_mem_cons.mpr ⟨⟨by decide, ct_792⟩, fun _ h => absurd h List.not_mem_nil⟩
theorem am_sta_ok : ∀ o, ∀ e ∈ am_sta o, am_aP o e := fun o => match o with
  | 7 => am_sta_ok_7
  | 8 => am_sta_ok_8
  | 10 => am_sta_ok_10
  | 0 => fun _ h => absurd h List.not_mem_nil
  | 1 => fun _ h => absurd h List.not_mem_nil
  | 2 => fun _ h => absurd h List.not_mem_nil
  | 3 => fun _ h => absurd h List.not_mem_nil
  | 4 => fun _ h => absurd h List.not_mem_nil
  | 5 => fun _ h => absurd h List.not_mem_nil
  | 6 => fun _ h => absurd h List.not_mem_nil
  | 9 => fun _ h => absurd h List.not_mem_nil
  | _ + 11 => fun _ h => absurd h List.not_mem_nil
def am_sk : List (String × (Nat × String)) := [("LostSheets$Text", 55, "turn "), ("LostSheets$Text", 57, "back "), ("LostSheets$Text", 59, "know "), ("LostSheets$Text", 93, "pkvmsh"), ("LostSheets$Text", 99, "<=>"), ("LostSheetsModel", 204, "turn "), ("LostSheetsModel", 210, "back "), ("LostSheetsModel", 212, "know "), ("LostSheetsModel", 173, "pkvmsh"), ("LostSheetsModel", 178, "<=>")]
def am_cP (o : Nat) (e : Nat × Value) : Prop := (∃ v, e.2 = .int v ∧ Cond.constant (am_cn o) e.1 v ∈ lw_tbl) ∨ (∃ v, e.2 = .long v ∧ Cond.constantLong (am_cn o) e.1 v ∈ lw_tbl) ∨ (∃ j i tx, e.2 = .ref (1000000 + j) ∧ j < 5 ∧ am_sk[i]? = some (am_cn o, e.1, tx) ∧ i % 5 = j ∧ Cond.stringRef (am_cn o) e.1 tx ∈ lw_tbl)
theorem am_con_ok_6 : ∀ e ∈ am_con 6, am_cP 6 e := List.forall_mem_cons.mpr ⟨Or.inr (Or.inr ⟨0, 0, _, rfl, by decide, rfl, rfl, ct_509⟩), List.forall_mem_cons.mpr ⟨Or.inr (Or.inr ⟨1, 1, _, rfl, by decide, rfl, rfl, ct_510⟩), List.forall_mem_cons.mpr ⟨Or.inr (Or.inr ⟨2, 2, _, rfl, by decide, rfl, rfl, ct_511⟩), List.forall_mem_cons.mpr ⟨Or.inr (Or.inr ⟨3, 3, _, rfl, by decide, rfl, rfl, ct_588⟩), List.forall_mem_cons.mpr ⟨Or.inr (Or.inr ⟨4, 4, _, rfl, by decide, rfl, rfl, ct_592⟩), fun _ h => absurd h List.not_mem_nil⟩⟩⟩⟩⟩
theorem am_con_ok_8 : ∀ e ∈ am_con 8, am_cP 8 e := List.forall_mem_cons.mpr ⟨Or.inl ⟨_, rfl, ct_622⟩, List.forall_mem_cons.mpr ⟨Or.inr (Or.inl ⟨_, rfl, ct_695⟩), List.forall_mem_cons.mpr ⟨Or.inr (Or.inl ⟨_, rfl, ct_696⟩), fun _ h => absurd h List.not_mem_nil⟩⟩⟩
theorem am_con_ok_12 : ∀ e ∈ am_con 12, am_cP 12 e := List.forall_mem_cons.mpr ⟨Or.inl ⟨_, rfl, ct_653⟩, List.forall_mem_cons.mpr ⟨Or.inl ⟨_, rfl, ct_654⟩, List.forall_mem_cons.mpr ⟨Or.inl ⟨_, rfl, ct_655⟩, fun _ h => absurd h List.not_mem_nil⟩⟩⟩
theorem am_con_ok_9 : ∀ e ∈ am_con 9, am_cP 9 e := List.forall_mem_cons.mpr ⟨Or.inr (Or.inr ⟨0, 5, _, rfl, by decide, rfl, rfl, ct_1110⟩), List.forall_mem_cons.mpr ⟨Or.inr (Or.inr ⟨1, 6, _, rfl, by decide, rfl, rfl, ct_1121⟩), List.forall_mem_cons.mpr ⟨Or.inr (Or.inr ⟨2, 7, _, rfl, by decide, rfl, rfl, ct_1122⟩), List.forall_mem_cons.mpr ⟨Or.inr (Or.inr ⟨3, 8, _, rfl, by decide, rfl, rfl, ct_1155⟩), List.forall_mem_cons.mpr ⟨Or.inr (Or.inr ⟨4, 9, _, rfl, by decide, rfl, rfl, ct_1211⟩), List.forall_mem_cons.mpr ⟨Or.inl ⟨_, rfl, ct_1228⟩, List.forall_mem_cons.mpr ⟨Or.inr (Or.inl ⟨_, rfl, ct_1271⟩), List.forall_mem_cons.mpr ⟨Or.inr (Or.inl ⟨_, rfl, ct_1272⟩), fun _ h => absurd h List.not_mem_nil⟩⟩⟩⟩⟩⟩⟩⟩
theorem am_con_ok_15 : ∀ e ∈ am_con 15, am_cP 15 e := List.forall_mem_cons.mpr ⟨Or.inr (Or.inl ⟨_, rfl, ct_1372⟩), fun _ h => absurd h List.not_mem_nil⟩
theorem am_con_ok : ∀ o, ∀ e ∈ am_con o, am_cP o e := fun o => match o with
  | 6 => am_con_ok_6
  | 8 => am_con_ok_8
  | 9 => am_con_ok_9
  | 12 => am_con_ok_12
  | 15 => am_con_ok_15
  | 0 => fun _ h => absurd h List.not_mem_nil
  | 1 => fun _ h => absurd h List.not_mem_nil
  | 2 => fun _ h => absurd h List.not_mem_nil
  | 3 => fun _ h => absurd h List.not_mem_nil
  | 4 => fun _ h => absurd h List.not_mem_nil
  | 5 => fun _ h => absurd h List.not_mem_nil
  | 7 => fun _ h => absurd h List.not_mem_nil
  | 10 => fun _ h => absurd h List.not_mem_nil
  | 11 => fun _ h => absurd h List.not_mem_nil
  | 13 => fun _ h => absurd h List.not_mem_nil
  | 14 => fun _ h => absurd h List.not_mem_nil
  | _ + 16 => fun _ h => absurd h List.not_mem_nil
theorem am_oth_1 : Cond.native arraycopyName ∈ lw_tbl := ct_394
theorem am_oth_2 : Cond.static arraycopyName ∈ lw_tbl := ct_393
theorem am_oth_3 : Cond.initialized "java/lang/System" ∈ lw_tbl := ct_12
theorem am_oth_4 : Cond.instanceMethod Lib.objectInit ∈ lw_tbl := ct_25
theorem am_oth_5 : Cond.code Lib.objectInit ⟨#[0xb1]⟩ 1 none ∈ lw_tbl := ct_26
theorem am_arr_34 : (Jvm.Cond.arrayOver (FieldType.object "LostSheets$Drawer")) ∈ lw_tbl := ct_34
theorem am_arr_94 : (Jvm.Cond.arrayClass FieldType.int) ∈ lw_tbl := ct_94
theorem am_arr_202 : (Jvm.Cond.arrayClass FieldType.byte) ∈ lw_tbl := ct_202
theorem am_arr_204 : (Jvm.Cond.arrayOver (FieldType.object "LostSheets$Office")) ∈ lw_tbl := ct_204
theorem am_arr_221 : (Jvm.Cond.arrayOver (FieldType.object "LostSheets$Tape")) ∈ lw_tbl := ct_221
theorem am_arr_260 : (Jvm.Cond.arrayClass FieldType.long) ∈ lw_tbl := ct_260
theorem am_lst_COMPACT_STRINGS : (Jvm.Cond.laysStatic "java/lang/String" "COMPACT_STRINGS" "Z") ∈ lw_tbl := ct_525
theorem am_lst_SIOOBE_FORMATTER : (Jvm.Cond.laysStatic "jdk/internal/util/Preconditions" "SIOOBE_FORMATTER" "Ljava/util/function/BiFunction;") ∈ lw_tbl := ct_541
theorem am_lst_BODIES : (Jvm.Cond.laysStatic "LostSheets$Trace" "BODIES" "[I") ∈ lw_tbl := ct_788
theorem am_lst_ABOVE : (Jvm.Cond.laysStatic "LostSheets" "ABOVE" "[I") ∈ lw_tbl := ct_793
theorem am_arr_995 : (Jvm.Cond.arrayClass FieldType.boolean) ∈ lw_tbl := ct_995
def am_B : List Cond := lw_tbl.filter goodWord
theorem am_B_good : ∀ w ∈ am_B, w ∈ lw_tbl ∧ ((w.onTables && w.keeps) = true ∨ ∃ ty, w = .arrayClass ty) := fun w h => ⟨(List.mem_filter.mp h).1, good_of_word (List.mem_filter.mp h).2⟩
