section
-- ===== PART A: goes FIRST, ahead of the names: the tables' words, and 'selects' of the private methods out of them =====
/-- a private method of a class that the tables say can be made, by its rows of tables_1 -/
def lw_okq (q : MethodName × Nat) : Prop := (q.1.cls ≠ "java/lang/invoke/MethodHandle" ∧ q.1.cls ≠ "java/lang/invoke/VarHandle") ∧ Cond.instantiable q.1.cls q.2 ∈ tables_1 ∧ Cond.privateMethod q.1 ∈ tables_1 ∧ Cond.instanceMethod q.1 ∈ tables_1
theorem lw_p0 : lw_okq (⟨"LostSheets$Land", "answersOf", "(LLostSheets$Drawer;)[I"⟩, 9) := ⟨⟨by decide +kernel, by decide +kernel⟩, List.mem_of_getElem? (i := 28) (by decide +kernel), List.mem_of_getElem? (i := 326) (by decide +kernel), List.mem_of_getElem? (i := 327) (by decide +kernel)⟩
theorem lw_p1 : lw_okq (⟨"LostSheets$Land", "othersWith", "(LLostSheets$Drawer;)I"⟩, 9) := ⟨⟨by decide +kernel, by decide +kernel⟩, List.mem_of_getElem? (i := 28) (by decide +kernel), List.mem_of_getElem? (i := 341) (by decide +kernel), List.mem_of_getElem? (i := 342) (by decide +kernel)⟩
theorem lw_p2 : lw_okq (⟨"LostSheets$Land", "endBySheet", "(LLostSheets$Drawer;I)I"⟩, 9) := ⟨⟨by decide +kernel, by decide +kernel⟩, List.mem_of_getElem? (i := 28) (by decide +kernel), List.mem_of_getElem? (i := 357) (by decide +kernel), List.mem_of_getElem? (i := 358) (by decide +kernel)⟩
theorem lw_p3 : lw_okq (⟨"LostSheets$Land", "mostAtOneMark", "(II)I"⟩, 9) := ⟨⟨by decide +kernel, by decide +kernel⟩, List.mem_of_getElem? (i := 28) (by decide +kernel), List.mem_of_getElem? (i := 373) (by decide +kernel), List.mem_of_getElem? (i := 374) (by decide +kernel)⟩
theorem lw_p4 : lw_okq (⟨"LostSheets", "placesOf", "(LLostSheets$Drawer;)I"⟩, 11) := ⟨⟨by decide +kernel, by decide +kernel⟩, List.mem_of_getElem? (i := 20) (by decide +kernel), List.mem_of_getElem? (i := 381) (by decide +kernel), List.mem_of_getElem? (i := 382) (by decide +kernel)⟩
theorem lw_p5 : lw_okq (⟨"LostSheets", "tryAt", "(II)V"⟩, 11) := ⟨⟨by decide +kernel, by decide +kernel⟩, List.mem_of_getElem? (i := 20) (by decide +kernel), List.mem_of_getElem? (i := 385) (by decide +kernel), List.mem_of_getElem? (i := 386) (by decide +kernel)⟩
theorem lw_p6 : lw_okq (⟨"LostSheets", "seenIsSo", "()Z"⟩, 11) := ⟨⟨by decide +kernel, by decide +kernel⟩, List.mem_of_getElem? (i := 20) (by decide +kernel), List.mem_of_getElem? (i := 407) (by decide +kernel), List.mem_of_getElem? (i := 408) (by decide +kernel)⟩
theorem lw_p7 : lw_okq (⟨"LostSheets", "seenIsSoIn", "(I)Z"⟩, 11) := ⟨⟨by decide +kernel, by decide +kernel⟩, List.mem_of_getElem? (i := 20) (by decide +kernel), List.mem_of_getElem? (i := 416) (by decide +kernel), List.mem_of_getElem? (i := 417) (by decide +kernel)⟩
theorem lw_p8 : lw_okq (⟨"LostSheets$Land", "anyGoes", "()Z"⟩, 9) := ⟨⟨by decide +kernel, by decide +kernel⟩, List.mem_of_getElem? (i := 28) (by decide +kernel), List.mem_of_getElem? (i := 429) (by decide +kernel), List.mem_of_getElem? (i := 430) (by decide +kernel)⟩
theorem lw_p9 : lw_okq (⟨"LostSheets$Land", "stepsAndDraws", "(LLostSheets$Drawer;II)V"⟩, 9) := ⟨⟨by decide +kernel, by decide +kernel⟩, List.mem_of_getElem? (i := 28) (by decide +kernel), List.mem_of_getElem? (i := 445) (by decide +kernel), List.mem_of_getElem? (i := 446) (by decide +kernel)⟩
theorem lw_p10 : lw_okq (⟨"LostSheets$Text", "clause", "()Z"⟩, 5) := ⟨⟨by decide +kernel, by decide +kernel⟩, List.mem_of_getElem? (i := 180) (by decide +kernel), List.mem_of_getElem? (i := 502) (by decide +kernel), List.mem_of_getElem? (i := 503) (by decide +kernel)⟩
theorem lw_p11 : lw_okq (⟨"LostSheets$Text", "ahead", "()I"⟩, 5) := ⟨⟨by decide +kernel, by decide +kernel⟩, List.mem_of_getElem? (i := 180) (by decide +kernel), List.mem_of_getElem? (i := 506) (by decide +kernel), List.mem_of_getElem? (i := 507) (by decide +kernel)⟩
theorem lw_p12 : lw_okq (⟨"LostSheets$Text", "takesAll", "(Ljava/lang/String;)Z"⟩, 5) := ⟨⟨by decide +kernel, by decide +kernel⟩, List.mem_of_getElem? (i := 180) (by decide +kernel), List.mem_of_getElem? (i := 513) (by decide +kernel), List.mem_of_getElem? (i := 514) (by decide +kernel)⟩
theorem lw_p13 : lw_okq (⟨"LostSheets$Text", "takes", "(I)Z"⟩, 5) := ⟨⟨by decide +kernel, by decide +kernel⟩, List.mem_of_getElem? (i := 180) (by decide +kernel), List.mem_of_getElem? (i := 565) (by decide +kernel), List.mem_of_getElem? (i := 566) (by decide +kernel)⟩
theorem lw_p14 : lw_okq (⟨"LostSheets$Text", "oneOrTwoDigits", "()Z"⟩, 5) := ⟨⟨by decide +kernel, by decide +kernel⟩, List.mem_of_getElem? (i := 180) (by decide +kernel), List.mem_of_getElem? (i := 569) (by decide +kernel), List.mem_of_getElem? (i := 570) (by decide +kernel)⟩
theorem lw_p15 : lw_okq (⟨"LostSheets$Text", "anyOf", "(I)Z"⟩, 5) := ⟨⟨by decide +kernel, by decide +kernel⟩, List.mem_of_getElem? (i := 180) (by decide +kernel), List.mem_of_getElem? (i := 573) (by decide +kernel), List.mem_of_getElem? (i := 574) (by decide +kernel)⟩
def lw_privs_1 : List (MethodName × Nat) := [(⟨"LostSheets$Land", "answersOf", "(LLostSheets$Drawer;)[I"⟩, 9), (⟨"LostSheets$Land", "othersWith", "(LLostSheets$Drawer;)I"⟩, 9), (⟨"LostSheets$Land", "endBySheet", "(LLostSheets$Drawer;I)I"⟩, 9), (⟨"LostSheets$Land", "mostAtOneMark", "(II)I"⟩, 9), (⟨"LostSheets", "placesOf", "(LLostSheets$Drawer;)I"⟩, 11), (⟨"LostSheets", "tryAt", "(II)V"⟩, 11), (⟨"LostSheets", "seenIsSo", "()Z"⟩, 11), (⟨"LostSheets", "seenIsSoIn", "(I)Z"⟩, 11), (⟨"LostSheets$Land", "anyGoes", "()Z"⟩, 9), (⟨"LostSheets$Land", "stepsAndDraws", "(LLostSheets$Drawer;II)V"⟩, 9), (⟨"LostSheets$Text", "clause", "()Z"⟩, 5), (⟨"LostSheets$Text", "ahead", "()I"⟩, 5), (⟨"LostSheets$Text", "takesAll", "(Ljava/lang/String;)Z"⟩, 5), (⟨"LostSheets$Text", "takes", "(I)Z"⟩, 5), (⟨"LostSheets$Text", "oneOrTwoDigits", "()Z"⟩, 5), (⟨"LostSheets$Text", "anyOf", "(I)Z"⟩, 5)]
theorem lw_r1 : ∀ q ∈ lw_privs_1, lw_okq q := List.forall_mem_cons.mpr ⟨lw_p0, List.forall_mem_cons.mpr ⟨lw_p1, List.forall_mem_cons.mpr ⟨lw_p2, List.forall_mem_cons.mpr ⟨lw_p3, List.forall_mem_cons.mpr ⟨lw_p4, List.forall_mem_cons.mpr ⟨lw_p5, List.forall_mem_cons.mpr ⟨lw_p6, List.forall_mem_cons.mpr ⟨lw_p7, List.forall_mem_cons.mpr ⟨lw_p8, List.forall_mem_cons.mpr ⟨lw_p9, List.forall_mem_cons.mpr ⟨lw_p10, List.forall_mem_cons.mpr ⟨lw_p11, List.forall_mem_cons.mpr ⟨lw_p12, List.forall_mem_cons.mpr ⟨lw_p13, List.forall_mem_cons.mpr ⟨lw_p14, List.forall_mem_cons.mpr ⟨lw_p15, fun _ h => absurd h List.not_mem_nil⟩⟩⟩⟩⟩⟩⟩⟩⟩⟩⟩⟩⟩⟩⟩⟩
theorem lw_p16 : lw_okq (⟨"LostSheets$Text", "allOf", "(I)Z"⟩, 5) := ⟨⟨by decide +kernel, by decide +kernel⟩, List.mem_of_getElem? (i := 180) (by decide +kernel), List.mem_of_getElem? (i := 577) (by decide +kernel), List.mem_of_getElem? (i := 578) (by decide +kernel)⟩
theorem lw_p17 : lw_okq (⟨"LostSheets$Text", "one", "(I)Z"⟩, 5) := ⟨⟨by decide +kernel, by decide +kernel⟩, List.mem_of_getElem? (i := 180) (by decide +kernel), List.mem_of_getElem? (i := 581) (by decide +kernel), List.mem_of_getElem? (i := 582) (by decide +kernel)⟩
theorem lw_p18 : lw_okq (⟨"LostSheets$Text", "test", "()Z"⟩, 5) := ⟨⟨by decide +kernel, by decide +kernel⟩, List.mem_of_getElem? (i := 180) (by decide +kernel), List.mem_of_getElem? (i := 585) (by decide +kernel), List.mem_of_getElem? (i := 586) (by decide +kernel)⟩
theorem lw_p19 : lw_okq (⟨"LostSheets$Text", "not", "(I)Z"⟩, 5) := ⟨⟨by decide +kernel, by decide +kernel⟩, List.mem_of_getElem? (i := 180) (by decide +kernel), List.mem_of_getElem? (i := 598) (by decide +kernel), List.mem_of_getElem? (i := 599) (by decide +kernel)⟩
theorem lw_p20 : lw_okq (⟨"LostSheets$Text", "inBrackets", "(I)Z"⟩, 5) := ⟨⟨by decide +kernel, by decide +kernel⟩, List.mem_of_getElem? (i := 180) (by decide +kernel), List.mem_of_getElem? (i := 602) (by decide +kernel), List.mem_of_getElem? (i := 603) (by decide +kernel)⟩
theorem lw_p21 : lw_okq (⟨"LostSheets", "marksOf", "(I)I"⟩, 11) := ⟨⟨by decide +kernel, by decide +kernel⟩, List.mem_of_getElem? (i := 20) (by decide +kernel), List.mem_of_getElem? (i := 610) (by decide +kernel), List.mem_of_getElem? (i := 611) (by decide +kernel)⟩
theorem lw_p22 : lw_okq (⟨"LostSheets", "whole", "()I"⟩, 11) := ⟨⟨by decide +kernel, by decide +kernel⟩, List.mem_of_getElem? (i := 20) (by decide +kernel), List.mem_of_getElem? (i := 619) (by decide +kernel), List.mem_of_getElem? (i := 620) (by decide +kernel)⟩
theorem lw_p23 : lw_okq (⟨"LostSheets", "drawerBehindTen", "(I)LLostSheets$Drawer;"⟩, 11) := ⟨⟨by decide +kernel, by decide +kernel⟩, List.mem_of_getElem? (i := 20) (by decide +kernel), List.mem_of_getElem? (i := 639) (by decide +kernel), List.mem_of_getElem? (i := 640) (by decide +kernel)⟩
theorem lw_p24 : lw_okq (⟨"LostSheets", "crew", "(I)I"⟩, 11) := ⟨⟨by decide +kernel, by decide +kernel⟩, List.mem_of_getElem? (i := 20) (by decide +kernel), List.mem_of_getElem? (i := 647) (by decide +kernel), List.mem_of_getElem? (i := 648) (by decide +kernel)⟩
theorem lw_p25 : lw_okq (⟨"LostSheets", "landing", "(II)I"⟩, 11) := ⟨⟨by decide +kernel, by decide +kernel⟩, List.mem_of_getElem? (i := 20) (by decide +kernel), List.mem_of_getElem? (i := 661) (by decide +kernel), List.mem_of_getElem? (i := 662) (by decide +kernel)⟩
theorem lw_p26 : lw_okq (⟨"LostSheets", "possibleNumbers", "(I)I"⟩, 11) := ⟨⟨by decide +kernel, by decide +kernel⟩, List.mem_of_getElem? (i := 20) (by decide +kernel), List.mem_of_getElem? (i := 681) (by decide +kernel), List.mem_of_getElem? (i := 682) (by decide +kernel)⟩
theorem lw_p27 : lw_okq (⟨"LostSheets", "isPlanRow", "(II)Z"⟩, 11) := ⟨⟨by decide +kernel, by decide +kernel⟩, List.mem_of_getElem? (i := 20) (by decide +kernel), List.mem_of_getElem? (i := 716) (by decide +kernel), List.mem_of_getElem? (i := 717) (by decide +kernel)⟩
theorem lw_p28 : lw_okq (⟨"LostSheets", "tryPlan", "()V"⟩, 11) := ⟨⟨by decide +kernel, by decide +kernel⟩, List.mem_of_getElem? (i := 20) (by decide +kernel), List.mem_of_getElem? (i := 724) (by decide +kernel), List.mem_of_getElem? (i := 725) (by decide +kernel)⟩
theorem lw_p29 : lw_okq (⟨"LostSheets", "tapeAt", "(I)LLostSheets$Tape;"⟩, 11) := ⟨⟨by decide +kernel, by decide +kernel⟩, List.mem_of_getElem? (i := 20) (by decide +kernel), List.mem_of_getElem? (i := 748) (by decide +kernel), List.mem_of_getElem? (i := 749) (by decide +kernel)⟩
theorem lw_p30 : lw_okq (⟨"LostSheets$Trace", "run", "(LLostSheets$Drawer;IIII)I"⟩, 2) := ⟨⟨by decide +kernel, by decide +kernel⟩, List.mem_of_getElem? (i := 206) (by decide +kernel), List.mem_of_getElem? (i := 781) (by decide +kernel), List.mem_of_getElem? (i := 782) (by decide +kernel)⟩
theorem lw_p31 : lw_okq (⟨"LostSheets$Trace", "begins", "(I)V"⟩, 2) := ⟨⟨by decide +kernel, by decide +kernel⟩, List.mem_of_getElem? (i := 206) (by decide +kernel), List.mem_of_getElem? (i := 795) (by decide +kernel), List.mem_of_getElem? (i := 796) (by decide +kernel)⟩
def lw_privs_2 : List (MethodName × Nat) := [(⟨"LostSheets$Text", "allOf", "(I)Z"⟩, 5), (⟨"LostSheets$Text", "one", "(I)Z"⟩, 5), (⟨"LostSheets$Text", "test", "()Z"⟩, 5), (⟨"LostSheets$Text", "not", "(I)Z"⟩, 5), (⟨"LostSheets$Text", "inBrackets", "(I)Z"⟩, 5), (⟨"LostSheets", "marksOf", "(I)I"⟩, 11), (⟨"LostSheets", "whole", "()I"⟩, 11), (⟨"LostSheets", "drawerBehindTen", "(I)LLostSheets$Drawer;"⟩, 11), (⟨"LostSheets", "crew", "(I)I"⟩, 11), (⟨"LostSheets", "landing", "(II)I"⟩, 11), (⟨"LostSheets", "possibleNumbers", "(I)I"⟩, 11), (⟨"LostSheets", "isPlanRow", "(II)Z"⟩, 11), (⟨"LostSheets", "tryPlan", "()V"⟩, 11), (⟨"LostSheets", "tapeAt", "(I)LLostSheets$Tape;"⟩, 11), (⟨"LostSheets$Trace", "run", "(LLostSheets$Drawer;IIII)I"⟩, 2), (⟨"LostSheets$Trace", "begins", "(I)V"⟩, 2)]
theorem lw_r2 : ∀ q ∈ lw_privs_2, lw_okq q := List.forall_mem_cons.mpr ⟨lw_p16, List.forall_mem_cons.mpr ⟨lw_p17, List.forall_mem_cons.mpr ⟨lw_p18, List.forall_mem_cons.mpr ⟨lw_p19, List.forall_mem_cons.mpr ⟨lw_p20, List.forall_mem_cons.mpr ⟨lw_p21, List.forall_mem_cons.mpr ⟨lw_p22, List.forall_mem_cons.mpr ⟨lw_p23, List.forall_mem_cons.mpr ⟨lw_p24, List.forall_mem_cons.mpr ⟨lw_p25, List.forall_mem_cons.mpr ⟨lw_p26, List.forall_mem_cons.mpr ⟨lw_p27, List.forall_mem_cons.mpr ⟨lw_p28, List.forall_mem_cons.mpr ⟨lw_p29, List.forall_mem_cons.mpr ⟨lw_p30, List.forall_mem_cons.mpr ⟨lw_p31, fun _ h => absurd h List.not_mem_nil⟩⟩⟩⟩⟩⟩⟩⟩⟩⟩⟩⟩⟩⟩⟩⟩
theorem lw_p32 : lw_okq (⟨"LostSheets$Trace", "does", "(ILLostSheets$Drawer;II)I"⟩, 2) := ⟨⟨by decide +kernel, by decide +kernel⟩, List.mem_of_getElem? (i := 206) (by decide +kernel), List.mem_of_getElem? (i := 799) (by decide +kernel), List.mem_of_getElem? (i := 800) (by decide +kernel)⟩
theorem lw_p33 : lw_okq (⟨"LostSheetsModel", "isOne", "(I)Z"⟩, 47) := ⟨⟨by decide +kernel, by decide +kernel⟩, List.mem_of_getElem? (i := 848) (by decide +kernel), List.mem_of_getElem? (i := 1011) (by decide +kernel), List.mem_of_getElem? (i := 1012) (by decide +kernel)⟩
theorem lw_p34 : lw_okq (⟨"LostSheetsModel", "feel", "(I)I"⟩, 47) := ⟨⟨by decide +kernel, by decide +kernel⟩, List.mem_of_getElem? (i := 848) (by decide +kernel), List.mem_of_getElem? (i := 1015) (by decide +kernel), List.mem_of_getElem? (i := 1016) (by decide +kernel)⟩
theorem lw_p35 : lw_okq (⟨"LostSheetsModel", "sum", "(I)I"⟩, 47) := ⟨⟨by decide +kernel, by decide +kernel⟩, List.mem_of_getElem? (i := 848) (by decide +kernel), List.mem_of_getElem? (i := 1019) (by decide +kernel), List.mem_of_getElem? (i := 1020) (by decide +kernel)⟩
theorem lw_p36 : lw_okq (⟨"LostSheetsModel", "isTrue", "(II)Z"⟩, 47) := ⟨⟨by decide +kernel, by decide +kernel⟩, List.mem_of_getElem? (i := 848) (by decide +kernel), List.mem_of_getElem? (i := 1023) (by decide +kernel), List.mem_of_getElem? (i := 1024) (by decide +kernel)⟩
theorem lw_p37 : lw_okq (⟨"LostSheetsModel", "letterOf", "(II)I"⟩, 47) := ⟨⟨by decide +kernel, by decide +kernel⟩, List.mem_of_getElem? (i := 848) (by decide +kernel), List.mem_of_getElem? (i := 1027) (by decide +kernel), List.mem_of_getElem? (i := 1028) (by decide +kernel)⟩
theorem lw_p38 : lw_okq (⟨"LostSheetsModel", "others", "(I)I"⟩, 47) := ⟨⟨by decide +kernel, by decide +kernel⟩, List.mem_of_getElem? (i := 848) (by decide +kernel), List.mem_of_getElem? (i := 1031) (by decide +kernel), List.mem_of_getElem? (i := 1032) (by decide +kernel)⟩
theorem lw_p39 : lw_okq (⟨"LostSheetsModel", "wayOf", "(I)I"⟩, 47) := ⟨⟨by decide +kernel, by decide +kernel⟩, List.mem_of_getElem? (i := 848) (by decide +kernel), List.mem_of_getElem? (i := 1035) (by decide +kernel), List.mem_of_getElem? (i := 1036) (by decide +kernel)⟩
theorem lw_p40 : lw_okq (⟨"LostSheetsModel", "came", "(IZ)I"⟩, 47) := ⟨⟨by decide +kernel, by decide +kernel⟩, List.mem_of_getElem? (i := 848) (by decide +kernel), List.mem_of_getElem? (i := 1039) (by decide +kernel), List.mem_of_getElem? (i := 1040) (by decide +kernel)⟩
theorem lw_p41 : lw_okq (⟨"LostSheetsModel", "look", "(I)I"⟩, 47) := ⟨⟨by decide +kernel, by decide +kernel⟩, List.mem_of_getElem? (i := 848) (by decide +kernel), List.mem_of_getElem? (i := 1046) (by decide +kernel), List.mem_of_getElem? (i := 1047) (by decide +kernel)⟩
theorem lw_p42 : lw_okq (⟨"LostSheetsModel", "places", "(I)I"⟩, 47) := ⟨⟨by decide +kernel, by decide +kernel⟩, List.mem_of_getElem? (i := 848) (by decide +kernel), List.mem_of_getElem? (i := 1051) (by decide +kernel), List.mem_of_getElem? (i := 1052) (by decide +kernel)⟩
theorem lw_p43 : lw_okq (⟨"LostSheetsModel", "isSeen", "()Z"⟩, 47) := ⟨⟨by decide +kernel, by decide +kernel⟩, List.mem_of_getElem? (i := 848) (by decide +kernel), List.mem_of_getElem? (i := 1055) (by decide +kernel), List.mem_of_getElem? (i := 1056) (by decide +kernel)⟩
theorem lw_p44 : lw_okq (⟨"LostSheetsModel", "keep", "([I)V"⟩, 47) := ⟨⟨by decide +kernel, by decide +kernel⟩, List.mem_of_getElem? (i := 848) (by decide +kernel), List.mem_of_getElem? (i := 1059) (by decide +kernel), List.mem_of_getElem? (i := 1060) (by decide +kernel)⟩
theorem lw_p45 : lw_okq (⟨"LostSheetsModel", "goesHour", "()V"⟩, 47) := ⟨⟨by decide +kernel, by decide +kernel⟩, List.mem_of_getElem? (i := 848) (by decide +kernel), List.mem_of_getElem? (i := 1063) (by decide +kernel), List.mem_of_getElem? (i := 1064) (by decide +kernel)⟩
theorem lw_p46 : lw_okq (⟨"LostSheetsModel", "know", "()I"⟩, 47) := ⟨⟨by decide +kernel, by decide +kernel⟩, List.mem_of_getElem? (i := 848) (by decide +kernel), List.mem_of_getElem? (i := 1067) (by decide +kernel), List.mem_of_getElem? (i := 1068) (by decide +kernel)⟩
theorem lw_p47 : lw_okq (⟨"LostSheetsModel", "goesBy", "(III)V"⟩, 47) := ⟨⟨by decide +kernel, by decide +kernel⟩, List.mem_of_getElem? (i := 848) (by decide +kernel), List.mem_of_getElem? (i := 1071) (by decide +kernel), List.mem_of_getElem? (i := 1072) (by decide +kernel)⟩
def lw_privs_3 : List (MethodName × Nat) := [(⟨"LostSheets$Trace", "does", "(ILLostSheets$Drawer;II)I"⟩, 2), (⟨"LostSheetsModel", "isOne", "(I)Z"⟩, 47), (⟨"LostSheetsModel", "feel", "(I)I"⟩, 47), (⟨"LostSheetsModel", "sum", "(I)I"⟩, 47), (⟨"LostSheetsModel", "isTrue", "(II)Z"⟩, 47), (⟨"LostSheetsModel", "letterOf", "(II)I"⟩, 47), (⟨"LostSheetsModel", "others", "(I)I"⟩, 47), (⟨"LostSheetsModel", "wayOf", "(I)I"⟩, 47), (⟨"LostSheetsModel", "came", "(IZ)I"⟩, 47), (⟨"LostSheetsModel", "look", "(I)I"⟩, 47), (⟨"LostSheetsModel", "places", "(I)I"⟩, 47), (⟨"LostSheetsModel", "isSeen", "()Z"⟩, 47), (⟨"LostSheetsModel", "keep", "([I)V"⟩, 47), (⟨"LostSheetsModel", "goesHour", "()V"⟩, 47), (⟨"LostSheetsModel", "know", "()I"⟩, 47), (⟨"LostSheetsModel", "goesBy", "(III)V"⟩, 47)]
theorem lw_r3 : ∀ q ∈ lw_privs_3, lw_okq q := List.forall_mem_cons.mpr ⟨lw_p32, List.forall_mem_cons.mpr ⟨lw_p33, List.forall_mem_cons.mpr ⟨lw_p34, List.forall_mem_cons.mpr ⟨lw_p35, List.forall_mem_cons.mpr ⟨lw_p36, List.forall_mem_cons.mpr ⟨lw_p37, List.forall_mem_cons.mpr ⟨lw_p38, List.forall_mem_cons.mpr ⟨lw_p39, List.forall_mem_cons.mpr ⟨lw_p40, List.forall_mem_cons.mpr ⟨lw_p41, List.forall_mem_cons.mpr ⟨lw_p42, List.forall_mem_cons.mpr ⟨lw_p43, List.forall_mem_cons.mpr ⟨lw_p44, List.forall_mem_cons.mpr ⟨lw_p45, List.forall_mem_cons.mpr ⟨lw_p46, List.forall_mem_cons.mpr ⟨lw_p47, fun _ h => absurd h List.not_mem_nil⟩⟩⟩⟩⟩⟩⟩⟩⟩⟩⟩⟩⟩⟩⟩⟩
theorem lw_p48 : lw_okq (⟨"LostSheetsModel", "again", "([I)V"⟩, 47) := ⟨⟨by decide +kernel, by decide +kernel⟩, List.mem_of_getElem? (i := 848) (by decide +kernel), List.mem_of_getElem? (i := 1075) (by decide +kernel), List.mem_of_getElem? (i := 1076) (by decide +kernel)⟩
theorem lw_p49 : lw_okq (⟨"LostSheetsModel", "isClause", "(I)Z"⟩, 47) := ⟨⟨by decide +kernel, by decide +kernel⟩, List.mem_of_getElem? (i := 848) (by decide +kernel), List.mem_of_getElem? (i := 1107) (by decide +kernel), List.mem_of_getElem? (i := 1108) (by decide +kernel)⟩
theorem lw_p50 : lw_okq (⟨"LostSheetsModel", "isAll", "(Ljava/lang/String;)Z"⟩, 47) := ⟨⟨by decide +kernel, by decide +kernel⟩, List.mem_of_getElem? (i := 848) (by decide +kernel), List.mem_of_getElem? (i := 1112) (by decide +kernel), List.mem_of_getElem? (i := 1113) (by decide +kernel)⟩
theorem lw_p51 : lw_okq (⟨"LostSheetsModel", "is", "(I)Z"⟩, 47) := ⟨⟨by decide +kernel, by decide +kernel⟩, List.mem_of_getElem? (i := 848) (by decide +kernel), List.mem_of_getElem? (i := 1118) (by decide +kernel), List.mem_of_getElem? (i := 1119) (by decide +kernel)⟩
theorem lw_p52 : lw_okq (⟨"LostSheetsModel", "isNumber", "()Z"⟩, 47) := ⟨⟨by decide +kernel, by decide +kernel⟩, List.mem_of_getElem? (i := 848) (by decide +kernel), List.mem_of_getElem? (i := 1124) (by decide +kernel), List.mem_of_getElem? (i := 1125) (by decide +kernel)⟩
theorem lw_p53 : lw_okq (⟨"LostSheetsModel", "isDigit", "()Z"⟩, 47) := ⟨⟨by decide +kernel, by decide +kernel⟩, List.mem_of_getElem? (i := 848) (by decide +kernel), List.mem_of_getElem? (i := 1128) (by decide +kernel), List.mem_of_getElem? (i := 1129) (by decide +kernel)⟩
theorem lw_p54 : lw_okq (⟨"LostSheetsModel", "isE", "()Z"⟩, 47) := ⟨⟨by decide +kernel, by decide +kernel⟩, List.mem_of_getElem? (i := 848) (by decide +kernel), List.mem_of_getElem? (i := 1132) (by decide +kernel), List.mem_of_getElem? (i := 1133) (by decide +kernel)⟩
theorem lw_p55 : lw_okq (⟨"LostSheetsModel", "isT", "()Z"⟩, 47) := ⟨⟨by decide +kernel, by decide +kernel⟩, List.mem_of_getElem? (i := 848) (by decide +kernel), List.mem_of_getElem? (i := 1136) (by decide +kernel), List.mem_of_getElem? (i := 1137) (by decide +kernel)⟩
theorem lw_p56 : lw_okq (⟨"LostSheetsModel", "isF", "()Z"⟩, 47) := ⟨⟨by decide +kernel, by decide +kernel⟩, List.mem_of_getElem? (i := 848) (by decide +kernel), List.mem_of_getElem? (i := 1140) (by decide +kernel), List.mem_of_getElem? (i := 1141) (by decide +kernel)⟩
theorem lw_p57 : lw_okq (⟨"LostSheetsModel", "isOpened", "(I)Z"⟩, 47) := ⟨⟨by decide +kernel, by decide +kernel⟩, List.mem_of_getElem? (i := 848) (by decide +kernel), List.mem_of_getElem? (i := 1144) (by decide +kernel), List.mem_of_getElem? (i := 1145) (by decide +kernel)⟩
theorem lw_p58 : lw_okq (⟨"LostSheetsModel", "codes", "(I)Z"⟩, 47) := ⟨⟨by decide +kernel, by decide +kernel⟩, List.mem_of_getElem? (i := 848) (by decide +kernel), List.mem_of_getElem? (i := 1148) (by decide +kernel), List.mem_of_getElem? (i := 1149) (by decide +kernel)⟩
theorem lw_p59 : lw_okq (⟨"LostSheetsModel", "isTest", "()Z"⟩, 47) := ⟨⟨by decide +kernel, by decide +kernel⟩, List.mem_of_getElem? (i := 848) (by decide +kernel), List.mem_of_getElem? (i := 1152) (by decide +kernel), List.mem_of_getElem? (i := 1153) (by decide +kernel)⟩
theorem lw_p60 : lw_okq (⟨"LostSheetsModel", "marksOf", "(I)I"⟩, 47) := ⟨⟨by decide +kernel, by decide +kernel⟩, List.mem_of_getElem? (i := 848) (by decide +kernel), List.mem_of_getElem? (i := 1217) (by decide +kernel), List.mem_of_getElem? (i := 1218) (by decide +kernel)⟩
theorem lw_p61 : lw_okq (⟨"LostSheetsModel", "allDone", "()I"⟩, 47) := ⟨⟨by decide +kernel, by decide +kernel⟩, List.mem_of_getElem? (i := 848) (by decide +kernel), List.mem_of_getElem? (i := 1221) (by decide +kernel), List.mem_of_getElem? (i := 1222) (by decide +kernel)⟩
theorem lw_p62 : lw_okq (⟨"LostSheetsModel", "whole", "()I"⟩, 47) := ⟨⟨by decide +kernel, by decide +kernel⟩, List.mem_of_getElem? (i := 848) (by decide +kernel), List.mem_of_getElem? (i := 1225) (by decide +kernel), List.mem_of_getElem? (i := 1226) (by decide +kernel)⟩
theorem lw_p63 : lw_okq (⟨"LostSheetsModel", "goesOn", "(I)V"⟩, 47) := ⟨⟨by decide +kernel, by decide +kernel⟩, List.mem_of_getElem? (i := 848) (by decide +kernel), List.mem_of_getElem? (i := 1239) (by decide +kernel), List.mem_of_getElem? (i := 1240) (by decide +kernel)⟩
def lw_privs_4 : List (MethodName × Nat) := [(⟨"LostSheetsModel", "again", "([I)V"⟩, 47), (⟨"LostSheetsModel", "isClause", "(I)Z"⟩, 47), (⟨"LostSheetsModel", "isAll", "(Ljava/lang/String;)Z"⟩, 47), (⟨"LostSheetsModel", "is", "(I)Z"⟩, 47), (⟨"LostSheetsModel", "isNumber", "()Z"⟩, 47), (⟨"LostSheetsModel", "isDigit", "()Z"⟩, 47), (⟨"LostSheetsModel", "isE", "()Z"⟩, 47), (⟨"LostSheetsModel", "isT", "()Z"⟩, 47), (⟨"LostSheetsModel", "isF", "()Z"⟩, 47), (⟨"LostSheetsModel", "isOpened", "(I)Z"⟩, 47), (⟨"LostSheetsModel", "codes", "(I)Z"⟩, 47), (⟨"LostSheetsModel", "isTest", "()Z"⟩, 47), (⟨"LostSheetsModel", "marksOf", "(I)I"⟩, 47), (⟨"LostSheetsModel", "allDone", "()I"⟩, 47), (⟨"LostSheetsModel", "whole", "()I"⟩, 47), (⟨"LostSheetsModel", "goesOn", "(I)V"⟩, 47)]
theorem lw_r4 : ∀ q ∈ lw_privs_4, lw_okq q := List.forall_mem_cons.mpr ⟨lw_p48, List.forall_mem_cons.mpr ⟨lw_p49, List.forall_mem_cons.mpr ⟨lw_p50, List.forall_mem_cons.mpr ⟨lw_p51, List.forall_mem_cons.mpr ⟨lw_p52, List.forall_mem_cons.mpr ⟨lw_p53, List.forall_mem_cons.mpr ⟨lw_p54, List.forall_mem_cons.mpr ⟨lw_p55, List.forall_mem_cons.mpr ⟨lw_p56, List.forall_mem_cons.mpr ⟨lw_p57, List.forall_mem_cons.mpr ⟨lw_p58, List.forall_mem_cons.mpr ⟨lw_p59, List.forall_mem_cons.mpr ⟨lw_p60, List.forall_mem_cons.mpr ⟨lw_p61, List.forall_mem_cons.mpr ⟨lw_p62, List.forall_mem_cons.mpr ⟨lw_p63, fun _ h => absurd h List.not_mem_nil⟩⟩⟩⟩⟩⟩⟩⟩⟩⟩⟩⟩⟩⟩⟩⟩
theorem lw_p64 : lw_okq (⟨"LostSheetsModel", "crew", "(I)I"⟩, 47) := ⟨⟨by decide +kernel, by decide +kernel⟩, List.mem_of_getElem? (i := 848) (by decide +kernel), List.mem_of_getElem? (i := 1247) (by decide +kernel), List.mem_of_getElem? (i := 1248) (by decide +kernel)⟩
theorem lw_p65 : lw_okq (⟨"LostSheetsModel", "drawnBehind", "(I)I"⟩, 47) := ⟨⟨by decide +kernel, by decide +kernel⟩, List.mem_of_getElem? (i := 848) (by decide +kernel), List.mem_of_getElem? (i := 1251) (by decide +kernel), List.mem_of_getElem? (i := 1252) (by decide +kernel)⟩
theorem lw_p66 : lw_okq (⟨"LostSheetsModel", "landing", "(II)I"⟩, 47) := ⟨⟨by decide +kernel, by decide +kernel⟩, List.mem_of_getElem? (i := 848) (by decide +kernel), List.mem_of_getElem? (i := 1256) (by decide +kernel), List.mem_of_getElem? (i := 1257) (by decide +kernel)⟩
theorem lw_p67 : lw_okq (⟨"LostSheetsModel", "allDrew", "()I"⟩, 47) := ⟨⟨by decide +kernel, by decide +kernel⟩, List.mem_of_getElem? (i := 848) (by decide +kernel), List.mem_of_getElem? (i := 1284) (by decide +kernel), List.mem_of_getElem? (i := 1285) (by decide +kernel)⟩
theorem lw_p68 : lw_okq (⟨"LostSheetsModel", "weeps", "(III)I"⟩, 47) := ⟨⟨by decide +kernel, by decide +kernel⟩, List.mem_of_getElem? (i := 848) (by decide +kernel), List.mem_of_getElem? (i := 1320) (by decide +kernel), List.mem_of_getElem? (i := 1321) (by decide +kernel)⟩
theorem lw_p69 : lw_okq (⟨"LostSheetsModel", "ran", "(I)V"⟩, 47) := ⟨⟨by decide +kernel, by decide +kernel⟩, List.mem_of_getElem? (i := 848) (by decide +kernel), List.mem_of_getElem? (i := 1324) (by decide +kernel), List.mem_of_getElem? (i := 1325) (by decide +kernel)⟩
theorem lw_p70 : lw_okq (⟨"LostSheetsModel", "draws", "(III)I"⟩, 47) := ⟨⟨by decide +kernel, by decide +kernel⟩, List.mem_of_getElem? (i := 848) (by decide +kernel), List.mem_of_getElem? (i := 1331) (by decide +kernel), List.mem_of_getElem? (i := 1332) (by decide +kernel)⟩
theorem lw_p71 : lw_okq (⟨"LostSheetsModel", "tells", "(III)I"⟩, 47) := ⟨⟨by decide +kernel, by decide +kernel⟩, List.mem_of_getElem? (i := 848) (by decide +kernel), List.mem_of_getElem? (i := 1335) (by decide +kernel), List.mem_of_getElem? (i := 1336) (by decide +kernel)⟩
def lw_privs_5 : List (MethodName × Nat) := [(⟨"LostSheetsModel", "crew", "(I)I"⟩, 47), (⟨"LostSheetsModel", "drawnBehind", "(I)I"⟩, 47), (⟨"LostSheetsModel", "landing", "(II)I"⟩, 47), (⟨"LostSheetsModel", "allDrew", "()I"⟩, 47), (⟨"LostSheetsModel", "weeps", "(III)I"⟩, 47), (⟨"LostSheetsModel", "ran", "(I)V"⟩, 47), (⟨"LostSheetsModel", "draws", "(III)I"⟩, 47), (⟨"LostSheetsModel", "tells", "(III)I"⟩, 47)]
theorem lw_r5 : ∀ q ∈ lw_privs_5, lw_okq q := List.forall_mem_cons.mpr ⟨lw_p64, List.forall_mem_cons.mpr ⟨lw_p65, List.forall_mem_cons.mpr ⟨lw_p66, List.forall_mem_cons.mpr ⟨lw_p67, List.forall_mem_cons.mpr ⟨lw_p68, List.forall_mem_cons.mpr ⟨lw_p69, List.forall_mem_cons.mpr ⟨lw_p70, List.forall_mem_cons.mpr ⟨lw_p71, fun _ h => absurd h List.not_mem_nil⟩⟩⟩⟩⟩⟩⟩⟩
def lw_privs : List (MethodName × Nat) := lw_privs_1 ++ (lw_privs_2 ++ (lw_privs_3 ++ (lw_privs_4 ++ (lw_privs_5))))
def lw_tbl : List Cond := k2_sels lw_privs ++ tables_1
theorem lw_privs_ok : ∀ q ∈ lw_privs, lw_okq q := by
  show ∀ q ∈ lw_privs_1 ++ (lw_privs_2 ++ (lw_privs_3 ++ (lw_privs_4 ++ (lw_privs_5)))), lw_okq q
  exact List.forall_mem_append.mpr ⟨lw_r1, List.forall_mem_append.mpr ⟨lw_r2, List.forall_mem_append.mpr ⟨lw_r3, List.forall_mem_append.mpr ⟨lw_r4, lw_r5⟩⟩⟩⟩
end
section
def am_cn : Nat → String := fun o => match o with
  | 0 => "LostSheets$ByHand"
  | 1 => "LostSheets$Drawer"
  | 2 => "LostSheets$Land"
  | 3 => "LostSheets$Office"
  | 4 => "LostSheets$Rows"
  | 5 => "LostSheets$Tape"
  | 6 => "LostSheets$Text"
  | 7 => "LostSheets$Trace"
  | 8 => "LostSheets"
  | 9 => "LostSheetsModel"
  | 10 => "java/lang/String"
  | 11 => "java/lang/StringLatin1"
  | 12 => "java/lang/Integer"
  | 13 => "java/lang/Math"
  | 14 => "jdk/internal/util/Preconditions"
  | _ => "LostSheetsLaw"
def am_T0 : u_T := fun k => match k with
  | 0 => ("LostSheets$ByHand", "seen", "LLostSheets$Rows;", true)
  | 1 => ("LostSheets$ByHand", "planned", "LLostSheets$Rows;", true)
  | _ => ("LostSheets$ByHand", "booked", "LLostSheets$Rows;", true)
def am_y0 : Nat → FieldType := fun k => match k with
  | 0 => (.object "LostSheets$Rows")
  | 1 => (.object "LostSheets$Rows")
  | _ => (.object "LostSheets$Rows")
def am_T1 : u_T := fun k => match k with
  | 0 => ("LostSheets$Drawer", "number", "I", true)
  | 1 => ("LostSheets$Drawer", "kind", "I", false)
  | 2 => ("LostSheets$Drawer", "v", "I", false)
  | 3 => ("LostSheets$Drawer", "at", "I", false)
  | 4 => ("LostSheets$Drawer", "rows", "I", false)
  | 5 => ("LostSheets$Drawer", "drew", "I", false)
  | 6 => ("LostSheets$Drawer", "done", "Z", false)
  | 7 => ("LostSheets$Drawer", "sheetWays", "[I", true)
  | 8 => ("LostSheets$Drawer", "sheetMarks", "[I", true)
  | _ => ("LostSheets$Drawer", "toldRow", "[I", true)
def am_y1 : Nat → FieldType := fun k => match k with
  | 0 => .int
  | 1 => .int
  | 2 => .int
  | 3 => .int
  | 4 => .int
  | 5 => .int
  | 6 => .boolean
  | 7 => (.array .int)
  | 8 => (.array .int)
  | _ => (.array .int)
def am_T2 : u_T := fun k => match k with
  | 0 => ("LostSheets$Land", "marks", "[I", true)
  | 1 => ("LostSheets$Land", "drawn", "I", false)
  | 2 => ("LostSheets$Land", "hour", "I", false)
  | 3 => ("LostSheets$Land", "office", "LLostSheets$Office;", false)
  | 4 => ("LostSheets$Land", "drawers", "[LLostSheets$Drawer;", true)
  | 5 => ("LostSheets$Land", "drawerCount", "I", false)
  | 6 => ("LostSheets$Land", "waysAhead", "[I", true)
  | 7 => ("LostSheets$Land", "answers", "[I", true)
  | _ => ("LostSheets$Land", "atMark", "[I", true)
def am_y2 : Nat → FieldType := fun k => match k with
  | 0 => (.array .int)
  | 1 => .int
  | 2 => .int
  | 3 => (.object "LostSheets$Office")
  | 4 => (.array (.object "LostSheets$Drawer"))
  | 5 => .int
  | 6 => (.array .int)
  | 7 => (.array .int)
  | _ => (.array .int)
def am_T3 : u_T := fun k => match k with
  | 0 => ("LostSheets$Office", "know", "I", false)
  | 1 => ("LostSheets$Office", "steps", "[I", true)
  | 2 => ("LostSheets$Office", "numbers", "[I", true)
  | _ => ("LostSheets$Office", "size", "I", false)
def am_y3 : Nat → FieldType := fun k => match k with
  | 0 => .int
  | 1 => (.array .int)
  | 2 => (.array .int)
  | _ => .int
def am_T4 : u_T := fun k => match k with
  | 0 => ("LostSheets$Rows", "most", "I", true)
  | 1 => ("LostSheets$Rows", "first", "[I", true)
  | 2 => ("LostSheets$Rows", "second", "[I", true)
  | 3 => ("LostSheets$Rows", "third", "[I", true)
  | _ => ("LostSheets$Rows", "size", "I", false)
def am_y4 : Nat → FieldType := fun k => match k with
  | 0 => .int
  | 1 => (.array .int)
  | 2 => (.array .int)
  | 3 => (.array .int)
  | _ => .int
def am_T5 : u_T := fun k => match k with
  | 0 => ("LostSheets$Tape", "sort", "I", false)
  | 1 => ("LostSheets$Tape", "length", "I", false)
  | _ => ("LostSheets$Tape", "items", "[J", true)
def am_y5 : Nat → FieldType := fun k => match k with
  | 0 => .int
  | 1 => .int
  | _ => (.array .long)
def am_T6 : u_T := fun k => match k with
  | 0 => ("LostSheets$Text", "signs", "[B", true)
  | 1 => ("LostSheets$Text", "size", "I", false)
  | 2 => ("LostSheets$Text", "place", "I", false)
  | 3 => ("LostSheets$Text", "number", "I", false)
  | _ => ("LostSheets$Text", "into", "LLostSheets$Office;", false)
def am_y6 : Nat → FieldType := fun k => match k with
  | 0 => (.array .byte)
  | 1 => .int
  | 2 => .int
  | 3 => .int
  | _ => (.object "LostSheets$Office")
def am_T7 : u_T := fun k => match k with
  | 0 => ("LostSheets$Trace", "kept", "[I", true)
  | _ => ("LostSheets$Trace", "ran", "I", false)
def am_y7 : Nat → FieldType := fun k => match k with
  | 0 => (.array .int)
  | _ => .int
def am_T8 : u_T := fun k => match k with
  | 0 => ("LostSheets", "now", "LLostSheets$Land;", true)
  | 1 => ("LostSheets", "imageLand", "LLostSheets$Land;", true)
  | 2 => ("LostSheets", "trial", "LLostSheets$Land;", true)
  | 3 => ("LostSheets", "byHand", "LLostSheets$ByHand;", true)
  | 4 => ("LostSheets", "imageByHand", "LLostSheets$ByHand;", true)
  | 5 => ("LostSheets", "imageTaken", "Z", false)
  | 6 => ("LostSheets", "text", "LLostSheets$Text;", true)
  | 7 => ("LostSheets", "offices", "[LLostSheets$Office;", true)
  | 8 => ("LostSheets", "officeCount", "I", false)
  | 9 => ("LostSheets", "bodies", "LLostSheets$Trace;", true)
  | _ => ("LostSheets", "tapes", "[LLostSheets$Tape;", true)
def am_y8 : Nat → FieldType := fun k => match k with
  | 0 => (.object "LostSheets$Land")
  | 1 => (.object "LostSheets$Land")
  | 2 => (.object "LostSheets$Land")
  | 3 => (.object "LostSheets$ByHand")
  | 4 => (.object "LostSheets$ByHand")
  | 5 => .boolean
  | 6 => (.object "LostSheets$Text")
  | 7 => (.array (.object "LostSheets$Office"))
  | 8 => .int
  | 9 => (.object "LostSheets$Trace")
  | _ => (.array (.object "LostSheets$Tape"))
def am_T9 : u_T := fun k => match k with
  | 0 => ("LostSheetsModel", "drawers", "I", false)
  | 1 => ("LostSheetsModel", "kind", "[I", true)
  | 2 => ("LostSheetsModel", "v", "[I", true)
  | 3 => ("LostSheetsModel", "cell", "[I", true)
  | 4 => ("LostSheetsModel", "sheeted", "[I", true)
  | 5 => ("LostSheetsModel", "done", "[I", true)
  | 6 => ("LostSheetsModel", "drew", "[I", true)
  | 7 => ("LostSheetsModel", "sheets", "[I", true)
  | 8 => ("LostSheetsModel", "rows", "[I", true)
  | 9 => ("LostSheetsModel", "marks", "[I", true)
  | 10 => ("LostSheetsModel", "drawn", "I", false)
  | 11 => ("LostSheetsModel", "hour", "I", false)
  | 12 => ("LostSheetsModel", "texted", "I", false)
  | 13 => ("LostSheetsModel", "text", "[I", true)
  | 14 => ("LostSheetsModel", "at", "I", false)
  | 15 => ("LostSheetsModel", "value", "I", false)
  | 16 => ("LostSheetsModel", "digits", "I", false)
  | 17 => ("LostSheetsModel", "open", "I", false)
  | 18 => ("LostSheetsModel", "offices", "I", false)
  | 19 => ("LostSheetsModel", "holds", "I", false)
  | 20 => ("LostSheetsModel", "clauses", "[I", true)
  | 21 => ("LostSheetsModel", "word", "[I", true)
  | 22 => ("LostSheetsModel", "number", "[I", true)
  | 23 => ("LostSheetsModel", "begins", "[I", true)
  | 24 => ("LostSheetsModel", "length", "[I", true)
  | 25 => ("LostSheetsModel", "code", "[I", true)
  | 26 => ("LostSheetsModel", "coded", "I", false)
  | 27 => ("LostSheetsModel", "stack", "[Z", true)
  | 28 => ("LostSheetsModel", "seen", "I", false)
  | 29 => ("LostSheetsModel", "seenOf", "[I", true)
  | 30 => ("LostSheetsModel", "seenIn", "[I", true)
  | 31 => ("LostSheetsModel", "seenMark", "[I", true)
  | 32 => ("LostSheetsModel", "inPlan", "I", false)
  | 33 => ("LostSheetsModel", "goes", "[I", true)
  | 34 => ("LostSheetsModel", "whose", "[I", true)
  | 35 => ("LostSheetsModel", "inBook", "I", false)
  | 36 => ("LostSheetsModel", "booked", "[I", true)
  | 37 => ("LostSheetsModel", "bookMark", "[I", true)
  | 38 => ("LostSheetsModel", "traced", "I", false)
  | 39 => ("LostSheetsModel", "traces", "[I", true)
  | 40 => ("LostSheetsModel", "imaged", "Z", false)
  | 41 => ("LostSheetsModel", "image", "[I", true)
  | 42 => ("LostSheetsModel", "ahead", "[I", true)
  | 43 => ("LostSheetsModel", "ways", "[I", true)
  | 44 => ("LostSheetsModel", "tapeSort", "[I", true)
  | 45 => ("LostSheetsModel", "tapeSize", "[I", true)
  | _ => ("LostSheetsModel", "items", "[J", true)
def am_y9 : Nat → FieldType := fun k => match k with
  | 0 => .int
  | 1 => (.array .int)
  | 2 => (.array .int)
  | 3 => (.array .int)
  | 4 => (.array .int)
  | 5 => (.array .int)
  | 6 => (.array .int)
  | 7 => (.array .int)
  | 8 => (.array .int)
  | 9 => (.array .int)
  | 10 => .int
  | 11 => .int
  | 12 => .int
  | 13 => (.array .int)
  | 14 => .int
  | 15 => .int
  | 16 => .int
  | 17 => .int
  | 18 => .int
  | 19 => .int
  | 20 => (.array .int)
  | 21 => (.array .int)
  | 22 => (.array .int)
  | 23 => (.array .int)
  | 24 => (.array .int)
  | 25 => (.array .int)
  | 26 => .int
  | 27 => (.array .boolean)
  | 28 => .int
  | 29 => (.array .int)
  | 30 => (.array .int)
  | 31 => (.array .int)
  | 32 => .int
  | 33 => (.array .int)
  | 34 => (.array .int)
  | 35 => .int
  | 36 => (.array .int)
  | 37 => (.array .int)
  | 38 => .int
  | 39 => (.array .int)
  | 40 => .boolean
  | 41 => (.array .int)
  | 42 => (.array .int)
  | 43 => (.array .int)
  | 44 => (.array .int)
  | 45 => (.array .int)
  | _ => (.array .long)
def am_T : Nat → u_T := fun o => match o with
  | 0 => am_T0
  | 1 => am_T1
  | 2 => am_T2
  | 3 => am_T3
  | 4 => am_T4
  | 5 => am_T5
  | 6 => am_T6
  | 7 => am_T7
  | 8 => am_T8
  | _ => am_T9
def am_y : Nat → Nat → FieldType := fun o => match o with
  | 0 => am_y0
  | 1 => am_y1
  | 2 => am_y2
  | 3 => am_y3
  | 4 => am_y4
  | 5 => am_y5
  | 6 => am_y6
  | 7 => am_y7
  | 8 => am_y8
  | _ => am_y9
def am_nf : Nat → Nat := fun o => match o with
  | 0 => 3
  | 1 => 10
  | 2 => 9
  | 3 => 4
  | 4 => 5
  | 5 => 3
  | 6 => 5
  | 7 => 2
  | 8 => 11
  | _ => 47
abbrev am_cl : List vw_C := [("LostSheets$ByHand", am_T0, 3), ("LostSheets$Drawer", am_T1, 10), ("LostSheets$Land", am_T2, 9), ("LostSheets$Office", am_T3, 4), ("LostSheets$Rows", am_T4, 5), ("LostSheets$Tape", am_T5, 3), ("LostSheets$Text", am_T6, 5), ("LostSheets$Trace", am_T7, 2), ("LostSheets", am_T8, 11), ("LostSheetsModel", am_T9, 47)]
def am_df : Nat → List Value := fun o => match o with
  | 0 => [.null, .null, .null]
  | 1 => [.int 0, .int 0, .int 0, .int 0, .int 0, .int 0, .int 0, .null, .null, .null]
  | 2 => [.null, .int 0, .int 0, .null, .null, .int 0, .null, .null, .null]
  | 3 => [.int 0, .null, .null, .int 0]
  | 4 => [.int 0, .null, .null, .null, .int 0]
  | 5 => [.int 0, .int 0, .null]
  | 6 => [.null, .int 0, .int 0, .int 0, .null]
  | 7 => [.null, .int 0]
  | 8 => [.null, .null, .null, .null, .null, .int 0, .null, .null, .int 0, .null, .null]
  | _ => [.int 0, .null, .null, .null, .null, .null, .null, .null, .null, .null, .int 0, .int 0, .int 0, .null, .int 0, .int 0, .int 0, .int 0, .int 0, .int 0, .null, .null, .null, .null, .null, .null, .int 0, .null, .int 0, .null, .null, .null, .int 0, .null, .null, .int 0, .null, .null, .int 0, .null, .int 0, .null, .null, .null, .null, .null, .null]
abbrev am_M : Type := Nat × (Option FieldType × (Nat × (Bool × List (Nat × (Instr × Nat)))))
def k_init_c0 : List (Nat × (Instr × Nat)) := [(0, .aload_n 0, 1), (1, .invokespecial 3, 3), (4, .aload_n 0, 1), (5, .new 9, 3), (8, .dup, 1), (9, .invokespecial 11, 3), (12, .putfield 12, 3), (15, .aload_n 0, 1), (16, .new 9, 3), (19, .dup, 1), (20, .invokespecial 11, 3), (23, .putfield 18, 3), (26, .aload_n 0, 1), (27, .new 9, 3), (30, .dup, 1), (31, .invokespecial 11, 3), (34, .putfield 21, 3), (37, .aload_n 0, 1), (38, .new 24, 3), (41, .dup, 1), (42, .invokespecial 26, 3), (45, .putfield 27, 3), (48, .aload_n 0, 1), (49, .new 24, 3), (52, .dup, 1), (53, .invokespecial 26, 3), (56, .putfield 31, 3), (59, .aload_n 0, 1), (60, .iconst 0, 1), (61, .putfield 34, 3), (64, .aload_n 0, 1), (65, .new 38, 3), (68, .dup, 1), (69, .invokespecial 40, 3), (72, .putfield 41, 3), (75, .aload_n 0, 1), (76, .bipush 6, 2), (78, .anewarray 45, 3), (81, .putfield 47, 3), (84, .aload_n 0, 1), (85, .iconst 0, 1), (86, .putfield 51, 3), (89, .aload_n 0, 1), (90, .new 55, 3), (93, .dup, 1), (94, .invokespecial 57, 3), (97, .putfield 58, 3), (100, .aload_n 0, 1), (101, .bipush 6, 2), (103, .anewarray 62, 3), (106, .putfield 64, 3), (109, .iconst 0, 1), (110, .istore_n 1, 1), (111, .iload_n 1, 1), (112, .bipush 6, 2), (114, .if_icmp .ge 22, 3), (117, .aload_n 0, 1), (118, .getfield 47, 3), (121, .iload_n 1, 1), (122, .new 45, 3)]
def k_init_c1 : List (Nat × (Instr × Nat)) := [(125, .dup, 1), (126, .invokespecial 68, 3), (129, .aastore, 1), (130, .iinc 1 1, 3), (133, .goto (-22), 3), (136, .iconst 0, 1), (137, .istore_n 1, 1), (138, .iload_n 1, 1), (139, .bipush 6, 2), (141, .if_icmp .ge 22, 3), (144, .aload_n 0, 1), (145, .getfield 64, 3), (148, .iload_n 1, 1), (149, .new 62, 3), (152, .dup, 1), (153, .invokespecial 69, 3), (156, .aastore, 1), (157, .iinc 1 1, 3), (160, .goto (-22), 3), (163, .return_, 1)]
def k_init : am_M := (8, none, 2, true, k_init_c0 ++ (k_init_c1))
def la_init_c0 : List (Nat × (Instr × Nat)) := [(0, .aload_n 0, 1), (1, .invokespecial 3, 3), (4, .aload_n 0, 1), (5, .bipush 16, 2), (7, .newarray .int, 2), (9, .putfield 9, 3), (12, .aload_n 0, 1), (13, .iconst 0, 1), (14, .putfield 15, 3), (17, .aload_n 0, 1), (18, .iconst 0, 1), (19, .putfield 19, 3), (22, .aload_n 0, 1), (23, .aconst_null, 1), (24, .putfield 22, 3), (27, .aload_n 0, 1), (28, .bipush 6, 2), (30, .anewarray 26, 3), (33, .putfield 28, 3), (36, .aload_n 0, 1), (37, .iconst 0, 1), (38, .putfield 32, 3), (41, .aload_n 0, 1), (42, .bipush 6, 2), (44, .newarray .int, 2), (46, .putfield 35, 3), (49, .aload_n 0, 1), (50, .bipush 6, 2), (52, .newarray .int, 2), (54, .putfield 40, 3), (57, .aload_n 0, 1), (58, .bipush 8, 2), (60, .newarray .int, 2), (62, .putfield 43, 3), (65, .iconst 0, 1), (66, .istore_n 1, 1), (67, .iload_n 1, 1), (68, .bipush 16, 2), (70, .if_icmp .ge 19, 3), (73, .aload_n 0, 1), (74, .getfield 9, 3), (77, .iload_n 1, 1), (78, .iload_n 1, 1), (79, .bipush 8, 2), (81, .irem, 1), (82, .iastore, 1), (83, .iinc 1 1, 3), (86, .goto (-19), 3), (89, .iconst 0, 1), (90, .istore_n 1, 1), (91, .iload_n 1, 1), (92, .bipush 6, 2), (94, .if_icmp .ge 23, 3), (97, .aload_n 0, 1), (98, .getfield 28, 3), (101, .iload_n 1, 1), (102, .new 26, 3), (105, .dup, 1), (106, .iload_n 1, 1), (107, .invokespecial 46, 3)]
def la_init_c1 : List (Nat × (Instr × Nat)) := [(110, .aastore, 1), (111, .iinc 1 1, 3), (114, .goto (-23), 3), (117, .return_, 1)]
def la_init : am_M := (2, none, 2, true, la_init_c0 ++ (la_init_c1))
def dr_init_c0 : List (Nat × (Instr × Nat)) := [(0, .aload_n 0, 1), (1, .invokespecial 3, 3), (4, .aload_n 0, 1), (5, .iconst 0, 1), (6, .putfield 9, 3), (9, .aload_n 0, 1), (10, .iconst 0, 1), (11, .putfield 15, 3), (14, .aload_n 0, 1), (15, .iconst 0, 1), (16, .putfield 18, 3), (19, .aload_n 0, 1), (20, .iconst 0, 1), (21, .putfield 21, 3), (24, .aload_n 0, 1), (25, .iconst 0, 1), (26, .putfield 24, 3), (29, .aload_n 0, 1), (30, .iconst 0, 1), (31, .putfield 27, 3), (34, .aload_n 0, 1), (35, .bipush 8, 2), (37, .newarray .int, 2), (39, .putfield 31, 3), (42, .aload_n 0, 1), (43, .bipush 8, 2), (45, .newarray .int, 2), (47, .putfield 35, 3), (50, .aload_n 0, 1), (51, .iconst 4, 1), (52, .newarray .int, 2), (54, .putfield 38, 3), (57, .aload_n 0, 1), (58, .iload_n 1, 1), (59, .putfield 41, 3), (62, .return_, 1)]
def dr_init : am_M := (1, none, 2, true, dr_init_c0)
def bh_init_c0 : List (Nat × (Instr × Nat)) := [(0, .aload_n 0, 1), (1, .invokespecial 3, 3), (4, .aload_n 0, 1), (5, .new 9, 3), (8, .dup, 1), (9, .iconst 5, 1), (10, .invokespecial 11, 3), (13, .putfield 14, 3), (16, .aload_n 0, 1), (17, .new 9, 3), (20, .dup, 1), (21, .bipush 10, 2), (23, .invokespecial 11, 3), (26, .putfield 20, 3), (29, .aload_n 0, 1), (30, .new 9, 3), (33, .dup, 1), (34, .bipush 8, 2), (36, .invokespecial 11, 3), (39, .putfield 23, 3), (42, .return_, 1)]
def bh_init : am_M := (0, none, 1, true, bh_init_c0)
def ro_init_c0 : List (Nat × (Instr × Nat)) := [(0, .aload_n 0, 1), (1, .invokespecial 1, 3), (4, .aload_n 0, 1), (5, .iconst 0, 1), (6, .putfield 7, 3), (9, .aload_n 0, 1), (10, .iload_n 1, 1), (11, .iconst 0, 1), (12, .invokestatic 13, 3), (15, .putfield 19, 3), (18, .aload_n 0, 1), (19, .aload_n 0, 1), (20, .getfield 19, 3), (23, .newarray .int, 2), (25, .putfield 22, 3), (28, .aload_n 0, 1), (29, .aload_n 0, 1), (30, .getfield 19, 3), (33, .newarray .int, 2), (35, .putfield 26, 3), (38, .aload_n 0, 1), (39, .aload_n 0, 1), (40, .getfield 19, 3), (43, .newarray .int, 2), (45, .putfield 29, 3), (48, .return_, 1)]
def ro_init : am_M := (4, none, 2, true, ro_init_c0)
def jm_max_c0 : List (Nat × (Instr × Nat)) := [(0, .iload_n 0, 1), (1, .iload_n 1, 1), (2, .if_icmp .lt 7, 3), (5, .iload_n 0, 1), (6, .goto 4, 3), (9, .iload_n 1, 1), (10, .ireturn, 1)]
def jm_max : am_M := (13, some .int, 2, false, jm_max_c0)
def tx_init_c0 : List (Nat × (Instr × Nat)) := [(0, .aload_n 0, 1), (1, .invokespecial 3, 3), (4, .aload_n 0, 1), (5, .bipush 100, 2), (7, .newarray .byte, 2), (9, .putfield 9, 3), (12, .aload_n 0, 1), (13, .iconst 0, 1), (14, .putfield 15, 3), (17, .aload_n 0, 1), (18, .iconst 0, 1), (19, .putfield 19, 3), (22, .aload_n 0, 1), (23, .iconst 0, 1), (24, .putfield 22, 3), (27, .aload_n 0, 1), (28, .aconst_null, 1), (29, .putfield 25, 3), (32, .return_, 1)]
def tx_init : am_M := (6, none, 1, true, tx_init_c0)
def tr_init_c0 : List (Nat × (Instr × Nat)) := [(0, .aload_n 0, 1), (1, .invokespecial 3, 3), (4, .aload_n 0, 1), (5, .bipush 20, 2), (7, .newarray .int, 2), (9, .putfield 11, 3), (12, .aload_n 0, 1), (13, .iconst 0, 1), (14, .putfield 15, 3), (17, .return_, 1)]
def tr_init : am_M := (7, none, 1, true, tr_init_c0)
def of_init_c0 : List (Nat × (Instr × Nat)) := [(0, .aload_n 0, 1), (1, .invokespecial 3, 3), (4, .aload_n 0, 1), (5, .iconst 3, 1), (6, .putfield 9, 3), (9, .aload_n 0, 1), (10, .bipush 100, 2), (12, .newarray .int, 2), (14, .putfield 15, 3), (17, .aload_n 0, 1), (18, .bipush 100, 2), (20, .newarray .int, 2), (22, .putfield 19, 3), (25, .aload_n 0, 1), (26, .iconst 0, 1), (27, .putfield 22, 3), (30, .return_, 1)]
def of_init : am_M := (3, none, 1, true, of_init_c0)
def tp_init_c0 : List (Nat × (Instr × Nat)) := [(0, .aload_n 0, 1), (1, .invokespecial 3, 3), (4, .aload_n 0, 1), (5, .iconst (-1), 1), (6, .putfield 9, 3), (9, .aload_n 0, 1), (10, .iconst 0, 1), (11, .putfield 15, 3), (14, .aload_n 0, 1), (15, .bipush 60, 2), (17, .newarray .long, 2), (19, .putfield 18, 3), (22, .return_, 1)]
def tp_init : am_M := (5, none, 1, true, tp_init_c0)
def k_drawer_c0 : List (Nat × (Instr × Nat)) := [(0, .iload_n 1, 1), (1, .ifCond .lt 16, 3), (4, .iload_n 1, 1), (5, .bipush 7, 2), (7, .if_icmp .ge 10, 3), (10, .iload_n 3, 1), (11, .invokestatic 70, 3), (14, .ifCond .ne 5, 3), (17, .iconst (-1), 1), (18, .ireturn, 1), (19, .iload_n 2, 1), (20, .invokestatic 74, 3), (23, .ifCond .ne 6, 3), (26, .bipush (-2), 2), (28, .ireturn, 1), (29, .aload_n 0, 1), (30, .getfield 12, 3), (33, .iload_n 1, 1), (34, .iload_n 2, 1), (35, .iload_n 3, 1), (36, .invokevirtual 77, 3), (39, .ifCond .eq 15, 3), (42, .aload_n 0, 1), (43, .getfield 12, 3), (46, .getfield 81, 3), (49, .iconst 1, 1), (50, .isub, 1), (51, .goto 5, 3), (54, .bipush (-4), 2), (56, .ireturn, 1)]
def k_drawer : am_M := (8, some .int, 4, false, k_drawer_c0)
def k_isCell_c0 : List (Nat × (Instr × Nat)) := [(0, .iload_n 0, 1), (1, .ifCond .lt 13, 3), (4, .iload_n 0, 1), (5, .bipush 16, 2), (7, .if_icmp .ge 7, 3), (10, .iconst 1, 1), (11, .goto 4, 3), (14, .iconst 0, 1), (15, .ireturn, 1)]
def k_isCell : am_M := (8, some .boolean, 1, false, k_isCell_c0)
def k_isDigit_c0 : List (Nat × (Instr × Nat)) := [(0, .iload_n 0, 1), (1, .ifCond .lt 13, 3), (4, .iload_n 0, 1), (5, .bipush 9, 2), (7, .if_icmp .gt 7, 3), (10, .iconst 1, 1), (11, .goto 4, 3), (14, .iconst 0, 1), (15, .ireturn, 1)]
def k_isDigit : am_M := (8, some .boolean, 1, false, k_isDigit_c0)
def la_addDrawer_c0 : List (Nat × (Instr × Nat)) := [(0, .aload_n 0, 1), (1, .getfield 32, 3), (4, .ifCond .lt 12, 3), (7, .aload_n 0, 1), (8, .getfield 32, 3), (11, .bipush 6, 2), (13, .if_icmp .lt 5, 3), (16, .iconst 0, 1), (17, .ireturn, 1), (18, .aload_n 0, 1), (19, .getfield 28, 3), (22, .aload_n 0, 1), (23, .getfield 32, 3), (26, .aaload, 1), (27, .iload_n 1, 1), (28, .iload_n 2, 1), (29, .iload_n 3, 1), (30, .invokevirtual 59, 3), (33, .aload_n 0, 1), (34, .dup, 1), (35, .getfield 32, 3), (38, .iconst 1, 1), (39, .iadd, 1), (40, .putfield 32, 3), (43, .iconst 1, 1), (44, .ireturn, 1)]
def la_addDrawer : am_M := (2, some .boolean, 4, false, la_addDrawer_c0)
def dr_begins_c0 : List (Nat × (Instr × Nat)) := [(0, .aload_n 0, 1), (1, .iload_n 1, 1), (2, .putfield 9, 3), (5, .aload_n 0, 1), (6, .iload_n 2, 1), (7, .putfield 15, 3), (10, .aload_n 0, 1), (11, .iload_n 3, 1), (12, .putfield 18, 3), (15, .aload_n 0, 1), (16, .iconst 0, 1), (17, .putfield 21, 3), (20, .aload_n 0, 1), (21, .iconst 0, 1), (22, .putfield 24, 3), (25, .aload_n 0, 1), (26, .iconst 0, 1), (27, .putfield 27, 3), (30, .iconst 0, 1), (31, .istore 4, 2), (33, .iload 4, 2), (35, .iconst 4, 1), (36, .if_icmp .ge 17, 3), (39, .aload_n 0, 1), (40, .getfield 38, 3), (43, .iload 4, 2), (45, .iconst 0, 1), (46, .iastore, 1), (47, .iinc 4 1, 3), (50, .goto (-17), 3), (53, .return_, 1)]
def dr_begins : am_M := (1, none, 5, false, dr_begins_c0)
def k_of_c0 : List (Nat × (Instr × Nat)) := [(0, .aload_n 0, 1), (1, .getfield 12, 3), (4, .iload_n 1, 1), (5, .invokevirtual 84, 3), (8, .astore_n 3, 1), (9, .aload_n 3, 1), (10, .ifnonnull 7, 3), (13, .sipush (-10001), 3), (16, .ireturn, 1), (17, .iload_n 2, 1), (18, .tableswitch 151 0 11 #[62, 67, 72, 77, 82, 95, 100, 109, 118, 127, 136, 145], 62), (80, .aload_n 3, 1), (81, .getfield 88, 3), (84, .ireturn, 1), (85, .aload_n 3, 1), (86, .getfield 93, 3), (89, .ireturn, 1), (90, .aload_n 3, 1), (91, .getfield 96, 3), (94, .ireturn, 1), (95, .aload_n 3, 1), (96, .getfield 99, 3), (99, .ireturn, 1), (100, .aload_n 3, 1), (101, .getfield 102, 3), (104, .ifCond .eq 7, 3), (107, .iconst 1, 1), (108, .goto 4, 3), (111, .iconst 0, 1), (112, .ireturn, 1), (113, .aload_n 3, 1), (114, .getfield 105, 3), (117, .ireturn, 1), (118, .aload_n 0, 1), (119, .getfield 12, 3), (122, .aload_n 3, 1), (123, .invokevirtual 108, 3), (126, .ireturn, 1), (127, .aload_n 0, 1), (128, .getfield 12, 3), (131, .aload_n 3, 1), (132, .invokevirtual 112, 3), (135, .ireturn, 1), (136, .aload_n 0, 1), (137, .getfield 12, 3), (140, .aload_n 3, 1), (141, .invokevirtual 115, 3), (144, .ireturn, 1), (145, .aload_n 0, 1), (146, .getfield 12, 3), (149, .aload_n 3, 1), (150, .invokevirtual 118, 3), (153, .ireturn, 1), (154, .aload_n 0, 1), (155, .getfield 12, 3), (158, .aload_n 3, 1), (159, .invokevirtual 121, 3), (162, .ireturn, 1), (163, .aload_n 0, 1), (164, .aload_n 3, 1)]
def k_of_c1 : List (Nat × (Instr × Nat)) := [(165, .invokevirtual 124, 3), (168, .ireturn, 1), (169, .sipush (-10001), 3), (172, .ireturn, 1)]
def k_of : am_M := (8, some .int, 4, false, k_of_c0 ++ (k_of_c1))
def la_drawerAt_c0 : List (Nat × (Instr × Nat)) := [(0, .iload_n 1, 1), (1, .ifCond .lt 26, 3), (4, .iload_n 1, 1), (5, .aload_n 0, 1), (6, .getfield 32, 3), (9, .if_icmp .ge 18, 3), (12, .iload_n 1, 1), (13, .bipush 6, 2), (15, .if_icmp .ge 12, 3), (18, .aload_n 0, 1), (19, .getfield 28, 3), (22, .iload_n 1, 1), (23, .aaload, 1), (24, .goto 4, 3), (27, .aconst_null, 1), (28, .areturn, 1)]
def la_drawerAt : am_M := (2, some (.object "LostSheets$Drawer"), 2, false, la_drawerAt_c0)
def la_feelOf_c0 : List (Nat × (Instr × Nat)) := [(0, .aload_n 0, 1), (1, .getfield 22, 3), (4, .ifnonnull 7, 3), (7, .iconst 0, 1), (8, .goto 15, 3), (11, .aload_n 0, 1), (12, .getfield 22, 3), (15, .aload_n 0, 1), (16, .aload_n 1, 1), (17, .invokevirtual 109, 3), (20, .invokevirtual 113, 3), (23, .istore_n 2, 1), (24, .aload_n 1, 1), (25, .getfield 77, 3), (28, .aload_n 0, 1), (29, .getfield 19, 3), (32, .bipush 10, 2), (34, .irem, 1), (35, .iadd, 1), (36, .iload_n 2, 1), (37, .iadd, 1), (38, .istore_n 3, 1), (39, .aload_n 1, 1), (40, .getfield 102, 3), (43, .tableswitch 118 1 6 #[37, 44, 48, 56, 83, 96], 37), (80, .iload_n 3, 1), (81, .aload_n 1, 1), (82, .getfield 77, 3), (85, .iadd, 1), (86, .ireturn, 1), (87, .iload_n 3, 1), (88, .iconst 2, 1), (89, .idiv, 1), (90, .ireturn, 1), (91, .iload_n 3, 1), (92, .aload_n 0, 1), (93, .aload_n 1, 1), (94, .invokevirtual 117, 3), (97, .iadd, 1), (98, .ireturn, 1), (99, .aload_n 1, 1), (100, .getfield 80, 3), (103, .ifCond .ne 16, 3), (106, .iconst 2, 1), (107, .iload_n 3, 1), (108, .aload_n 1, 1), (109, .getfield 77, 3), (112, .iadd, 1), (113, .imul, 1), (114, .iconst 1, 1), (115, .iadd, 1), (116, .goto 9, 3), (119, .iload_n 3, 1), (120, .aload_n 1, 1), (121, .getfield 77, 3), (124, .iadd, 1), (125, .ireturn, 1), (126, .iload_n 3, 1), (127, .iconst 2, 1), (128, .idiv, 1)]
def la_feelOf_c1 : List (Nat × (Instr × Nat)) := [(129, .aload_n 0, 1), (130, .aload_n 1, 1), (131, .getfield 74, 3), (134, .invokevirtual 105, 3), (137, .iadd, 1), (138, .ireturn, 1), (139, .iload_n 3, 1), (140, .aload_n 0, 1), (141, .aload_n 1, 1), (142, .invokevirtual 117, 3), (145, .iadd, 1), (146, .aload_n 1, 1), (147, .getfield 121, 3), (150, .aload_n 0, 1), (151, .getfield 19, 3), (154, .iconst 4, 1), (155, .invokestatic 124, 3), (158, .iaload, 1), (159, .iadd, 1), (160, .ireturn, 1), (161, .iload_n 3, 1), (162, .ireturn, 1)]
def la_feelOf : am_M := (2, some .int, 4, false, la_feelOf_c0 ++ (la_feelOf_c1))
def la_answersOf_c0 : List (Nat × (Instr × Nat)) := [(0, .aload_n 0, 1), (1, .getfield 40, 3), (4, .iconst 0, 1), (5, .aload_n 1, 1), (6, .getfield 99, 3), (9, .iastore, 1), (10, .aload_n 0, 1), (11, .getfield 40, 3), (14, .iconst 1, 1), (15, .aload_n 1, 1), (16, .getfield 102, 3), (19, .iastore, 1), (20, .aload_n 0, 1), (21, .getfield 40, 3), (24, .iconst 2, 1), (25, .aload_n 1, 1), (26, .getfield 77, 3), (29, .iastore, 1), (30, .aload_n 0, 1), (31, .getfield 40, 3), (34, .iconst 3, 1), (35, .aload_n 0, 1), (36, .aload_n 1, 1), (37, .getfield 74, 3), (40, .invokevirtual 105, 3), (43, .iastore, 1), (44, .aload_n 0, 1), (45, .getfield 40, 3), (48, .iconst 4, 1), (49, .aload_n 1, 1), (50, .getfield 80, 3), (53, .iastore, 1), (54, .aload_n 0, 1), (55, .getfield 40, 3), (58, .iconst 5, 1), (59, .aload_n 0, 1), (60, .getfield 19, 3), (63, .bipush 10, 2), (65, .irem, 1), (66, .iastore, 1), (67, .aload_n 0, 1), (68, .getfield 40, 3), (71, .areturn, 1)]
def la_answersOf : am_M := (2, some (.array .int), 2, false, la_answersOf_c0)
def la_markAt_c0 : List (Nat × (Instr × Nat)) := [(0, .iload_n 1, 1), (1, .ifCond .lt 18, 3), (4, .iload_n 1, 1), (5, .bipush 16, 2), (7, .if_icmp .ge 12, 3), (10, .aload_n 0, 1), (11, .getfield 9, 3), (14, .iload_n 1, 1), (15, .iaload, 1), (16, .goto 4, 3), (19, .iconst 0, 1), (20, .ireturn, 1)]
def la_markAt : am_M := (2, some .int, 2, false, la_markAt_c0)
def of_turnsBy_c0 : List (Nat × (Instr × Nat)) := [(0, .iconst 0, 1), (1, .istore_n 2, 1), (2, .iconst 0, 1), (3, .istore_n 3, 1), (4, .iconst 0, 1), (5, .istore 4, 2), (7, .iload 4, 2), (9, .aload_n 0, 1), (10, .getfield 22, 3), (13, .if_icmp .ge 152, 3), (16, .iload 4, 2), (18, .bipush 100, 2), (20, .if_icmp .ge 145, 3), (23, .aload_n 0, 1), (24, .getfield 15, 3), (27, .iload 4, 2), (29, .iaload, 1), (30, .istore 5, 2), (32, .iload_n 3, 1), (33, .iconst 1, 1), (34, .iand, 1), (35, .istore 6, 2), (37, .iload 5, 2), (39, .tableswitch 102 18 22 #[33, 40, 52, 62, 82], 33), (72, .iload_n 3, 1), (73, .iconst 1, 1), (74, .ixor, 1), (75, .istore_n 3, 1), (76, .goto 83, 3), (79, .iload_n 3, 1), (80, .iconst 1, 1), (81, .ishr, 1), (82, .iload 6, 2), (84, .iconst 2, 1), (85, .isub, 1), (86, .iand, 1), (87, .istore_n 3, 1), (88, .goto 71, 3), (91, .iload_n 3, 1), (92, .iconst 1, 1), (93, .ishr, 1), (94, .iload 6, 2), (96, .ior, 1), (97, .istore_n 3, 1), (98, .goto 61, 3), (101, .iload_n 2, 1), (102, .iload 6, 2), (104, .aload_n 0, 1), (105, .getfield 19, 3), (108, .iload 4, 2), (110, .iaload, 1), (111, .imul, 1), (112, .iadd, 1), (113, .istore_n 2, 1), (114, .iload_n 3, 1), (115, .iconst 1, 1), (116, .ishr, 1), (117, .istore_n 3, 1), (118, .goto 41, 3), (121, .iload_n 2, 1)]
def of_turnsBy_c1 : List (Nat × (Instr × Nat)) := [(122, .iload 6, 2), (124, .aload_n 0, 1), (125, .getfield 19, 3), (128, .iload 4, 2), (130, .iaload, 1), (131, .imul, 1), (132, .isub, 1), (133, .istore_n 2, 1), (134, .iload_n 3, 1), (135, .iconst 1, 1), (136, .ishr, 1), (137, .istore_n 3, 1), (138, .goto 21, 3), (141, .iload_n 3, 1), (142, .iconst 1, 1), (143, .ishl, 1), (144, .aload_n 1, 1), (145, .iload 5, 2), (147, .aload_n 0, 1), (148, .getfield 19, 3), (151, .iload 4, 2), (153, .iaload, 1), (154, .invokestatic 25, 3), (157, .ior, 1), (158, .istore_n 3, 1), (159, .iinc 4 1, 3), (162, .goto (-155), 3), (165, .iload_n 2, 1), (166, .ireturn, 1)]
def of_turnsBy : am_M := (3, some .int, 7, false, of_turnsBy_c0 ++ (of_turnsBy_c1))
def of_holds_c0 : List (Nat × (Instr × Nat)) := [(0, .iload_n 1, 1), (1, .iconst 3, 1), (2, .idiv, 1), (3, .istore_n 3, 1), (4, .iload_n 3, 1), (5, .ifCond .lt 15, 3), (8, .iload_n 3, 1), (9, .bipush 6, 2), (11, .if_icmp .ge 9, 3), (14, .iload_n 3, 1), (15, .aload_n 0, 1), (16, .arraylength, 1), (17, .if_icmp .lt 5, 3), (20, .iconst 0, 1), (21, .ireturn, 1), (22, .aload_n 0, 1), (23, .iload_n 3, 1), (24, .iaload, 1), (25, .istore 4, 2), (27, .iload 4, 2), (29, .iload_n 2, 1), (30, .if_icmp .ge 7, 3), (33, .iconst 0, 1), (34, .goto 14, 3), (37, .iload 4, 2), (39, .iload_n 2, 1), (40, .if_icmp .ne 7, 3), (43, .iconst 1, 1), (44, .goto 4, 3), (47, .iconst 2, 1), (48, .istore 5, 2), (50, .iload_n 1, 1), (51, .iconst 3, 1), (52, .irem, 1), (53, .iload 5, 2), (55, .if_icmp .ne 7, 3), (58, .iconst 1, 1), (59, .goto 4, 3), (62, .iconst 0, 1), (63, .ireturn, 1)]
def of_holds : am_M := (3, some .int, 6, false, of_holds_c0)
def la_othersWith_c0 : List (Nat × (Instr × Nat)) := [(0, .iconst 0, 1), (1, .istore_n 2, 1), (2, .iconst 0, 1), (3, .istore_n 3, 1), (4, .iload_n 3, 1), (5, .aload_n 0, 1), (6, .getfield 32, 3), (9, .if_icmp .ge 42, 3), (12, .iload_n 3, 1), (13, .bipush 6, 2), (15, .if_icmp .ge 36, 3), (18, .iload_n 3, 1), (19, .aload_n 1, 1), (20, .getfield 99, 3), (23, .if_icmp .eq 22, 3), (26, .aload_n 0, 1), (27, .getfield 28, 3), (30, .iload_n 3, 1), (31, .aaload, 1), (32, .getfield 74, 3), (35, .aload_n 1, 1), (36, .getfield 74, 3), (39, .if_icmp .ne 6, 3), (42, .iinc 2 1, 3), (45, .iinc 3 1, 3), (48, .goto (-44), 3), (51, .iload_n 2, 1), (52, .ireturn, 1)]
def la_othersWith : am_M := (2, some .int, 4, false, la_othersWith_c0)
def jm_floorMod_c0 : List (Nat × (Instr × Nat)) := [(0, .iload_n 0, 1), (1, .iload_n 1, 1), (2, .irem, 1), (3, .istore_n 2, 1), (4, .iload_n 0, 1), (5, .iload_n 1, 1), (6, .ixor, 1), (7, .ifCond .ge 11, 3), (10, .iload_n 2, 1), (11, .ifCond .eq 7, 3), (14, .iload_n 2, 1), (15, .iload_n 1, 1), (16, .iadd, 1), (17, .ireturn, 1), (18, .iload_n 2, 1), (19, .ireturn, 1)]
def jm_floorMod : am_M := (13, some .int, 3, false, jm_floorMod_c0)
def la_wayOf_c0 : List (Nat × (Instr × Nat)) := [(0, .aload_n 0, 1), (1, .aload_n 1, 1), (2, .invokevirtual 127, 3), (5, .iconst 4, 1), (6, .invokestatic 124, 3), (9, .ireturn, 1)]
def la_wayOf : am_M := (2, some .int, 2, false, la_wayOf_c0)
def la_cameOf_c0 : List (Nat × (Instr × Nat)) := [(0, .iconst 0, 1), (1, .istore_n 2, 1), (2, .iconst 0, 1), (3, .istore_n 3, 1), (4, .iload_n 3, 1), (5, .bipush 16, 2), (7, .if_icmp .ge 24, 3), (10, .aload_n 0, 1), (11, .aload_n 1, 1), (12, .iload_n 3, 1), (13, .invokevirtual 163, 3), (16, .ifCond .lt 9, 3), (19, .iload_n 2, 1), (20, .iconst 1, 1), (21, .iload_n 3, 1), (22, .ishl, 1), (23, .ior, 1), (24, .istore_n 2, 1), (25, .iinc 3 1, 3), (28, .goto (-24), 3), (31, .iload_n 2, 1), (32, .ireturn, 1)]
def la_cameOf : am_M := (2, some .int, 4, false, la_cameOf_c0)
def la_endBySheet_c0 : List (Nat × (Instr × Nat)) := [(0, .iload_n 2, 1), (1, .istore_n 3, 1), (2, .iconst 0, 1), (3, .istore 4, 2), (5, .iload 4, 2), (7, .aload_n 1, 1), (8, .getfield 80, 3), (11, .if_icmp .ge 45, 3), (14, .iload 4, 2), (16, .bipush 8, 2), (18, .if_icmp .ge 38, 3), (21, .iload_n 3, 1), (22, .aload_n 1, 1), (23, .getfield 157, 3), (26, .iload 4, 2), (28, .iaload, 1), (29, .invokestatic 141, 3), (32, .istore_n 3, 1), (33, .aload_n 0, 1), (34, .iload_n 3, 1), (35, .invokevirtual 105, 3), (38, .aload_n 1, 1), (39, .getfield 160, 3), (42, .iload 4, 2), (44, .iaload, 1), (45, .if_icmp .eq 5, 3), (48, .iconst (-1), 1), (49, .ireturn, 1), (50, .iinc 4 1, 3), (53, .goto (-48), 3), (56, .iload_n 3, 1), (57, .ireturn, 1)]
def la_endBySheet : am_M := (2, some .int, 5, false, la_endBySheet_c0)
def la_stepFrom_c0 : List (Nat × (Instr × Nat)) := [(0, .iload_n 0, 1), (1, .iconst 4, 1), (2, .idiv, 1), (3, .istore_n 2, 1), (4, .iload_n 0, 1), (5, .iconst 4, 1), (6, .irem, 1), (7, .istore_n 3, 1), (8, .iload_n 1, 1), (9, .tableswitch 81 0 3 #[31, 43, 55, 68], 31), (40, .iload_n 2, 1), (41, .ifCond .le 9, 3), (44, .iload_n 0, 1), (45, .iconst 4, 1), (46, .isub, 1), (47, .goto 4, 3), (50, .iload_n 0, 1), (51, .ireturn, 1), (52, .iload_n 3, 1), (53, .ifCond .le 9, 3), (56, .iload_n 0, 1), (57, .iconst 1, 1), (58, .isub, 1), (59, .goto 4, 3), (62, .iload_n 0, 1), (63, .ireturn, 1), (64, .iload_n 3, 1), (65, .iconst 3, 1), (66, .if_icmp .ge 9, 3), (69, .iload_n 0, 1), (70, .iconst 1, 1), (71, .iadd, 1), (72, .goto 4, 3), (75, .iload_n 0, 1), (76, .ireturn, 1), (77, .iload_n 2, 1), (78, .iconst 3, 1), (79, .if_icmp .ge 9, 3), (82, .iload_n 0, 1), (83, .iconst 4, 1), (84, .iadd, 1), (85, .goto 4, 3), (88, .iload_n 0, 1), (89, .ireturn, 1), (90, .iload_n 0, 1), (91, .ireturn, 1)]
def la_stepFrom : am_M := (2, some .int, 4, false, la_stepFrom_c0)
def la_hereOf_c0 : List (Nat × (Instr × Nat)) := [(0, .iconst 0, 1), (1, .istore_n 2, 1), (2, .iconst 0, 1), (3, .istore_n 3, 1), (4, .iload_n 3, 1), (5, .bipush 16, 2), (7, .if_icmp .ge 29, 3), (10, .aload_n 0, 1), (11, .aload_n 1, 1), (12, .iload_n 3, 1), (13, .invokevirtual 163, 3), (16, .istore 4, 2), (18, .iload 4, 2), (20, .ifCond .lt 10, 3), (23, .iload_n 2, 1), (24, .iconst 1, 1), (25, .iload 4, 2), (27, .ishl, 1), (28, .ior, 1), (29, .istore_n 2, 1), (30, .iinc 3 1, 3), (33, .goto (-29), 3), (36, .iload_n 2, 1), (37, .ireturn, 1)]
def la_hereOf : am_M := (2, some .int, 5, false, la_hereOf_c0)
def la_lookOf_c0 : List (Nat × (Instr × Nat)) := [(0, .aload_n 0, 1), (1, .aload_n 1, 1), (2, .invokevirtual 167, 3), (5, .istore_n 2, 1), (6, .iload_n 2, 1), (7, .ifCond .ne 6, 3), (10, .bipush (-5), 2), (12, .ireturn, 1), (13, .iconst 0, 1), (14, .istore_n 3, 1), (15, .bipush 17, 2), (17, .istore 4, 2), (19, .iconst 0, 1), (20, .istore 5, 2), (22, .iload 5, 2), (24, .iconst 4, 1), (25, .if_icmp .ge 32, 3), (28, .aload_n 0, 1), (29, .iload_n 2, 1), (30, .iload 5, 2), (32, .invokevirtual 170, 3), (35, .istore 6, 2), (37, .iload 6, 2), (39, .iload 4, 2), (41, .if_icmp .ge 10, 3), (44, .iload 6, 2), (46, .istore 4, 2), (48, .iload 5, 2), (50, .istore_n 3, 1), (51, .iinc 5 1, 3), (54, .goto (-32), 3), (57, .iload_n 3, 1), (58, .ireturn, 1)]
def la_lookOf : am_M := (2, some .int, 7, false, la_lookOf_c0)
def la_mostAtOneMark_c0 : List (Nat × (Instr × Nat)) := [(0, .iconst 0, 1), (1, .istore_n 3, 1), (2, .iload_n 3, 1), (3, .bipush 8, 2), (5, .if_icmp .ge 16, 3), (8, .aload_n 0, 1), (9, .getfield 43, 3), (12, .iload_n 3, 1), (13, .iconst 0, 1), (14, .iastore, 1), (15, .iinc 3 1, 3), (18, .goto (-16), 3), (21, .iconst 0, 1), (22, .istore_n 3, 1), (23, .iconst 0, 1), (24, .istore 4, 2), (26, .iload 4, 2), (28, .bipush 16, 2), (30, .if_icmp .ge 62, 3), (33, .aload_n 0, 1), (34, .iload 4, 2), (36, .iload_n 2, 1), (37, .invokestatic 141, 3), (40, .invokevirtual 105, 3), (43, .istore 5, 2), (45, .iload_n 1, 1), (46, .iload 4, 2), (48, .ishr, 1), (49, .iconst 1, 1), (50, .iand, 1), (51, .iconst 1, 1), (52, .if_icmp .ne 34, 3), (55, .iload 5, 2), (57, .invokestatic 67, 3), (60, .ifCond .eq 26, 3), (63, .aload_n 0, 1), (64, .getfield 43, 3), (67, .iload 5, 2), (69, .dup2, 1), (70, .iaload, 1), (71, .iconst 1, 1), (72, .iadd, 1), (73, .iastore, 1), (74, .iload_n 3, 1), (75, .aload_n 0, 1), (76, .getfield 43, 3), (79, .iload 5, 2), (81, .iaload, 1), (82, .invokestatic 173, 3), (85, .istore_n 3, 1), (86, .iinc 4 1, 3), (89, .goto (-63), 3), (92, .iload_n 3, 1), (93, .ireturn, 1)]
def la_mostAtOneMark : am_M := (2, some .int, 6, false, la_mostAtOneMark_c0)
def k_isMark_c0 : List (Nat × (Instr × Nat)) := [(0, .iload_n 0, 1), (1, .ifCond .lt 13, 3), (4, .iload_n 0, 1), (5, .bipush 8, 2), (7, .if_icmp .ge 7, 3), (10, .iconst 1, 1), (11, .goto 4, 3), (14, .iconst 0, 1), (15, .ireturn, 1)]
def k_isMark : am_M := (8, some .boolean, 1, false, k_isMark_c0)
def k_placesOf_c0 : List (Nat × (Instr × Nat)) := [(0, .iconst 0, 1), (1, .istore_n 2, 1), (2, .iconst 0, 1), (3, .istore_n 3, 1), (4, .iload_n 3, 1), (5, .bipush 16, 2), (7, .if_icmp .ge 31, 3), (10, .aload_n 0, 1), (11, .aload_n 1, 1), (12, .getfield 330, 3), (15, .iload_n 3, 1), (16, .invokevirtual 230, 3), (19, .aload_n 0, 1), (20, .invokevirtual 326, 3), (23, .ifCond .eq 9, 3), (26, .iload_n 2, 1), (27, .iconst 1, 1), (28, .iload_n 3, 1), (29, .ishl, 1), (30, .ior, 1), (31, .istore_n 2, 1), (32, .iinc 3 1, 3), (35, .goto (-31), 3), (38, .iload_n 2, 1), (39, .ireturn, 1)]
def k_placesOf : am_M := (8, some .int, 4, false, k_placesOf_c0)
def k_tryAt_c0 : List (Nat × (Instr × Nat)) := [(0, .aload_n 0, 1), (1, .getfield 21, 3), (4, .aload_n 0, 1), (5, .getfield 12, 3), (8, .invokevirtual 191, 3), (11, .aload_n 0, 1), (12, .getfield 21, 3), (15, .iload_n 1, 1), (16, .iload_n 2, 1), (17, .invokevirtual 319, 3), (20, .return_, 1)]
def k_tryAt : am_M := (8, none, 3, false, k_tryAt_c0)
def la_copyFrom_c0 : List (Nat × (Instr × Nat)) := [(0, .aload_n 1, 1), (1, .getfield 9, 3), (4, .iconst 0, 1), (5, .aload_n 0, 1), (6, .getfield 9, 3), (9, .iconst 0, 1), (10, .bipush 16, 2), (12, .invokestatic 49, 3), (15, .aload_n 0, 1), (16, .aload_n 1, 1), (17, .getfield 15, 3), (20, .putfield 15, 3), (23, .aload_n 0, 1), (24, .aload_n 1, 1), (25, .getfield 19, 3), (28, .putfield 19, 3), (31, .aload_n 0, 1), (32, .aload_n 1, 1), (33, .getfield 22, 3), (36, .putfield 22, 3), (39, .aload_n 0, 1), (40, .aload_n 1, 1), (41, .getfield 32, 3), (44, .putfield 32, 3), (47, .iconst 0, 1), (48, .istore_n 2, 1), (49, .iload_n 2, 1), (50, .aload_n 0, 1), (51, .getfield 32, 3), (54, .if_icmp .ge 30, 3), (57, .iload_n 2, 1), (58, .bipush 6, 2), (60, .if_icmp .ge 24, 3), (63, .aload_n 0, 1), (64, .getfield 28, 3), (67, .iload_n 2, 1), (68, .aaload, 1), (69, .aload_n 1, 1), (70, .getfield 28, 3), (73, .iload_n 2, 1), (74, .aaload, 1), (75, .invokevirtual 55, 3), (78, .iinc 2 1, 3), (81, .goto (-32), 3), (84, .return_, 1)]
def la_copyFrom : am_M := (2, none, 3, false, la_copyFrom_c0)
def dr_copyFrom_c0 : List (Nat × (Instr × Nat)) := [(0, .aload_n 0, 1), (1, .aload_n 1, 1), (2, .getfield 9, 3), (5, .putfield 9, 3), (8, .aload_n 0, 1), (9, .aload_n 1, 1), (10, .getfield 15, 3), (13, .putfield 15, 3), (16, .aload_n 0, 1), (17, .aload_n 1, 1), (18, .getfield 18, 3), (21, .putfield 18, 3), (24, .aload_n 0, 1), (25, .aload_n 1, 1), (26, .getfield 21, 3), (29, .putfield 21, 3), (32, .aload_n 0, 1), (33, .aload_n 1, 1), (34, .getfield 24, 3), (37, .putfield 24, 3), (40, .aload_n 0, 1), (41, .aload_n 1, 1), (42, .getfield 27, 3), (45, .putfield 27, 3), (48, .aload_n 1, 1), (49, .getfield 31, 3), (52, .iconst 0, 1), (53, .aload_n 0, 1), (54, .getfield 31, 3), (57, .iconst 0, 1), (58, .bipush 8, 2), (60, .invokestatic 44, 3), (63, .aload_n 1, 1), (64, .getfield 35, 3), (67, .iconst 0, 1), (68, .aload_n 0, 1), (69, .getfield 35, 3), (72, .iconst 0, 1), (73, .bipush 8, 2), (75, .invokestatic 44, 3), (78, .aload_n 1, 1), (79, .getfield 38, 3), (82, .iconst 0, 1), (83, .aload_n 0, 1), (84, .getfield 38, 3), (87, .iconst 0, 1), (88, .iconst 4, 1), (89, .invokestatic 44, 3), (92, .return_, 1)]
def dr_copyFrom : am_M := (1, none, 2, false, dr_copyFrom_c0)
def la_putAt_c0 : List (Nat × (Instr × Nat)) := [(0, .aload_n 0, 1), (1, .iload_n 1, 1), (2, .invokevirtual 70, 3), (5, .astore_n 3, 1), (6, .aload_n 3, 1), (7, .ifnull 15, 3), (10, .iload_n 2, 1), (11, .invokestatic 63, 3), (14, .ifCond .eq 8, 3), (17, .aload_n 3, 1), (18, .iload_n 2, 1), (19, .putfield 74, 3), (22, .return_, 1)]
def la_putAt : am_M := (2, none, 4, false, la_putAt_c0)
def k_seenIsSo_c0 : List (Nat × (Instr × Nat)) := [(0, .aload_n 0, 1), (1, .getfield 27, 3), (4, .invokevirtual 336, 3), (7, .istore_n 1, 1), (8, .iconst 0, 1), (9, .istore_n 2, 1), (10, .iload_n 2, 1), (11, .iload_n 1, 1), (12, .if_icmp .gt 33, 3), (15, .iload_n 2, 1), (16, .bipush 12, 2), (18, .if_icmp .gt 27, 3), (21, .aload_n 0, 1), (22, .iload_n 2, 1), (23, .invokevirtual 339, 3), (26, .ifCond .ne 5, 3), (29, .iconst 0, 1), (30, .ireturn, 1), (31, .aload_n 0, 1), (32, .getfield 21, 3), (35, .iconst 1, 1), (36, .invokevirtual 181, 3), (39, .iinc 2 1, 3), (42, .goto (-32), 3), (45, .iconst 1, 1), (46, .ireturn, 1)]
def k_seenIsSo : am_M := (8, some .boolean, 3, false, k_seenIsSo_c0)
def bh_lastHourSeen_c0 : List (Nat × (Instr × Nat)) := [(0, .iconst (-1), 1), (1, .istore_n 1, 1), (2, .iconst 0, 1), (3, .istore_n 2, 1), (4, .iload_n 2, 1), (5, .aload_n 0, 1), (6, .getfield 14, 3), (9, .getfield 30, 3), (12, .if_icmp .ge 34, 3), (15, .iload_n 2, 1), (16, .aload_n 0, 1), (17, .getfield 14, 3), (20, .getfield 34, 3), (23, .if_icmp .ge 23, 3), (26, .iload_n 1, 1), (27, .aload_n 0, 1), (28, .getfield 14, 3), (31, .getfield 37, 3), (34, .iload_n 2, 1), (35, .iaload, 1), (36, .invokestatic 41, 3), (39, .istore_n 1, 1), (40, .iinc 2 1, 3), (43, .goto (-39), 3), (46, .iload_n 1, 1), (47, .ireturn, 1)]
def bh_lastHourSeen : am_M := (0, some .int, 3, false, bh_lastHourSeen_c0)
def k_seenIsSoIn_c0 : List (Nat × (Instr × Nat)) := [(0, .aload_n 0, 1), (1, .getfield 27, 3), (4, .getfield 205, 3), (7, .astore_n 2, 1), (8, .iconst 0, 1), (9, .istore_n 3, 1), (10, .iload_n 3, 1), (11, .aload_n 2, 1), (12, .getfield 216, 3), (15, .if_icmp .ge 58, 3), (18, .iload_n 3, 1), (19, .aload_n 2, 1), (20, .getfield 255, 3), (23, .if_icmp .ge 50, 3), (26, .aload_n 2, 1), (27, .getfield 261, 3), (30, .iload_n 3, 1), (31, .iaload, 1), (32, .iload_n 1, 1), (33, .if_icmp .ne 34, 3), (36, .aload_n 0, 1), (37, .getfield 21, 3), (40, .aload_n 0, 1), (41, .getfield 21, 3), (44, .aload_n 2, 1), (45, .getfield 258, 3), (48, .iload_n 3, 1), (49, .iaload, 1), (50, .invokevirtual 195, 3), (53, .invokevirtual 137, 3), (56, .aload_n 2, 1), (57, .getfield 342, 3), (60, .iload_n 3, 1), (61, .iaload, 1), (62, .if_icmp .eq 5, 3), (65, .iconst 0, 1), (66, .ireturn, 1), (67, .iinc 3 1, 3), (70, .goto (-60), 3), (73, .iconst 1, 1), (74, .ireturn, 1)]
def k_seenIsSoIn : am_M := (8, some .boolean, 4, false, k_seenIsSoIn_c0)
def la_whereIs_c0 : List (Nat × (Instr × Nat)) := [(0, .aload_n 0, 1), (1, .iload_n 1, 1), (2, .invokevirtual 70, 3), (5, .astore_n 2, 1), (6, .aload_n 2, 1), (7, .ifnonnull 7, 3), (10, .iconst (-1), 1), (11, .goto 7, 3), (14, .aload_n 2, 1), (15, .getfield 74, 3), (18, .ireturn, 1)]
def la_whereIs : am_M := (2, some .int, 3, false, la_whereIs_c0)
def la_hoursGo_c0 : List (Nat × (Instr × Nat)) := [(0, .iconst 0, 1), (1, .istore_n 2, 1), (2, .iload_n 2, 1), (3, .iload_n 1, 1), (4, .if_icmp .ge 33, 3), (7, .aload_n 0, 1), (8, .invokevirtual 151, 3), (11, .ifCond .ne 16, 3), (14, .aload_n 0, 1), (15, .dup, 1), (16, .getfield 19, 3), (19, .iload_n 1, 1), (20, .iload_n 2, 1), (21, .isub, 1), (22, .iadd, 1), (23, .putfield 19, 3), (26, .return_, 1), (27, .aload_n 0, 1), (28, .invokevirtual 154, 3), (31, .iinc 2 1, 3), (34, .goto (-32), 3), (37, .return_, 1)]
def la_hoursGo : am_M := (2, none, 3, false, la_hoursGo_c0)
def la_anyGoes_c0 : List (Nat × (Instr × Nat)) := [(0, .iconst 0, 1), (1, .istore_n 1, 1), (2, .iload_n 1, 1), (3, .aload_n 0, 1), (4, .getfield 32, 3), (7, .if_icmp .ge 29, 3), (10, .iload_n 1, 1), (11, .bipush 6, 2), (13, .if_icmp .ge 23, 3), (16, .aload_n 0, 1), (17, .getfield 28, 3), (20, .iload_n 1, 1), (21, .aaload, 1), (22, .invokevirtual 130, 3), (25, .ifCond .eq 5, 3), (28, .iconst 1, 1), (29, .ireturn, 1), (30, .iinc 1 1, 3), (33, .goto (-31), 3), (36, .iconst 0, 1), (37, .ireturn, 1)]
def la_anyGoes : am_M := (2, some .boolean, 2, false, la_anyGoes_c0)
def dr_goes_c0 : List (Nat × (Instr × Nat)) := [(0, .aload_n 0, 1), (1, .getfield 27, 3), (4, .ifCond .ne 16, 3), (7, .aload_n 0, 1), (8, .getfield 21, 3), (11, .bipush 8, 2), (13, .if_icmp .ge 7, 3), (16, .iconst 1, 1), (17, .goto 4, 3), (20, .iconst 0, 1), (21, .ireturn, 1)]
def dr_goes : am_M := (1, some .boolean, 1, false, dr_goes_c0)
def la_hourGoes_c0 : List (Nat × (Instr × Nat)) := [(0, .iconst 0, 1), (1, .istore_n 1, 1), (2, .iload_n 1, 1), (3, .aload_n 0, 1), (4, .getfield 32, 3), (7, .if_icmp .ge 51, 3), (10, .iload_n 1, 1), (11, .bipush 6, 2), (13, .if_icmp .ge 45, 3), (16, .aload_n 0, 1), (17, .getfield 35, 3), (20, .iload_n 1, 1), (21, .aload_n 0, 1), (22, .getfield 28, 3), (25, .iload_n 1, 1), (26, .aaload, 1), (27, .invokevirtual 130, 3), (30, .ifCond .eq 20, 3), (33, .aload_n 0, 1), (34, .aload_n 0, 1), (35, .getfield 28, 3), (38, .iload_n 1, 1), (39, .aaload, 1), (40, .invokevirtual 127, 3), (43, .iconst 4, 1), (44, .invokestatic 124, 3), (47, .goto 4, 3), (50, .iconst (-1), 1), (51, .iastore, 1), (52, .iinc 1 1, 3), (55, .goto (-53), 3), (58, .aload_n 0, 1), (59, .invokevirtual 134, 3), (62, .istore_n 1, 1), (63, .iconst 0, 1), (64, .istore_n 2, 1), (65, .iload_n 2, 1), (66, .aload_n 0, 1), (67, .getfield 32, 3), (70, .if_icmp .ge 41, 3), (73, .iload_n 2, 1), (74, .bipush 6, 2), (76, .if_icmp .ge 35, 3), (79, .aload_n 0, 1), (80, .getfield 35, 3), (83, .iload_n 2, 1), (84, .iaload, 1), (85, .ifCond .lt 20, 3), (88, .aload_n 0, 1), (89, .aload_n 0, 1), (90, .getfield 28, 3), (93, .iload_n 2, 1), (94, .aaload, 1), (95, .aload_n 0, 1), (96, .getfield 35, 3), (99, .iload_n 2, 1), (100, .iaload, 1), (101, .iload_n 1, 1), (102, .invokevirtual 137, 3), (105, .iinc 2 1, 3)]
def la_hourGoes_c1 : List (Nat × (Instr × Nat)) := [(108, .goto (-43), 3), (111, .aload_n 0, 1), (112, .dup, 1), (113, .getfield 19, 3), (116, .iconst 1, 1), (117, .iadd, 1), (118, .putfield 19, 3), (121, .return_, 1)]
def la_hourGoes : am_M := (2, none, 3, false, la_hourGoes_c0 ++ (la_hourGoes_c1))
def la_know_c0 : List (Nat × (Instr × Nat)) := [(0, .aload_n 0, 1), (1, .getfield 22, 3), (4, .ifnonnull 7, 3), (7, .iconst 3, 1), (8, .goto 10, 3), (11, .aload_n 0, 1), (12, .getfield 22, 3), (15, .getfield 96, 3), (18, .ireturn, 1)]
def la_know : am_M := (2, some .int, 1, false, la_know_c0)
def la_stepsAndDraws_c0 : List (Nat × (Instr × Nat)) := [(0, .aload_n 1, 1), (1, .aload_n 1, 1), (2, .getfield 74, 3), (5, .iload_n 2, 1), (6, .invokestatic 141, 3), (9, .putfield 74, 3), (12, .aload_n 0, 1), (13, .aload_n 1, 1), (14, .getfield 74, 3), (17, .invokevirtual 105, 3), (20, .istore 4, 2), (22, .aload_n 1, 1), (23, .iload_n 2, 1), (24, .iload 4, 2), (26, .invokevirtual 144, 3), (29, .aload_n 0, 1), (30, .dup, 1), (31, .getfield 15, 3), (34, .iconst 1, 1), (35, .aload_n 1, 1), (36, .getfield 74, 3), (39, .ishl, 1), (40, .ior, 1), (41, .putfield 15, 3), (44, .aload_n 1, 1), (45, .iload 4, 2), (47, .invokevirtual 148, 3), (50, .iload_n 3, 1), (51, .if_icmp .lt 8, 3), (54, .aload_n 1, 1), (55, .iconst 1, 1), (56, .putfield 83, 3), (59, .return_, 1)]
def la_stepsAndDraws : am_M := (2, none, 5, false, la_stepsAndDraws_c0)
def dr_writes_c0 : List (Nat × (Instr × Nat)) := [(0, .aload_n 0, 1), (1, .getfield 21, 3), (4, .ifCond .lt 52, 3), (7, .aload_n 0, 1), (8, .getfield 21, 3), (11, .bipush 8, 2), (13, .if_icmp .ge 43, 3), (16, .aload_n 0, 1), (17, .getfield 31, 3), (20, .aload_n 0, 1), (21, .getfield 21, 3), (24, .iload_n 1, 1), (25, .iastore, 1), (26, .aload_n 0, 1), (27, .getfield 35, 3), (30, .aload_n 0, 1), (31, .getfield 21, 3), (34, .iload_n 2, 1), (35, .iastore, 1), (36, .aload_n 0, 1), (37, .dup, 1), (38, .getfield 21, 3), (41, .iconst 1, 1), (42, .iadd, 1), (43, .putfield 21, 3), (46, .aload_n 0, 1), (47, .dup, 1), (48, .getfield 24, 3), (51, .iconst 1, 1), (52, .iadd, 1), (53, .putfield 24, 3), (56, .return_, 1)]
def dr_writes : am_M := (1, none, 3, false, dr_writes_c0)
def dr_rowsWith_c0 : List (Nat × (Instr × Nat)) := [(0, .iconst 0, 1), (1, .istore_n 2, 1), (2, .iconst 0, 1), (3, .istore_n 3, 1), (4, .iload_n 3, 1), (5, .aload_n 0, 1), (6, .getfield 21, 3), (9, .if_icmp .ge 28, 3), (12, .iload_n 3, 1), (13, .bipush 8, 2), (15, .if_icmp .ge 22, 3), (18, .aload_n 0, 1), (19, .getfield 35, 3), (22, .iload_n 3, 1), (23, .iaload, 1), (24, .iload_n 1, 1), (25, .if_icmp .ne 6, 3), (28, .iinc 2 1, 3), (31, .iinc 3 1, 3), (34, .goto (-30), 3), (37, .iload_n 2, 1), (38, .ireturn, 1)]
def dr_rowsWith : am_M := (1, some .int, 4, false, dr_rowsWith_c0)
def k_sheet_c0 : List (Nat × (Instr × Nat)) := [(0, .aload_n 0, 1), (1, .getfield 12, 3), (4, .iload_n 1, 1), (5, .invokevirtual 84, 3), (8, .astore_n 3, 1), (9, .aload_n 3, 1), (10, .ifnull 21, 3), (13, .iload_n 2, 1), (14, .ifCond .lt 17, 3), (17, .iload_n 2, 1), (18, .aload_n 3, 1), (19, .getfield 99, 3), (22, .if_icmp .ge 9, 3), (25, .iload_n 2, 1), (26, .bipush 8, 2), (28, .if_icmp .lt 5, 3), (31, .iconst (-1), 1), (32, .ireturn, 1), (33, .bipush 10, 2), (35, .aload_n 3, 1), (36, .getfield 127, 3), (39, .iload_n 2, 1), (40, .iaload, 1), (41, .imul, 1), (42, .aload_n 3, 1), (43, .getfield 131, 3), (46, .iload_n 2, 1), (47, .iaload, 1), (48, .iadd, 1), (49, .ireturn, 1)]
def k_sheet : am_M := (8, some .int, 4, false, k_sheet_c0)
def k_put_c0 : List (Nat × (Instr × Nat)) := [(0, .aload_n 0, 1), (1, .getfield 12, 3), (4, .iload_n 1, 1), (5, .invokevirtual 84, 3), (8, .astore_n 3, 1), (9, .aload_n 3, 1), (10, .ifnull 10, 3), (13, .iload_n 2, 1), (14, .invokestatic 70, 3), (17, .ifCond .ne 5, 3), (20, .iconst (-1), 1), (21, .ireturn, 1), (22, .aload_n 3, 1), (23, .getfield 96, 3), (26, .istore 4, 2), (28, .aload_n 3, 1), (29, .iload_n 2, 1), (30, .putfield 96, 3), (33, .iload 4, 2), (35, .ireturn, 1)]
def k_put : am_M := (8, some .int, 5, false, k_put_c0)
def k_anew_c0 : List (Nat × (Instr × Nat)) := [(0, .aload_n 0, 1), (1, .getfield 12, 3), (4, .iload_n 1, 1), (5, .invokevirtual 84, 3), (8, .astore_n 2, 1), (9, .aload_n 2, 1), (10, .ifnonnull 5, 3), (13, .iconst (-1), 1), (14, .ireturn, 1), (15, .aload_n 2, 1), (16, .getfield 99, 3), (19, .istore_n 3, 1), (20, .aload_n 2, 1), (21, .iconst 0, 1), (22, .putfield 99, 3), (25, .aload_n 2, 1), (26, .iconst 0, 1), (27, .putfield 102, 3), (30, .iload_n 3, 1), (31, .ireturn, 1)]
def k_anew : am_M := (8, some .int, 4, false, k_anew_c0)
def k_mark_c0 : List (Nat × (Instr × Nat)) := [(0, .iload_n 1, 1), (1, .invokestatic 70, 3), (4, .ifCond .ne 5, 3), (7, .iconst (-1), 1), (8, .ireturn, 1), (9, .iload_n 2, 1), (10, .invokestatic 134, 3), (13, .ifCond .ne 6, 3), (16, .bipush (-2), 2), (18, .ireturn, 1), (19, .aload_n 0, 1), (20, .getfield 12, 3), (23, .iload_n 1, 1), (24, .invokevirtual 137, 3), (27, .istore_n 3, 1), (28, .aload_n 0, 1), (29, .getfield 12, 3), (32, .iload_n 1, 1), (33, .iload_n 2, 1), (34, .invokevirtual 141, 3), (37, .iload_n 3, 1), (38, .ireturn, 1)]
def k_mark : am_M := (8, some .int, 4, false, k_mark_c0)
def la_setMark_c0 : List (Nat × (Instr × Nat)) := [(0, .iload_n 1, 1), (1, .invokestatic 63, 3), (4, .ifCond .eq 17, 3), (7, .iload_n 2, 1), (8, .invokestatic 67, 3), (11, .ifCond .eq 10, 3), (14, .aload_n 0, 1), (15, .getfield 9, 3), (18, .iload_n 1, 1), (19, .iload_n 2, 1), (20, .iastore, 1), (21, .return_, 1)]
def la_setMark : am_M := (2, none, 3, false, la_setMark_c0)
def k_row_c0 : List (Nat × (Instr × Nat)) := [(0, .aload_n 0, 1), (1, .getfield 12, 3), (4, .iload_n 1, 1), (5, .invokevirtual 84, 3), (8, .astore 4, 2), (10, .aload 4, 2), (12, .ifnull 12, 3), (15, .iload_n 2, 1), (16, .ifCond .lt 8, 3), (19, .iload_n 2, 1), (20, .iconst 4, 1), (21, .if_icmp .lt 5, 3), (24, .iconst (-1), 1), (25, .ireturn, 1), (26, .iload_n 3, 1), (27, .invokestatic 74, 3), (30, .ifCond .ne 6, 3), (33, .bipush (-2), 2), (35, .ireturn, 1), (36, .aload 4, 2), (38, .getfield 88, 3), (41, .bipush 6, 2), (43, .if_icmp .eq 6, 3), (46, .bipush (-3), 2), (48, .ireturn, 1), (49, .aload 4, 2), (51, .getfield 145, 3), (54, .iload_n 2, 1), (55, .iaload, 1), (56, .istore 5, 2), (58, .aload 4, 2), (60, .getfield 145, 3), (63, .iload_n 2, 1), (64, .iload_n 3, 1), (65, .iastore, 1), (66, .iload 5, 2), (68, .ireturn, 1)]
def k_row : am_M := (8, some .int, 6, false, k_row_c0)
def k_feed_c0 : List (Nat × (Instr × Nat)) := [(0, .iload_n 1, 1), (1, .ifCond .lt 9, 3), (4, .iload_n 1, 1), (5, .bipush 127, 2), (7, .if_icmp .le 6, 3), (10, .bipush (-2), 2), (12, .ireturn, 1), (13, .aload_n 0, 1), (14, .getfield 41, 3), (17, .iload_n 1, 1), (18, .invokevirtual 148, 3), (21, .ifCond .eq 13, 3), (24, .aload_n 0, 1), (25, .getfield 41, 3), (28, .getfield 151, 3), (31, .goto 5, 3), (34, .bipush (-4), 2), (36, .ireturn, 1)]
def k_feed : am_M := (8, some .int, 2, false, k_feed_c0)
def tx_append_c0 : List (Nat × (Instr × Nat)) := [(0, .aload_n 0, 1), (1, .getfield 15, 3), (4, .ifCond .lt 12, 3), (7, .aload_n 0, 1), (8, .getfield 15, 3), (11, .bipush 100, 2), (13, .if_icmp .lt 5, 3), (16, .iconst 0, 1), (17, .ireturn, 1), (18, .aload_n 0, 1), (19, .getfield 9, 3), (22, .aload_n 0, 1), (23, .getfield 15, 3), (26, .iload_n 1, 1), (27, .i2b, 1), (28, .bastore, 1), (29, .aload_n 0, 1), (30, .dup, 1), (31, .getfield 15, 3), (34, .iconst 1, 1), (35, .iadd, 1), (36, .putfield 15, 3), (39, .iconst 1, 1), (40, .ireturn, 1)]
def tx_append : am_M := (6, some .boolean, 2, false, tx_append_c0)
def k_office_c0 : List (Nat × (Instr × Nat)) := [(0, .aload_n 0, 1), (1, .getfield 51, 3), (4, .ifCond .lt 12, 3), (7, .aload_n 0, 1), (8, .getfield 51, 3), (11, .bipush 6, 2), (13, .if_icmp .lt 6, 3), (16, .bipush (-4), 2), (18, .ireturn, 1), (19, .aload_n 0, 1), (20, .getfield 47, 3), (23, .aload_n 0, 1), (24, .getfield 51, 3), (27, .aaload, 1), (28, .astore_n 1, 1), (29, .aload_n 0, 1), (30, .getfield 41, 3), (33, .aload_n 1, 1), (34, .invokevirtual 154, 3), (37, .istore_n 2, 1), (38, .aload_n 0, 1), (39, .getfield 41, 3), (42, .iconst 0, 1), (43, .putfield 151, 3), (46, .iload_n 2, 1), (47, .ifCond .lt 8, 3), (50, .bipush (-10), 2), (52, .iload_n 2, 1), (53, .isub, 1), (54, .ireturn, 1), (55, .aload_n 0, 1), (56, .getfield 12, 3), (59, .aload_n 1, 1), (60, .putfield 158, 3), (63, .aload_n 0, 1), (64, .dup, 1), (65, .getfield 51, 3), (68, .iconst 1, 1), (69, .iadd, 1), (70, .putfield 51, 3), (73, .aload_n 0, 1), (74, .getfield 51, 3), (77, .iconst 1, 1), (78, .isub, 1), (79, .ireturn, 1)]
def k_office : am_M := (8, some .int, 3, false, k_office_c0)
def tx_readInto_c0 : List (Nat × (Instr × Nat)) := [(0, .aload_n 0, 1), (1, .aload_n 1, 1), (2, .putfield 25, 3), (5, .aload_n 0, 1), (6, .getfield 25, 3), (9, .invokevirtual 29, 3), (12, .aload_n 0, 1), (13, .iconst 0, 1), (14, .putfield 19, 3), (17, .aload_n 0, 1), (18, .invokevirtual 34, 3), (21, .istore_n 2, 1), (22, .iconst 1, 1), (23, .istore_n 3, 1), (24, .iload_n 3, 1), (25, .bipush 10, 2), (27, .if_icmp .ge 46, 3), (30, .iload_n 2, 1), (31, .ifCond .eq 42, 3), (34, .aload_n 0, 1), (35, .getfield 19, 3), (38, .aload_n 0, 1), (39, .getfield 15, 3), (42, .if_icmp .ge 31, 3), (45, .aload_n 0, 1), (46, .bipush 59, 2), (48, .invokevirtual 38, 3), (51, .ifCond .eq 14, 3), (54, .aload_n 0, 1), (55, .invokevirtual 34, 3), (58, .ifCond .eq 7, 3), (61, .iconst 1, 1), (62, .goto 4, 3), (65, .iconst 0, 1), (66, .istore_n 2, 1), (67, .iinc 3 1, 3), (70, .goto (-46), 3), (73, .iload_n 2, 1), (74, .ifCond .eq 18, 3), (77, .aload_n 0, 1), (78, .getfield 19, 3), (81, .aload_n 0, 1), (82, .getfield 15, 3), (85, .if_icmp .ne 7, 3), (88, .iconst (-1), 1), (89, .goto 7, 3), (92, .aload_n 0, 1), (93, .getfield 19, 3), (96, .ireturn, 1)]
def tx_readInto : am_M := (6, some .int, 4, false, tx_readInto_c0)
def of_clear_c0 : List (Nat × (Instr × Nat)) := [(0, .aload_n 0, 1), (1, .iconst 0, 1), (2, .putfield 22, 3), (5, .aload_n 0, 1), (6, .iconst 3, 1), (7, .putfield 9, 3), (10, .return_, 1)]
def of_clear : am_M := (3, none, 1, false, of_clear_c0)
def tx_clause_c0 : List (Nat × (Instr × Nat)) := [(0, .aload_n 0, 1), (1, .invokevirtual 42, 3), (4, .istore_n 1, 1), (5, .iload_n 1, 1), (6, .bipush 116, 2), (8, .if_icmp .ne 8, 3), (11, .ldc 55, 2), (13, .goto 16, 3), (16, .iload_n 1, 1), (17, .bipush 98, 2), (19, .if_icmp .ne 8, 3), (22, .ldc 57, 2), (24, .goto 5, 3), (27, .ldc 59, 2), (29, .astore_n 2, 1), (30, .aload_n 0, 1), (31, .aload_n 2, 1), (32, .invokevirtual 61, 3), (35, .ifCond .eq 10, 3), (38, .aload_n 0, 1), (39, .invokevirtual 65, 3), (42, .ifCond .ne 5, 3), (45, .iconst 0, 1), (46, .ireturn, 1), (47, .iload_n 1, 1), (48, .bipush 107, 2), (50, .if_icmp .ne 16, 3), (53, .aload_n 0, 1), (54, .getfield 25, 3), (57, .aload_n 0, 1), (58, .getfield 22, 3), (61, .putfield 68, 3), (64, .iconst 1, 1), (65, .ireturn, 1), (66, .aload_n 0, 1), (67, .getfield 22, 3), (70, .istore_n 3, 1), (71, .aload_n 0, 1), (72, .bipush 32, 2), (74, .invokevirtual 38, 3), (77, .ifCond .eq 11, 3), (80, .aload_n 0, 1), (81, .iconst 0, 1), (82, .invokevirtual 71, 3), (85, .ifCond .ne 5, 3), (88, .iconst 0, 1), (89, .ireturn, 1), (90, .aload_n 0, 1), (91, .getfield 25, 3), (94, .iload_n 1, 1), (95, .bipush 116, 2), (97, .if_icmp .ne 8, 3), (100, .bipush 21, 2), (102, .goto 5, 3), (105, .bipush 22, 2), (107, .iload_n 3, 1), (108, .invokevirtual 74, 3), (111, .iconst 1, 1), (112, .ireturn, 1)]
def tx_clause : am_M := (6, some .boolean, 4, false, tx_clause_c0)
def tx_ahead_c0 : List (Nat × (Instr × Nat)) := [(0, .aload_n 0, 1), (1, .getfield 19, 3), (4, .ifCond .lt 35, 3), (7, .aload_n 0, 1), (8, .getfield 19, 3), (11, .aload_n 0, 1), (12, .getfield 15, 3), (15, .if_icmp .ge 24, 3), (18, .aload_n 0, 1), (19, .getfield 19, 3), (22, .bipush 100, 2), (24, .if_icmp .ge 15, 3), (27, .aload_n 0, 1), (28, .getfield 9, 3), (31, .aload_n 0, 1), (32, .getfield 19, 3), (35, .baload, 1), (36, .goto 4, 3), (39, .iconst (-1), 1), (40, .ireturn, 1)]
def tx_ahead : am_M := (6, some .int, 1, false, tx_ahead_c0)
def tx_takesAll_c0 : List (Nat × (Instr × Nat)) := [(0, .iconst 0, 1), (1, .istore_n 2, 1), (2, .iload_n 2, 1), (3, .aload_n 1, 1), (4, .invokevirtual 46, 3), (7, .if_icmp .ge 23, 3), (10, .aload_n 0, 1), (11, .aload_n 1, 1), (12, .iload_n 2, 1), (13, .invokevirtual 51, 3), (16, .invokevirtual 38, 3), (19, .ifCond .ne 5, 3), (22, .iconst 0, 1), (23, .ireturn, 1), (24, .iinc 2 1, 3), (27, .goto (-25), 3), (30, .iconst 1, 1), (31, .ireturn, 1)]
def tx_takesAll : am_M := (6, some .boolean, 3, false, tx_takesAll_c0)
def js_length_c0 : List (Nat × (Instr × Nat)) := [(0, .aload_n 0, 1), (1, .getfield 9, 3), (4, .arraylength, 1), (5, .aload_n 0, 1), (6, .invokevirtual 335, 3), (9, .ishr, 1), (10, .ireturn, 1)]
def js_length : am_M := (10, some .int, 1, false, js_length_c0)
def js_coder_c0 : List (Nat × (Instr × Nat)) := [(0, .getstatic 38, 3), (3, .ifCond .eq 10, 3), (6, .aload_n 0, 1), (7, .getfield 15, 3), (10, .goto 4, 3), (13, .iconst 1, 1), (14, .ireturn, 1)]
def js_coder : am_M := (10, some .byte, 1, false, js_coder_c0)
def js_charAt_c0 : List (Nat × (Instr × Nat)) := [(0, .aload_n 0, 1), (1, .invokevirtual 492, 3), (4, .ifCond .eq 12, 3), (7, .aload_n 0, 1), (8, .getfield 9, 3), (11, .iload_n 1, 1), (12, .invokestatic 495, 3), (15, .ireturn, 1), (16, .aload_n 0, 1), (17, .getfield 9, 3), (20, .iload_n 1, 1), (21, .invokestatic 498, 3), (24, .ireturn, 1)]
def js_charAt : am_M := (10, some .char, 2, false, js_charAt_c0)
def js_isLatin1_c0 : List (Nat × (Instr × Nat)) := [(0, .getstatic 38, 3), (3, .ifCond .eq 14, 3), (6, .aload_n 0, 1), (7, .getfield 15, 3), (10, .ifCond .ne 7, 3), (13, .iconst 1, 1), (14, .goto 4, 3), (17, .iconst 0, 1), (18, .ireturn, 1)]
def js_isLatin1 : am_M := (10, some .boolean, 1, false, js_isLatin1_c0)
def jl_charAt_c0 : List (Nat × (Instr × Nat)) := [(0, .iload_n 1, 1), (1, .aload_n 0, 1), (2, .arraylength, 1), (3, .invokestatic 9, 3), (6, .aload_n 0, 1), (7, .iload_n 1, 1), (8, .baload, 1), (9, .sipush 255, 3), (12, .iand, 1), (13, .i2c, 1), (14, .ireturn, 1)]
def jl_charAt : am_M := (11, some .char, 2, false, jl_charAt_c0)
def js_checkIndex_c0 : List (Nat × (Instr × Nat)) := [(0, .iload_n 0, 1), (1, .iload_n 1, 1), (2, .getstatic 1053, 3), (5, .invokestatic 1059, 3), (8, .pop, 1), (9, .return_, 1)]
def js_checkIndex : am_M := (10, none, 2, false, js_checkIndex_c0)
def jp_checkIndex_c0 : List (Nat × (Instr × Nat)) := [(0, .iload_n 0, 1), (1, .ifCond .lt 8, 3), (4, .iload_n 0, 1), (5, .iload_n 1, 1), (6, .if_icmp .lt 10, 3), (9, .aload_n 2, 1), (10, .iload_n 0, 1), (11, .iload_n 1, 1), (12, .invokestatic 95, 3), (15, .athrow, 1), (16, .iload_n 0, 1), (17, .ireturn, 1)]
def jp_checkIndex : am_M := (14, some .int, 3, false, jp_checkIndex_c0)
def tx_takes_c0 : List (Nat × (Instr × Nat)) := [(0, .aload_n 0, 1), (1, .invokevirtual 42, 3), (4, .iload_n 1, 1), (5, .if_icmp .eq 5, 3), (8, .iconst 0, 1), (9, .ireturn, 1), (10, .aload_n 0, 1), (11, .dup, 1), (12, .getfield 19, 3), (15, .iconst 1, 1), (16, .iadd, 1), (17, .putfield 19, 3), (20, .iconst 1, 1), (21, .ireturn, 1)]
def tx_takes : am_M := (6, some .boolean, 2, false, tx_takes_c0)
def tx_oneOrTwoDigits_c0 : List (Nat × (Instr × Nat)) := [(0, .aload_n 0, 1), (1, .iconst 0, 1), (2, .putfield 22, 3), (5, .iconst 0, 1), (6, .istore_n 1, 1), (7, .aload_n 0, 1), (8, .invokevirtual 42, 3), (11, .istore_n 2, 1), (12, .iload_n 1, 1), (13, .iconst 2, 1), (14, .if_icmp .ge 52, 3), (17, .iload_n 2, 1), (18, .bipush 48, 2), (20, .if_icmp .lt 46, 3), (23, .iload_n 2, 1), (24, .bipush 57, 2), (26, .if_icmp .gt 40, 3), (29, .aload_n 0, 1), (30, .aload_n 0, 1), (31, .getfield 22, 3), (34, .bipush 10, 2), (36, .imul, 1), (37, .iload_n 2, 1), (38, .bipush 48, 2), (40, .isub, 1), (41, .iadd, 1), (42, .putfield 22, 3), (45, .iinc 1 1, 3), (48, .aload_n 0, 1), (49, .dup, 1), (50, .getfield 19, 3), (53, .iconst 1, 1), (54, .iadd, 1), (55, .putfield 19, 3), (58, .aload_n 0, 1), (59, .invokevirtual 42, 3), (62, .istore_n 2, 1), (63, .goto (-51), 3), (66, .iload_n 1, 1), (67, .ifCond .le 7, 3), (70, .iconst 1, 1), (71, .goto 4, 3), (74, .iconst 0, 1), (75, .ireturn, 1)]
def tx_oneOrTwoDigits : am_M := (6, some .boolean, 3, false, tx_oneOrTwoDigits_c0)
def tx_anyOf_c0 : List (Nat × (Instr × Nat)) := [(0, .aload_n 0, 1), (1, .iload_n 1, 1), (2, .invokevirtual 78, 3), (5, .istore_n 2, 1), (6, .iconst 0, 1), (7, .istore_n 3, 1), (8, .iload_n 3, 1), (9, .bipush 100, 2), (11, .if_icmp .ge 38, 3), (14, .iload_n 2, 1), (15, .ifCond .eq 34, 3), (18, .aload_n 0, 1), (19, .bipush 124, 2), (21, .invokevirtual 38, 3), (24, .ifCond .eq 25, 3), (27, .aload_n 0, 1), (28, .iload_n 1, 1), (29, .invokevirtual 78, 3), (32, .istore_n 2, 1), (33, .aload_n 0, 1), (34, .getfield 25, 3), (37, .bipush 20, 2), (39, .iconst 0, 1), (40, .invokevirtual 74, 3), (43, .iinc 3 1, 3), (46, .goto (-38), 3), (49, .iload_n 2, 1), (50, .ireturn, 1)]
def tx_anyOf : am_M := (6, some .boolean, 4, false, tx_anyOf_c0)
def tx_allOf_c0 : List (Nat × (Instr × Nat)) := [(0, .aload_n 0, 1), (1, .iload_n 1, 1), (2, .invokevirtual 81, 3), (5, .istore_n 2, 1), (6, .iconst 0, 1), (7, .istore_n 3, 1), (8, .iload_n 3, 1), (9, .bipush 100, 2), (11, .if_icmp .ge 38, 3), (14, .iload_n 2, 1), (15, .ifCond .eq 34, 3), (18, .aload_n 0, 1), (19, .bipush 38, 2), (21, .invokevirtual 38, 3), (24, .ifCond .eq 25, 3), (27, .aload_n 0, 1), (28, .iload_n 1, 1), (29, .invokevirtual 81, 3), (32, .istore_n 2, 1), (33, .aload_n 0, 1), (34, .getfield 25, 3), (37, .bipush 19, 2), (39, .iconst 0, 1), (40, .invokevirtual 74, 3), (43, .iinc 3 1, 3), (46, .goto (-38), 3), (49, .iload_n 2, 1), (50, .ireturn, 1)]
def tx_allOf : am_M := (6, some .boolean, 4, false, tx_allOf_c0)
def tx_one_c0 : List (Nat × (Instr × Nat)) := [(0, .aload_n 0, 1), (1, .invokevirtual 42, 3), (4, .istore_n 2, 1), (5, .iload_n 2, 1), (6, .bipush 33, 2), (8, .if_icmp .eq 14, 3), (11, .iload_n 2, 1), (12, .bipush 40, 2), (14, .if_icmp .eq 8, 3), (17, .aload_n 0, 1), (18, .invokevirtual 84, 3), (21, .ireturn, 1), (22, .iload_n 1, 1), (23, .iconst 4, 1), (24, .if_icmp .lt 5, 3), (27, .iconst 0, 1), (28, .ireturn, 1), (29, .aload_n 0, 1), (30, .dup, 1), (31, .getfield 19, 3), (34, .iconst 1, 1), (35, .iadd, 1), (36, .putfield 19, 3), (39, .iload_n 2, 1), (40, .bipush 33, 2), (42, .if_icmp .ne 13, 3), (45, .aload_n 0, 1), (46, .iload_n 1, 1), (47, .iconst 1, 1), (48, .iadd, 1), (49, .invokevirtual 87, 3), (52, .goto 10, 3), (55, .aload_n 0, 1), (56, .iload_n 1, 1), (57, .iconst 1, 1), (58, .iadd, 1), (59, .invokevirtual 90, 3), (62, .ireturn, 1)]
def tx_one : am_M := (6, some .boolean, 3, false, tx_one_c0)
def tx_test_c0 : List (Nat × (Instr × Nat)) := [(0, .ldc 93, 2), (2, .aload_n 0, 1), (3, .invokevirtual 42, 3), (6, .invokestatic 95, 3), (9, .istore_n 1, 1), (10, .iload_n 1, 1), (11, .ifCond .ge 5, 3), (14, .iconst 0, 1), (15, .ireturn, 1), (16, .aload_n 0, 1), (17, .dup, 1), (18, .getfield 19, 3), (21, .iconst 1, 1), (22, .iadd, 1), (23, .putfield 19, 3), (26, .ldc 99, 2), (28, .aload_n 0, 1), (29, .invokevirtual 42, 3), (32, .invokestatic 95, 3), (35, .istore_n 2, 1), (36, .iload_n 2, 1), (37, .ifCond .ge 5, 3), (40, .iconst 0, 1), (41, .ireturn, 1), (42, .aload_n 0, 1), (43, .dup, 1), (44, .getfield 19, 3), (47, .iconst 1, 1), (48, .iadd, 1), (49, .putfield 19, 3), (52, .aload_n 0, 1), (53, .invokevirtual 65, 3), (56, .ifCond .ne 5, 3), (59, .iconst 0, 1), (60, .ireturn, 1), (61, .aload_n 0, 1), (62, .getfield 25, 3), (65, .iconst 3, 1), (66, .iload_n 1, 1), (67, .imul, 1), (68, .iload_n 2, 1), (69, .iadd, 1), (70, .aload_n 0, 1), (71, .getfield 22, 3), (74, .invokevirtual 74, 3), (77, .iconst 1, 1), (78, .ireturn, 1)]
def tx_test : am_M := (6, some .boolean, 3, false, tx_test_c0)
def tx_placeIn_c0 : List (Nat × (Instr × Nat)) := [(0, .iconst 0, 1), (1, .istore_n 2, 1), (2, .iload_n 2, 1), (3, .aload_n 0, 1), (4, .invokevirtual 46, 3), (7, .if_icmp .ge 20, 3), (10, .aload_n 0, 1), (11, .iload_n 2, 1), (12, .invokevirtual 51, 3), (15, .iload_n 1, 1), (16, .if_icmp .ne 5, 3), (19, .iload_n 2, 1), (20, .ireturn, 1), (21, .iinc 2 1, 3), (24, .goto (-22), 3), (27, .iconst (-1), 1), (28, .ireturn, 1)]
def tx_placeIn : am_M := (6, some .int, 3, false, tx_placeIn_c0)
def of_append_c0 : List (Nat × (Instr × Nat)) := [(0, .aload_n 0, 1), (1, .getfield 22, 3), (4, .ifCond .lt 42, 3), (7, .aload_n 0, 1), (8, .getfield 22, 3), (11, .bipush 100, 2), (13, .if_icmp .ge 33, 3), (16, .aload_n 0, 1), (17, .getfield 15, 3), (20, .aload_n 0, 1), (21, .getfield 22, 3), (24, .iload_n 1, 1), (25, .iastore, 1), (26, .aload_n 0, 1), (27, .getfield 19, 3), (30, .aload_n 0, 1), (31, .getfield 22, 3), (34, .iload_n 2, 1), (35, .iastore, 1), (36, .aload_n 0, 1), (37, .dup, 1), (38, .getfield 22, 3), (41, .iconst 1, 1), (42, .iadd, 1), (43, .putfield 22, 3), (46, .return_, 1)]
def of_append : am_M := (3, none, 3, false, of_append_c0)
def tx_not_c0 : List (Nat × (Instr × Nat)) := [(0, .aload_n 0, 1), (1, .iload_n 1, 1), (2, .invokevirtual 81, 3), (5, .istore_n 2, 1), (6, .aload_n 0, 1), (7, .getfield 25, 3), (10, .bipush 18, 2), (12, .iconst 0, 1), (13, .invokevirtual 74, 3), (16, .iload_n 2, 1), (17, .ireturn, 1)]
def tx_not : am_M := (6, some .boolean, 3, false, tx_not_c0)
def tx_inBrackets_c0 : List (Nat × (Instr × Nat)) := [(0, .aload_n 0, 1), (1, .iload_n 1, 1), (2, .invokevirtual 71, 3), (5, .ifCond .eq 16, 3), (8, .aload_n 0, 1), (9, .bipush 41, 2), (11, .invokevirtual 38, 3), (14, .ifCond .eq 7, 3), (17, .iconst 1, 1), (18, .goto 4, 3), (21, .iconst 0, 1), (22, .ireturn, 1)]
def tx_inBrackets : am_M := (6, some .boolean, 2, false, tx_inBrackets_c0)
def k_told_c0 : List (Nat × (Instr × Nat)) := [(0, .iload_n 1, 1), (1, .bipush 10, 2), (3, .if_icmp .lt 21, 3), (6, .iload_n 1, 1), (7, .bipush 26, 2), (9, .if_icmp .ge 15, 3), (12, .aload_n 0, 1), (13, .getfield 12, 3), (16, .iload_n 1, 1), (17, .bipush 10, 2), (19, .isub, 1), (20, .invokevirtual 137, 3), (23, .ireturn, 1), (24, .iload_n 1, 1), (25, .bipush 30, 2), (27, .if_icmp .lt 18, 3), (30, .iload_n 1, 1), (31, .bipush 46, 2), (33, .if_icmp .ge 12, 3), (36, .aload_n 0, 1), (37, .iload_n 1, 1), (38, .bipush 30, 2), (40, .isub, 1), (41, .invokevirtual 162, 3), (44, .ireturn, 1), (45, .iload_n 1, 1), (46, .tableswitch 71 0 4 #[34, 42, 50, 58, 66], 34), (80, .aload_n 0, 1), (81, .getfield 12, 3), (84, .getfield 165, 3), (87, .ireturn, 1), (88, .aload_n 0, 1), (89, .getfield 12, 3), (92, .invokevirtual 168, 3), (95, .ireturn, 1), (96, .aload_n 0, 1), (97, .getfield 12, 3), (100, .getfield 172, 3), (103, .ireturn, 1), (104, .aload_n 0, 1), (105, .getfield 12, 3), (108, .invokevirtual 175, 3), (111, .ireturn, 1), (112, .aload_n 0, 1), (113, .invokevirtual 178, 3), (116, .ireturn, 1), (117, .iconst (-1), 1), (118, .ireturn, 1)]
def k_told : am_M := (8, some .int, 2, false, k_told_c0)
def k_marksOf_c0 : List (Nat × (Instr × Nat)) := [(0, .iconst 0, 1), (1, .istore_n 2, 1), (2, .iconst 0, 1), (3, .istore_n 3, 1), (4, .iload_n 3, 1), (5, .bipush 8, 2), (7, .if_icmp .ge 42, 3), (10, .aload_n 0, 1), (11, .getfield 21, 3), (14, .aload_n 0, 1), (15, .getfield 12, 3), (18, .invokevirtual 191, 3), (21, .aload_n 0, 1), (22, .getfield 21, 3), (25, .iload_n 1, 1), (26, .iload_n 3, 1), (27, .invokevirtual 141, 3), (30, .aload_n 0, 1), (31, .invokevirtual 326, 3), (34, .ifCond .eq 9, 3), (37, .iload_n 2, 1), (38, .iconst 1, 1), (39, .iload_n 3, 1), (40, .ishl, 1), (41, .ior, 1), (42, .istore_n 2, 1), (43, .iinc 3 1, 3), (46, .goto (-42), 3), (49, .iload_n 2, 1), (50, .ireturn, 1)]
def k_marksOf : am_M := (8, some .int, 4, false, k_marksOf_c0)
def la_doneBits_c0 : List (Nat × (Instr × Nat)) := [(0, .iconst 0, 1), (1, .istore_n 1, 1), (2, .iconst 0, 1), (3, .istore_n 2, 1), (4, .iload_n 2, 1), (5, .aload_n 0, 1), (6, .getfield 32, 3), (9, .if_icmp .ge 33, 3), (12, .iload_n 2, 1), (13, .bipush 6, 2), (15, .if_icmp .ge 27, 3), (18, .aload_n 0, 1), (19, .getfield 28, 3), (22, .iload_n 2, 1), (23, .aaload, 1), (24, .getfield 83, 3), (27, .ifCond .eq 9, 3), (30, .iload_n 1, 1), (31, .iconst 1, 1), (32, .iload_n 2, 1), (33, .ishl, 1), (34, .ior, 1), (35, .istore_n 1, 1), (36, .iinc 2 1, 3), (39, .goto (-35), 3), (42, .iload_n 1, 1), (43, .ireturn, 1)]
def la_doneBits : am_M := (2, some .int, 3, false, la_doneBits_c0)
def k_whole_c0 : List (Nat × (Instr × Nat)) := [(0, .aload_n 0, 1), (1, .getfield 21, 3), (4, .aload_n 0, 1), (5, .getfield 12, 3), (8, .invokevirtual 191, 3), (11, .iconst 0, 1), (12, .istore_n 1, 1), (13, .iload_n 1, 1), (14, .bipush 60, 2), (16, .if_icmp .gt 32, 3), (19, .aload_n 0, 1), (20, .getfield 21, 3), (23, .getfield 172, 3), (26, .ldc_w 322, 3), (29, .if_icmp .ne 5, 3), (32, .iload_n 1, 1), (33, .ireturn, 1), (34, .aload_n 0, 1), (35, .getfield 21, 3), (38, .iconst 1, 1), (39, .invokevirtual 181, 3), (42, .iinc 1 1, 3), (45, .goto (-32), 3), (48, .bipush (-5), 2), (50, .ireturn, 1)]
def k_whole : am_M := (8, some .int, 2, false, k_whole_c0)
def k_pass_c0 : List (Nat × (Instr × Nat)) := [(0, .iload_n 1, 1), (1, .ifCond .lt 9, 3), (4, .iload_n 1, 1), (5, .bipush 60, 2), (7, .if_icmp .le 6, 3), (10, .bipush (-2), 2), (12, .ireturn, 1), (13, .aload_n 0, 1), (14, .getfield 12, 3), (17, .getfield 165, 3), (20, .iload_n 1, 1), (21, .iadd, 1), (22, .sipush 9999, 3), (25, .if_icmp .le 6, 3), (28, .bipush (-3), 2), (30, .ireturn, 1), (31, .aload_n 0, 1), (32, .getfield 12, 3), (35, .iload_n 1, 1), (36, .invokevirtual 181, 3), (39, .aload_n 0, 1), (40, .getfield 12, 3), (43, .invokevirtual 185, 3), (46, .aload_n 0, 1), (47, .getfield 12, 3), (50, .getfield 165, 3), (53, .ireturn, 1)]
def k_pass : am_M := (8, some .int, 2, false, k_pass_c0)
def la_capDrew_c0 : List (Nat × (Instr × Nat)) := [(0, .iconst 0, 1), (1, .istore_n 1, 1), (2, .iload_n 1, 1), (3, .aload_n 0, 1), (4, .getfield 32, 3), (7, .if_icmp .ge 39, 3), (10, .iload_n 1, 1), (11, .bipush 6, 2), (13, .if_icmp .ge 33, 3), (16, .aload_n 0, 1), (17, .getfield 28, 3), (20, .iload_n 1, 1), (21, .aaload, 1), (22, .aload_n 0, 1), (23, .getfield 28, 3), (26, .iload_n 1, 1), (27, .aaload, 1), (28, .getfield 87, 3), (31, .sipush 9999, 3), (34, .invokestatic 90, 3), (37, .putfield 87, 3), (40, .iinc 1 1, 3), (43, .goto (-41), 3), (46, .return_, 1)]
def la_capDrew : am_M := (2, none, 2, false, la_capDrew_c0)
def jm_min_c0 : List (Nat × (Instr × Nat)) := [(0, .iload_n 0, 1), (1, .iload_n 1, 1), (2, .if_icmp .gt 7, 3), (5, .iload_n 0, 1), (6, .goto 4, 3), (9, .iload_n 1, 1), (10, .ireturn, 1)]
def jm_min : am_M := (13, some .int, 2, false, jm_min_c0)
def k_on_c0 : List (Nat × (Instr × Nat)) := [(0, .iload_n 2, 1), (1, .ifCond .eq 18, 3), (4, .iload_n 2, 1), (5, .iconst 1, 1), (6, .if_icmp .eq 13, 3), (9, .aload_n 0, 1), (10, .iload_n 2, 1), (11, .invokevirtual 188, 3), (14, .ifnonnull 5, 3), (17, .iconst (-1), 1), (18, .ireturn, 1), (19, .iload_n 1, 1), (20, .ifCond .lt 9, 3), (23, .iload_n 1, 1), (24, .bipush 60, 2), (26, .if_icmp .le 6, 3), (29, .bipush (-2), 2), (31, .ireturn, 1), (32, .aload_n 0, 1), (33, .getfield 21, 3), (36, .aload_n 0, 1), (37, .getfield 12, 3), (40, .invokevirtual 191, 3), (43, .aload_n 0, 1), (44, .getfield 21, 3), (47, .iload_n 1, 1), (48, .invokevirtual 181, 3), (51, .iload_n 2, 1), (52, .ifCond .ne 11, 3), (55, .aload_n 0, 1), (56, .getfield 21, 3), (59, .getfield 172, 3), (62, .ireturn, 1), (63, .iload_n 2, 1), (64, .iconst 1, 1), (65, .if_icmp .ne 11, 3), (68, .aload_n 0, 1), (69, .getfield 21, 3), (72, .invokevirtual 175, 3), (75, .ireturn, 1), (76, .aload_n 0, 1), (77, .getfield 21, 3), (80, .iload_n 2, 1), (81, .bipush 10, 2), (83, .isub, 1), (84, .invokevirtual 195, 3), (87, .ireturn, 1)]
def k_on : am_M := (8, some .int, 3, false, k_on_c0)
def k_drawerBehindTen_c0 : List (Nat × (Instr × Nat)) := [(0, .iload_n 1, 1), (1, .bipush 10, 2), (3, .if_icmp .lt 17, 3), (6, .aload_n 0, 1), (7, .getfield 12, 3), (10, .iload_n 1, 1), (11, .bipush 10, 2), (13, .isub, 1), (14, .invokevirtual 84, 3), (17, .goto 4, 3), (20, .aconst_null, 1), (21, .areturn, 1)]
def k_drawerBehindTen : am_M := (8, some (.object "LostSheets$Drawer"), 2, false, k_drawerBehindTen_c0)
def k_best_c0 : List (Nat × (Instr × Nat)) := [(0, .iload_n 2, 1), (1, .ifCond .eq 13, 3), (4, .aload_n 0, 1), (5, .iload_n 2, 1), (6, .invokevirtual 188, 3), (9, .ifnonnull 5, 3), (12, .iconst (-1), 1), (13, .ireturn, 1), (14, .iload_n 1, 1), (15, .iconst 1, 1), (16, .if_icmp .lt 9, 3), (19, .iload_n 1, 1), (20, .bipush 12, 2), (22, .if_icmp .le 6, 3), (25, .bipush (-2), 2), (27, .ireturn, 1), (28, .iload_n 2, 1), (29, .ifCond .ne 11, 3), (32, .aload_n 0, 1), (33, .iload_n 1, 1), (34, .invokevirtual 198, 3), (37, .goto 12, 3), (40, .aload_n 0, 1), (41, .iload_n 2, 1), (42, .bipush 10, 2), (44, .isub, 1), (45, .iload_n 1, 1), (46, .invokevirtual 201, 3), (49, .ireturn, 1)]
def k_best : am_M := (8, some .int, 3, false, k_best_c0)
def k_crew_c0 : List (Nat × (Instr × Nat)) := [(0, .aload_n 0, 1), (1, .getfield 21, 3), (4, .aload_n 0, 1), (5, .getfield 12, 3), (8, .invokevirtual 191, 3), (11, .aload_n 0, 1), (12, .getfield 21, 3), (15, .iload_n 1, 1), (16, .invokevirtual 181, 3), (19, .aload_n 0, 1), (20, .getfield 21, 3), (23, .getfield 172, 3), (26, .invokestatic 220, 3), (29, .istore_n 2, 1), (30, .bipush (-5), 2), (32, .istore_n 3, 1), (33, .bipush 7, 2), (35, .istore 4, 2), (37, .iconst 0, 1), (38, .istore 5, 2), (40, .iload 5, 2), (42, .iconst 1, 1), (43, .aload_n 0, 1), (44, .getfield 12, 3), (47, .getfield 81, 3), (50, .ishl, 1), (51, .if_icmp .ge 72, 3), (54, .iload 5, 2), (56, .invokestatic 220, 3), (59, .istore 6, 2), (61, .iload 6, 2), (63, .iload 4, 2), (65, .if_icmp .ge 52, 3), (68, .aload_n 0, 1), (69, .getfield 21, 3), (72, .aload_n 0, 1), (73, .getfield 12, 3), (76, .invokevirtual 191, 3), (79, .aload_n 0, 1), (80, .getfield 21, 3), (83, .iload 5, 2), (85, .invokevirtual 323, 3), (88, .aload_n 0, 1), (89, .getfield 21, 3), (92, .iload_n 1, 1), (93, .invokevirtual 181, 3), (96, .aload_n 0, 1), (97, .getfield 21, 3), (100, .getfield 172, 3), (103, .invokestatic 220, 3), (106, .iload_n 2, 1), (107, .if_icmp .lt 10, 3), (110, .iload 6, 2), (112, .istore 4, 2), (114, .iload 5, 2), (116, .istore_n 3, 1), (117, .iinc 5 1, 3), (120, .goto (-80), 3), (123, .iload_n 3, 1), (124, .ireturn, 1)]
def k_crew : am_M := (8, some .int, 7, false, k_crew_c0)
def ji_bitCount_c0 : List (Nat × (Instr × Nat)) := [(0, .iload_n 0, 1), (1, .iload_n 0, 1), (2, .iconst 1, 1), (3, .iushr, 1), (4, .ldc_w 265, 3), (7, .iand, 1), (8, .isub, 1), (9, .istore_n 0, 1), (10, .iload_n 0, 1), (11, .ldc_w 266, 3), (14, .iand, 1), (15, .iload_n 0, 1), (16, .iconst 2, 1), (17, .iushr, 1), (18, .ldc_w 266, 3), (21, .iand, 1), (22, .iadd, 1), (23, .istore_n 0, 1), (24, .iload_n 0, 1), (25, .iload_n 0, 1), (26, .iconst 4, 1), (27, .iushr, 1), (28, .iadd, 1), (29, .ldc_w 267, 3), (32, .iand, 1), (33, .istore_n 0, 1), (34, .iload_n 0, 1), (35, .iload_n 0, 1), (36, .bipush 8, 2), (38, .iushr, 1), (39, .iadd, 1), (40, .istore_n 0, 1), (41, .iload_n 0, 1), (42, .iload_n 0, 1), (43, .bipush 16, 2), (45, .iushr, 1), (46, .iadd, 1), (47, .istore_n 0, 1), (48, .iload_n 0, 1), (49, .bipush 63, 2), (51, .iand, 1), (52, .ireturn, 1)]
def ji_bitCount : am_M := (12, some .int, 1, false, ji_bitCount_c0)
def la_othersAreDone_c0 : List (Nat × (Instr × Nat)) := [(0, .iconst 0, 1), (1, .istore_n 2, 1), (2, .iload_n 2, 1), (3, .aload_n 0, 1), (4, .getfield 32, 3), (7, .if_icmp .ge 33, 3), (10, .iload_n 2, 1), (11, .bipush 6, 2), (13, .if_icmp .ge 27, 3), (16, .iload_n 1, 1), (17, .iload_n 2, 1), (18, .ishr, 1), (19, .iconst 1, 1), (20, .iand, 1), (21, .ifCond .ne 13, 3), (24, .aload_n 0, 1), (25, .getfield 28, 3), (28, .iload_n 2, 1), (29, .aaload, 1), (30, .iconst 1, 1), (31, .putfield 83, 3), (34, .iinc 2 1, 3), (37, .goto (-35), 3), (40, .return_, 1)]
def la_othersAreDone : am_M := (2, none, 3, false, la_othersAreDone_c0)
def k_landing_c0 : List (Nat × (Instr × Nat)) := [(0, .iconst 0, 1), (1, .istore_n 3, 1), (2, .iconst (-1), 1), (3, .istore 4, 2), (5, .iconst 0, 1), (6, .istore 5, 2), (8, .iload 5, 2), (10, .bipush 16, 2), (12, .if_icmp .ge 50, 3), (15, .aload_n 0, 1), (16, .iload_n 1, 1), (17, .iload 5, 2), (19, .invokevirtual 230, 3), (22, .aload_n 0, 1), (23, .getfield 21, 3), (26, .iload_n 2, 1), (27, .invokevirtual 181, 3), (30, .aload_n 0, 1), (31, .getfield 21, 3), (34, .getfield 172, 3), (37, .invokestatic 220, 3), (40, .istore 6, 2), (42, .iload 6, 2), (44, .iload 4, 2), (46, .if_icmp .le 10, 3), (49, .iload 6, 2), (51, .istore 4, 2), (53, .iload 5, 2), (55, .istore_n 3, 1), (56, .iinc 5 1, 3), (59, .goto (-51), 3), (62, .iload_n 3, 1), (63, .ireturn, 1)]
def k_landing : am_M := (8, some .int, 7, false, k_landing_c0)
def k_see_c0 : List (Nat × (Instr × Nat)) := [(0, .iload_n 1, 1), (1, .iconst (-1), 1), (2, .if_icmp .ne 15, 3), (5, .aload_n 0, 1), (6, .getfield 27, 3), (9, .getfield 205, 3), (12, .invokevirtual 209, 3), (15, .iconst 0, 1), (16, .ireturn, 1), (17, .aload_n 0, 1), (18, .getfield 12, 3), (21, .iload_n 1, 1), (22, .invokevirtual 84, 3), (25, .ifnonnull 5, 3), (28, .iconst (-1), 1), (29, .ireturn, 1), (30, .iload_n 2, 1), (31, .ifCond .lt 16, 3), (34, .iload_n 2, 1), (35, .bipush 12, 2), (37, .if_icmp .gt 10, 3), (40, .iload_n 3, 1), (41, .invokestatic 134, 3), (44, .ifCond .ne 6, 3), (47, .bipush (-2), 2), (49, .ireturn, 1), (50, .aload_n 0, 1), (51, .getfield 27, 3), (54, .getfield 205, 3), (57, .iload_n 1, 1), (58, .iload_n 2, 1), (59, .iload_n 3, 1), (60, .invokevirtual 214, 3), (63, .ifCond .eq 16, 3), (66, .aload_n 0, 1), (67, .getfield 27, 3), (70, .getfield 205, 3), (73, .getfield 216, 3), (76, .goto 5, 3), (79, .bipush (-4), 2), (81, .ireturn, 1)]
def k_see : am_M := (8, some .int, 4, false, k_see_c0)
def ro_clear_c0 : List (Nat × (Instr × Nat)) := [(0, .aload_n 0, 1), (1, .iconst 0, 1), (2, .putfield 7, 3), (5, .return_, 1)]
def ro_clear : am_M := (4, none, 1, false, ro_clear_c0)
def ro_append_c0 : List (Nat × (Instr × Nat)) := [(0, .aload_n 0, 1), (1, .getfield 7, 3), (4, .ifCond .lt 14, 3), (7, .aload_n 0, 1), (8, .getfield 7, 3), (11, .aload_n 0, 1), (12, .getfield 19, 3), (15, .if_icmp .lt 5, 3), (18, .iconst 0, 1), (19, .ireturn, 1), (20, .aload_n 0, 1), (21, .getfield 22, 3), (24, .aload_n 0, 1), (25, .getfield 7, 3), (28, .iload_n 1, 1), (29, .iastore, 1), (30, .aload_n 0, 1), (31, .getfield 26, 3), (34, .aload_n 0, 1), (35, .getfield 7, 3), (38, .iload_n 2, 1), (39, .iastore, 1), (40, .aload_n 0, 1), (41, .getfield 29, 3), (44, .aload_n 0, 1), (45, .getfield 7, 3), (48, .iload_n 3, 1), (49, .iastore, 1), (50, .aload_n 0, 1), (51, .dup, 1), (52, .getfield 7, 3), (55, .iconst 1, 1), (56, .iadd, 1), (57, .putfield 7, 3), (60, .iconst 1, 1), (61, .ireturn, 1)]
def ro_append : am_M := (4, some .boolean, 4, false, ro_append_c0)
def k_can_c0 : List (Nat × (Instr × Nat)) := [(0, .aload_n 0, 1), (1, .getfield 12, 3), (4, .iload_n 1, 1), (5, .invokevirtual 84, 3), (8, .ifnull 12, 3), (11, .iload_n 2, 1), (12, .ifCond .eq 10, 3), (15, .iload_n 2, 1), (16, .iconst 1, 1), (17, .if_icmp .eq 5, 3), (20, .iconst (-1), 1), (21, .ireturn, 1), (22, .aload_n 0, 1), (23, .iload_n 1, 1), (24, .invokevirtual 217, 3), (27, .istore_n 3, 1), (28, .iload_n 2, 1), (29, .ifCond .ne 8, 3), (32, .iload_n 3, 1), (33, .invokestatic 220, 3), (36, .ireturn, 1), (37, .iload_n 3, 1), (38, .invokestatic 225, 3), (41, .ireturn, 1)]
def k_can : am_M := (8, some .int, 4, false, k_can_c0)
def k_possibleNumbers_c0 : List (Nat × (Instr × Nat)) := [(0, .iconst 0, 1), (1, .istore_n 2, 1), (2, .iconst 0, 1), (3, .istore_n 3, 1), (4, .iload_n 3, 1), (5, .bipush 9, 2), (7, .if_icmp .gt 42, 3), (10, .aload_n 0, 1), (11, .getfield 21, 3), (14, .aload_n 0, 1), (15, .getfield 12, 3), (18, .invokevirtual 191, 3), (21, .aload_n 0, 1), (22, .getfield 21, 3), (25, .iload_n 1, 1), (26, .iload_n 3, 1), (27, .invokevirtual 333, 3), (30, .aload_n 0, 1), (31, .invokevirtual 326, 3), (34, .ifCond .eq 9, 3), (37, .iload_n 2, 1), (38, .iconst 1, 1), (39, .iload_n 3, 1), (40, .ishl, 1), (41, .ior, 1), (42, .istore_n 2, 1), (43, .iinc 3 1, 3), (46, .goto (-42), 3), (49, .iload_n 2, 1), (50, .ireturn, 1)]
def k_possibleNumbers : am_M := (8, some .int, 4, false, k_possibleNumbers_c0)
def la_setNumber_c0 : List (Nat × (Instr × Nat)) := [(0, .aload_n 0, 1), (1, .iload_n 1, 1), (2, .invokevirtual 70, 3), (5, .astore_n 3, 1), (6, .aload_n 3, 1), (7, .ifnull 8, 3), (10, .aload_n 3, 1), (11, .iload_n 2, 1), (12, .putfield 77, 3), (15, .return_, 1)]
def la_setNumber : am_M := (2, none, 4, false, la_setNumber_c0)
def k_leastOf_c0 : List (Nat × (Instr × Nat)) := [(0, .iconst 0, 1), (1, .istore_n 1, 1), (2, .iload_n 1, 1), (3, .bipush 9, 2), (5, .if_icmp .gt 20, 3), (8, .iload_n 0, 1), (9, .iload_n 1, 1), (10, .ishr, 1), (11, .iconst 1, 1), (12, .iand, 1), (13, .iconst 1, 1), (14, .if_icmp .ne 5, 3), (17, .iload_n 1, 1), (18, .ireturn, 1), (19, .iinc 1 1, 3), (22, .goto (-20), 3), (25, .bipush (-5), 2), (27, .ireturn, 1)]
def k_leastOf : am_M := (8, some .int, 2, false, k_leastOf_c0)
def k_odds_c0 : List (Nat × (Instr × Nat)) := [(0, .aload_n 0, 1), (1, .getfield 12, 3), (4, .iload_n 1, 1), (5, .invokevirtual 84, 3), (8, .ifnull 22, 3), (11, .iload_n 2, 1), (12, .ifCond .lt 18, 3), (15, .iload_n 2, 1), (16, .bipush 20, 2), (18, .if_icmp .gt 12, 3), (21, .iload_n 3, 1), (22, .ifCond .eq 12, 3), (25, .iload_n 3, 1), (26, .iconst 1, 1), (27, .if_icmp .eq 7, 3), (30, .ldc2_w 228, 3), (33, .lreturn, 1), (34, .iconst 0, 1), (35, .istore 4, 2), (37, .iconst 0, 1), (38, .istore 5, 2), (40, .iload 5, 2), (42, .bipush 16, 2), (44, .if_icmp .ge 40, 3), (47, .aload_n 0, 1), (48, .iload_n 1, 1), (49, .iload 5, 2), (51, .invokevirtual 230, 3), (54, .aload_n 0, 1), (55, .getfield 21, 3), (58, .iload_n 2, 1), (59, .invokevirtual 181, 3), (62, .iload 4, 2), (64, .aload_n 0, 1), (65, .getfield 21, 3), (68, .invokevirtual 175, 3), (71, .iload_n 1, 1), (72, .ishr, 1), (73, .iconst 1, 1), (74, .iand, 1), (75, .iadd, 1), (76, .istore 4, 2), (78, .iinc 5 1, 3), (81, .goto (-41), 3), (84, .iload 4, 2), (86, .i2l, 1), (87, .ldc2_w 233, 3), (90, .iload_n 3, 1), (91, .invokestatic 235, 3), (94, .lreturn, 1)]
def k_odds : am_M := (8, some .long, 6, false, k_odds_c0)
def k_partOfFraction_c0 : List (Nat × (Instr × Nat)) := [(0, .lload_n 0, 1), (1, .lload_n 2, 1), (2, .invokestatic 351, 3), (5, .lstore 5, 2), (7, .lload 5, 2), (9, .lconst 0, 1), (10, .lcmp, 1), (11, .ifCond .gt 7, 3), (14, .ldc2_w 228, 3), (17, .lreturn, 1), (18, .iload 4, 2), (20, .ifCond .ne 10, 3), (23, .lload_n 0, 1), (24, .lload 5, 2), (26, .ldiv, 1), (27, .goto 7, 3), (30, .lload_n 2, 1), (31, .lload 5, 2), (33, .ldiv, 1), (34, .lreturn, 1)]
def k_partOfFraction : am_M := (8, some .long, 7, false, k_partOfFraction_c0)
def k_greatestDivisor_c0 : List (Nat × (Instr × Nat)) := [(0, .lload_n 0, 1), (1, .lstore 4, 2), (3, .lload_n 2, 1), (4, .lstore 6, 2), (6, .iconst 0, 1), (7, .istore 8, 2), (9, .iload 8, 2), (11, .sipush 200, 3), (14, .if_icmp .ge 31, 3), (17, .lload 6, 2), (19, .lconst 0, 1), (20, .lcmp, 1), (21, .ifCond .eq 24, 3), (24, .lload 4, 2), (26, .lload 6, 2), (28, .lrem, 1), (29, .lstore 9, 2), (31, .lload 6, 2), (33, .lstore 4, 2), (35, .lload 9, 2), (37, .lstore 6, 2), (39, .iinc 8 1, 3), (42, .goto (-33), 3), (45, .lload 4, 2), (47, .lreturn, 1)]
def k_greatestDivisor : am_M := (8, some .long, 11, false, k_greatestDivisor_c0)
def k_mean_c0 : List (Nat × (Instr × Nat)) := [(0, .aload_n 0, 1), (1, .getfield 12, 3), (4, .getfield 81, 3), (7, .ifCond .le 22, 3), (10, .iload_n 1, 1), (11, .ifCond .lt 18, 3), (14, .iload_n 1, 1), (15, .bipush 60, 2), (17, .if_icmp .gt 12, 3), (20, .iload_n 2, 1), (21, .ifCond .eq 12, 3), (24, .iload_n 2, 1), (25, .iconst 1, 1), (26, .if_icmp .eq 7, 3), (29, .ldc2_w 228, 3), (32, .lreturn, 1), (33, .aload_n 0, 1), (34, .getfield 21, 3), (37, .aload_n 0, 1), (38, .getfield 12, 3), (41, .invokevirtual 191, 3), (44, .aload_n 0, 1), (45, .getfield 21, 3), (48, .iload_n 1, 1), (49, .invokevirtual 181, 3), (52, .aload_n 0, 1), (53, .getfield 21, 3), (56, .invokevirtual 239, 3), (59, .i2l, 1), (60, .aload_n 0, 1), (61, .getfield 12, 3), (64, .getfield 81, 3), (67, .i2l, 1), (68, .iload_n 2, 1), (69, .invokestatic 235, 3), (72, .lreturn, 1)]
def k_mean : am_M := (8, some .long, 3, false, k_mean_c0)
def la_drewOfAll_c0 : List (Nat × (Instr × Nat)) := [(0, .iconst 0, 1), (1, .istore_n 1, 1), (2, .iconst 0, 1), (3, .istore_n 2, 1), (4, .iload_n 2, 1), (5, .aload_n 0, 1), (6, .getfield 32, 3), (9, .if_icmp .ge 27, 3), (12, .iload_n 2, 1), (13, .bipush 6, 2), (15, .if_icmp .ge 21, 3), (18, .iload_n 1, 1), (19, .aload_n 0, 1), (20, .getfield 28, 3), (23, .iload_n 2, 1), (24, .aaload, 1), (25, .getfield 87, 3), (28, .iadd, 1), (29, .istore_n 1, 1), (30, .iinc 2 1, 3), (33, .goto (-29), 3), (36, .iload_n 1, 1), (37, .ireturn, 1)]
def la_drewOfAll : am_M := (2, some .int, 3, false, la_drewOfAll_c0)
def k_plan_c0 : List (Nat × (Instr × Nat)) := [(0, .iload_n 1, 1), (1, .iconst (-1), 1), (2, .if_icmp .ne 15, 3), (5, .aload_n 0, 1), (6, .getfield 27, 3), (9, .getfield 242, 3), (12, .invokevirtual 209, 3), (15, .iconst 0, 1), (16, .ireturn, 1), (17, .aload_n 0, 1), (18, .iload_n 1, 1), (19, .iload_n 2, 1), (20, .invokevirtual 245, 3), (23, .ifCond .ne 5, 3), (26, .iconst (-1), 1), (27, .ireturn, 1), (28, .aload_n 0, 1), (29, .getfield 27, 3), (32, .getfield 242, 3), (35, .iload_n 1, 1), (36, .iload_n 2, 1), (37, .iconst 0, 1), (38, .invokevirtual 214, 3), (41, .ifCond .eq 16, 3), (44, .aload_n 0, 1), (45, .getfield 27, 3), (48, .getfield 242, 3), (51, .getfield 216, 3), (54, .goto 5, 3), (57, .bipush (-4), 2), (59, .ireturn, 1)]
def k_plan : am_M := (8, some .int, 3, false, k_plan_c0)
def k_isPlanRow_c0 : List (Nat × (Instr × Nat)) := [(0, .iload_n 1, 1), (1, .tableswitch 55 0 3 #[31, 33, 33, 50], 31), (32, .iconst 1, 1), (33, .ireturn, 1), (34, .aload_n 0, 1), (35, .getfield 12, 3), (38, .iload_n 2, 1), (39, .invokevirtual 84, 3), (42, .ifnull 7, 3), (45, .iconst 1, 1), (46, .goto 4, 3), (49, .iconst 0, 1), (50, .ireturn, 1), (51, .iload_n 2, 1), (52, .invokestatic 70, 3), (55, .ireturn, 1), (56, .iconst 0, 1), (57, .ireturn, 1)]
def k_isPlanRow : am_M := (8, some .boolean, 3, false, k_isPlanRow_c0)
def k_ends_c0 : List (Nat × (Instr × Nat)) := [(0, .iload_n 1, 1), (1, .ifCond .eq 10, 3), (4, .iload_n 1, 1), (5, .iconst 1, 1), (6, .if_icmp .eq 5, 3), (9, .iconst (-1), 1), (10, .ireturn, 1), (11, .aload_n 0, 1), (12, .invokevirtual 249, 3), (15, .iload_n 1, 1), (16, .ifCond .ne 13, 3), (19, .aload_n 0, 1), (20, .getfield 21, 3), (23, .getfield 172, 3), (26, .goto 10, 3), (29, .aload_n 0, 1), (30, .getfield 21, 3), (33, .invokevirtual 239, 3), (36, .ireturn, 1)]
def k_ends : am_M := (8, some .int, 2, false, k_ends_c0)
def k_tryPlan_c0 : List (Nat × (Instr × Nat)) := [(0, .aload_n 0, 1), (1, .getfield 21, 3), (4, .aload_n 0, 1), (5, .getfield 12, 3), (8, .invokevirtual 191, 3), (11, .aload_n 0, 1), (12, .getfield 27, 3), (15, .getfield 242, 3), (18, .astore_n 1, 1), (19, .iconst 0, 1), (20, .istore_n 2, 1), (21, .iload_n 2, 1), (22, .aload_n 1, 1), (23, .getfield 216, 3), (26, .if_icmp .ge 105, 3), (29, .iload_n 2, 1), (30, .aload_n 1, 1), (31, .getfield 255, 3), (34, .if_icmp .ge 97, 3), (37, .aload_n 1, 1), (38, .getfield 261, 3), (41, .iload_n 2, 1), (42, .iaload, 1), (43, .istore_n 3, 1), (44, .aload_n 1, 1), (45, .getfield 258, 3), (48, .iload_n 2, 1), (49, .iaload, 1), (50, .tableswitch 75 0 3 #[30, 41, 52, 63], 30), (80, .aload_n 0, 1), (81, .getfield 21, 3), (84, .iconst 1, 1), (85, .invokevirtual 181, 3), (88, .goto 37, 3), (91, .aload_n 0, 1), (92, .getfield 21, 3), (95, .iload_n 3, 1), (96, .invokevirtual 345, 3), (99, .goto 26, 3), (102, .aload_n 0, 1), (103, .getfield 21, 3), (106, .iload_n 3, 1), (107, .invokevirtual 348, 3), (110, .goto 15, 3), (113, .aload_n 0, 1), (114, .getfield 21, 3), (117, .iload_n 3, 1), (118, .iconst 0, 1), (119, .invokevirtual 141, 3), (122, .goto 3, 3), (125, .iinc 2 1, 3), (128, .goto (-107), 3), (131, .return_, 1)]
def k_tryPlan : am_M := (8, none, 4, false, k_tryPlan_c0)
def la_emptySheet_c0 : List (Nat × (Instr × Nat)) := [(0, .aload_n 0, 1), (1, .iload_n 1, 1), (2, .invokevirtual 70, 3), (5, .astore_n 2, 1), (6, .aload_n 2, 1), (7, .ifnull 8, 3), (10, .aload_n 2, 1), (11, .iconst 0, 1), (12, .putfield 80, 3), (15, .return_, 1)]
def la_emptySheet : am_M := (2, none, 3, false, la_emptySheet_c0)
def la_notDone_c0 : List (Nat × (Instr × Nat)) := [(0, .aload_n 0, 1), (1, .iload_n 1, 1), (2, .invokevirtual 70, 3), (5, .astore_n 2, 1), (6, .aload_n 2, 1), (7, .ifnull 8, 3), (10, .aload_n 2, 1), (11, .iconst 0, 1), (12, .putfield 83, 3), (15, .return_, 1)]
def la_notDone : am_M := (2, none, 3, false, la_notDone_c0)
def k_book_c0 : List (Nat × (Instr × Nat)) := [(0, .iload_n 1, 1), (1, .iconst (-1), 1), (2, .if_icmp .ne 15, 3), (5, .aload_n 0, 1), (6, .getfield 27, 3), (9, .getfield 252, 3), (12, .invokevirtual 209, 3), (15, .iconst 0, 1), (16, .ireturn, 1), (17, .iload_n 1, 1), (18, .invokestatic 70, 3), (21, .ifCond .ne 5, 3), (24, .iconst (-1), 1), (25, .ireturn, 1), (26, .iload_n 2, 1), (27, .invokestatic 134, 3), (30, .ifCond .ne 6, 3), (33, .bipush (-2), 2), (35, .ireturn, 1), (36, .aload_n 0, 1), (37, .getfield 27, 3), (40, .getfield 252, 3), (43, .iload_n 1, 1), (44, .iload_n 2, 1), (45, .iconst 0, 1), (46, .invokevirtual 214, 3), (49, .ifCond .eq 16, 3), (52, .aload_n 0, 1), (53, .getfield 27, 3), (56, .getfield 252, 3), (59, .getfield 216, 3), (62, .goto 5, 3), (65, .bipush (-4), 2), (67, .ireturn, 1)]
def k_book : am_M := (8, some .int, 3, false, k_book_c0)
def k_looked_c0 : List (Nat × (Instr × Nat)) := [(0, .aload_n 0, 1), (1, .getfield 27, 3), (4, .getfield 252, 3), (7, .astore_n 1, 1), (8, .iconst 0, 1), (9, .istore_n 2, 1), (10, .iload_n 2, 1), (11, .aload_n 1, 1), (12, .getfield 216, 3), (15, .if_icmp .ge 41, 3), (18, .iload_n 2, 1), (19, .aload_n 1, 1), (20, .getfield 255, 3), (23, .if_icmp .ge 33, 3), (26, .aload_n 0, 1), (27, .getfield 12, 3), (30, .aload_n 1, 1), (31, .getfield 258, 3), (34, .iload_n 2, 1), (35, .iaload, 1), (36, .invokevirtual 137, 3), (39, .aload_n 1, 1), (40, .getfield 261, 3), (43, .iload_n 2, 1), (44, .iaload, 1), (45, .if_icmp .eq 5, 3), (48, .iload_n 2, 1), (49, .ireturn, 1), (50, .iinc 2 1, 3), (53, .goto (-43), 3), (56, .bipush (-5), 2), (58, .ireturn, 1)]
def k_looked : am_M := (8, some .int, 3, false, k_looked_c0)
def k_judge_c0 : List (Nat × (Instr × Nat)) := [(0, .aload_n 0, 1), (1, .iload_n 1, 1), (2, .invokevirtual 264, 3), (5, .astore_n 3, 1), (6, .aload_n 3, 1), (7, .ifnonnull 5, 3), (10, .iconst (-1), 1), (11, .ireturn, 1), (12, .aload_n 3, 1), (13, .getfield 268, 3), (16, .iconst (-1), 1), (17, .if_icmp .eq 13, 3), (20, .aload_n 3, 1), (21, .getfield 268, 3), (24, .ifCond .eq 6, 3), (27, .bipush (-12), 2), (29, .ireturn, 1), (30, .iload_n 2, 1), (31, .ifCond .lt 11, 3), (34, .iload_n 2, 1), (35, .aload_n 3, 1), (36, .getfield 271, 3), (39, .if_icmp .lt 6, 3), (42, .bipush 100, 2), (44, .ireturn, 1), (45, .iconst 0, 1), (46, .istore 4, 2), (48, .iload 4, 2), (50, .bipush 16, 2), (52, .if_icmp .ge 54, 3), (55, .iload_n 2, 1), (56, .iload 4, 2), (58, .iadd, 1), (59, .istore 5, 2), (61, .aload_n 3, 1), (62, .iload 5, 2), (64, .invokevirtual 274, 3), (67, .ifCond .ne 9, 3), (70, .bipush 100, 2), (72, .iload 4, 2), (74, .iadd, 1), (75, .ireturn, 1), (76, .aload_n 3, 1), (77, .getfield 277, 3), (80, .iload 5, 2), (82, .laload, 1), (83, .aload_n 0, 1), (84, .getfield 12, 3), (87, .iload 4, 2), (89, .invokevirtual 137, 3), (92, .i2l, 1), (93, .lcmp, 1), (94, .ifCond .eq 6, 3), (97, .iload 4, 2), (99, .ireturn, 1), (100, .iinc 4 1, 3), (103, .goto (-55), 3), (106, .bipush (-5), 2), (108, .ireturn, 1)]
def k_judge : am_M := (8, some .int, 6, false, k_judge_c0)
def k_tapeAt_c0 : List (Nat × (Instr × Nat)) := [(0, .iload_n 1, 1), (1, .ifCond .lt 18, 3), (4, .iload_n 1, 1), (5, .bipush 6, 2), (7, .if_icmp .ge 12, 3), (10, .aload_n 0, 1), (11, .getfield 64, 3), (14, .iload_n 1, 1), (15, .aaload, 1), (16, .goto 4, 3), (19, .aconst_null, 1), (20, .areturn, 1)]
def k_tapeAt : am_M := (8, some (.object "LostSheets$Tape"), 2, false, k_tapeAt_c0)
def tp_has_c0 : List (Nat × (Instr × Nat)) := [(0, .iload_n 1, 1), (1, .ifCond .lt 21, 3), (4, .iload_n 1, 1), (5, .aload_n 0, 1), (6, .getfield 15, 3), (9, .if_icmp .ge 13, 3), (12, .iload_n 1, 1), (13, .bipush 60, 2), (15, .if_icmp .ge 7, 3), (18, .iconst 1, 1), (19, .goto 4, 3), (22, .iconst 0, 1), (23, .ireturn, 1)]
def tp_has : am_M := (5, some .boolean, 2, false, tp_has_c0)
def k_image_c0 : List (Nat × (Instr × Nat)) := [(0, .aload_n 0, 1), (1, .getfield 18, 3), (4, .aload_n 0, 1), (5, .getfield 12, 3), (8, .invokevirtual 191, 3), (11, .aload_n 0, 1), (12, .getfield 31, 3), (15, .aload_n 0, 1), (16, .getfield 27, 3), (19, .invokevirtual 281, 3), (22, .aload_n 0, 1), (23, .iconst 1, 1), (24, .putfield 34, 3), (27, .aload_n 0, 1), (28, .getfield 12, 3), (31, .getfield 81, 3), (34, .ireturn, 1)]
def k_image : am_M := (8, some .int, 1, false, k_image_c0)
def bh_copyFrom_c0 : List (Nat × (Instr × Nat)) := [(0, .aload_n 0, 1), (1, .getfield 14, 3), (4, .aload_n 1, 1), (5, .getfield 14, 3), (8, .invokevirtual 26, 3), (11, .aload_n 0, 1), (12, .getfield 20, 3), (15, .aload_n 1, 1), (16, .getfield 20, 3), (19, .invokevirtual 26, 3), (22, .aload_n 0, 1), (23, .getfield 23, 3), (26, .aload_n 1, 1), (27, .getfield 23, 3), (30, .invokevirtual 26, 3), (33, .return_, 1)]
def bh_copyFrom : am_M := (0, none, 2, false, bh_copyFrom_c0)
def ro_copyFrom_c0 : List (Nat × (Instr × Nat)) := [(0, .aload_n 0, 1), (1, .iconst 0, 1), (2, .putfield 7, 3), (5, .iconst 0, 1), (6, .istore_n 2, 1), (7, .iload_n 2, 1), (8, .aload_n 1, 1), (9, .getfield 7, 3), (12, .if_icmp .ge 40, 3), (15, .iload_n 2, 1), (16, .aload_n 1, 1), (17, .getfield 19, 3), (20, .if_icmp .ge 32, 3), (23, .aload_n 0, 1), (24, .aload_n 1, 1), (25, .getfield 22, 3), (28, .iload_n 2, 1), (29, .iaload, 1), (30, .aload_n 1, 1), (31, .getfield 26, 3), (34, .iload_n 2, 1), (35, .iaload, 1), (36, .aload_n 1, 1), (37, .getfield 29, 3), (40, .iload_n 2, 1), (41, .iaload, 1), (42, .invokevirtual 32, 3), (45, .pop, 1), (46, .iinc 2 1, 3), (49, .goto (-42), 3), (52, .return_, 1)]
def ro_copyFrom : am_M := (4, none, 3, false, ro_copyFrom_c0)
def k_undo_c0 : List (Nat × (Instr × Nat)) := [(0, .aload_n 0, 1), (1, .getfield 34, 3), (4, .ifCond .ne 6, 3), (7, .bipush (-3), 2), (9, .ireturn, 1), (10, .aload_n 0, 1), (11, .getfield 12, 3), (14, .aload_n 0, 1), (15, .getfield 18, 3), (18, .invokevirtual 191, 3), (21, .aload_n 0, 1), (22, .getfield 27, 3), (25, .aload_n 0, 1), (26, .getfield 31, 3), (29, .invokevirtual 281, 3), (32, .aload_n 0, 1), (33, .getfield 12, 3), (36, .getfield 81, 3), (39, .ireturn, 1)]
def k_undo : am_M := (8, some .int, 1, false, k_undo_c0)
def k_act_c0 : List (Nat × (Instr × Nat)) := [(0, .aload_n 0, 1), (1, .getfield 58, 3), (4, .aload_n 0, 1), (5, .getfield 12, 3), (8, .iload_n 1, 1), (9, .invokevirtual 84, 3), (12, .iload_n 2, 1), (13, .iload_n 3, 1), (14, .invokevirtual 284, 3), (17, .ireturn, 1)]
def k_act : am_M := (8, some .int, 4, false, k_act_c0)
def tr_ofAct_c0 : List (Nat × (Instr × Nat)) := [(0, .aload_n 0, 1), (1, .iconst 0, 1), (2, .putfield 15, 3), (5, .aload_n 1, 1), (6, .ifnull 12, 3), (9, .iload_n 2, 1), (10, .ifCond .lt 8, 3), (13, .iload_n 2, 1), (14, .iconst 3, 1), (15, .if_icmp .lt 5, 3), (18, .iconst 0, 1), (19, .ireturn, 1), (20, .aload_n 0, 1), (21, .aload_n 1, 1), (22, .aload_n 1, 1), (23, .getfield 26, 3), (26, .iload_n 2, 1), (27, .iload_n 3, 1), (28, .iconst 0, 1), (29, .invokevirtual 31, 3), (32, .ireturn, 1)]
def tr_ofAct : am_M := (7, some .int, 4, false, tr_ofAct_c0)
def tr_run_c0 : List (Nat × (Instr × Nat)) := [(0, .iload_n 2, 1), (1, .iload_n 3, 1), (2, .invokestatic 35, 3), (5, .istore 6, 2), (7, .iload 6, 2), (9, .ifCond .eq 10, 3), (12, .iload 5, 2), (14, .bipush 21, 2), (16, .if_icmp .le 5, 3), (19, .iconst 0, 1), (20, .ireturn, 1), (21, .aload_n 0, 1), (22, .iload 6, 2), (24, .invokevirtual 39, 3), (27, .aload_n 0, 1), (28, .iload 6, 2), (30, .aload_n 1, 1), (31, .iload 4, 2), (33, .iload 5, 2), (35, .iconst 1, 1), (36, .iadd, 1), (37, .invokevirtual 43, 3), (40, .ireturn, 1)]
def tr_run : am_M := (7, some .int, 7, false, tr_run_c0)
def tr_bodyOf_c0 : List (Nat × (Instr × Nat)) := [(0, .iload_n 0, 1), (1, .istore_n 2, 1), (2, .iconst 0, 1), (3, .istore_n 3, 1), (4, .iload_n 3, 1), (5, .bipush 7, 2), (7, .if_icmp .ge 57, 3), (10, .iload_n 2, 1), (11, .iconst 3, 1), (12, .imul, 1), (13, .iload_n 1, 1), (14, .iadd, 1), (15, .istore 4, 2), (17, .iload_n 2, 1), (18, .ifCond .lt 17, 3), (21, .iload 4, 2), (23, .ifCond .lt 12, 3), (26, .iload 4, 2), (28, .getstatic 19, 3), (31, .arraylength, 1), (32, .if_icmp .lt 5, 3), (35, .iconst 0, 1), (36, .ireturn, 1), (37, .getstatic 19, 3), (40, .iload 4, 2), (42, .iaload, 1), (43, .ifCond .eq 10, 3), (46, .getstatic 19, 3), (49, .iload 4, 2), (51, .iaload, 1), (52, .ireturn, 1), (53, .iload_n 2, 1), (54, .invokestatic 22, 3), (57, .istore_n 2, 1), (58, .iinc 3 1, 3), (61, .goto (-57), 3), (64, .iconst 0, 1), (65, .ireturn, 1)]
def tr_bodyOf : am_M := (7, some .int, 5, false, tr_bodyOf_c0)
def k_aboveOf_c0 : List (Nat × (Instr × Nat)) := [(0, .iload_n 0, 1), (1, .ifCond .lt 17, 3), (4, .iload_n 0, 1), (5, .bipush 7, 2), (7, .if_icmp .ge 11, 3), (10, .getstatic 313, 3), (13, .iload_n 0, 1), (14, .iaload, 1), (15, .goto 4, 3), (18, .iconst (-1), 1), (19, .ireturn, 1)]
def k_aboveOf : am_M := (8, some .int, 1, false, k_aboveOf_c0)
def tr_begins_c0 : List (Nat × (Instr × Nat)) := [(0, .aload_n 0, 1), (1, .getfield 15, 3), (4, .ifCond .lt 22, 3), (7, .aload_n 0, 1), (8, .getfield 15, 3), (11, .bipush 20, 2), (13, .if_icmp .ge 13, 3), (16, .aload_n 0, 1), (17, .getfield 11, 3), (20, .aload_n 0, 1), (21, .getfield 15, 3), (24, .iload_n 1, 1), (25, .iastore, 1), (26, .aload_n 0, 1), (27, .dup, 1), (28, .getfield 15, 3), (31, .iconst 1, 1), (32, .iadd, 1), (33, .putfield 15, 3), (36, .return_, 1)]
def tr_begins : am_M := (7, none, 2, false, tr_begins_c0)
def tr_does_c0 : List (Nat × (Instr × Nat)) := [(0, .iload_n 1, 1), (1, .lookupswitch 302 #[(10, 99), (11, 106), (12, 125), (20, 141), (30, 158), (40, 174), (50, 202), (51, 217), (60, 233), (70, 252), (71, 282)], 99), (100, .iload_n 3, 1), (101, .aload_n 2, 1), (102, .getfield 47, 3), (105, .iadd, 1), (106, .ireturn, 1), (107, .aload_n 0, 1), (108, .aload_n 2, 1), (109, .aload_n 2, 1), (110, .getfield 26, 3), (113, .iconst 0, 1), (114, .iload_n 3, 1), (115, .iload 4, 2), (117, .invokevirtual 31, 3), (120, .aload_n 2, 1), (121, .getfield 50, 3), (124, .isub, 1), (125, .ireturn, 1), (126, .aload_n 0, 1), (127, .aload_n 2, 1), (128, .aload_n 2, 1), (129, .getfield 26, 3), (132, .iconst 1, 1), (133, .iload_n 3, 1), (134, .iload 4, 2), (136, .invokevirtual 31, 3), (139, .iconst 2, 1), (140, .imul, 1), (141, .ireturn, 1), (142, .aload_n 0, 1), (143, .aload_n 2, 1), (144, .iconst 1, 1), (145, .invokestatic 22, 3), (148, .iconst 1, 1), (149, .iload_n 3, 1), (150, .iload 4, 2), (152, .invokevirtual 31, 3), (155, .bipush 6, 2), (157, .ixor, 1), (158, .ireturn, 1), (159, .aload_n 0, 1), (160, .aload_n 2, 1), (161, .iconst 2, 1), (162, .invokestatic 22, 3), (165, .iconst 0, 1), (166, .iload_n 3, 1), (167, .iconst 3, 1), (168, .imul, 1), (169, .iload 4, 2), (171, .invokevirtual 31, 3), (174, .ireturn, 1), (175, .aload_n 0, 1), (176, .aload_n 2, 1), (177, .iconst 3, 1), (178, .invokestatic 22, 3), (181, .iconst 2, 1), (182, .iload_n 3, 1), (183, .iload 4, 2), (185, .invokevirtual 31, 3)]
def tr_does_c1 : List (Nat × (Instr × Nat)) := [(188, .aload_n 0, 1), (189, .aload_n 2, 1), (190, .aload_n 2, 1), (191, .getfield 26, 3), (194, .iconst 1, 1), (195, .iconst 1, 1), (196, .iload 4, 2), (198, .invokevirtual 31, 3), (201, .iadd, 1), (202, .ireturn, 1), (203, .aload_n 0, 1), (204, .aload_n 2, 1), (205, .iconst 4, 1), (206, .invokestatic 22, 3), (209, .iconst 0, 1), (210, .iload_n 3, 1), (211, .iload 4, 2), (213, .invokevirtual 31, 3), (216, .ineg, 1), (217, .ireturn, 1), (218, .aload_n 0, 1), (219, .aload_n 2, 1), (220, .iconst 4, 1), (221, .invokestatic 22, 3), (224, .iconst 1, 1), (225, .iload_n 3, 1), (226, .iconst 1, 1), (227, .iadd, 1), (228, .iload 4, 2), (230, .invokevirtual 31, 3), (233, .ireturn, 1), (234, .aload_n 0, 1), (235, .aload_n 2, 1), (236, .iconst 5, 1), (237, .invokestatic 22, 3), (240, .iconst 2, 1), (241, .iload_n 3, 1), (242, .aload_n 2, 1), (243, .getfield 47, 3), (246, .isub, 1), (247, .iload 4, 2), (249, .invokevirtual 31, 3), (252, .ireturn, 1), (253, .aload_n 0, 1), (254, .aload_n 2, 1), (255, .bipush 6, 2), (257, .invokestatic 22, 3), (260, .iconst 1, 1), (261, .iload_n 3, 1), (262, .iload 4, 2), (264, .invokevirtual 31, 3), (267, .aload_n 0, 1), (268, .aload_n 2, 1), (269, .bipush 6, 2), (271, .invokestatic 22, 3), (274, .iconst 0, 1), (275, .iconst 2, 1), (276, .iload 4, 2), (278, .invokevirtual 31, 3), (281, .iadd, 1)]
def tr_does_c2 : List (Nat × (Instr × Nat)) := [(282, .ireturn, 1), (283, .aload_n 0, 1), (284, .aload_n 2, 1), (285, .bipush 6, 2), (287, .invokestatic 22, 3), (290, .iconst 0, 1), (291, .iload_n 3, 1), (292, .iload 4, 2), (294, .invokevirtual 31, 3), (297, .aload_n 2, 1), (298, .getfield 50, 3), (301, .ixor, 1), (302, .ireturn, 1), (303, .iconst 0, 1), (304, .ireturn, 1)]
def tr_does : am_M := (7, some .int, 5, false, tr_does_c0 ++ (tr_does_c1 ++ (tr_does_c2)))
def k_trace_c0 : List (Nat × (Instr × Nat)) := [(0, .iload_n 1, 1), (1, .ifCond .lt 20, 3), (4, .iload_n 1, 1), (5, .aload_n 0, 1), (6, .getfield 58, 3), (9, .getfield 288, 3), (12, .if_icmp .ge 9, 3), (15, .iload_n 1, 1), (16, .bipush 20, 2), (18, .if_icmp .lt 5, 3), (21, .iconst (-1), 1), (22, .ireturn, 1), (23, .aload_n 0, 1), (24, .getfield 58, 3), (27, .getfield 291, 3), (30, .iload_n 1, 1), (31, .iaload, 1), (32, .ireturn, 1)]
def k_trace : am_M := (8, some .int, 2, false, k_trace_c0)
def k_taken_c0 : List (Nat × (Instr × Nat)) := [(0, .iload_n 2, 1), (1, .ifCond .lt 9, 3), (4, .iload_n 2, 1), (5, .bipush 7, 2), (7, .if_icmp .lt 6, 3), (10, .bipush (-2), 2), (12, .ireturn, 1), (13, .aload_n 0, 1), (14, .getfield 12, 3), (17, .iload_n 1, 1), (18, .invokevirtual 84, 3), (21, .astore_n 3, 1), (22, .aload_n 3, 1), (23, .ifnonnull 6, 3), (26, .bipush (-11), 2), (28, .ireturn, 1), (29, .aload_n 3, 1), (30, .getfield 88, 3), (33, .iload_n 2, 1), (34, .invokestatic 294, 3), (37, .ifCond .eq 10, 3), (40, .aload_n 3, 1), (41, .getfield 88, 3), (44, .goto 5, 3), (47, .bipush (-12), 2), (49, .ireturn, 1)]
def k_taken : am_M := (8, some .int, 4, false, k_taken_c0)
def k_isUnder_c0 : List (Nat × (Instr × Nat)) := [(0, .iload_n 0, 1), (1, .istore_n 2, 1), (2, .iconst 0, 1), (3, .istore_n 3, 1), (4, .iload_n 3, 1), (5, .bipush 7, 2), (7, .if_icmp .ge 25, 3), (10, .iload_n 2, 1), (11, .ifCond .lt 21, 3), (14, .iload_n 2, 1), (15, .iload_n 1, 1), (16, .if_icmp .ne 5, 3), (19, .iconst 1, 1), (20, .ireturn, 1), (21, .iload_n 2, 1), (22, .invokestatic 316, 3), (25, .istore_n 2, 1), (26, .iinc 3 1, 3), (29, .goto (-25), 3), (32, .iconst 0, 1), (33, .ireturn, 1)]
def k_isUnder : am_M := (8, some .boolean, 4, false, k_isUnder_c0)
def k_count_c0 : List (Nat × (Instr × Nat)) := [(0, .iload_n 1, 1), (1, .tableswitch 105 0 6 #[43, 51, 56, 67, 78, 89, 97], 43), (44, .aload_n 0, 1), (45, .getfield 12, 3), (48, .getfield 81, 3), (51, .ireturn, 1), (52, .aload_n 0, 1), (53, .getfield 51, 3), (56, .ireturn, 1), (57, .aload_n 0, 1), (58, .getfield 27, 3), (61, .getfield 205, 3), (64, .getfield 216, 3), (67, .ireturn, 1), (68, .aload_n 0, 1), (69, .getfield 27, 3), (72, .getfield 242, 3), (75, .getfield 216, 3), (78, .ireturn, 1), (79, .aload_n 0, 1), (80, .getfield 27, 3), (83, .getfield 252, 3), (86, .getfield 216, 3), (89, .ireturn, 1), (90, .aload_n 0, 1), (91, .getfield 41, 3), (94, .getfield 151, 3), (97, .ireturn, 1), (98, .aload_n 0, 1), (99, .getfield 58, 3), (102, .getfield 288, 3), (105, .ireturn, 1), (106, .bipush (-2), 2), (108, .ireturn, 1)]
def k_count : am_M := (8, some .int, 2, false, k_count_c0)
def k_tape_c0 : List (Nat × (Instr × Nat)) := [(0, .aload_n 0, 1), (1, .iload_n 1, 1), (2, .invokevirtual 264, 3), (5, .astore 4, 2), (7, .aload 4, 2), (9, .ifnonnull 5, 3), (12, .iconst (-1), 1), (13, .ireturn, 1), (14, .iload_n 2, 1), (15, .iconst (-1), 1), (16, .if_icmp .ne 12, 3), (19, .aload 4, 2), (21, .iconst (-1), 1), (22, .iconst 0, 1), (23, .invokevirtual 297, 3), (26, .iconst 1, 1), (27, .ireturn, 1), (28, .iload_n 2, 1), (29, .ifCond .lt 14, 3), (32, .iload_n 2, 1), (33, .iconst 5, 1), (34, .if_icmp .ge 9, 3), (37, .iload_n 3, 1), (38, .bipush 60, 2), (40, .if_icmp .le 6, 3), (43, .bipush (-2), 2), (45, .ireturn, 1), (46, .iload_n 3, 1), (47, .ifCond .ge 6, 3), (50, .bipush (-14), 2), (52, .ireturn, 1), (53, .aload 4, 2), (55, .iload_n 2, 1), (56, .iload_n 3, 1), (57, .invokevirtual 297, 3), (60, .iconst 1, 1), (61, .ireturn, 1)]
def k_tape : am_M := (8, some .int, 5, false, k_tape_c0)
def tp_becomes_c0 : List (Nat × (Instr × Nat)) := [(0, .aload_n 0, 1), (1, .iload_n 1, 1), (2, .putfield 9, 3), (5, .aload_n 0, 1), (6, .iload_n 2, 1), (7, .putfield 15, 3), (10, .iconst 0, 1), (11, .istore_n 3, 1), (12, .iload_n 3, 1), (13, .bipush 60, 2), (15, .if_icmp .ge 16, 3), (18, .aload_n 0, 1), (19, .getfield 18, 3), (22, .iload_n 3, 1), (23, .lconst 0, 1), (24, .lastore, 1), (25, .iinc 3 1, 3), (28, .goto (-16), 3), (31, .return_, 1)]
def tp_becomes : am_M := (5, none, 4, false, tp_becomes_c0)
def k_item_c0 : List (Nat × (Instr × Nat)) := [(0, .aload_n 0, 1), (1, .iload_n 1, 1), (2, .invokevirtual 264, 3), (5, .astore 5, 2), (7, .aload 5, 2), (9, .ifnonnull 5, 3), (12, .iconst (-1), 1), (13, .ireturn, 1), (14, .aload 5, 2), (16, .getfield 268, 3), (19, .iconst (-1), 1), (20, .if_icmp .ne 6, 3), (23, .bipush (-11), 2), (25, .ireturn, 1), (26, .aload 5, 2), (28, .iload_n 2, 1), (29, .invokevirtual 274, 3), (32, .ifCond .ne 6, 3), (35, .bipush (-13), 2), (37, .ireturn, 1), (38, .aload 5, 2), (40, .getfield 277, 3), (43, .iload_n 2, 1), (44, .aload 5, 2), (46, .lload_n 3, 1), (47, .invokevirtual 300, 3), (50, .lastore, 1), (51, .iconst 1, 1), (52, .ireturn, 1)]
def k_item : am_M := (8, some .int, 6, false, k_item_c0)
def tp_asItem_c0 : List (Nat × (Instr × Nat)) := [(0, .aload_n 0, 1), (1, .getfield 9, 3), (4, .tableswitch 48 0 3 #[32, 37, 42, 46], 32), (36, .lload_n 1, 1), (37, .l2i, 1), (38, .i2b, 1), (39, .i2l, 1), (40, .lreturn, 1), (41, .lload_n 1, 1), (42, .l2i, 1), (43, .i2s, 1), (44, .i2l, 1), (45, .lreturn, 1), (46, .lload_n 1, 1), (47, .l2i, 1), (48, .i2l, 1), (49, .lreturn, 1), (50, .lload_n 1, 1), (51, .lreturn, 1), (52, .lload_n 1, 1), (53, .lconst 0, 1), (54, .lcmp, 1), (55, .ifCond .eq 7, 3), (58, .lconst 1, 1), (59, .goto 4, 3), (62, .lconst 0, 1), (63, .lreturn, 1)]
def tp_asItem : am_M := (5, some .long, 3, false, tp_asItem_c0)
def k_read_c0 : List (Nat × (Instr × Nat)) := [(0, .aload_n 0, 1), (1, .iload_n 1, 1), (2, .invokevirtual 264, 3), (5, .astore_n 3, 1), (6, .aload_n 3, 1), (7, .ifnull 19, 3), (10, .aload_n 3, 1), (11, .getfield 268, 3), (14, .iconst (-1), 1), (15, .if_icmp .eq 11, 3), (18, .aload_n 3, 1), (19, .iload_n 2, 1), (20, .invokevirtual 274, 3), (23, .ifCond .ne 7, 3), (26, .ldc2_w 228, 3), (29, .lreturn, 1), (30, .aload_n 3, 1), (31, .getfield 277, 3), (34, .iload_n 2, 1), (35, .laload, 1), (36, .lreturn, 1)]
def k_read : am_M := (8, some .long, 4, false, k_read_c0)
def k_shift_c0 : List (Nat × (Instr × Nat)) := [(0, .aload_n 0, 1), (1, .iload_n 1, 1), (2, .invokevirtual 264, 3), (5, .astore 6, 2), (7, .aload_n 0, 1), (8, .iload_n 3, 1), (9, .invokevirtual 264, 3), (12, .astore 7, 2), (14, .aload 6, 2), (16, .ifnull 8, 3), (19, .aload 7, 2), (21, .ifnonnull 5, 3), (24, .iconst (-1), 1), (25, .ireturn, 1), (26, .aload 6, 2), (28, .getfield 268, 3), (31, .iconst (-1), 1), (32, .if_icmp .eq 12, 3), (35, .aload 7, 2), (37, .getfield 268, 3), (40, .iconst (-1), 1), (41, .if_icmp .ne 6, 3), (44, .bipush (-11), 2), (46, .ireturn, 1), (47, .aload 6, 2), (49, .getfield 268, 3), (52, .aload 7, 2), (54, .getfield 268, 3), (57, .if_icmp .eq 6, 3), (60, .bipush (-12), 2), (62, .ireturn, 1), (63, .aload 6, 2), (65, .iload_n 2, 1), (66, .iload 5, 2), (68, .invokevirtual 304, 3), (71, .ifCond .eq 15, 3), (74, .aload 7, 2), (76, .iload 4, 2), (78, .iload 5, 2), (80, .invokevirtual 304, 3), (83, .ifCond .ne 6, 3), (86, .bipush (-13), 2), (88, .ireturn, 1), (89, .aload 6, 2), (91, .getfield 277, 3), (94, .iload_n 2, 1), (95, .aload 7, 2), (97, .getfield 277, 3), (100, .iload 4, 2), (102, .iload 5, 2), (104, .invokestatic 307, 3), (107, .iload 5, 2), (109, .ireturn, 1)]
def k_shift : am_M := (8, some .int, 8, false, k_shift_c0)
def tp_hasRun_c0 : List (Nat × (Instr × Nat)) := [(0, .iload_n 2, 1), (1, .ifCond .lt 34, 3), (4, .iload_n 1, 1), (5, .ifCond .lt 30, 3), (8, .iload_n 1, 1), (9, .i2l, 1), (10, .iload_n 2, 1), (11, .i2l, 1), (12, .ladd, 1), (13, .aload_n 0, 1), (14, .getfield 15, 3), (17, .i2l, 1), (18, .lcmp, 1), (19, .ifCond .gt 16, 3), (22, .aload_n 0, 1), (23, .getfield 15, 3), (26, .bipush 60, 2), (28, .if_icmp .gt 7, 3), (31, .iconst 1, 1), (32, .goto 4, 3), (35, .iconst 0, 1), (36, .ireturn, 1)]
def tp_hasRun : am_M := (5, some .boolean, 3, false, tp_hasRun_c0)
def m_init_c0 : List (Nat × (Instr × Nat)) := [(0, .aload_n 0, 1), (1, .invokespecial 3, 3), (4, .aload_n 0, 1), (5, .bipush 6, 2), (7, .newarray .int, 2), (9, .putfield 9, 3), (12, .aload_n 0, 1), (13, .bipush 6, 2), (15, .newarray .int, 2), (17, .putfield 15, 3), (20, .aload_n 0, 1), (21, .bipush 6, 2), (23, .newarray .int, 2), (25, .putfield 18, 3), (28, .aload_n 0, 1), (29, .bipush 6, 2), (31, .newarray .int, 2), (33, .putfield 21, 3), (36, .aload_n 0, 1), (37, .bipush 6, 2), (39, .newarray .int, 2), (41, .putfield 24, 3), (44, .aload_n 0, 1), (45, .bipush 6, 2), (47, .newarray .int, 2), (49, .putfield 27, 3), (52, .aload_n 0, 1), (53, .bipush 48, 2), (55, .newarray .int, 2), (57, .putfield 30, 3), (60, .aload_n 0, 1), (61, .bipush 24, 2), (63, .newarray .int, 2), (65, .putfield 33, 3), (68, .aload_n 0, 1), (69, .bipush 16, 2), (71, .newarray .int, 2), (73, .putfield 36, 3), (76, .aload_n 0, 1), (77, .bipush 100, 2), (79, .newarray .int, 2), (81, .putfield 39, 3), (84, .aload_n 0, 1), (85, .bipush 6, 2), (87, .newarray .int, 2), (89, .putfield 42, 3), (92, .aload_n 0, 1), (93, .bipush 61, 2), (95, .newarray .int, 2), (97, .putfield 45, 3), (100, .aload_n 0, 1), (101, .bipush 61, 2), (103, .newarray .int, 2), (105, .putfield 48, 3), (108, .aload_n 0, 1), (109, .bipush 61, 2), (111, .newarray .int, 2), (113, .putfield 51, 3), (116, .aload_n 0, 1), (117, .bipush 61, 2)]
def m_init_c1 : List (Nat × (Instr × Nat)) := [(119, .newarray .int, 2), (121, .putfield 54, 3), (124, .aload_n 0, 1), (125, .sipush 800, 3), (128, .newarray .int, 2), (130, .putfield 57, 3), (133, .aload_n 0, 1), (134, .bipush 110, 2), (136, .newarray .boolean, 2), (138, .putfield 60, 3), (141, .aload_n 0, 1), (142, .iconst 5, 1), (143, .newarray .int, 2), (145, .putfield 64, 3), (148, .aload_n 0, 1), (149, .iconst 5, 1), (150, .newarray .int, 2), (152, .putfield 67, 3), (155, .aload_n 0, 1), (156, .iconst 5, 1), (157, .newarray .int, 2), (159, .putfield 70, 3), (162, .aload_n 0, 1), (163, .bipush 10, 2), (165, .newarray .int, 2), (167, .putfield 73, 3), (170, .aload_n 0, 1), (171, .bipush 10, 2), (173, .newarray .int, 2), (175, .putfield 76, 3), (178, .aload_n 0, 1), (179, .bipush 8, 2), (181, .newarray .int, 2), (183, .putfield 79, 3), (186, .aload_n 0, 1), (187, .bipush 8, 2), (189, .newarray .int, 2), (191, .putfield 82, 3), (194, .aload_n 0, 1), (195, .bipush 20, 2), (197, .newarray .int, 2), (199, .putfield 85, 3), (202, .aload_n 0, 1), (203, .sipush 182, 3), (206, .newarray .int, 2), (208, .putfield 88, 3), (211, .aload_n 0, 1), (212, .sipush 182, 3), (215, .newarray .int, 2), (217, .putfield 91, 3), (220, .aload_n 0, 1), (221, .bipush 6, 2), (223, .newarray .int, 2), (225, .putfield 94, 3), (228, .aload_n 0, 1), (229, .bipush 6, 2), (231, .newarray .int, 2), (233, .putfield 97, 3), (236, .aload_n 0, 1), (237, .bipush 6, 2)]
def m_init_c2 : List (Nat × (Instr × Nat)) := [(239, .newarray .int, 2), (241, .putfield 100, 3), (244, .aload_n 0, 1), (245, .sipush 360, 3), (248, .newarray .long, 2), (250, .putfield 103, 3), (253, .aload_n 0, 1), (254, .iconst (-1), 1), (255, .putfield 107, 3), (258, .iconst 0, 1), (259, .istore_n 1, 1), (260, .iload_n 1, 1), (261, .bipush 6, 2), (263, .if_icmp .ge 16, 3), (266, .aload_n 0, 1), (267, .getfield 97, 3), (270, .iload_n 1, 1), (271, .iconst (-1), 1), (272, .iastore, 1), (273, .iinc 1 1, 3), (276, .goto (-16), 3), (279, .iconst 0, 1), (280, .istore_n 1, 1), (281, .iload_n 1, 1), (282, .bipush 16, 2), (284, .if_icmp .ge 19, 3), (287, .aload_n 0, 1), (288, .getfield 36, 3), (291, .iload_n 1, 1), (292, .iload_n 1, 1), (293, .bipush 8, 2), (295, .irem, 1), (296, .iastore, 1), (297, .iinc 1 1, 3), (300, .goto (-19), 3), (303, .return_, 1)]
def m_init : am_M := (9, none, 2, true, m_init_c0 ++ (m_init_c1 ++ (m_init_c2)))
def m_drawer_c0 : List (Nat × (Instr × Nat)) := [(0, .iload_n 1, 1), (1, .iconst 0, 1), (2, .bipush 6, 2), (4, .invokestatic 114, 3), (7, .ifCond .ne 5, 3), (10, .iconst (-1), 1), (11, .ireturn, 1), (12, .iload_n 3, 1), (13, .invokestatic 118, 3), (16, .ifCond .ne 5, 3), (19, .iconst (-1), 1), (20, .ireturn, 1), (21, .iload_n 2, 1), (22, .iconst 0, 1), (23, .bipush 9, 2), (25, .invokestatic 114, 3), (28, .ifCond .ne 6, 3), (31, .bipush (-2), 2), (33, .ireturn, 1), (34, .aload_n 0, 1), (35, .getfield 111, 3), (38, .bipush 6, 2), (40, .if_icmp .ne 6, 3), (43, .bipush (-4), 2), (45, .ireturn, 1), (46, .aload_n 0, 1), (47, .getfield 9, 3), (50, .aload_n 0, 1), (51, .getfield 111, 3), (54, .iload_n 1, 1), (55, .iastore, 1), (56, .aload_n 0, 1), (57, .getfield 15, 3), (60, .aload_n 0, 1), (61, .getfield 111, 3), (64, .iload_n 2, 1), (65, .iastore, 1), (66, .aload_n 0, 1), (67, .getfield 18, 3), (70, .aload_n 0, 1), (71, .getfield 111, 3), (74, .iload_n 3, 1), (75, .iastore, 1), (76, .aload_n 0, 1), (77, .getfield 21, 3), (80, .aload_n 0, 1), (81, .getfield 111, 3), (84, .iconst 0, 1), (85, .iastore, 1), (86, .aload_n 0, 1), (87, .getfield 24, 3), (90, .aload_n 0, 1), (91, .getfield 111, 3), (94, .iconst 0, 1), (95, .iastore, 1), (96, .aload_n 0, 1), (97, .getfield 27, 3), (100, .aload_n 0, 1), (101, .getfield 111, 3), (104, .iconst 0, 1)]
def m_drawer_c1 : List (Nat × (Instr × Nat)) := [(105, .iastore, 1), (106, .iconst 0, 1), (107, .istore 4, 2), (109, .iload 4, 2), (111, .iconst 4, 1), (112, .if_icmp .ge 24, 3), (115, .aload_n 0, 1), (116, .getfield 33, 3), (119, .iconst 4, 1), (120, .aload_n 0, 1), (121, .getfield 111, 3), (124, .imul, 1), (125, .iload 4, 2), (127, .iadd, 1), (128, .iconst 0, 1), (129, .iastore, 1), (130, .iinc 4 1, 3), (133, .goto (-24), 3), (136, .aload_n 0, 1), (137, .dup, 1), (138, .getfield 111, 3), (141, .dup_x1, 1), (142, .iconst 1, 1), (143, .iadd, 1), (144, .putfield 111, 3), (147, .ireturn, 1)]
def m_drawer : am_M := (9, some .int, 5, false, m_drawer_c0 ++ (m_drawer_c1))
def m_within_c0 : List (Nat × (Instr × Nat)) := [(0, .iload_n 0, 1), (1, .iload_n 1, 1), (2, .if_icmp .lt 12, 3), (5, .iload_n 0, 1), (6, .iload_n 2, 1), (7, .if_icmp .gt 7, 3), (10, .iconst 1, 1), (11, .goto 4, 3), (14, .iconst 0, 1), (15, .ireturn, 1)]
def m_within : am_M := (9, some .boolean, 3, false, m_within_c0)
def m_isCell_c0 : List (Nat × (Instr × Nat)) := [(0, .iload_n 0, 1), (1, .iconst 0, 1), (2, .bipush 15, 2), (4, .invokestatic 114, 3), (7, .ireturn, 1)]
def m_isCell : am_M := (9, some .boolean, 1, false, m_isCell_c0)
def m_of_c0 : List (Nat × (Instr × Nat)) := [(0, .aload_n 0, 1), (1, .iload_n 1, 1), (2, .invokevirtual 122, 3), (5, .ifCond .ne 7, 3), (8, .sipush (-10001), 3), (11, .ireturn, 1), (12, .iload_n 2, 1), (13, .tableswitch 143 0 11 #[63, 70, 77, 84, 91, 98, 105, 111, 117, 124, 131, 137], 63), (76, .aload_n 0, 1), (77, .getfield 9, 3), (80, .iload_n 1, 1), (81, .iaload, 1), (82, .ireturn, 1), (83, .aload_n 0, 1), (84, .getfield 15, 3), (87, .iload_n 1, 1), (88, .iaload, 1), (89, .ireturn, 1), (90, .aload_n 0, 1), (91, .getfield 18, 3), (94, .iload_n 1, 1), (95, .iaload, 1), (96, .ireturn, 1), (97, .aload_n 0, 1), (98, .getfield 21, 3), (101, .iload_n 1, 1), (102, .iaload, 1), (103, .ireturn, 1), (104, .aload_n 0, 1), (105, .getfield 24, 3), (108, .iload_n 1, 1), (109, .iaload, 1), (110, .ireturn, 1), (111, .aload_n 0, 1), (112, .getfield 27, 3), (115, .iload_n 1, 1), (116, .iaload, 1), (117, .ireturn, 1), (118, .aload_n 0, 1), (119, .iload_n 1, 1), (120, .invokevirtual 125, 3), (123, .ireturn, 1), (124, .aload_n 0, 1), (125, .iload_n 1, 1), (126, .invokevirtual 129, 3), (129, .ireturn, 1), (130, .aload_n 0, 1), (131, .iload_n 1, 1), (132, .iconst 0, 1), (133, .invokevirtual 132, 3), (136, .ireturn, 1), (137, .aload_n 0, 1), (138, .iload_n 1, 1), (139, .iconst 1, 1), (140, .invokevirtual 132, 3), (143, .ireturn, 1), (144, .aload_n 0, 1), (145, .iload_n 1, 1), (146, .invokevirtual 136, 3), (149, .ireturn, 1)]
def m_of_c1 : List (Nat × (Instr × Nat)) := [(150, .aload_n 0, 1), (151, .iload_n 1, 1), (152, .invokevirtual 139, 3), (155, .ireturn, 1), (156, .sipush (-10001), 3), (159, .ireturn, 1)]
def m_of : am_M := (9, some .int, 3, false, m_of_c0 ++ (m_of_c1))
def m_isOne_c0 : List (Nat × (Instr × Nat)) := [(0, .iload_n 1, 1), (1, .iconst 0, 1), (2, .aload_n 0, 1), (3, .getfield 111, 3), (6, .iconst 1, 1), (7, .isub, 1), (8, .invokestatic 114, 3), (11, .ireturn, 1)]
def m_isOne : am_M := (9, some .boolean, 2, false, m_isOne_c0)
def m_feel_c0 : List (Nat × (Instr × Nat)) := [(0, .aload_n 0, 1), (1, .iload_n 1, 1), (2, .invokevirtual 231, 3), (5, .istore_n 2, 1), (6, .aload_n 0, 1), (7, .getfield 9, 3), (10, .iload_n 1, 1), (11, .iaload, 1), (12, .tableswitch 134 1 6 #[40, 49, 53, 61, 94, 110], 40), (52, .iload_n 2, 1), (53, .aload_n 0, 1), (54, .getfield 15, 3), (57, .iload_n 1, 1), (58, .iaload, 1), (59, .iadd, 1), (60, .ireturn, 1), (61, .iload_n 2, 1), (62, .iconst 2, 1), (63, .idiv, 1), (64, .ireturn, 1), (65, .iload_n 2, 1), (66, .aload_n 0, 1), (67, .iload_n 1, 1), (68, .invokevirtual 234, 3), (71, .iadd, 1), (72, .ireturn, 1), (73, .aload_n 0, 1), (74, .getfield 21, 3), (77, .iload_n 1, 1), (78, .iaload, 1), (79, .ifCond .ne 18, 3), (82, .iconst 2, 1), (83, .iload_n 2, 1), (84, .aload_n 0, 1), (85, .getfield 15, 3), (88, .iload_n 1, 1), (89, .iaload, 1), (90, .iadd, 1), (91, .imul, 1), (92, .iconst 1, 1), (93, .iadd, 1), (94, .goto 11, 3), (97, .iload_n 2, 1), (98, .aload_n 0, 1), (99, .getfield 15, 3), (102, .iload_n 1, 1), (103, .iaload, 1), (104, .iadd, 1), (105, .ireturn, 1), (106, .iload_n 2, 1), (107, .iconst 2, 1), (108, .idiv, 1), (109, .aload_n 0, 1), (110, .getfield 36, 3), (113, .aload_n 0, 1), (114, .getfield 18, 3), (117, .iload_n 1, 1), (118, .iaload, 1), (119, .iaload, 1), (120, .iadd, 1)]
def m_feel_c1 : List (Nat × (Instr × Nat)) := [(121, .ireturn, 1), (122, .iload_n 2, 1), (123, .aload_n 0, 1), (124, .iload_n 1, 1), (125, .invokevirtual 234, 3), (128, .iadd, 1), (129, .aload_n 0, 1), (130, .getfield 33, 3), (133, .iconst 4, 1), (134, .iload_n 1, 1), (135, .imul, 1), (136, .aload_n 0, 1), (137, .getfield 220, 3), (140, .iconst 4, 1), (141, .irem, 1), (142, .iadd, 1), (143, .iaload, 1), (144, .iadd, 1), (145, .ireturn, 1), (146, .iload_n 2, 1), (147, .ireturn, 1)]
def m_feel : am_M := (9, some .int, 3, false, m_feel_c0 ++ (m_feel_c1))
def m_sum_c0 : List (Nat × (Instr × Nat)) := [(0, .aload_n 0, 1), (1, .getfield 15, 3), (4, .iload_n 1, 1), (5, .iaload, 1), (6, .aload_n 0, 1), (7, .getfield 220, 3), (10, .bipush 10, 2), (12, .irem, 1), (13, .iadd, 1), (14, .istore_n 2, 1), (15, .iconst 0, 1), (16, .istore_n 3, 1), (17, .aload_n 0, 1), (18, .getfield 107, 3), (21, .iconst (-1), 1), (22, .if_icmp .eq 85, 3), (25, .iload_n 3, 1), (26, .aload_n 0, 1), (27, .getfield 42, 3), (30, .aload_n 0, 1), (31, .getfield 107, 3), (34, .iaload, 1), (35, .if_icmp .ge 72, 3), (38, .bipush 10, 2), (40, .aload_n 0, 1), (41, .getfield 107, 3), (44, .imul, 1), (45, .iload_n 3, 1), (46, .iadd, 1), (47, .istore 4, 2), (49, .aload_n 0, 1), (50, .getfield 45, 3), (53, .iload 4, 2), (55, .iaload, 1), (56, .iconst 2, 1), (57, .if_icmp .ge 44, 3), (60, .aload_n 0, 1), (61, .iload_n 1, 1), (62, .iload 4, 2), (64, .invokevirtual 227, 3), (67, .ifCond .eq 34, 3), (70, .iload_n 2, 1), (71, .aload_n 0, 1), (72, .getfield 45, 3), (75, .iload 4, 2), (77, .iaload, 1), (78, .ifCond .ne 13, 3), (81, .aload_n 0, 1), (82, .getfield 48, 3), (85, .iload 4, 2), (87, .iaload, 1), (88, .goto 11, 3), (91, .aload_n 0, 1), (92, .getfield 48, 3), (95, .iload 4, 2), (97, .iaload, 1), (98, .ineg, 1), (99, .iadd, 1), (100, .istore_n 2, 1), (101, .iinc 3 1, 3)]
def m_sum_c1 : List (Nat × (Instr × Nat)) := [(104, .goto (-87), 3), (107, .iload_n 2, 1), (108, .ireturn, 1)]
def m_sum : am_M := (9, some .int, 5, false, m_sum_c0 ++ (m_sum_c1))
def m_isTrue_c0 : List (Nat × (Instr × Nat)) := [(0, .iconst 0, 1), (1, .istore_n 3, 1), (2, .aload_n 0, 1), (3, .getfield 51, 3), (6, .iload_n 2, 1), (7, .iaload, 1), (8, .istore 4, 2), (10, .iload 4, 2), (12, .aload_n 0, 1), (13, .getfield 51, 3), (16, .iload_n 2, 1), (17, .iaload, 1), (18, .aload_n 0, 1), (19, .getfield 54, 3), (22, .iload_n 2, 1), (23, .iaload, 1), (24, .iadd, 1), (25, .if_icmp .ge 226, 3), (28, .aload_n 0, 1), (29, .getfield 57, 3), (32, .iload 4, 2), (34, .iaload, 1), (35, .istore 5, 2), (37, .iload 5, 2), (39, .iconst 3, 1), (40, .if_icmp .lt 103, 3), (43, .aload_n 0, 1), (44, .iload_n 1, 1), (45, .iload 5, 2), (47, .iconst 3, 1), (48, .isub, 1), (49, .sipush 300, 3), (52, .idiv, 1), (53, .invokevirtual 223, 3), (56, .istore 6, 2), (58, .iload 5, 2), (60, .iconst 3, 1), (61, .isub, 1), (62, .bipush 100, 2), (64, .irem, 1), (65, .istore 7, 2), (67, .iload 5, 2), (69, .iconst 3, 1), (70, .isub, 1), (71, .bipush 100, 2), (73, .idiv, 1), (74, .iconst 3, 1), (75, .irem, 1), (76, .istore 8, 2), (78, .aload_n 0, 1), (79, .getfield 60, 3), (82, .iload_n 3, 1), (83, .iinc 3 1, 3), (86, .iload 8, 2), (88, .ifCond .ne 18, 3), (91, .iload 6, 2), (93, .iload 7, 2), (95, .if_icmp .ge 7, 3), (98, .iconst 1, 1), (99, .goto 40, 3)]
def m_isTrue_c1 : List (Nat × (Instr × Nat)) := [(102, .iconst 0, 1), (103, .goto 36, 3), (106, .iload 8, 2), (108, .iconst 1, 1), (109, .if_icmp .ne 18, 3), (112, .iload 6, 2), (114, .iload 7, 2), (116, .if_icmp .ne 7, 3), (119, .iconst 1, 1), (120, .goto 19, 3), (123, .iconst 0, 1), (124, .goto 15, 3), (127, .iload 6, 2), (129, .iload 7, 2), (131, .if_icmp .le 7, 3), (134, .iconst 1, 1), (135, .goto 4, 3), (138, .iconst 0, 1), (139, .bastore, 1), (140, .goto 105, 3), (143, .iload 5, 2), (145, .ifCond .ne 30, 3), (148, .aload_n 0, 1), (149, .getfield 60, 3), (152, .iload_n 3, 1), (153, .iconst 1, 1), (154, .isub, 1), (155, .aload_n 0, 1), (156, .getfield 60, 3), (159, .iload_n 3, 1), (160, .iconst 1, 1), (161, .isub, 1), (162, .baload, 1), (163, .ifCond .ne 7, 3), (166, .iconst 1, 1), (167, .goto 4, 3), (170, .iconst 0, 1), (171, .bastore, 1), (172, .goto 73, 3), (175, .iinc 3 (-1), 3), (178, .aload_n 0, 1), (179, .getfield 60, 3), (182, .iload_n 3, 1), (183, .iconst 1, 1), (184, .isub, 1), (185, .iload 5, 2), (187, .iconst 1, 1), (188, .if_icmp .ne 31, 3), (191, .aload_n 0, 1), (192, .getfield 60, 3), (195, .iload_n 3, 1), (196, .iconst 1, 1), (197, .isub, 1), (198, .baload, 1), (199, .ifCond .eq 16, 3), (202, .aload_n 0, 1), (203, .getfield 60, 3), (206, .iload_n 3, 1), (207, .baload, 1), (208, .ifCond .eq 7, 3)]
def m_isTrue_c2 : List (Nat × (Instr × Nat)) := [(211, .iconst 1, 1), (212, .goto 32, 3), (215, .iconst 0, 1), (216, .goto 28, 3), (219, .aload_n 0, 1), (220, .getfield 60, 3), (223, .iload_n 3, 1), (224, .iconst 1, 1), (225, .isub, 1), (226, .baload, 1), (227, .ifCond .ne 12, 3), (230, .aload_n 0, 1), (231, .getfield 60, 3), (234, .iload_n 3, 1), (235, .baload, 1), (236, .ifCond .eq 7, 3), (239, .iconst 1, 1), (240, .goto 4, 3), (243, .iconst 0, 1), (244, .bastore, 1), (245, .iinc 4 1, 3), (248, .goto (-238), 3), (251, .aload_n 0, 1), (252, .getfield 60, 3), (255, .iconst 0, 1), (256, .baload, 1), (257, .ireturn, 1)]
def m_isTrue : am_M := (9, some .boolean, 9, false, m_isTrue_c0 ++ (m_isTrue_c1 ++ (m_isTrue_c2)))
def m_letterOf_c0 : List (Nat × (Instr × Nat)) := [(0, .iload_n 2, 1), (1, .tableswitch 70 0 4 #[35, 37, 44, 51, 63], 35), (36, .iload_n 1, 1), (37, .ireturn, 1), (38, .aload_n 0, 1), (39, .getfield 9, 3), (42, .iload_n 1, 1), (43, .iaload, 1), (44, .ireturn, 1), (45, .aload_n 0, 1), (46, .getfield 15, 3), (49, .iload_n 1, 1), (50, .iaload, 1), (51, .ireturn, 1), (52, .aload_n 0, 1), (53, .getfield 36, 3), (56, .aload_n 0, 1), (57, .getfield 18, 3), (60, .iload_n 1, 1), (61, .iaload, 1), (62, .iaload, 1), (63, .ireturn, 1), (64, .aload_n 0, 1), (65, .getfield 21, 3), (68, .iload_n 1, 1), (69, .iaload, 1), (70, .ireturn, 1), (71, .aload_n 0, 1), (72, .getfield 220, 3), (75, .bipush 10, 2), (77, .irem, 1), (78, .ireturn, 1)]
def m_letterOf : am_M := (9, some .int, 3, false, m_letterOf_c0)
def m_others_c0 : List (Nat × (Instr × Nat)) := [(0, .iconst (-1), 1), (1, .istore_n 2, 1), (2, .iconst 0, 1), (3, .istore_n 3, 1), (4, .iload_n 3, 1), (5, .aload_n 0, 1), (6, .getfield 111, 3), (9, .if_icmp .ge 27, 3), (12, .aload_n 0, 1), (13, .getfield 18, 3), (16, .iload_n 3, 1), (17, .iaload, 1), (18, .aload_n 0, 1), (19, .getfield 18, 3), (22, .iload_n 1, 1), (23, .iaload, 1), (24, .if_icmp .ne 6, 3), (27, .iinc 2 1, 3), (30, .iinc 3 1, 3), (33, .goto (-29), 3), (36, .iload_n 2, 1), (37, .ireturn, 1)]
def m_others : am_M := (9, some .int, 4, false, m_others_c0)
def m_wayOf_c0 : List (Nat × (Instr × Nat)) := [(0, .aload_n 0, 1), (1, .iload_n 1, 1), (2, .invokevirtual 125, 3), (5, .iconst 3, 1), (6, .iand, 1), (7, .ireturn, 1)]
def m_wayOf : am_M := (9, some .int, 2, false, m_wayOf_c0)
def m_came_c0 : List (Nat × (Instr × Nat)) := [(0, .iconst 0, 1), (1, .istore_n 3, 1), (2, .iconst 0, 1), (3, .istore 4, 2), (5, .iload 4, 2), (7, .bipush 16, 2), (9, .if_icmp .ge 107, 3), (12, .iload 4, 2), (14, .istore 5, 2), (16, .iconst 1, 1), (17, .istore 6, 2), (19, .iconst 0, 1), (20, .istore 7, 2), (22, .iload 7, 2), (24, .aload_n 0, 1), (25, .getfield 21, 3), (28, .iload_n 1, 1), (29, .iaload, 1), (30, .if_icmp .ge 59, 3), (33, .iload 5, 2), (35, .aload_n 0, 1), (36, .getfield 30, 3), (39, .bipush 8, 2), (41, .iload_n 1, 1), (42, .imul, 1), (43, .iload 7, 2), (45, .iadd, 1), (46, .iaload, 1), (47, .bipush 10, 2), (49, .idiv, 1), (50, .invokestatic 237, 3), (53, .istore 5, 2), (55, .aload_n 0, 1), (56, .getfield 36, 3), (59, .iload 5, 2), (61, .iaload, 1), (62, .aload_n 0, 1), (63, .getfield 30, 3), (66, .bipush 8, 2), (68, .iload_n 1, 1), (69, .imul, 1), (70, .iload 7, 2), (72, .iadd, 1), (73, .iaload, 1), (74, .bipush 10, 2), (76, .irem, 1), (77, .if_icmp .eq 6, 3), (80, .iconst 0, 1), (81, .istore 6, 2), (83, .iinc 7 1, 3), (86, .goto (-64), 3), (89, .iload 6, 2), (91, .ifCond .eq 19, 3), (94, .iload_n 3, 1), (95, .iconst 1, 1), (96, .iload_n 2, 1), (97, .ifCond .eq 8, 3), (100, .iload 5, 2), (102, .goto 5, 3), (105, .iload 4, 2)]
def m_came_c1 : List (Nat × (Instr × Nat)) := [(107, .ishl, 1), (108, .ior, 1), (109, .istore_n 3, 1), (110, .iinc 4 1, 3), (113, .goto (-108), 3), (116, .iload_n 3, 1), (117, .ireturn, 1)]
def m_came : am_M := (9, some .int, 8, false, m_came_c0 ++ (m_came_c1))
def m_step_c0 : List (Nat × (Instr × Nat)) := [(0, .iload_n 1, 1), (1, .tableswitch 69 0 2 #[27, 40, 54], 27), (28, .iload_n 0, 1), (29, .iconst 4, 1), (30, .if_icmp .ge 7, 3), (33, .iload_n 0, 1), (34, .goto 6, 3), (37, .iload_n 0, 1), (38, .iconst 4, 1), (39, .isub, 1), (40, .ireturn, 1), (41, .iload_n 0, 1), (42, .iconst 4, 1), (43, .irem, 1), (44, .ifCond .ne 7, 3), (47, .iload_n 0, 1), (48, .goto 6, 3), (51, .iload_n 0, 1), (52, .iconst 1, 1), (53, .isub, 1), (54, .ireturn, 1), (55, .iload_n 0, 1), (56, .iconst 4, 1), (57, .irem, 1), (58, .iconst 3, 1), (59, .if_icmp .ne 7, 3), (62, .iload_n 0, 1), (63, .goto 6, 3), (66, .iload_n 0, 1), (67, .iconst 1, 1), (68, .iadd, 1), (69, .ireturn, 1), (70, .iload_n 0, 1), (71, .bipush 11, 2), (73, .if_icmp .le 7, 3), (76, .iload_n 0, 1), (77, .goto 6, 3), (80, .iload_n 0, 1), (81, .iconst 4, 1), (82, .iadd, 1), (83, .ireturn, 1)]
def m_step : am_M := (9, some .int, 2, false, m_step_c0)
def m_look_c0 : List (Nat × (Instr × Nat)) := [(0, .aload_n 0, 1), (1, .iload_n 1, 1), (2, .iconst 1, 1), (3, .invokevirtual 132, 3), (6, .istore_n 2, 1), (7, .iload_n 2, 1), (8, .ifCond .ne 6, 3), (11, .bipush (-5), 2), (13, .ireturn, 1), (14, .iconst 0, 1), (15, .istore_n 3, 1), (16, .sipush 9999, 3), (19, .istore 4, 2), (21, .iconst 0, 1), (22, .istore 5, 2), (24, .iload 5, 2), (26, .iconst 4, 1), (27, .if_icmp .ge 103, 3), (30, .iconst 0, 1), (31, .istore 6, 2), (33, .iconst 0, 1), (34, .istore 7, 2), (36, .iload 7, 2), (38, .bipush 8, 2), (40, .if_icmp .ge 67, 3), (43, .iconst 0, 1), (44, .istore 8, 2), (46, .iconst 0, 1), (47, .istore 9, 2), (49, .iload 9, 2), (51, .bipush 16, 2), (53, .if_icmp .ge 39, 3), (56, .iload_n 2, 1), (57, .iload 9, 2), (59, .ishr, 1), (60, .iconst 1, 1), (61, .iand, 1), (62, .iconst 1, 1), (63, .if_icmp .ne 23, 3), (66, .aload_n 0, 1), (67, .getfield 36, 3), (70, .iload 9, 2), (72, .iload 5, 2), (74, .invokestatic 237, 3), (77, .iaload, 1), (78, .iload 7, 2), (80, .if_icmp .ne 6, 3), (83, .iinc 8 1, 3), (86, .iinc 9 1, 3), (89, .goto (-40), 3), (92, .iload 6, 2), (94, .iload 8, 2), (96, .invokestatic 279, 3), (99, .istore 6, 2), (101, .iinc 7 1, 3), (104, .goto (-68), 3), (107, .iload 6, 2), (109, .iload 4, 2), (111, .if_icmp .lt 6, 3), (114, .goto 10, 3)]
def m_look_c1 : List (Nat × (Instr × Nat)) := [(117, .iload 6, 2), (119, .istore 4, 2), (121, .iload 5, 2), (123, .istore_n 3, 1), (124, .iinc 5 1, 3), (127, .goto (-103), 3), (130, .iload_n 3, 1), (131, .ireturn, 1)]
def m_look : am_M := (9, some .int, 10, false, m_look_c0 ++ (m_look_c1))
def m_places_c0 : List (Nat × (Instr × Nat)) := [(0, .aload_n 0, 1), (1, .getfield 18, 3), (4, .iload_n 1, 1), (5, .iaload, 1), (6, .istore_n 2, 1), (7, .iconst 0, 1), (8, .istore_n 3, 1), (9, .iconst 0, 1), (10, .istore 4, 2), (12, .iload 4, 2), (14, .bipush 16, 2), (16, .if_icmp .ge 31, 3), (19, .aload_n 0, 1), (20, .getfield 18, 3), (23, .iload_n 1, 1), (24, .iload 4, 2), (26, .iastore, 1), (27, .aload_n 0, 1), (28, .invokevirtual 299, 3), (31, .ifCond .eq 10, 3), (34, .iload_n 3, 1), (35, .iconst 1, 1), (36, .iload 4, 2), (38, .ishl, 1), (39, .ior, 1), (40, .istore_n 3, 1), (41, .iinc 4 1, 3), (44, .goto (-32), 3), (47, .aload_n 0, 1), (48, .getfield 18, 3), (51, .iload_n 1, 1), (52, .iload_n 2, 1), (53, .iastore, 1), (54, .iload_n 3, 1), (55, .ireturn, 1)]
def m_places : am_M := (9, some .int, 5, false, m_places_c0)
def m_isSeen_c0 : List (Nat × (Instr × Nat)) := [(0, .aload_n 0, 1), (1, .aload_n 0, 1), (2, .getfield 91, 3), (5, .invokevirtual 253, 3), (8, .iconst 1, 1), (9, .istore_n 1, 1), (10, .iconst 0, 1), (11, .istore_n 2, 1), (12, .iload_n 2, 1), (13, .bipush 13, 2), (15, .if_icmp .ge 74, 3), (18, .iload_n 1, 1), (19, .ifCond .eq 70, 3), (22, .iload_n 2, 1), (23, .ifCond .le 7, 3), (26, .aload_n 0, 1), (27, .invokevirtual 250, 3), (30, .iconst 0, 1), (31, .istore_n 3, 1), (32, .iload_n 3, 1), (33, .aload_n 0, 1), (34, .getfield 296, 3), (37, .if_icmp .ge 46, 3), (40, .aload_n 0, 1), (41, .getfield 67, 3), (44, .iload_n 3, 1), (45, .iaload, 1), (46, .iload_n 2, 1), (47, .if_icmp .ne 30, 3), (50, .aload_n 0, 1), (51, .getfield 36, 3), (54, .aload_n 0, 1), (55, .getfield 18, 3), (58, .aload_n 0, 1), (59, .getfield 64, 3), (62, .iload_n 3, 1), (63, .iaload, 1), (64, .iaload, 1), (65, .iaload, 1), (66, .aload_n 0, 1), (67, .getfield 70, 3), (70, .iload_n 3, 1), (71, .iaload, 1), (72, .if_icmp .eq 5, 3), (75, .iconst 0, 1), (76, .istore_n 1, 1), (77, .iinc 3 1, 3), (80, .goto (-48), 3), (83, .iinc 2 1, 3), (86, .goto (-74), 3), (89, .aload_n 0, 1), (90, .aload_n 0, 1), (91, .getfield 91, 3), (94, .invokevirtual 258, 3), (97, .iload_n 1, 1), (98, .ireturn, 1)]
def m_isSeen : am_M := (9, some .boolean, 4, false, m_isSeen_c0)
def m_keep_c0 : List (Nat × (Instr × Nat)) := [(0, .iconst 0, 1), (1, .istore_n 2, 1), (2, .iload_n 2, 1), (3, .bipush 6, 2), (5, .if_icmp .ge 78, 3), (8, .aload_n 1, 1), (9, .iload_n 2, 1), (10, .aload_n 0, 1), (11, .getfield 9, 3), (14, .iload_n 2, 1), (15, .iaload, 1), (16, .iastore, 1), (17, .aload_n 1, 1), (18, .bipush 6, 2), (20, .iload_n 2, 1), (21, .iadd, 1), (22, .aload_n 0, 1), (23, .getfield 15, 3), (26, .iload_n 2, 1), (27, .iaload, 1), (28, .iastore, 1), (29, .aload_n 1, 1), (30, .bipush 12, 2), (32, .iload_n 2, 1), (33, .iadd, 1), (34, .aload_n 0, 1), (35, .getfield 18, 3), (38, .iload_n 2, 1), (39, .iaload, 1), (40, .iastore, 1), (41, .aload_n 1, 1), (42, .bipush 18, 2), (44, .iload_n 2, 1), (45, .iadd, 1), (46, .aload_n 0, 1), (47, .getfield 21, 3), (50, .iload_n 2, 1), (51, .iaload, 1), (52, .iastore, 1), (53, .aload_n 1, 1), (54, .bipush 24, 2), (56, .iload_n 2, 1), (57, .iadd, 1), (58, .aload_n 0, 1), (59, .getfield 24, 3), (62, .iload_n 2, 1), (63, .iaload, 1), (64, .iastore, 1), (65, .aload_n 1, 1), (66, .bipush 30, 2), (68, .iload_n 2, 1), (69, .iadd, 1), (70, .aload_n 0, 1), (71, .getfield 27, 3), (74, .iload_n 2, 1), (75, .iaload, 1), (76, .iastore, 1), (77, .iinc 2 1, 3), (80, .goto (-78), 3), (83, .iconst 0, 1)]
def m_keep_c1 : List (Nat × (Instr × Nat)) := [(84, .istore_n 2, 1), (85, .iload_n 2, 1), (86, .bipush 48, 2), (88, .if_icmp .ge 21, 3), (91, .aload_n 1, 1), (92, .bipush 36, 2), (94, .iload_n 2, 1), (95, .iadd, 1), (96, .aload_n 0, 1), (97, .getfield 30, 3), (100, .iload_n 2, 1), (101, .iaload, 1), (102, .iastore, 1), (103, .iinc 2 1, 3), (106, .goto (-21), 3), (109, .iconst 0, 1), (110, .istore_n 2, 1), (111, .iload_n 2, 1), (112, .bipush 24, 2), (114, .if_icmp .ge 21, 3), (117, .aload_n 1, 1), (118, .bipush 84, 2), (120, .iload_n 2, 1), (121, .iadd, 1), (122, .aload_n 0, 1), (123, .getfield 33, 3), (126, .iload_n 2, 1), (127, .iaload, 1), (128, .iastore, 1), (129, .iinc 2 1, 3), (132, .goto (-21), 3), (135, .iconst 0, 1), (136, .istore_n 2, 1), (137, .iload_n 2, 1), (138, .bipush 16, 2), (140, .if_icmp .ge 21, 3), (143, .aload_n 1, 1), (144, .bipush 108, 2), (146, .iload_n 2, 1), (147, .iadd, 1), (148, .aload_n 0, 1), (149, .getfield 36, 3), (152, .iload_n 2, 1), (153, .iaload, 1), (154, .iastore, 1), (155, .iinc 2 1, 3), (158, .goto (-21), 3), (161, .iconst 0, 1), (162, .istore_n 2, 1), (163, .iload_n 2, 1), (164, .iconst 5, 1), (165, .if_icmp .ge 47, 3), (168, .aload_n 1, 1), (169, .bipush 124, 2), (171, .iload_n 2, 1), (172, .iadd, 1), (173, .aload_n 0, 1), (174, .getfield 64, 3), (177, .iload_n 2, 1), (178, .iaload, 1)]
def m_keep_c2 : List (Nat × (Instr × Nat)) := [(179, .iastore, 1), (180, .aload_n 1, 1), (181, .sipush 129, 3), (184, .iload_n 2, 1), (185, .iadd, 1), (186, .aload_n 0, 1), (187, .getfield 67, 3), (190, .iload_n 2, 1), (191, .iaload, 1), (192, .iastore, 1), (193, .aload_n 1, 1), (194, .sipush 134, 3), (197, .iload_n 2, 1), (198, .iadd, 1), (199, .aload_n 0, 1), (200, .getfield 70, 3), (203, .iload_n 2, 1), (204, .iaload, 1), (205, .iastore, 1), (206, .iinc 2 1, 3), (209, .goto (-46), 3), (212, .iconst 0, 1), (213, .istore_n 2, 1), (214, .iload_n 2, 1), (215, .bipush 10, 2), (217, .if_icmp .ge 35, 3), (220, .aload_n 1, 1), (221, .sipush 139, 3), (224, .iload_n 2, 1), (225, .iadd, 1), (226, .aload_n 0, 1), (227, .getfield 73, 3), (230, .iload_n 2, 1), (231, .iaload, 1), (232, .iastore, 1), (233, .aload_n 1, 1), (234, .sipush 149, 3), (237, .iload_n 2, 1), (238, .iadd, 1), (239, .aload_n 0, 1), (240, .getfield 76, 3), (243, .iload_n 2, 1), (244, .iaload, 1), (245, .iastore, 1), (246, .iinc 2 1, 3), (249, .goto (-35), 3), (252, .iconst 0, 1), (253, .istore_n 2, 1), (254, .iload_n 2, 1), (255, .bipush 8, 2), (257, .if_icmp .ge 35, 3), (260, .aload_n 1, 1), (261, .sipush 159, 3), (264, .iload_n 2, 1), (265, .iadd, 1), (266, .aload_n 0, 1), (267, .getfield 79, 3), (270, .iload_n 2, 1), (271, .iaload, 1), (272, .iastore, 1)]
def m_keep_c3 : List (Nat × (Instr × Nat)) := [(273, .aload_n 1, 1), (274, .sipush 167, 3), (277, .iload_n 2, 1), (278, .iadd, 1), (279, .aload_n 0, 1), (280, .getfield 82, 3), (283, .iload_n 2, 1), (284, .iaload, 1), (285, .iastore, 1), (286, .iinc 2 1, 3), (289, .goto (-35), 3), (292, .aload_n 1, 1), (293, .sipush 175, 3), (296, .aload_n 0, 1), (297, .getfield 111, 3), (300, .iastore, 1), (301, .aload_n 1, 1), (302, .sipush 176, 3), (305, .aload_n 0, 1), (306, .getfield 240, 3), (309, .iastore, 1), (310, .aload_n 1, 1), (311, .sipush 177, 3), (314, .aload_n 0, 1), (315, .getfield 220, 3), (318, .iastore, 1), (319, .aload_n 1, 1), (320, .sipush 178, 3), (323, .aload_n 0, 1), (324, .getfield 296, 3), (327, .iastore, 1), (328, .aload_n 1, 1), (329, .sipush 179, 3), (332, .aload_n 0, 1), (333, .getfield 317, 3), (336, .iastore, 1), (337, .aload_n 1, 1), (338, .sipush 180, 3), (341, .aload_n 0, 1), (342, .getfield 320, 3), (345, .iastore, 1), (346, .aload_n 1, 1), (347, .sipush 181, 3), (350, .aload_n 0, 1), (351, .getfield 107, 3), (354, .iastore, 1), (355, .return_, 1)]
def m_keep : am_M := (9, none, 3, false, m_keep_c0 ++ (m_keep_c1 ++ (m_keep_c2 ++ (m_keep_c3))))
def m_goesHour_c0 : List (Nat × (Instr × Nat)) := [(0, .aload_n 0, 1), (1, .invokevirtual 243, 3), (4, .istore_n 1, 1), (5, .iconst 0, 1), (6, .istore_n 2, 1), (7, .iload_n 2, 1), (8, .aload_n 0, 1), (9, .getfield 111, 3), (12, .if_icmp .ge 45, 3), (15, .aload_n 0, 1), (16, .getfield 94, 3), (19, .iload_n 2, 1), (20, .aload_n 0, 1), (21, .getfield 24, 3), (24, .iload_n 2, 1), (25, .iaload, 1), (26, .iconst 1, 1), (27, .if_icmp .eq 14, 3), (30, .aload_n 0, 1), (31, .getfield 21, 3), (34, .iload_n 2, 1), (35, .iaload, 1), (36, .bipush 8, 2), (38, .if_icmp .ne 7, 3), (41, .iconst (-1), 1), (42, .goto 8, 3), (45, .aload_n 0, 1), (46, .iload_n 2, 1), (47, .invokevirtual 129, 3), (50, .iastore, 1), (51, .iinc 2 1, 3), (54, .goto (-47), 3), (57, .iconst 0, 1), (58, .istore_n 2, 1), (59, .iload_n 2, 1), (60, .aload_n 0, 1), (61, .getfield 111, 3), (64, .if_icmp .ge 31, 3), (67, .aload_n 0, 1), (68, .getfield 94, 3), (71, .iload_n 2, 1), (72, .iaload, 1), (73, .iconst (-1), 1), (74, .if_icmp .eq 15, 3), (77, .aload_n 0, 1), (78, .iload_n 2, 1), (79, .aload_n 0, 1), (80, .getfield 94, 3), (83, .iload_n 2, 1), (84, .iaload, 1), (85, .iload_n 1, 1), (86, .invokevirtual 246, 3), (89, .iinc 2 1, 3), (92, .goto (-33), 3), (95, .aload_n 0, 1), (96, .dup, 1), (97, .getfield 220, 3), (100, .iconst 1, 1), (101, .iadd, 1), (102, .putfield 220, 3)]
def m_goesHour_c1 : List (Nat × (Instr × Nat)) := [(105, .return_, 1)]
def m_goesHour : am_M := (9, none, 3, false, m_goesHour_c0 ++ (m_goesHour_c1))
def m_know_c0 : List (Nat × (Instr × Nat)) := [(0, .iconst 3, 1), (1, .istore_n 1, 1), (2, .iconst 0, 1), (3, .istore_n 2, 1), (4, .aload_n 0, 1), (5, .getfield 107, 3), (8, .iconst (-1), 1), (9, .if_icmp .eq 55, 3), (12, .iload_n 2, 1), (13, .aload_n 0, 1), (14, .getfield 42, 3), (17, .aload_n 0, 1), (18, .getfield 107, 3), (21, .iaload, 1), (22, .if_icmp .ge 42, 3), (25, .aload_n 0, 1), (26, .getfield 45, 3), (29, .bipush 10, 2), (31, .aload_n 0, 1), (32, .getfield 107, 3), (35, .imul, 1), (36, .iload_n 2, 1), (37, .iadd, 1), (38, .iaload, 1), (39, .iconst 2, 1), (40, .if_icmp .ne 18, 3), (43, .aload_n 0, 1), (44, .getfield 48, 3), (47, .bipush 10, 2), (49, .aload_n 0, 1), (50, .getfield 107, 3), (53, .imul, 1), (54, .iload_n 2, 1), (55, .iadd, 1), (56, .iaload, 1), (57, .istore_n 1, 1), (58, .iinc 2 1, 3), (61, .goto (-57), 3), (64, .iload_n 1, 1), (65, .ireturn, 1)]
def m_know : am_M := (9, some .int, 3, false, m_know_c0)
def m_goesBy_c0 : List (Nat × (Instr × Nat)) := [(0, .aload_n 0, 1), (1, .getfield 18, 3), (4, .iload_n 1, 1), (5, .aload_n 0, 1), (6, .getfield 18, 3), (9, .iload_n 1, 1), (10, .iaload, 1), (11, .iload_n 2, 1), (12, .invokestatic 237, 3), (15, .iastore, 1), (16, .aload_n 0, 1), (17, .getfield 36, 3), (20, .aload_n 0, 1), (21, .getfield 18, 3), (24, .iload_n 1, 1), (25, .iaload, 1), (26, .iaload, 1), (27, .istore 4, 2), (29, .aload_n 0, 1), (30, .getfield 30, 3), (33, .bipush 8, 2), (35, .iload_n 1, 1), (36, .imul, 1), (37, .aload_n 0, 1), (38, .getfield 21, 3), (41, .iload_n 1, 1), (42, .iaload, 1), (43, .iadd, 1), (44, .bipush 10, 2), (46, .iload_n 2, 1), (47, .imul, 1), (48, .iload 4, 2), (50, .iadd, 1), (51, .iastore, 1), (52, .aload_n 0, 1), (53, .getfield 21, 3), (56, .iload_n 1, 1), (57, .dup2, 1), (58, .iaload, 1), (59, .iconst 1, 1), (60, .iadd, 1), (61, .iastore, 1), (62, .aload_n 0, 1), (63, .dup, 1), (64, .getfield 240, 3), (67, .iconst 1, 1), (68, .aload_n 0, 1), (69, .getfield 18, 3), (72, .iload_n 1, 1), (73, .iaload, 1), (74, .ishl, 1), (75, .ior, 1), (76, .putfield 240, 3), (79, .aload_n 0, 1), (80, .getfield 27, 3), (83, .iload_n 1, 1), (84, .dup2, 1), (85, .iaload, 1), (86, .iconst 1, 1), (87, .iadd, 1)]
def m_goesBy_c1 : List (Nat × (Instr × Nat)) := [(88, .iastore, 1), (89, .iconst 0, 1), (90, .istore 5, 2), (92, .iconst 0, 1), (93, .istore 6, 2), (95, .iload 6, 2), (97, .aload_n 0, 1), (98, .getfield 21, 3), (101, .iload_n 1, 1), (102, .iaload, 1), (103, .if_icmp .ge 32, 3), (106, .aload_n 0, 1), (107, .getfield 30, 3), (110, .bipush 8, 2), (112, .iload_n 1, 1), (113, .imul, 1), (114, .iload 6, 2), (116, .iadd, 1), (117, .iaload, 1), (118, .bipush 10, 2), (120, .irem, 1), (121, .iload 4, 2), (123, .if_icmp .ne 6, 3), (126, .iinc 5 1, 3), (129, .iinc 6 1, 3), (132, .goto (-37), 3), (135, .iload 5, 2), (137, .iload_n 3, 1), (138, .if_icmp .lt 10, 3), (141, .aload_n 0, 1), (142, .getfield 24, 3), (145, .iload_n 1, 1), (146, .iconst 1, 1), (147, .iastore, 1), (148, .return_, 1)]
def m_goesBy : am_M := (9, none, 7, false, m_goesBy_c0 ++ (m_goesBy_c1))
def m_again_c0 : List (Nat × (Instr × Nat)) := [(0, .iconst 0, 1), (1, .istore_n 2, 1), (2, .iload_n 2, 1), (3, .bipush 6, 2), (5, .if_icmp .ge 78, 3), (8, .aload_n 0, 1), (9, .getfield 9, 3), (12, .iload_n 2, 1), (13, .aload_n 1, 1), (14, .iload_n 2, 1), (15, .iaload, 1), (16, .iastore, 1), (17, .aload_n 0, 1), (18, .getfield 15, 3), (21, .iload_n 2, 1), (22, .aload_n 1, 1), (23, .bipush 6, 2), (25, .iload_n 2, 1), (26, .iadd, 1), (27, .iaload, 1), (28, .iastore, 1), (29, .aload_n 0, 1), (30, .getfield 18, 3), (33, .iload_n 2, 1), (34, .aload_n 1, 1), (35, .bipush 12, 2), (37, .iload_n 2, 1), (38, .iadd, 1), (39, .iaload, 1), (40, .iastore, 1), (41, .aload_n 0, 1), (42, .getfield 21, 3), (45, .iload_n 2, 1), (46, .aload_n 1, 1), (47, .bipush 18, 2), (49, .iload_n 2, 1), (50, .iadd, 1), (51, .iaload, 1), (52, .iastore, 1), (53, .aload_n 0, 1), (54, .getfield 24, 3), (57, .iload_n 2, 1), (58, .aload_n 1, 1), (59, .bipush 24, 2), (61, .iload_n 2, 1), (62, .iadd, 1), (63, .iaload, 1), (64, .iastore, 1), (65, .aload_n 0, 1), (66, .getfield 27, 3), (69, .iload_n 2, 1), (70, .aload_n 1, 1), (71, .bipush 30, 2), (73, .iload_n 2, 1), (74, .iadd, 1), (75, .iaload, 1), (76, .iastore, 1), (77, .iinc 2 1, 3), (80, .goto (-78), 3), (83, .iconst 0, 1)]
def m_again_c1 : List (Nat × (Instr × Nat)) := [(84, .istore_n 2, 1), (85, .iload_n 2, 1), (86, .bipush 48, 2), (88, .if_icmp .ge 21, 3), (91, .aload_n 0, 1), (92, .getfield 30, 3), (95, .iload_n 2, 1), (96, .aload_n 1, 1), (97, .bipush 36, 2), (99, .iload_n 2, 1), (100, .iadd, 1), (101, .iaload, 1), (102, .iastore, 1), (103, .iinc 2 1, 3), (106, .goto (-21), 3), (109, .iconst 0, 1), (110, .istore_n 2, 1), (111, .iload_n 2, 1), (112, .bipush 24, 2), (114, .if_icmp .ge 21, 3), (117, .aload_n 0, 1), (118, .getfield 33, 3), (121, .iload_n 2, 1), (122, .aload_n 1, 1), (123, .bipush 84, 2), (125, .iload_n 2, 1), (126, .iadd, 1), (127, .iaload, 1), (128, .iastore, 1), (129, .iinc 2 1, 3), (132, .goto (-21), 3), (135, .iconst 0, 1), (136, .istore_n 2, 1), (137, .iload_n 2, 1), (138, .bipush 16, 2), (140, .if_icmp .ge 21, 3), (143, .aload_n 0, 1), (144, .getfield 36, 3), (147, .iload_n 2, 1), (148, .aload_n 1, 1), (149, .bipush 108, 2), (151, .iload_n 2, 1), (152, .iadd, 1), (153, .iaload, 1), (154, .iastore, 1), (155, .iinc 2 1, 3), (158, .goto (-21), 3), (161, .iconst 0, 1), (162, .istore_n 2, 1), (163, .iload_n 2, 1), (164, .iconst 5, 1), (165, .if_icmp .ge 47, 3), (168, .aload_n 0, 1), (169, .getfield 64, 3), (172, .iload_n 2, 1), (173, .aload_n 1, 1), (174, .bipush 124, 2), (176, .iload_n 2, 1), (177, .iadd, 1), (178, .iaload, 1)]
def m_again_c2 : List (Nat × (Instr × Nat)) := [(179, .iastore, 1), (180, .aload_n 0, 1), (181, .getfield 67, 3), (184, .iload_n 2, 1), (185, .aload_n 1, 1), (186, .sipush 129, 3), (189, .iload_n 2, 1), (190, .iadd, 1), (191, .iaload, 1), (192, .iastore, 1), (193, .aload_n 0, 1), (194, .getfield 70, 3), (197, .iload_n 2, 1), (198, .aload_n 1, 1), (199, .sipush 134, 3), (202, .iload_n 2, 1), (203, .iadd, 1), (204, .iaload, 1), (205, .iastore, 1), (206, .iinc 2 1, 3), (209, .goto (-46), 3), (212, .iconst 0, 1), (213, .istore_n 2, 1), (214, .iload_n 2, 1), (215, .bipush 10, 2), (217, .if_icmp .ge 35, 3), (220, .aload_n 0, 1), (221, .getfield 73, 3), (224, .iload_n 2, 1), (225, .aload_n 1, 1), (226, .sipush 139, 3), (229, .iload_n 2, 1), (230, .iadd, 1), (231, .iaload, 1), (232, .iastore, 1), (233, .aload_n 0, 1), (234, .getfield 76, 3), (237, .iload_n 2, 1), (238, .aload_n 1, 1), (239, .sipush 149, 3), (242, .iload_n 2, 1), (243, .iadd, 1), (244, .iaload, 1), (245, .iastore, 1), (246, .iinc 2 1, 3), (249, .goto (-35), 3), (252, .iconst 0, 1), (253, .istore_n 2, 1), (254, .iload_n 2, 1), (255, .bipush 8, 2), (257, .if_icmp .ge 35, 3), (260, .aload_n 0, 1), (261, .getfield 79, 3), (264, .iload_n 2, 1), (265, .aload_n 1, 1), (266, .sipush 159, 3), (269, .iload_n 2, 1), (270, .iadd, 1), (271, .iaload, 1), (272, .iastore, 1)]
def m_again_c3 : List (Nat × (Instr × Nat)) := [(273, .aload_n 0, 1), (274, .getfield 82, 3), (277, .iload_n 2, 1), (278, .aload_n 1, 1), (279, .sipush 167, 3), (282, .iload_n 2, 1), (283, .iadd, 1), (284, .iaload, 1), (285, .iastore, 1), (286, .iinc 2 1, 3), (289, .goto (-35), 3), (292, .aload_n 0, 1), (293, .aload_n 1, 1), (294, .sipush 175, 3), (297, .iaload, 1), (298, .putfield 111, 3), (301, .aload_n 0, 1), (302, .aload_n 1, 1), (303, .sipush 176, 3), (306, .iaload, 1), (307, .putfield 240, 3), (310, .aload_n 0, 1), (311, .aload_n 1, 1), (312, .sipush 177, 3), (315, .iaload, 1), (316, .putfield 220, 3), (319, .aload_n 0, 1), (320, .aload_n 1, 1), (321, .sipush 178, 3), (324, .iaload, 1), (325, .putfield 296, 3), (328, .aload_n 0, 1), (329, .aload_n 1, 1), (330, .sipush 179, 3), (333, .iaload, 1), (334, .putfield 317, 3), (337, .aload_n 0, 1), (338, .aload_n 1, 1), (339, .sipush 180, 3), (342, .iaload, 1), (343, .putfield 320, 3), (346, .aload_n 0, 1), (347, .aload_n 1, 1), (348, .sipush 181, 3), (351, .iaload, 1), (352, .putfield 107, 3), (355, .return_, 1)]
def m_again : am_M := (9, none, 3, false, m_again_c0 ++ (m_again_c1 ++ (m_again_c2 ++ (m_again_c3))))
def m_sheet_c0 : List (Nat × (Instr × Nat)) := [(0, .aload_n 0, 1), (1, .iload_n 1, 1), (2, .invokevirtual 122, 3), (5, .ifCond .eq 33, 3), (8, .iload_n 2, 1), (9, .iconst 0, 1), (10, .aload_n 0, 1), (11, .getfield 21, 3), (14, .iload_n 1, 1), (15, .iaload, 1), (16, .iconst 1, 1), (17, .isub, 1), (18, .invokestatic 114, 3), (21, .ifCond .eq 17, 3), (24, .aload_n 0, 1), (25, .getfield 30, 3), (28, .bipush 8, 2), (30, .iload_n 1, 1), (31, .imul, 1), (32, .iload_n 2, 1), (33, .iadd, 1), (34, .iaload, 1), (35, .goto 4, 3), (38, .iconst (-1), 1), (39, .ireturn, 1)]
def m_sheet : am_M := (9, some .int, 3, false, m_sheet_c0)
def m_put_c0 : List (Nat × (Instr × Nat)) := [(0, .aload_n 0, 1), (1, .iload_n 1, 1), (2, .invokevirtual 122, 3), (5, .ifCond .eq 10, 3), (8, .iload_n 2, 1), (9, .invokestatic 118, 3), (12, .ifCond .ne 5, 3), (15, .iconst (-1), 1), (16, .ireturn, 1), (17, .aload_n 0, 1), (18, .getfield 18, 3), (21, .iload_n 1, 1), (22, .iaload, 1), (23, .istore_n 3, 1), (24, .aload_n 0, 1), (25, .getfield 18, 3), (28, .iload_n 1, 1), (29, .iload_n 2, 1), (30, .iastore, 1), (31, .iload_n 3, 1), (32, .ireturn, 1)]
def m_put : am_M := (9, some .int, 4, false, m_put_c0)
def m_anew_c0 : List (Nat × (Instr × Nat)) := [(0, .aload_n 0, 1), (1, .iload_n 1, 1), (2, .invokevirtual 122, 3), (5, .ifCond .ne 5, 3), (8, .iconst (-1), 1), (9, .ireturn, 1), (10, .aload_n 0, 1), (11, .getfield 21, 3), (14, .iload_n 1, 1), (15, .iaload, 1), (16, .istore_n 2, 1), (17, .aload_n 0, 1), (18, .getfield 21, 3), (21, .iload_n 1, 1), (22, .iconst 0, 1), (23, .iastore, 1), (24, .aload_n 0, 1), (25, .getfield 24, 3), (28, .iload_n 1, 1), (29, .iconst 0, 1), (30, .iastore, 1), (31, .iload_n 2, 1), (32, .ireturn, 1)]
def m_anew : am_M := (9, some .int, 3, false, m_anew_c0)
def m_mark_c0 : List (Nat × (Instr × Nat)) := [(0, .iload_n 1, 1), (1, .invokestatic 118, 3), (4, .ifCond .ne 5, 3), (7, .iconst (-1), 1), (8, .ireturn, 1), (9, .iload_n 2, 1), (10, .iconst 0, 1), (11, .bipush 7, 2), (13, .invokestatic 114, 3), (16, .ifCond .ne 6, 3), (19, .bipush (-2), 2), (21, .ireturn, 1), (22, .aload_n 0, 1), (23, .getfield 36, 3), (26, .iload_n 1, 1), (27, .iaload, 1), (28, .istore_n 3, 1), (29, .aload_n 0, 1), (30, .getfield 36, 3), (33, .iload_n 1, 1), (34, .iload_n 2, 1), (35, .iastore, 1), (36, .iload_n 3, 1), (37, .ireturn, 1)]
def m_mark : am_M := (9, some .int, 4, false, m_mark_c0)
def m_row_c0 : List (Nat × (Instr × Nat)) := [(0, .aload_n 0, 1), (1, .iload_n 1, 1), (2, .invokevirtual 122, 3), (5, .ifCond .eq 12, 3), (8, .iload_n 2, 1), (9, .iconst 0, 1), (10, .iconst 3, 1), (11, .invokestatic 114, 3), (14, .ifCond .ne 5, 3), (17, .iconst (-1), 1), (18, .ireturn, 1), (19, .iload_n 3, 1), (20, .iconst 0, 1), (21, .bipush 9, 2), (23, .invokestatic 114, 3), (26, .ifCond .ne 6, 3), (29, .bipush (-2), 2), (31, .ireturn, 1), (32, .aload_n 0, 1), (33, .getfield 9, 3), (36, .iload_n 1, 1), (37, .iaload, 1), (38, .bipush 6, 2), (40, .if_icmp .eq 6, 3), (43, .bipush (-3), 2), (45, .ireturn, 1), (46, .aload_n 0, 1), (47, .getfield 33, 3), (50, .iconst 4, 1), (51, .iload_n 1, 1), (52, .imul, 1), (53, .iload_n 2, 1), (54, .iadd, 1), (55, .iaload, 1), (56, .istore 4, 2), (58, .aload_n 0, 1), (59, .getfield 33, 3), (62, .iconst 4, 1), (63, .iload_n 1, 1), (64, .imul, 1), (65, .iload_n 2, 1), (66, .iadd, 1), (67, .iload_n 3, 1), (68, .iastore, 1), (69, .iload 4, 2), (71, .ireturn, 1)]
def m_row : am_M := (9, some .int, 5, false, m_row_c0)
def m_feed_c0 : List (Nat × (Instr × Nat)) := [(0, .iload_n 1, 1), (1, .iconst 0, 1), (2, .bipush 127, 2), (4, .invokestatic 114, 3), (7, .ifCond .ne 6, 3), (10, .bipush (-2), 2), (12, .ireturn, 1), (13, .aload_n 0, 1), (14, .getfield 142, 3), (17, .bipush 100, 2), (19, .if_icmp .ne 6, 3), (22, .bipush (-4), 2), (24, .ireturn, 1), (25, .aload_n 0, 1), (26, .getfield 39, 3), (29, .aload_n 0, 1), (30, .dup, 1), (31, .getfield 142, 3), (34, .dup_x1, 1), (35, .iconst 1, 1), (36, .iadd, 1), (37, .putfield 142, 3), (40, .iload_n 1, 1), (41, .iastore, 1), (42, .aload_n 0, 1), (43, .getfield 142, 3), (46, .ireturn, 1)]
def m_feed : am_M := (9, some .int, 2, false, m_feed_c0)
def m_office_c0 : List (Nat × (Instr × Nat)) := [(0, .aload_n 0, 1), (1, .getfield 214, 3), (4, .bipush 6, 2), (6, .if_icmp .ne 6, 3), (9, .bipush (-4), 2), (11, .ireturn, 1), (12, .aload_n 0, 1), (13, .getfield 170, 3), (16, .istore_n 1, 1), (17, .aload_n 0, 1), (18, .iconst 0, 1), (19, .putfield 145, 3), (22, .iconst 0, 1), (23, .istore_n 2, 1), (24, .iconst 1, 1), (25, .istore_n 3, 1), (26, .iconst 0, 1), (27, .istore 4, 2), (29, .iload_n 3, 1), (30, .ifCond .eq 93, 3), (33, .iload 4, 2), (35, .ifCond .ne 88, 3), (38, .iload_n 2, 1), (39, .bipush 10, 2), (41, .if_icmp .ge 23, 3), (44, .aload_n 0, 1), (45, .bipush 10, 2), (47, .aload_n 0, 1), (48, .getfield 214, 3), (51, .imul, 1), (52, .iload_n 2, 1), (53, .iadd, 1), (54, .invokevirtual 217, 3), (57, .ifCond .eq 7, 3), (60, .iconst 1, 1), (61, .goto 4, 3), (64, .iconst 0, 1), (65, .istore_n 3, 1), (66, .iload_n 3, 1), (67, .ifCond .ne 6, 3), (70, .goto (-41), 3), (73, .iinc 2 1, 3), (76, .aload_n 0, 1), (77, .getfield 145, 3), (80, .aload_n 0, 1), (81, .getfield 142, 3), (84, .if_icmp .ne 7, 3), (87, .iconst 1, 1), (88, .goto 4, 3), (91, .iconst 0, 1), (92, .istore 4, 2), (94, .iload 4, 2), (96, .ifCond .ne 18, 3), (99, .iload_n 2, 1), (100, .bipush 10, 2), (102, .if_icmp .ge 16, 3), (105, .aload_n 0, 1), (106, .bipush 59, 2), (108, .invokevirtual 167, 3), (111, .ifCond .eq 7, 3)]
def m_office_c1 : List (Nat × (Instr × Nat)) := [(114, .iconst 1, 1), (115, .goto 4, 3), (118, .iconst 0, 1), (119, .istore_n 3, 1), (120, .goto (-91), 3), (123, .aload_n 0, 1), (124, .iconst 0, 1), (125, .putfield 142, 3), (128, .iload 4, 2), (130, .ifCond .ne 16, 3), (133, .aload_n 0, 1), (134, .iload_n 1, 1), (135, .putfield 170, 3), (138, .bipush (-10), 2), (140, .aload_n 0, 1), (141, .getfield 145, 3), (144, .isub, 1), (145, .ireturn, 1), (146, .aload_n 0, 1), (147, .getfield 42, 3), (150, .aload_n 0, 1), (151, .getfield 214, 3), (154, .iload_n 2, 1), (155, .iastore, 1), (156, .aload_n 0, 1), (157, .aload_n 0, 1), (158, .getfield 214, 3), (161, .putfield 107, 3), (164, .aload_n 0, 1), (165, .dup, 1), (166, .getfield 214, 3), (169, .dup_x1, 1), (170, .iconst 1, 1), (171, .iadd, 1), (172, .putfield 214, 3), (175, .ireturn, 1)]
def m_office : am_M := (9, some .int, 5, false, m_office_c0 ++ (m_office_c1))
def m_isClause_c0 : List (Nat × (Instr × Nat)) := [(0, .iconst (-1), 1), (1, .istore_n 2, 1), (2, .aload_n 0, 1), (3, .getfield 145, 3), (6, .aload_n 0, 1), (7, .getfield 142, 3), (10, .if_icmp .ge 59, 3), (13, .aload_n 0, 1), (14, .getfield 39, 3), (17, .aload_n 0, 1), (18, .getfield 145, 3), (21, .iaload, 1), (22, .bipush 116, 2), (24, .if_icmp .ne 7, 3), (27, .iconst 0, 1), (28, .goto 40, 3), (31, .aload_n 0, 1), (32, .getfield 39, 3), (35, .aload_n 0, 1), (36, .getfield 145, 3), (39, .iaload, 1), (40, .bipush 98, 2), (42, .if_icmp .ne 7, 3), (45, .iconst 1, 1), (46, .goto 22, 3), (49, .aload_n 0, 1), (50, .getfield 39, 3), (53, .aload_n 0, 1), (54, .getfield 145, 3), (57, .iaload, 1), (58, .bipush 107, 2), (60, .if_icmp .ne 7, 3), (63, .iconst 2, 1), (64, .goto 4, 3), (67, .iconst (-1), 1), (68, .istore_n 2, 1), (69, .iload_n 2, 1), (70, .ifCond .ne 12, 3), (73, .aload_n 0, 1), (74, .ldc 204, 2), (76, .invokevirtual 206, 3), (79, .goto 36, 3), (82, .iload_n 2, 1), (83, .iconst 1, 1), (84, .if_icmp .ne 12, 3), (87, .aload_n 0, 1), (88, .ldc 210, 2), (90, .invokevirtual 206, 3), (93, .goto 22, 3), (96, .iload_n 2, 1), (97, .iconst 2, 1), (98, .if_icmp .ne 16, 3), (101, .aload_n 0, 1), (102, .ldc 212, 2), (104, .invokevirtual 206, 3), (107, .ifCond .eq 7, 3), (110, .iconst 1, 1), (111, .goto 4, 3), (114, .iconst 0, 1), (115, .istore_n 3, 1)]
def m_isClause_c1 : List (Nat × (Instr × Nat)) := [(116, .iload_n 3, 1), (117, .ifCond .eq 10, 3), (120, .aload_n 0, 1), (121, .invokevirtual 180, 3), (124, .ifCond .ne 5, 3), (127, .iconst 0, 1), (128, .ireturn, 1), (129, .aload_n 0, 1), (130, .getfield 45, 3), (133, .iload_n 1, 1), (134, .iload_n 2, 1), (135, .iastore, 1), (136, .aload_n 0, 1), (137, .getfield 48, 3), (140, .iload_n 1, 1), (141, .aload_n 0, 1), (142, .getfield 148, 3), (145, .iastore, 1), (146, .aload_n 0, 1), (147, .getfield 51, 3), (150, .iload_n 1, 1), (151, .aload_n 0, 1), (152, .getfield 170, 3), (155, .iastore, 1), (156, .aload_n 0, 1), (157, .iconst 0, 1), (158, .putfield 186, 3), (161, .iload_n 2, 1), (162, .iconst 2, 1), (163, .if_icmp .ge 21, 3), (166, .aload_n 0, 1), (167, .bipush 32, 2), (169, .invokevirtual 167, 3), (172, .ifCond .eq 10, 3), (175, .aload_n 0, 1), (176, .invokevirtual 195, 3), (179, .ifCond .ne 5, 3), (182, .iconst 0, 1), (183, .ireturn, 1), (184, .aload_n 0, 1), (185, .getfield 54, 3), (188, .iload_n 1, 1), (189, .aload_n 0, 1), (190, .getfield 170, 3), (193, .aload_n 0, 1), (194, .getfield 51, 3), (197, .iload_n 1, 1), (198, .iaload, 1), (199, .isub, 1), (200, .iastore, 1), (201, .iconst 1, 1), (202, .ireturn, 1)]
def m_isClause : am_M := (9, some .boolean, 4, false, m_isClause_c0 ++ (m_isClause_c1))
def m_isAll_c0 : List (Nat × (Instr × Nat)) := [(0, .iconst 0, 1), (1, .istore_n 2, 1), (2, .iload_n 2, 1), (3, .aload_n 1, 1), (4, .invokevirtual 158, 3), (7, .if_icmp .ge 23, 3), (10, .aload_n 0, 1), (11, .aload_n 1, 1), (12, .iload_n 2, 1), (13, .invokevirtual 163, 3), (16, .invokevirtual 167, 3), (19, .ifCond .ne 5, 3), (22, .iconst 0, 1), (23, .ireturn, 1), (24, .iinc 2 1, 3), (27, .goto (-25), 3), (30, .iconst 1, 1), (31, .ireturn, 1)]
def m_isAll : am_M := (9, some .boolean, 3, false, m_isAll_c0)
def m_is_c0 : List (Nat × (Instr × Nat)) := [(0, .aload_n 0, 1), (1, .getfield 145, 3), (4, .aload_n 0, 1), (5, .getfield 142, 3), (8, .if_icmp .eq 16, 3), (11, .aload_n 0, 1), (12, .getfield 39, 3), (15, .aload_n 0, 1), (16, .getfield 145, 3), (19, .iaload, 1), (20, .iload_n 1, 1), (21, .if_icmp .eq 5, 3), (24, .iconst 0, 1), (25, .ireturn, 1), (26, .aload_n 0, 1), (27, .dup, 1), (28, .getfield 145, 3), (31, .iconst 1, 1), (32, .iadd, 1), (33, .putfield 145, 3), (36, .iconst 1, 1), (37, .ireturn, 1)]
def m_is : am_M := (9, some .boolean, 2, false, m_is_c0)
def m_isNumber_c0 : List (Nat × (Instr × Nat)) := [(0, .aload_n 0, 1), (1, .iconst 0, 1), (2, .putfield 148, 3), (5, .aload_n 0, 1), (6, .iconst 0, 1), (7, .putfield 151, 3), (10, .aload_n 0, 1), (11, .getfield 151, 3), (14, .iconst 2, 1), (15, .if_icmp .ge 57, 3), (18, .aload_n 0, 1), (19, .invokevirtual 154, 3), (22, .ifCond .eq 50, 3), (25, .aload_n 0, 1), (26, .bipush 10, 2), (28, .aload_n 0, 1), (29, .getfield 148, 3), (32, .imul, 1), (33, .aload_n 0, 1), (34, .getfield 39, 3), (37, .aload_n 0, 1), (38, .getfield 145, 3), (41, .iaload, 1), (42, .iadd, 1), (43, .bipush 48, 2), (45, .isub, 1), (46, .putfield 148, 3), (49, .aload_n 0, 1), (50, .dup, 1), (51, .getfield 145, 3), (54, .iconst 1, 1), (55, .iadd, 1), (56, .putfield 145, 3), (59, .aload_n 0, 1), (60, .dup, 1), (61, .getfield 151, 3), (64, .iconst 1, 1), (65, .iadd, 1), (66, .putfield 151, 3), (69, .goto (-59), 3), (72, .aload_n 0, 1), (73, .getfield 151, 3), (76, .ifCond .le 7, 3), (79, .iconst 1, 1), (80, .goto 4, 3), (83, .iconst 0, 1), (84, .ireturn, 1)]
def m_isNumber : am_M := (9, some .boolean, 1, false, m_isNumber_c0)
def m_isDigit_c0 : List (Nat × (Instr × Nat)) := [(0, .aload_n 0, 1), (1, .getfield 145, 3), (4, .aload_n 0, 1), (5, .getfield 142, 3), (8, .if_icmp .ge 35, 3), (11, .aload_n 0, 1), (12, .getfield 39, 3), (15, .aload_n 0, 1), (16, .getfield 145, 3), (19, .iaload, 1), (20, .bipush 48, 2), (22, .if_icmp .lt 21, 3), (25, .aload_n 0, 1), (26, .getfield 39, 3), (29, .aload_n 0, 1), (30, .getfield 145, 3), (33, .iaload, 1), (34, .bipush 57, 2), (36, .if_icmp .gt 7, 3), (39, .iconst 1, 1), (40, .goto 4, 3), (43, .iconst 0, 1), (44, .ireturn, 1)]
def m_isDigit : am_M := (9, some .boolean, 1, false, m_isDigit_c0)
def m_isE_c0 : List (Nat × (Instr × Nat)) := [(0, .aload_n 0, 1), (1, .invokevirtual 201, 3), (4, .ifCond .ne 5, 3), (7, .iconst 0, 1), (8, .ireturn, 1), (9, .aload_n 0, 1), (10, .bipush 124, 2), (12, .invokevirtual 167, 3), (15, .ifCond .eq 20, 3), (18, .aload_n 0, 1), (19, .invokevirtual 201, 3), (22, .ifCond .eq 11, 3), (25, .aload_n 0, 1), (26, .iconst 2, 1), (27, .invokevirtual 183, 3), (30, .ifCond .ne (-21), 3), (33, .iconst 0, 1), (34, .ireturn, 1), (35, .iconst 1, 1), (36, .ireturn, 1)]
def m_isE : am_M := (9, some .boolean, 1, false, m_isE_c0)
def m_isT_c0 : List (Nat × (Instr × Nat)) := [(0, .aload_n 0, 1), (1, .invokevirtual 192, 3), (4, .ifCond .ne 5, 3), (7, .iconst 0, 1), (8, .ireturn, 1), (9, .aload_n 0, 1), (10, .bipush 38, 2), (12, .invokevirtual 167, 3), (15, .ifCond .eq 20, 3), (18, .aload_n 0, 1), (19, .invokevirtual 192, 3), (22, .ifCond .eq 11, 3), (25, .aload_n 0, 1), (26, .iconst 1, 1), (27, .invokevirtual 183, 3), (30, .ifCond .ne (-21), 3), (33, .iconst 0, 1), (34, .ireturn, 1), (35, .iconst 1, 1), (36, .ireturn, 1)]
def m_isT : am_M := (9, some .boolean, 1, false, m_isT_c0)
def m_isF_c0 : List (Nat × (Instr × Nat)) := [(0, .aload_n 0, 1), (1, .bipush 33, 2), (3, .invokevirtual 189, 3), (6, .ifCond .eq 27, 3), (9, .aload_n 0, 1), (10, .invokevirtual 192, 3), (13, .ifCond .eq 15, 3), (16, .aload_n 0, 1), (17, .iconst 0, 1), (18, .invokevirtual 183, 3), (21, .ifCond .eq 7, 3), (24, .iconst 1, 1), (25, .goto 4, 3), (28, .iconst 0, 1), (29, .istore_n 1, 1), (30, .goto 42, 3), (33, .aload_n 0, 1), (34, .bipush 40, 2), (36, .invokevirtual 189, 3), (39, .ifCond .eq 28, 3), (42, .aload_n 0, 1), (43, .invokevirtual 195, 3), (46, .ifCond .eq 16, 3), (49, .aload_n 0, 1), (50, .bipush 41, 2), (52, .invokevirtual 167, 3), (55, .ifCond .eq 7, 3), (58, .iconst 1, 1), (59, .goto 4, 3), (62, .iconst 0, 1), (63, .istore_n 1, 1), (64, .goto 8, 3), (67, .aload_n 0, 1), (68, .invokevirtual 198, 3), (71, .ireturn, 1), (72, .aload_n 0, 1), (73, .dup, 1), (74, .getfield 186, 3), (77, .iconst 1, 1), (78, .isub, 1), (79, .putfield 186, 3), (82, .iload_n 1, 1), (83, .ireturn, 1)]
def m_isF : am_M := (9, some .boolean, 2, false, m_isF_c0)
def m_isOpened_c0 : List (Nat × (Instr × Nat)) := [(0, .aload_n 0, 1), (1, .getfield 186, 3), (4, .iconst 4, 1), (5, .if_icmp .eq 11, 3), (8, .aload_n 0, 1), (9, .iload_n 1, 1), (10, .invokevirtual 167, 3), (13, .ifCond .ne 5, 3), (16, .iconst 0, 1), (17, .ireturn, 1), (18, .aload_n 0, 1), (19, .dup, 1), (20, .getfield 186, 3), (23, .iconst 1, 1), (24, .iadd, 1), (25, .putfield 186, 3), (28, .iconst 1, 1), (29, .ireturn, 1)]
def m_isOpened : am_M := (9, some .boolean, 2, false, m_isOpened_c0)
def m_codes_c0 : List (Nat × (Instr × Nat)) := [(0, .aload_n 0, 1), (1, .getfield 57, 3), (4, .aload_n 0, 1), (5, .dup, 1), (6, .getfield 170, 3), (9, .dup_x1, 1), (10, .iconst 1, 1), (11, .iadd, 1), (12, .putfield 170, 3), (15, .iload_n 1, 1), (16, .iastore, 1), (17, .iconst 1, 1), (18, .ireturn, 1)]
def m_codes : am_M := (9, some .boolean, 2, false, m_codes_c0)
def m_isTest_c0 : List (Nat × (Instr × Nat)) := [(0, .aload_n 0, 1), (1, .getfield 145, 3), (4, .aload_n 0, 1), (5, .getfield 142, 3), (8, .if_icmp .ge 32, 3), (11, .aload_n 0, 1), (12, .getfield 39, 3), (15, .aload_n 0, 1), (16, .getfield 145, 3), (19, .iaload, 1), (20, .ifCond .le 20, 3), (23, .ldc 173, 2), (25, .aload_n 0, 1), (26, .getfield 39, 3), (29, .aload_n 0, 1), (30, .getfield 145, 3), (33, .iaload, 1), (34, .invokevirtual 175, 3), (37, .goto 4, 3), (40, .iconst (-1), 1), (41, .istore_n 1, 1), (42, .iload_n 1, 1), (43, .ifCond .ge 5, 3), (46, .iconst 0, 1), (47, .ireturn, 1), (48, .aload_n 0, 1), (49, .dup, 1), (50, .getfield 145, 3), (53, .iconst 1, 1), (54, .iadd, 1), (55, .putfield 145, 3), (58, .aload_n 0, 1), (59, .getfield 145, 3), (62, .aload_n 0, 1), (63, .getfield 142, 3), (66, .if_icmp .ge 32, 3), (69, .aload_n 0, 1), (70, .getfield 39, 3), (73, .aload_n 0, 1), (74, .getfield 145, 3), (77, .iaload, 1), (78, .ifCond .le 20, 3), (81, .ldc 178, 2), (83, .aload_n 0, 1), (84, .getfield 39, 3), (87, .aload_n 0, 1), (88, .getfield 145, 3), (91, .iaload, 1), (92, .invokevirtual 175, 3), (95, .goto 4, 3), (98, .iconst (-1), 1), (99, .istore_n 2, 1), (100, .iload_n 2, 1), (101, .ifCond .ge 5, 3), (104, .iconst 0, 1), (105, .ireturn, 1), (106, .aload_n 0, 1), (107, .dup, 1), (108, .getfield 145, 3), (111, .iconst 1, 1)]
def m_isTest_c1 : List (Nat × (Instr × Nat)) := [(112, .iadd, 1), (113, .putfield 145, 3), (116, .aload_n 0, 1), (117, .invokevirtual 180, 3), (120, .ifCond .eq 31, 3), (123, .aload_n 0, 1), (124, .iconst 3, 1), (125, .sipush 300, 3), (128, .iload_n 1, 1), (129, .imul, 1), (130, .iadd, 1), (131, .bipush 100, 2), (133, .iload_n 2, 1), (134, .imul, 1), (135, .iadd, 1), (136, .aload_n 0, 1), (137, .getfield 148, 3), (140, .iadd, 1), (141, .invokevirtual 183, 3), (144, .ifCond .eq 7, 3), (147, .iconst 1, 1), (148, .goto 4, 3), (151, .iconst 0, 1), (152, .ireturn, 1)]
def m_isTest : am_M := (9, some .boolean, 3, false, m_isTest_c0 ++ (m_isTest_c1))
def js_indexOf_c0 : List (Nat × (Instr × Nat)) := [(0, .aload_n 0, 1), (1, .iload_n 1, 1), (2, .iconst 0, 1), (3, .invokevirtual 633, 3), (6, .ireturn, 1)]
def js_indexOf : am_M := (10, some .int, 2, false, js_indexOf_c0)
def js_indexOf2_c0 : List (Nat × (Instr × Nat)) := [(0, .aload_n 0, 1), (1, .invokevirtual 492, 3), (4, .ifCond .eq 19, 3), (7, .aload_n 0, 1), (8, .getfield 9, 3), (11, .iload_n 1, 1), (12, .iload_n 2, 1), (13, .aload_n 0, 1), (14, .invokevirtual 505, 3), (17, .invokestatic 637, 3), (20, .goto 16, 3), (23, .aload_n 0, 1), (24, .getfield 9, 3), (27, .iload_n 1, 1), (28, .iload_n 2, 1), (29, .aload_n 0, 1), (30, .invokevirtual 505, 3), (33, .invokestatic 640, 3), (36, .ireturn, 1)]
def js_indexOf2 : am_M := (10, some .int, 3, false, js_indexOf2_c0)
def jl_indexOf_c0 : List (Nat × (Instr × Nat)) := [(0, .iload_n 1, 1), (1, .invokestatic 88, 3), (4, .ifCond .ne 5, 3), (7, .iconst (-1), 1), (8, .ireturn, 1), (9, .iload_n 2, 1), (10, .iconst 0, 1), (11, .invokestatic 92, 3), (14, .istore_n 2, 1), (15, .iload_n 3, 1), (16, .aload_n 0, 1), (17, .arraylength, 1), (18, .invokestatic 38, 3), (21, .istore_n 3, 1), (22, .iload_n 2, 1), (23, .iload_n 3, 1), (24, .if_icmp .lt 5, 3), (27, .iconst (-1), 1), (28, .ireturn, 1), (29, .aload_n 0, 1), (30, .iload_n 1, 1), (31, .iload_n 2, 1), (32, .iload_n 3, 1), (33, .invokestatic 95, 3), (36, .ireturn, 1)]
def jl_indexOf : am_M := (11, some .int, 4, false, jl_indexOf_c0)
def jl_canEncode_c0 : List (Nat × (Instr × Nat)) := [(0, .iload_n 0, 1), (1, .ifCond .lt 14, 3), (4, .iload_n 0, 1), (5, .sipush 255, 3), (8, .if_icmp .gt 7, 3), (11, .iconst 1, 1), (12, .goto 4, 3), (15, .iconst 0, 1), (16, .ireturn, 1)]
def jl_canEncode : am_M := (11, some .boolean, 1, false, jl_canEncode_c0)
def jl_indexOfChar_c0 : List (Nat × (Instr × Nat)) := [(0, .iload_n 1, 1), (1, .i2b, 1), (2, .istore 4, 2), (4, .iload_n 2, 1), (5, .istore 5, 2), (7, .iload 5, 2), (9, .iload_n 3, 1), (10, .if_icmp .ge 21, 3), (13, .aload_n 0, 1), (14, .iload 5, 2), (16, .baload, 1), (17, .iload 4, 2), (19, .if_icmp .ne 6, 3), (22, .iload 5, 2), (24, .ireturn, 1), (25, .iinc 5 1, 3), (28, .goto (-21), 3), (31, .iconst (-1), 1), (32, .ireturn, 1)]
def jl_indexOfChar : am_M := (11, some .int, 6, false, jl_indexOfChar_c0)
def js_checkBoundsBeginEnd_c0 : List (Nat × (Instr × Nat)) := [(0, .iload_n 0, 1), (1, .iload_n 1, 1), (2, .iload_n 2, 1), (3, .getstatic 1053, 3), (6, .invokestatic 1062, 3), (9, .pop, 1), (10, .return_, 1)]
def js_checkBoundsBeginEnd : am_M := (10, none, 3, false, js_checkBoundsBeginEnd_c0)
def jp_checkFromToIndex_c0 : List (Nat × (Instr × Nat)) := [(0, .iload_n 0, 1), (1, .ifCond .lt 13, 3), (4, .iload_n 0, 1), (5, .iload_n 1, 1), (6, .if_icmp .gt 8, 3), (9, .iload_n 1, 1), (10, .iload_n 2, 1), (11, .if_icmp .le 11, 3), (14, .aload_n 3, 1), (15, .iload_n 0, 1), (16, .iload_n 1, 1), (17, .iload_n 2, 1), (18, .invokestatic 99, 3), (21, .athrow, 1), (22, .iload_n 0, 1), (23, .ireturn, 1)]
def jp_checkFromToIndex : am_M := (14, some .int, 4, false, jp_checkFromToIndex_c0)
def m_told_c0 : List (Nat × (Instr × Nat)) := [(0, .iload_n 1, 1), (1, .bipush 10, 2), (3, .isub, 1), (4, .invokestatic 118, 3), (7, .ifCond .eq 13, 3), (10, .aload_n 0, 1), (11, .getfield 36, 3), (14, .iload_n 1, 1), (15, .bipush 10, 2), (17, .isub, 1), (18, .iaload, 1), (19, .ireturn, 1), (20, .iload_n 1, 1), (21, .bipush 30, 2), (23, .isub, 1), (24, .invokestatic 118, 3), (27, .ifCond .eq 12, 3), (30, .aload_n 0, 1), (31, .iload_n 1, 1), (32, .bipush 30, 2), (34, .isub, 1), (35, .invokevirtual 261, 3), (38, .ireturn, 1), (39, .iload_n 1, 1), (40, .tableswitch 61 0 4 #[36, 41, 46, 51, 56], 36), (76, .aload_n 0, 1), (77, .getfield 220, 3), (80, .ireturn, 1), (81, .aload_n 0, 1), (82, .invokevirtual 243, 3), (85, .ireturn, 1), (86, .aload_n 0, 1), (87, .getfield 240, 3), (90, .ireturn, 1), (91, .aload_n 0, 1), (92, .invokevirtual 264, 3), (95, .ireturn, 1), (96, .aload_n 0, 1), (97, .invokevirtual 267, 3), (100, .ireturn, 1), (101, .iconst (-1), 1), (102, .ireturn, 1)]
def m_told : am_M := (9, some .int, 2, false, m_told_c0)
def m_marksOf_c0 : List (Nat × (Instr × Nat)) := [(0, .aload_n 0, 1), (1, .getfield 36, 3), (4, .iload_n 1, 1), (5, .iaload, 1), (6, .istore_n 2, 1), (7, .iconst 0, 1), (8, .istore_n 3, 1), (9, .iconst 0, 1), (10, .istore 4, 2), (12, .iload 4, 2), (14, .bipush 8, 2), (16, .if_icmp .ge 31, 3), (19, .aload_n 0, 1), (20, .getfield 36, 3), (23, .iload_n 1, 1), (24, .iload 4, 2), (26, .iastore, 1), (27, .aload_n 0, 1), (28, .invokevirtual 299, 3), (31, .ifCond .eq 10, 3), (34, .iload_n 3, 1), (35, .iconst 1, 1), (36, .iload 4, 2), (38, .ishl, 1), (39, .ior, 1), (40, .istore_n 3, 1), (41, .iinc 4 1, 3), (44, .goto (-32), 3), (47, .aload_n 0, 1), (48, .getfield 36, 3), (51, .iload_n 1, 1), (52, .iload_n 2, 1), (53, .iastore, 1), (54, .iload_n 3, 1), (55, .ireturn, 1)]
def m_marksOf : am_M := (9, some .int, 5, false, m_marksOf_c0)
def m_allDone_c0 : List (Nat × (Instr × Nat)) := [(0, .iconst 0, 1), (1, .istore_n 1, 1), (2, .iconst 0, 1), (3, .istore_n 2, 1), (4, .iload_n 2, 1), (5, .aload_n 0, 1), (6, .getfield 111, 3), (9, .if_icmp .ge 20, 3), (12, .iload_n 1, 1), (13, .aload_n 0, 1), (14, .getfield 24, 3), (17, .iload_n 2, 1), (18, .iaload, 1), (19, .iload_n 2, 1), (20, .ishl, 1), (21, .ior, 1), (22, .istore_n 1, 1), (23, .iinc 2 1, 3), (26, .goto (-22), 3), (29, .iload_n 1, 1), (30, .ireturn, 1)]
def m_allDone : am_M := (9, some .int, 3, false, m_allDone_c0)
def m_whole_c0 : List (Nat × (Instr × Nat)) := [(0, .aload_n 0, 1), (1, .aload_n 0, 1), (2, .getfield 91, 3), (5, .invokevirtual 253, 3), (8, .bipush (-5), 2), (10, .istore_n 1, 1), (11, .iconst 0, 1), (12, .istore_n 2, 1), (13, .iload_n 2, 1), (14, .bipush 60, 2), (16, .if_icmp .gt 35, 3), (19, .iload_n 1, 1), (20, .bipush (-5), 2), (22, .if_icmp .ne 29, 3), (25, .iload_n 2, 1), (26, .ifCond .le 7, 3), (29, .aload_n 0, 1), (30, .invokevirtual 250, 3), (33, .aload_n 0, 1), (34, .getfield 240, 3), (37, .ldc_w 257, 3), (40, .if_icmp .ne 5, 3), (43, .iload_n 2, 1), (44, .istore_n 1, 1), (45, .iinc 2 1, 3), (48, .goto (-35), 3), (51, .aload_n 0, 1), (52, .aload_n 0, 1), (53, .getfield 91, 3), (56, .invokevirtual 258, 3), (59, .iload_n 1, 1), (60, .ireturn, 1)]
def m_whole : am_M := (9, some .int, 3, false, m_whole_c0)
def m_pass_c0 : List (Nat × (Instr × Nat)) := [(0, .iload_n 1, 1), (1, .iconst 0, 1), (2, .bipush 60, 2), (4, .invokestatic 114, 3), (7, .ifCond .ne 6, 3), (10, .bipush (-2), 2), (12, .ireturn, 1), (13, .aload_n 0, 1), (14, .getfield 220, 3), (17, .iload_n 1, 1), (18, .iadd, 1), (19, .sipush 9999, 3), (22, .if_icmp .le 6, 3), (25, .bipush (-3), 2), (27, .ireturn, 1), (28, .iconst 0, 1), (29, .istore_n 2, 1), (30, .iload_n 2, 1), (31, .iload_n 1, 1), (32, .if_icmp .ge 47, 3), (35, .aload_n 0, 1), (36, .invokevirtual 250, 3), (39, .iconst 0, 1), (40, .istore_n 3, 1), (41, .iload_n 3, 1), (42, .aload_n 0, 1), (43, .getfield 111, 3), (46, .if_icmp .ge 27, 3), (49, .aload_n 0, 1), (50, .getfield 27, 3), (53, .iload_n 3, 1), (54, .sipush 9999, 3), (57, .aload_n 0, 1), (58, .getfield 27, 3), (61, .iload_n 3, 1), (62, .iaload, 1), (63, .invokestatic 270, 3), (66, .iastore, 1), (67, .iinc 3 1, 3), (70, .goto (-29), 3), (73, .iinc 2 1, 3), (76, .goto (-46), 3), (79, .aload_n 0, 1), (80, .getfield 220, 3), (83, .ireturn, 1)]
def m_pass : am_M := (9, some .int, 4, false, m_pass_c0)
def m_on_c0 : List (Nat × (Instr × Nat)) := [(0, .iload_n 2, 1), (1, .iconst 0, 1), (2, .iconst 1, 1), (3, .invokestatic 114, 3), (6, .ifCond .ne 16, 3), (9, .aload_n 0, 1), (10, .iload_n 2, 1), (11, .bipush 10, 2), (13, .isub, 1), (14, .invokevirtual 122, 3), (17, .ifCond .ne 5, 3), (20, .iconst (-1), 1), (21, .ireturn, 1), (22, .iload_n 1, 1), (23, .iconst 0, 1), (24, .bipush 60, 2), (26, .invokestatic 114, 3), (29, .ifCond .ne 6, 3), (32, .bipush (-2), 2), (34, .ireturn, 1), (35, .aload_n 0, 1), (36, .aload_n 0, 1), (37, .getfield 91, 3), (40, .invokevirtual 253, 3), (43, .aload_n 0, 1), (44, .iload_n 1, 1), (45, .invokevirtual 275, 3), (48, .iload_n 2, 1), (49, .ifCond .ne 10, 3), (52, .aload_n 0, 1), (53, .getfield 240, 3), (56, .goto 24, 3), (59, .iload_n 2, 1), (60, .iconst 1, 1), (61, .if_icmp .ne 10, 3), (64, .aload_n 0, 1), (65, .invokevirtual 264, 3), (68, .goto 12, 3), (71, .aload_n 0, 1), (72, .getfield 18, 3), (75, .iload_n 2, 1), (76, .bipush 10, 2), (78, .isub, 1), (79, .iaload, 1), (80, .istore_n 3, 1), (81, .aload_n 0, 1), (82, .aload_n 0, 1), (83, .getfield 91, 3), (86, .invokevirtual 258, 3), (89, .iload_n 3, 1), (90, .ireturn, 1)]
def m_on : am_M := (9, some .int, 4, false, m_on_c0)
def m_goesOn_c0 : List (Nat × (Instr × Nat)) := [(0, .iconst 0, 1), (1, .istore_n 2, 1), (2, .iload_n 2, 1), (3, .iload_n 1, 1), (4, .if_icmp .ge 13, 3), (7, .aload_n 0, 1), (8, .invokevirtual 250, 3), (11, .iinc 2 1, 3), (14, .goto (-12), 3), (17, .return_, 1)]
def m_goesOn : am_M := (9, none, 3, false, m_goesOn_c0)
def m_best_c0 : List (Nat × (Instr × Nat)) := [(0, .iload_n 2, 1), (1, .ifCond .eq 16, 3), (4, .aload_n 0, 1), (5, .iload_n 2, 1), (6, .bipush 10, 2), (8, .isub, 1), (9, .invokevirtual 122, 3), (12, .ifCond .ne 5, 3), (15, .iconst (-1), 1), (16, .ireturn, 1), (17, .iload_n 1, 1), (18, .iconst 1, 1), (19, .bipush 12, 2), (21, .invokestatic 114, 3), (24, .ifCond .ne 6, 3), (27, .bipush (-2), 2), (29, .ireturn, 1), (30, .iload_n 2, 1), (31, .ifCond .ne 11, 3), (34, .aload_n 0, 1), (35, .iload_n 1, 1), (36, .invokevirtual 290, 3), (39, .goto 12, 3), (42, .aload_n 0, 1), (43, .iload_n 2, 1), (44, .bipush 10, 2), (46, .isub, 1), (47, .iload_n 1, 1), (48, .invokevirtual 293, 3), (51, .ireturn, 1)]
def m_best : am_M := (9, some .int, 3, false, m_best_c0)
def m_crew_c0 : List (Nat × (Instr × Nat)) := [(0, .aload_n 0, 1), (1, .iload_n 1, 1), (2, .invokevirtual 287, 3), (5, .istore_n 2, 1), (6, .aload_n 0, 1), (7, .invokevirtual 264, 3), (10, .istore_n 3, 1), (11, .bipush (-5), 2), (13, .istore 4, 2), (15, .iconst 0, 1), (16, .istore 5, 2), (18, .iload 5, 2), (20, .iconst 1, 1), (21, .aload_n 0, 1), (22, .getfield 111, 3), (25, .ishl, 1), (26, .if_icmp .ge 112, 3), (29, .iload 4, 2), (31, .bipush (-5), 2), (33, .if_icmp .eq 19, 3), (36, .iload 5, 2), (38, .invokestatic 282, 3), (41, .iload 4, 2), (43, .invokestatic 282, 3), (46, .if_icmp .lt 6, 3), (49, .goto 83, 3), (52, .iconst 0, 1), (53, .istore 6, 2), (55, .iload 6, 2), (57, .aload_n 0, 1), (58, .getfield 111, 3), (61, .if_icmp .ge 27, 3), (64, .iload 5, 2), (66, .iload 6, 2), (68, .ishr, 1), (69, .iconst 1, 1), (70, .iand, 1), (71, .ifCond .ne 11, 3), (74, .aload_n 0, 1), (75, .getfield 24, 3), (78, .iload 6, 2), (80, .iconst 1, 1), (81, .iastore, 1), (82, .iinc 6 1, 3), (85, .goto (-30), 3), (88, .aload_n 0, 1), (89, .iload_n 1, 1), (90, .invokevirtual 287, 3), (93, .iload_n 2, 1), (94, .if_icmp .lt 7, 3), (97, .iload 5, 2), (99, .istore 4, 2), (101, .iconst 0, 1), (102, .istore 6, 2), (104, .iload 6, 2), (106, .aload_n 0, 1), (107, .getfield 111, 3), (110, .if_icmp .ge 22, 3), (113, .aload_n 0, 1), (114, .getfield 24, 3)]
def m_crew_c1 : List (Nat × (Instr × Nat)) := [(117, .iload 6, 2), (119, .iload_n 3, 1), (120, .iload 6, 2), (122, .ishr, 1), (123, .iconst 1, 1), (124, .iand, 1), (125, .iastore, 1), (126, .iinc 6 1, 3), (129, .goto (-25), 3), (132, .iinc 5 1, 3), (135, .goto (-117), 3), (138, .iload 4, 2), (140, .ireturn, 1)]
def m_crew : am_M := (9, some .int, 7, false, m_crew_c0 ++ (m_crew_c1))
def m_drawnBehind_c0 : List (Nat × (Instr × Nat)) := [(0, .aload_n 0, 1), (1, .aload_n 0, 1), (2, .getfield 91, 3), (5, .invokevirtual 253, 3), (8, .aload_n 0, 1), (9, .iload_n 1, 1), (10, .invokevirtual 275, 3), (13, .aload_n 0, 1), (14, .getfield 240, 3), (17, .invokestatic 282, 3), (20, .istore_n 2, 1), (21, .aload_n 0, 1), (22, .aload_n 0, 1), (23, .getfield 91, 3), (26, .invokevirtual 258, 3), (29, .iload_n 2, 1), (30, .ireturn, 1)]
def m_drawnBehind : am_M := (9, some .int, 3, false, m_drawnBehind_c0)
def m_landing_c0 : List (Nat × (Instr × Nat)) := [(0, .aload_n 0, 1), (1, .getfield 18, 3), (4, .iload_n 1, 1), (5, .iaload, 1), (6, .istore_n 3, 1), (7, .iconst 0, 1), (8, .istore 4, 2), (10, .iconst (-1), 1), (11, .istore 5, 2), (13, .iconst 0, 1), (14, .istore 6, 2), (16, .iload 6, 2), (18, .bipush 16, 2), (20, .if_icmp .ge 42, 3), (23, .aload_n 0, 1), (24, .getfield 18, 3), (27, .iload_n 1, 1), (28, .iload 6, 2), (30, .iastore, 1), (31, .aload_n 0, 1), (32, .iload_n 2, 1), (33, .invokevirtual 287, 3), (36, .istore 7, 2), (38, .iload 7, 2), (40, .iload 5, 2), (42, .if_icmp .gt 6, 3), (45, .goto 11, 3), (48, .iload 7, 2), (50, .istore 5, 2), (52, .iload 6, 2), (54, .istore 4, 2), (56, .iinc 6 1, 3), (59, .goto (-43), 3), (62, .aload_n 0, 1), (63, .getfield 18, 3), (66, .iload_n 1, 1), (67, .iload_n 3, 1), (68, .iastore, 1), (69, .iload 4, 2), (71, .ireturn, 1)]
def m_landing : am_M := (9, some .int, 8, false, m_landing_c0)
def m_see_c0 : List (Nat × (Instr × Nat)) := [(0, .iload_n 1, 1), (1, .iconst (-1), 1), (2, .if_icmp .ne 10, 3), (5, .aload_n 0, 1), (6, .iconst 0, 1), (7, .putfield 296, 3), (10, .iconst 0, 1), (11, .ireturn, 1), (12, .aload_n 0, 1), (13, .iload_n 1, 1), (14, .invokevirtual 122, 3), (17, .ifCond .ne 5, 3), (20, .iconst (-1), 1), (21, .ireturn, 1), (22, .iload_n 2, 1), (23, .iconst 0, 1), (24, .bipush 12, 2), (26, .invokestatic 114, 3), (29, .ifCond .eq 13, 3), (32, .iload_n 3, 1), (33, .iconst 0, 1), (34, .bipush 7, 2), (36, .invokestatic 114, 3), (39, .ifCond .ne 6, 3), (42, .bipush (-2), 2), (44, .ireturn, 1), (45, .aload_n 0, 1), (46, .getfield 296, 3), (49, .iconst 5, 1), (50, .if_icmp .ne 6, 3), (53, .bipush (-4), 2), (55, .ireturn, 1), (56, .aload_n 0, 1), (57, .getfield 64, 3), (60, .aload_n 0, 1), (61, .getfield 296, 3), (64, .iload_n 1, 1), (65, .iastore, 1), (66, .aload_n 0, 1), (67, .getfield 67, 3), (70, .aload_n 0, 1), (71, .getfield 296, 3), (74, .iload_n 2, 1), (75, .iastore, 1), (76, .aload_n 0, 1), (77, .getfield 70, 3), (80, .aload_n 0, 1), (81, .dup, 1), (82, .getfield 296, 3), (85, .dup_x1, 1), (86, .iconst 1, 1), (87, .iadd, 1), (88, .putfield 296, 3), (91, .iload_n 3, 1), (92, .iastore, 1), (93, .aload_n 0, 1), (94, .getfield 296, 3), (97, .ireturn, 1)]
def m_see : am_M := (9, some .int, 4, false, m_see_c0)
def m_can_c0 : List (Nat × (Instr × Nat)) := [(0, .aload_n 0, 1), (1, .iload_n 1, 1), (2, .invokevirtual 122, 3), (5, .ifCond .eq 12, 3), (8, .iload_n 2, 1), (9, .iconst 0, 1), (10, .iconst 1, 1), (11, .invokestatic 114, 3), (14, .ifCond .ne 5, 3), (17, .iconst (-1), 1), (18, .ireturn, 1), (19, .aload_n 0, 1), (20, .getfield 15, 3), (23, .iload_n 1, 1), (24, .iaload, 1), (25, .istore_n 3, 1), (26, .iconst 0, 1), (27, .istore 4, 2), (29, .bipush (-5), 2), (31, .istore 5, 2), (33, .bipush 9, 2), (35, .istore 6, 2), (37, .iload 6, 2), (39, .ifCond .lt 34, 3), (42, .aload_n 0, 1), (43, .getfield 15, 3), (46, .iload_n 1, 1), (47, .iload 6, 2), (49, .iastore, 1), (50, .aload_n 0, 1), (51, .invokevirtual 299, 3), (54, .ifCond .ne 6, 3), (57, .goto 10, 3), (60, .iinc 4 1, 3), (63, .iload 6, 2), (65, .istore 5, 2), (67, .iinc 6 (-1), 3), (70, .goto (-33), 3), (73, .aload_n 0, 1), (74, .getfield 15, 3), (77, .iload_n 1, 1), (78, .iload_n 3, 1), (79, .iastore, 1), (80, .iload_n 2, 1), (81, .ifCond .ne 8, 3), (84, .iload 4, 2), (86, .goto 5, 3), (89, .iload 5, 2), (91, .ireturn, 1)]
def m_can : am_M := (9, some .int, 7, false, m_can_c0)
def m_odds_c0 : List (Nat × (Instr × Nat)) := [(0, .aload_n 0, 1), (1, .iload_n 1, 1), (2, .invokevirtual 122, 3), (5, .ifCond .eq 22, 3), (8, .iload_n 2, 1), (9, .iconst 0, 1), (10, .bipush 20, 2), (12, .invokestatic 114, 3), (15, .ifCond .eq 12, 3), (18, .iload_n 3, 1), (19, .iconst 0, 1), (20, .iconst 1, 1), (21, .invokestatic 114, 3), (24, .ifCond .ne 7, 3), (27, .ldc2_w 306, 3), (30, .lreturn, 1), (31, .aload_n 0, 1), (32, .getfield 18, 3), (35, .iload_n 1, 1), (36, .iaload, 1), (37, .istore 4, 2), (39, .iconst 0, 1), (40, .istore 5, 2), (42, .iconst 0, 1), (43, .istore 6, 2), (45, .iload 6, 2), (47, .bipush 16, 2), (49, .if_icmp .ge 49, 3), (52, .aload_n 0, 1), (53, .getfield 18, 3), (56, .iload_n 1, 1), (57, .iload 6, 2), (59, .iastore, 1), (60, .aload_n 0, 1), (61, .aload_n 0, 1), (62, .getfield 91, 3), (65, .invokevirtual 253, 3), (68, .aload_n 0, 1), (69, .iload_n 2, 1), (70, .invokevirtual 275, 3), (73, .iload 5, 2), (75, .aload_n 0, 1), (76, .getfield 24, 3), (79, .iload_n 1, 1), (80, .iaload, 1), (81, .iadd, 1), (82, .istore 5, 2), (84, .aload_n 0, 1), (85, .aload_n 0, 1), (86, .getfield 91, 3), (89, .invokevirtual 258, 3), (92, .iinc 6 1, 3), (95, .goto (-50), 3), (98, .aload_n 0, 1), (99, .getfield 18, 3), (102, .iload_n 1, 1), (103, .iload 4, 2), (105, .iastore, 1), (106, .iload 5, 2), (108, .i2l, 1)]
def m_odds_c1 : List (Nat × (Instr × Nat)) := [(109, .ldc2_w 308, 3), (112, .iload_n 3, 1), (113, .invokestatic 310, 3), (116, .lreturn, 1)]
def m_odds : am_M := (9, some .long, 7, false, m_odds_c0 ++ (m_odds_c1))
def m_part_c0 : List (Nat × (Instr × Nat)) := [(0, .lload_n 0, 1), (1, .invokestatic 302, 3), (4, .lstore 5, 2), (6, .lload_n 2, 1), (7, .lstore 7, 2), (9, .lload 7, 2), (11, .lconst 0, 1), (12, .lcmp, 1), (13, .ifCond .eq 21, 3), (16, .lload 5, 2), (18, .lload 7, 2), (20, .lrem, 1), (21, .lstore 9, 2), (23, .lload 7, 2), (25, .lstore 5, 2), (27, .lload 9, 2), (29, .lstore 7, 2), (31, .goto (-22), 3), (34, .iload 4, 2), (36, .ifCond .ne 7, 3), (39, .lload_n 0, 1), (40, .goto 4, 3), (43, .lload_n 2, 1), (44, .lload 5, 2), (46, .ldiv, 1), (47, .lreturn, 1)]
def m_part : am_M := (9, some .long, 11, false, m_part_c0)
def jm_abs_c0 : List (Nat × (Instr × Nat)) := [(0, .lload_n 0, 1), (1, .lconst 0, 1), (2, .lcmp, 1), (3, .ifCond .ge 8, 3), (6, .lload_n 0, 1), (7, .lneg, 1), (8, .goto 4, 3), (11, .lload_n 0, 1), (12, .lreturn, 1)]
def jm_abs : am_M := (13, some .long, 2, false, jm_abs_c0)
def m_mean_c0 : List (Nat × (Instr × Nat)) := [(0, .iload_n 1, 1), (1, .iconst 0, 1), (2, .bipush 60, 2), (4, .invokestatic 114, 3), (7, .ifCond .eq 19, 3), (10, .iload_n 2, 1), (11, .iconst 0, 1), (12, .iconst 1, 1), (13, .invokestatic 114, 3), (16, .ifCond .eq 10, 3), (19, .aload_n 0, 1), (20, .getfield 111, 3), (23, .ifCond .ne 7, 3), (26, .ldc2_w 306, 3), (29, .lreturn, 1), (30, .aload_n 0, 1), (31, .aload_n 0, 1), (32, .getfield 91, 3), (35, .invokevirtual 253, 3), (38, .aload_n 0, 1), (39, .iload_n 1, 1), (40, .invokevirtual 275, 3), (43, .aload_n 0, 1), (44, .invokevirtual 314, 3), (47, .istore_n 3, 1), (48, .aload_n 0, 1), (49, .aload_n 0, 1), (50, .getfield 91, 3), (53, .invokevirtual 258, 3), (56, .iload_n 3, 1), (57, .i2l, 1), (58, .aload_n 0, 1), (59, .getfield 111, 3), (62, .i2l, 1), (63, .iload_n 2, 1), (64, .invokestatic 310, 3), (67, .lreturn, 1)]
def m_mean : am_M := (9, some .long, 4, false, m_mean_c0)
def m_allDrew_c0 : List (Nat × (Instr × Nat)) := [(0, .iconst 0, 1), (1, .istore_n 1, 1), (2, .iconst 0, 1), (3, .istore_n 2, 1), (4, .iload_n 2, 1), (5, .aload_n 0, 1), (6, .getfield 111, 3), (9, .if_icmp .ge 18, 3), (12, .iload_n 1, 1), (13, .aload_n 0, 1), (14, .getfield 27, 3), (17, .iload_n 2, 1), (18, .iaload, 1), (19, .iadd, 1), (20, .istore_n 1, 1), (21, .iinc 2 1, 3), (24, .goto (-20), 3), (27, .iload_n 1, 1), (28, .ireturn, 1)]
def m_allDrew : am_M := (9, some .int, 3, false, m_allDrew_c0)
def m_plan_c0 : List (Nat × (Instr × Nat)) := [(0, .iload_n 1, 1), (1, .iconst (-1), 1), (2, .if_icmp .ne 10, 3), (5, .aload_n 0, 1), (6, .iconst 0, 1), (7, .putfield 317, 3), (10, .iconst 0, 1), (11, .ireturn, 1), (12, .iload_n 1, 1), (13, .iconst 0, 1), (14, .iconst 3, 1), (15, .invokestatic 114, 3), (18, .ifCond .eq 32, 3), (21, .iload_n 1, 1), (22, .iconst 1, 1), (23, .iconst 2, 1), (24, .invokestatic 114, 3), (27, .ifCond .eq 11, 3), (30, .aload_n 0, 1), (31, .iload_n 2, 1), (32, .invokevirtual 122, 3), (35, .ifCond .eq 15, 3), (38, .iload_n 1, 1), (39, .iconst 3, 1), (40, .if_icmp .ne 12, 3), (43, .iload_n 2, 1), (44, .invokestatic 118, 3), (47, .ifCond .ne 5, 3), (50, .iconst (-1), 1), (51, .ireturn, 1), (52, .aload_n 0, 1), (53, .getfield 317, 3), (56, .bipush 10, 2), (58, .if_icmp .ne 6, 3), (61, .bipush (-4), 2), (63, .ireturn, 1), (64, .aload_n 0, 1), (65, .getfield 73, 3), (68, .aload_n 0, 1), (69, .getfield 317, 3), (72, .iload_n 1, 1), (73, .iastore, 1), (74, .aload_n 0, 1), (75, .getfield 76, 3), (78, .aload_n 0, 1), (79, .dup, 1), (80, .getfield 317, 3), (83, .dup_x1, 1), (84, .iconst 1, 1), (85, .iadd, 1), (86, .putfield 317, 3), (89, .iload_n 1, 1), (90, .ifCond .ne 7, 3), (93, .iconst 0, 1), (94, .goto 4, 3), (97, .iload_n 2, 1), (98, .iastore, 1), (99, .aload_n 0, 1), (100, .getfield 317, 3), (103, .ireturn, 1)]
def m_plan : am_M := (9, some .int, 3, false, m_plan_c0)
def m_ends_c0 : List (Nat × (Instr × Nat)) := [(0, .iload_n 1, 1), (1, .iconst 0, 1), (2, .iconst 1, 1), (3, .invokestatic 114, 3), (6, .ifCond .ne 5, 3), (9, .iconst (-1), 1), (10, .ireturn, 1), (11, .aload_n 0, 1), (12, .aload_n 0, 1), (13, .getfield 91, 3), (16, .invokevirtual 253, 3), (19, .iconst 0, 1), (20, .istore_n 2, 1), (21, .iload_n 2, 1), (22, .aload_n 0, 1), (23, .getfield 317, 3), (26, .if_icmp .ge 87, 3), (29, .aload_n 0, 1), (30, .getfield 73, 3), (33, .iload_n 2, 1), (34, .iaload, 1), (35, .ifCond .ne 10, 3), (38, .aload_n 0, 1), (39, .invokevirtual 250, 3), (42, .goto 65, 3), (45, .aload_n 0, 1), (46, .getfield 73, 3), (49, .iload_n 2, 1), (50, .iaload, 1), (51, .iconst 1, 1), (52, .if_icmp .ne 18, 3), (55, .aload_n 0, 1), (56, .getfield 21, 3), (59, .aload_n 0, 1), (60, .getfield 76, 3), (63, .iload_n 2, 1), (64, .iaload, 1), (65, .iconst 0, 1), (66, .iastore, 1), (67, .goto 40, 3), (70, .aload_n 0, 1), (71, .getfield 73, 3), (74, .iload_n 2, 1), (75, .iaload, 1), (76, .iconst 2, 1), (77, .if_icmp .ne 18, 3), (80, .aload_n 0, 1), (81, .getfield 24, 3), (84, .aload_n 0, 1), (85, .getfield 76, 3), (88, .iload_n 2, 1), (89, .iaload, 1), (90, .iconst 0, 1), (91, .iastore, 1), (92, .goto 15, 3), (95, .aload_n 0, 1), (96, .getfield 36, 3), (99, .aload_n 0, 1), (100, .getfield 76, 3), (103, .iload_n 2, 1)]
def m_ends_c1 : List (Nat × (Instr × Nat)) := [(104, .iaload, 1), (105, .iconst 0, 1), (106, .iastore, 1), (107, .iinc 2 1, 3), (110, .goto (-89), 3), (113, .iload_n 1, 1), (114, .ifCond .ne 10, 3), (117, .aload_n 0, 1), (118, .getfield 240, 3), (121, .goto 7, 3), (124, .aload_n 0, 1), (125, .invokevirtual 314, 3), (128, .istore_n 2, 1), (129, .aload_n 0, 1), (130, .aload_n 0, 1), (131, .getfield 91, 3), (134, .invokevirtual 258, 3), (137, .iload_n 2, 1), (138, .ireturn, 1)]
def m_ends : am_M := (9, some .int, 3, false, m_ends_c0 ++ (m_ends_c1))
def m_book_c0 : List (Nat × (Instr × Nat)) := [(0, .iload_n 1, 1), (1, .iconst (-1), 1), (2, .if_icmp .ne 10, 3), (5, .aload_n 0, 1), (6, .iconst 0, 1), (7, .putfield 320, 3), (10, .iconst 0, 1), (11, .ireturn, 1), (12, .iload_n 1, 1), (13, .invokestatic 118, 3), (16, .ifCond .ne 5, 3), (19, .iconst (-1), 1), (20, .ireturn, 1), (21, .iload_n 2, 1), (22, .iconst 0, 1), (23, .bipush 7, 2), (25, .invokestatic 114, 3), (28, .ifCond .ne 6, 3), (31, .bipush (-2), 2), (33, .ireturn, 1), (34, .aload_n 0, 1), (35, .getfield 320, 3), (38, .bipush 8, 2), (40, .if_icmp .ne 6, 3), (43, .bipush (-4), 2), (45, .ireturn, 1), (46, .aload_n 0, 1), (47, .getfield 79, 3), (50, .aload_n 0, 1), (51, .getfield 320, 3), (54, .iload_n 1, 1), (55, .iastore, 1), (56, .aload_n 0, 1), (57, .getfield 82, 3), (60, .aload_n 0, 1), (61, .dup, 1), (62, .getfield 320, 3), (65, .dup_x1, 1), (66, .iconst 1, 1), (67, .iadd, 1), (68, .putfield 320, 3), (71, .iload_n 2, 1), (72, .iastore, 1), (73, .aload_n 0, 1), (74, .getfield 320, 3), (77, .ireturn, 1)]
def m_book : am_M := (9, some .int, 3, false, m_book_c0)
def m_looked_c0 : List (Nat × (Instr × Nat)) := [(0, .iconst 0, 1), (1, .istore_n 1, 1), (2, .iload_n 1, 1), (3, .aload_n 0, 1), (4, .getfield 320, 3), (7, .if_icmp .ge 31, 3), (10, .aload_n 0, 1), (11, .getfield 36, 3), (14, .aload_n 0, 1), (15, .getfield 79, 3), (18, .iload_n 1, 1), (19, .iaload, 1), (20, .iaload, 1), (21, .aload_n 0, 1), (22, .getfield 82, 3), (25, .iload_n 1, 1), (26, .iaload, 1), (27, .if_icmp .eq 5, 3), (30, .iload_n 1, 1), (31, .ireturn, 1), (32, .iinc 1 1, 3), (35, .goto (-33), 3), (38, .bipush (-5), 2), (40, .ireturn, 1)]
def m_looked : am_M := (9, some .int, 2, false, m_looked_c0)
def m_judge_c0 : List (Nat × (Instr × Nat)) := [(0, .iload_n 1, 1), (1, .iconst 0, 1), (2, .iconst 5, 1), (3, .invokestatic 114, 3), (6, .ifCond .ne 5, 3), (9, .iconst (-1), 1), (10, .ireturn, 1), (11, .aload_n 0, 1), (12, .getfield 97, 3), (15, .iload_n 1, 1), (16, .iaload, 1), (17, .iconst (-1), 1), (18, .if_icmp .eq 15, 3), (21, .aload_n 0, 1), (22, .getfield 97, 3), (25, .iload_n 1, 1), (26, .iaload, 1), (27, .ifCond .eq 6, 3), (30, .bipush (-12), 2), (32, .ireturn, 1), (33, .iconst 0, 1), (34, .istore_n 3, 1), (35, .iload_n 3, 1), (36, .bipush 16, 2), (38, .if_icmp .ge 70, 3), (41, .aload_n 0, 1), (42, .getfield 97, 3), (45, .iload_n 1, 1), (46, .iaload, 1), (47, .iconst (-1), 1), (48, .if_icmp .eq 23, 3), (51, .iload_n 2, 1), (52, .ifCond .lt 19, 3), (55, .iload_n 2, 1), (56, .i2l, 1), (57, .iload_n 3, 1), (58, .i2l, 1), (59, .ladd, 1), (60, .aload_n 0, 1), (61, .getfield 100, 3), (64, .iload_n 1, 1), (65, .iaload, 1), (66, .i2l, 1), (67, .lcmp, 1), (68, .ifCond .lt 8, 3), (71, .bipush 100, 2), (73, .iload_n 3, 1), (74, .iadd, 1), (75, .ireturn, 1), (76, .aload_n 0, 1), (77, .getfield 103, 3), (80, .bipush 60, 2), (82, .iload_n 1, 1), (83, .imul, 1), (84, .iload_n 2, 1), (85, .iadd, 1), (86, .iload_n 3, 1), (87, .iadd, 1), (88, .laload, 1), (89, .aload_n 0, 1)]
def m_judge_c1 : List (Nat × (Instr × Nat)) := [(90, .getfield 36, 3), (93, .iload_n 3, 1), (94, .iaload, 1), (95, .i2l, 1), (96, .lcmp, 1), (97, .ifCond .eq 5, 3), (100, .iload_n 3, 1), (101, .ireturn, 1), (102, .iinc 3 1, 3), (105, .goto (-70), 3), (108, .bipush (-5), 2), (110, .ireturn, 1)]
def m_judge : am_M := (9, some .int, 4, false, m_judge_c0 ++ (m_judge_c1))
def m_image_c0 : List (Nat × (Instr × Nat)) := [(0, .aload_n 0, 1), (1, .iconst 1, 1), (2, .putfield 323, 3), (5, .aload_n 0, 1), (6, .aload_n 0, 1), (7, .getfield 88, 3), (10, .invokevirtual 253, 3), (13, .aload_n 0, 1), (14, .getfield 111, 3), (17, .ireturn, 1)]
def m_image : am_M := (9, some .int, 1, false, m_image_c0)
def m_undo_c0 : List (Nat × (Instr × Nat)) := [(0, .aload_n 0, 1), (1, .getfield 323, 3), (4, .ifCond .ne 6, 3), (7, .bipush (-3), 2), (9, .ireturn, 1), (10, .aload_n 0, 1), (11, .aload_n 0, 1), (12, .getfield 88, 3), (15, .invokevirtual 258, 3), (18, .aload_n 0, 1), (19, .getfield 111, 3), (22, .ireturn, 1)]
def m_undo : am_M := (9, some .int, 1, false, m_undo_c0)
def m_act_c0 : List (Nat × (Instr × Nat)) := [(0, .aload_n 0, 1), (1, .iconst 0, 1), (2, .putfield 327, 3), (5, .aload_n 0, 1), (6, .iload_n 1, 1), (7, .invokevirtual 122, 3), (10, .ifCond .eq 12, 3), (13, .iload_n 2, 1), (14, .iconst 0, 1), (15, .iconst 2, 1), (16, .invokestatic 114, 3), (19, .ifCond .ne 5, 3), (22, .iconst 0, 1), (23, .ireturn, 1), (24, .aload_n 0, 1), (25, .getfield 9, 3), (28, .iload_n 1, 1), (29, .iaload, 1), (30, .istore 4, 2), (32, .iload_n 2, 1), (33, .ifCond .ne 14, 3), (36, .aload_n 0, 1), (37, .iload_n 1, 1), (38, .iload 4, 2), (40, .iload_n 3, 1), (41, .invokevirtual 333, 3), (44, .goto 27, 3), (47, .iload_n 2, 1), (48, .iconst 1, 1), (49, .if_icmp .ne 14, 3), (52, .aload_n 0, 1), (53, .iload_n 1, 1), (54, .iload 4, 2), (56, .iload_n 3, 1), (57, .invokevirtual 340, 3), (60, .goto 11, 3), (63, .aload_n 0, 1), (64, .iload_n 1, 1), (65, .iload 4, 2), (67, .iload_n 3, 1), (68, .invokevirtual 343, 3), (71, .ireturn, 1)]
def m_act : am_M := (9, some .int, 5, false, m_act_c0)
def m_weeps_c0 : List (Nat × (Instr × Nat)) := [(0, .iload_n 2, 1), (1, .tableswitch 105 0 6 #[95, 105, 43, 105, 59, 105, 74], 43), (44, .aload_n 0, 1), (45, .bipush 30, 2), (47, .invokevirtual 330, 3), (50, .aload_n 0, 1), (51, .iload_n 1, 1), (52, .iconst 0, 1), (53, .iload_n 3, 1), (54, .iconst 3, 1), (55, .imul, 1), (56, .invokevirtual 333, 3), (59, .ireturn, 1), (60, .aload_n 0, 1), (61, .bipush 50, 2), (63, .invokevirtual 330, 3), (66, .aload_n 0, 1), (67, .iload_n 1, 1), (68, .iconst 1, 1), (69, .iload_n 3, 1), (70, .invokevirtual 333, 3), (73, .ineg, 1), (74, .ireturn, 1), (75, .aload_n 0, 1), (76, .bipush 71, 2), (78, .invokevirtual 330, 3), (81, .aload_n 0, 1), (82, .iload_n 1, 1), (83, .iconst 3, 1), (84, .iload_n 3, 1), (85, .invokevirtual 333, 3), (88, .aload_n 0, 1), (89, .getfield 15, 3), (92, .iload_n 1, 1), (93, .iaload, 1), (94, .ixor, 1), (95, .ireturn, 1), (96, .aload_n 0, 1), (97, .bipush 10, 2), (99, .invokevirtual 330, 3), (102, .iload_n 3, 1), (103, .iload_n 1, 1), (104, .iadd, 1), (105, .ireturn, 1), (106, .aload_n 0, 1), (107, .iload_n 1, 1), (108, .iload_n 2, 1), (109, .invokestatic 337, 3), (112, .iload_n 3, 1), (113, .invokevirtual 333, 3), (116, .ireturn, 1)]
def m_weeps : am_M := (9, some .int, 4, false, m_weeps_c0)
def m_ran_c0 : List (Nat × (Instr × Nat)) := [(0, .aload_n 0, 1), (1, .getfield 327, 3), (4, .bipush 20, 2), (6, .if_icmp .ge 13, 3), (9, .aload_n 0, 1), (10, .getfield 85, 3), (13, .aload_n 0, 1), (14, .getfield 327, 3), (17, .iload_n 1, 1), (18, .iastore, 1), (19, .aload_n 0, 1), (20, .dup, 1), (21, .getfield 327, 3), (24, .iconst 1, 1), (25, .iadd, 1), (26, .putfield 327, 3), (29, .return_, 1)]
def m_ran : am_M := (9, none, 2, false, m_ran_c0)
def m_above_c0 : List (Nat × (Instr × Nat)) := [(0, .iload_n 0, 1), (1, .iconst 4, 1), (2, .if_icmp .ne 7, 3), (5, .iconst 1, 1), (6, .goto 23, 3), (9, .iload_n 0, 1), (10, .iconst 5, 1), (11, .if_icmp .ne 7, 3), (14, .iconst 2, 1), (15, .goto 14, 3), (18, .iload_n 0, 1), (19, .bipush 6, 2), (21, .if_icmp .ne 7, 3), (24, .iconst 3, 1), (25, .goto 4, 3), (28, .iconst 0, 1), (29, .ireturn, 1)]
def m_above : am_M := (9, some .int, 1, false, m_above_c0)
def m_draws_c0 : List (Nat × (Instr × Nat)) := [(0, .iload_n 2, 1), (1, .tableswitch 128 0 6 #[102, 43, 128, 128, 60, 128, 76], 43), (44, .aload_n 0, 1), (45, .bipush 20, 2), (47, .invokevirtual 330, 3), (50, .aload_n 0, 1), (51, .iload_n 1, 1), (52, .iconst 0, 1), (53, .iload_n 3, 1), (54, .invokevirtual 340, 3), (57, .bipush 6, 2), (59, .ixor, 1), (60, .ireturn, 1), (61, .aload_n 0, 1), (62, .bipush 51, 2), (64, .invokevirtual 330, 3), (67, .aload_n 0, 1), (68, .iload_n 1, 1), (69, .iconst 1, 1), (70, .iload_n 3, 1), (71, .iconst 1, 1), (72, .iadd, 1), (73, .invokevirtual 340, 3), (76, .ireturn, 1), (77, .aload_n 0, 1), (78, .bipush 70, 2), (80, .invokevirtual 330, 3), (83, .aload_n 0, 1), (84, .iload_n 1, 1), (85, .iconst 3, 1), (86, .iload_n 3, 1), (87, .invokevirtual 340, 3), (90, .istore 4, 2), (92, .iload 4, 2), (94, .aload_n 0, 1), (95, .iload_n 1, 1), (96, .iconst 3, 1), (97, .iconst 2, 1), (98, .invokevirtual 333, 3), (101, .iadd, 1), (102, .ireturn, 1), (103, .aload_n 0, 1), (104, .bipush 11, 2), (106, .invokevirtual 330, 3), (109, .aload_n 0, 1), (110, .iload_n 1, 1), (111, .aload_n 0, 1), (112, .getfield 9, 3), (115, .iload_n 1, 1), (116, .iaload, 1), (117, .iload_n 3, 1), (118, .invokevirtual 333, 3), (121, .aload_n 0, 1), (122, .getfield 15, 3), (125, .iload_n 1, 1), (126, .iaload, 1), (127, .isub, 1), (128, .ireturn, 1), (129, .aload_n 0, 1), (130, .iload_n 1, 1)]
def m_draws_c1 : List (Nat × (Instr × Nat)) := [(131, .iload_n 2, 1), (132, .invokestatic 337, 3), (135, .iload_n 3, 1), (136, .invokevirtual 340, 3), (139, .ireturn, 1)]
def m_draws : am_M := (9, some .int, 5, false, m_draws_c0 ++ (m_draws_c1))
def m_tells_c0 : List (Nat × (Instr × Nat)) := [(0, .iload_n 2, 1), (1, .lookupswitch 103 #[(0, 82), (3, 35), (5, 66)], 35), (36, .aload_n 0, 1), (37, .bipush 40, 2), (39, .invokevirtual 330, 3), (42, .aload_n 0, 1), (43, .iload_n 1, 1), (44, .iconst 0, 1), (45, .iload_n 3, 1), (46, .invokevirtual 343, 3), (49, .istore 4, 2), (51, .iload 4, 2), (53, .aload_n 0, 1), (54, .iload_n 1, 1), (55, .aload_n 0, 1), (56, .getfield 9, 3), (59, .iload_n 1, 1), (60, .iaload, 1), (61, .iconst 1, 1), (62, .invokevirtual 340, 3), (65, .iadd, 1), (66, .ireturn, 1), (67, .aload_n 0, 1), (68, .bipush 60, 2), (70, .invokevirtual 330, 3), (73, .aload_n 0, 1), (74, .iload_n 1, 1), (75, .iconst 2, 1), (76, .iload_n 3, 1), (77, .iload_n 1, 1), (78, .isub, 1), (79, .invokevirtual 343, 3), (82, .ireturn, 1), (83, .aload_n 0, 1), (84, .bipush 12, 2), (86, .invokevirtual 330, 3), (89, .aload_n 0, 1), (90, .iload_n 1, 1), (91, .aload_n 0, 1), (92, .getfield 9, 3), (95, .iload_n 1, 1), (96, .iaload, 1), (97, .iload_n 3, 1), (98, .invokevirtual 340, 3), (101, .iconst 2, 1), (102, .imul, 1), (103, .ireturn, 1), (104, .aload_n 0, 1), (105, .iload_n 1, 1), (106, .iload_n 2, 1), (107, .invokestatic 337, 3), (110, .iload_n 3, 1), (111, .invokevirtual 343, 3), (114, .ireturn, 1)]
def m_tells : am_M := (9, some .int, 5, false, m_tells_c0)
def m_trace_c0 : List (Nat × (Instr × Nat)) := [(0, .iload_n 1, 1), (1, .iconst 0, 1), (2, .bipush 20, 2), (4, .aload_n 0, 1), (5, .getfield 327, 3), (8, .invokestatic 270, 3), (11, .iconst 1, 1), (12, .isub, 1), (13, .invokestatic 114, 3), (16, .ifCond .eq 12, 3), (19, .aload_n 0, 1), (20, .getfield 85, 3), (23, .iload_n 1, 1), (24, .iaload, 1), (25, .goto 4, 3), (28, .iconst (-1), 1), (29, .ireturn, 1)]
def m_trace : am_M := (9, some .int, 2, false, m_trace_c0)
def m_taken_c0 : List (Nat × (Instr × Nat)) := [(0, .iload_n 2, 1), (1, .iconst 0, 1), (2, .bipush 6, 2), (4, .invokestatic 114, 3), (7, .ifCond .ne 6, 3), (10, .bipush (-2), 2), (12, .ireturn, 1), (13, .aload_n 0, 1), (14, .iload_n 1, 1), (15, .invokevirtual 122, 3), (18, .ifCond .ne 6, 3), (21, .bipush (-11), 2), (23, .ireturn, 1), (24, .aload_n 0, 1), (25, .getfield 9, 3), (28, .iload_n 1, 1), (29, .iaload, 1), (30, .istore_n 3, 1), (31, .iload_n 3, 1), (32, .iload_n 2, 1), (33, .if_icmp .eq 15, 3), (36, .iload_n 3, 1), (37, .ifCond .le 11, 3), (40, .iload_n 3, 1), (41, .invokestatic 337, 3), (44, .istore_n 3, 1), (45, .goto (-14), 3), (48, .iload_n 3, 1), (49, .iload_n 2, 1), (50, .if_icmp .ne 12, 3), (53, .aload_n 0, 1), (54, .getfield 9, 3), (57, .iload_n 1, 1), (58, .iaload, 1), (59, .goto 5, 3), (62, .bipush (-12), 2), (64, .ireturn, 1)]
def m_taken : am_M := (9, some .int, 4, false, m_taken_c0)
def m_count_c0 : List (Nat × (Instr × Nat)) := [(0, .iload_n 1, 1), (1, .tableswitch 78 0 6 #[43, 48, 53, 58, 63, 68, 73], 43), (44, .aload_n 0, 1), (45, .getfield 111, 3), (48, .ireturn, 1), (49, .aload_n 0, 1), (50, .getfield 214, 3), (53, .ireturn, 1), (54, .aload_n 0, 1), (55, .getfield 296, 3), (58, .ireturn, 1), (59, .aload_n 0, 1), (60, .getfield 317, 3), (63, .ireturn, 1), (64, .aload_n 0, 1), (65, .getfield 320, 3), (68, .ireturn, 1), (69, .aload_n 0, 1), (70, .getfield 142, 3), (73, .ireturn, 1), (74, .aload_n 0, 1), (75, .getfield 327, 3), (78, .ireturn, 1), (79, .bipush (-2), 2), (81, .ireturn, 1)]
def m_count : am_M := (9, some .int, 2, false, m_count_c0)
def m_tape_c0 : List (Nat × (Instr × Nat)) := [(0, .iload_n 1, 1), (1, .invokestatic 346, 3), (4, .ifCond .ne 5, 3), (7, .iconst (-1), 1), (8, .ireturn, 1), (9, .iload_n 2, 1), (10, .iconst (-1), 1), (11, .iconst 4, 1), (12, .invokestatic 114, 3), (15, .ifCond .eq 13, 3), (18, .iload_n 2, 1), (19, .ifCond .lt 12, 3), (22, .iload_n 3, 1), (23, .bipush 60, 2), (25, .if_icmp .le 6, 3), (28, .bipush (-2), 2), (30, .ireturn, 1), (31, .iload_n 2, 1), (32, .ifCond .lt 10, 3), (35, .iload_n 3, 1), (36, .ifCond .ge 6, 3), (39, .bipush (-14), 2), (41, .ireturn, 1), (42, .aload_n 0, 1), (43, .getfield 97, 3), (46, .iload_n 1, 1), (47, .iload_n 2, 1), (48, .iastore, 1), (49, .aload_n 0, 1), (50, .getfield 100, 3), (53, .iload_n 1, 1), (54, .iload_n 2, 1), (55, .ifCond .ge 7, 3), (58, .iconst 0, 1), (59, .goto 4, 3), (62, .iload_n 3, 1), (63, .iastore, 1), (64, .iconst 0, 1), (65, .istore 4, 2), (67, .iload 4, 2), (69, .bipush 60, 2), (71, .if_icmp .ge 22, 3), (74, .aload_n 0, 1), (75, .getfield 103, 3), (78, .bipush 60, 2), (80, .iload_n 1, 1), (81, .imul, 1), (82, .iload 4, 2), (84, .iadd, 1), (85, .lconst 0, 1), (86, .lastore, 1), (87, .iinc 4 1, 3), (90, .goto (-23), 3), (93, .iconst 1, 1), (94, .ireturn, 1)]
def m_tape : am_M := (9, some .int, 5, false, m_tape_c0)
def m_isTape_c0 : List (Nat × (Instr × Nat)) := [(0, .iload_n 0, 1), (1, .iconst 0, 1), (2, .iconst 5, 1), (3, .invokestatic 114, 3), (6, .ireturn, 1)]
def m_isTape : am_M := (9, some .boolean, 1, false, m_isTape_c0)
def m_item_c0 : List (Nat × (Instr × Nat)) := [(0, .iload_n 1, 1), (1, .invokestatic 346, 3), (4, .ifCond .ne 5, 3), (7, .iconst (-1), 1), (8, .ireturn, 1), (9, .aload_n 0, 1), (10, .getfield 97, 3), (13, .iload_n 1, 1), (14, .iaload, 1), (15, .ifCond .ge 6, 3), (18, .bipush (-11), 2), (20, .ireturn, 1), (21, .iload_n 2, 1), (22, .iconst 0, 1), (23, .aload_n 0, 1), (24, .getfield 100, 3), (27, .iload_n 1, 1), (28, .iaload, 1), (29, .iconst 1, 1), (30, .isub, 1), (31, .invokestatic 114, 3), (34, .ifCond .ne 6, 3), (37, .bipush (-13), 2), (39, .ireturn, 1), (40, .aload_n 0, 1), (41, .getfield 103, 3), (44, .bipush 60, 2), (46, .iload_n 1, 1), (47, .imul, 1), (48, .iload_n 2, 1), (49, .iadd, 1), (50, .aload_n 0, 1), (51, .getfield 97, 3), (54, .iload_n 1, 1), (55, .iaload, 1), (56, .lload_n 3, 1), (57, .invokestatic 349, 3), (60, .lastore, 1), (61, .iconst 1, 1), (62, .ireturn, 1)]
def m_item : am_M := (9, some .int, 5, false, m_item_c0)
def m_kept_c0 : List (Nat × (Instr × Nat)) := [(0, .iload_n 0, 1), (1, .tableswitch 47 0 3 #[31, 36, 41, 45], 31), (32, .lload_n 1, 1), (33, .l2i, 1), (34, .i2b, 1), (35, .i2l, 1), (36, .lreturn, 1), (37, .lload_n 1, 1), (38, .l2i, 1), (39, .i2s, 1), (40, .i2l, 1), (41, .lreturn, 1), (42, .lload_n 1, 1), (43, .l2i, 1), (44, .i2l, 1), (45, .lreturn, 1), (46, .lload_n 1, 1), (47, .lreturn, 1), (48, .lload_n 1, 1), (49, .lconst 0, 1), (50, .lcmp, 1), (51, .ifCond .eq 7, 3), (54, .lconst 1, 1), (55, .goto 4, 3), (58, .lconst 0, 1), (59, .lreturn, 1)]
def m_kept : am_M := (9, some .long, 3, false, m_kept_c0)
def m_read_c0 : List (Nat × (Instr × Nat)) := [(0, .iload_n 1, 1), (1, .invokestatic 346, 3), (4, .ifCond .eq 42, 3), (7, .aload_n 0, 1), (8, .getfield 97, 3), (11, .iload_n 1, 1), (12, .iaload, 1), (13, .ifCond .lt 33, 3), (16, .iload_n 2, 1), (17, .iconst 0, 1), (18, .aload_n 0, 1), (19, .getfield 100, 3), (22, .iload_n 1, 1), (23, .iaload, 1), (24, .iconst 1, 1), (25, .isub, 1), (26, .invokestatic 114, 3), (29, .ifCond .eq 17, 3), (32, .aload_n 0, 1), (33, .getfield 103, 3), (36, .bipush 60, 2), (38, .iload_n 1, 1), (39, .imul, 1), (40, .iload_n 2, 1), (41, .iadd, 1), (42, .laload, 1), (43, .goto 6, 3), (46, .ldc2_w 306, 3), (49, .lreturn, 1)]
def m_read : am_M := (9, some .long, 3, false, m_read_c0)
def m_shift_c0 : List (Nat × (Instr × Nat)) := [(0, .iload_n 1, 1), (1, .invokestatic 346, 3), (4, .ifCond .eq 10, 3), (7, .iload_n 3, 1), (8, .invokestatic 346, 3), (11, .ifCond .ne 5, 3), (14, .iconst (-1), 1), (15, .ireturn, 1), (16, .aload_n 0, 1), (17, .getfield 97, 3), (20, .iload_n 1, 1), (21, .iaload, 1), (22, .ifCond .lt 12, 3), (25, .aload_n 0, 1), (26, .getfield 97, 3), (29, .iload_n 3, 1), (30, .iaload, 1), (31, .ifCond .ge 6, 3), (34, .bipush (-11), 2), (36, .ireturn, 1), (37, .aload_n 0, 1), (38, .getfield 97, 3), (41, .iload_n 1, 1), (42, .iaload, 1), (43, .aload_n 0, 1), (44, .getfield 97, 3), (47, .iload_n 3, 1), (48, .iaload, 1), (49, .if_icmp .eq 6, 3), (52, .bipush (-12), 2), (54, .ireturn, 1), (55, .iload 5, 2), (57, .ifCond .lt 47, 3), (60, .iload_n 2, 1), (61, .ifCond .lt 43, 3), (64, .iload 4, 2), (66, .ifCond .lt 38, 3), (69, .iload_n 2, 1), (70, .i2l, 1), (71, .iload 5, 2), (73, .i2l, 1), (74, .ladd, 1), (75, .aload_n 0, 1), (76, .getfield 100, 3), (79, .iload_n 1, 1), (80, .iaload, 1), (81, .i2l, 1), (82, .lcmp, 1), (83, .ifCond .gt 21, 3), (86, .iload 4, 2), (88, .i2l, 1), (89, .iload 5, 2), (91, .i2l, 1), (92, .ladd, 1), (93, .aload_n 0, 1), (94, .getfield 100, 3), (97, .iload_n 3, 1), (98, .iaload, 1), (99, .i2l, 1), (100, .lcmp, 1)]
def m_shift_c1 : List (Nat × (Instr × Nat)) := [(101, .ifCond .le 6, 3), (104, .bipush (-13), 2), (106, .ireturn, 1), (107, .iload_n 1, 1), (108, .iload_n 3, 1), (109, .if_icmp .ne 58, 3), (112, .iload_n 2, 1), (113, .iload 4, 2), (115, .if_icmp .ge 52, 3), (118, .iload 5, 2), (120, .iconst 1, 1), (121, .isub, 1), (122, .istore 6, 2), (124, .iload 6, 2), (126, .ifCond .lt 38, 3), (129, .aload_n 0, 1), (130, .getfield 103, 3), (133, .bipush 60, 2), (135, .iload_n 3, 1), (136, .imul, 1), (137, .iload 4, 2), (139, .iadd, 1), (140, .iload 6, 2), (142, .iadd, 1), (143, .aload_n 0, 1), (144, .getfield 103, 3), (147, .bipush 60, 2), (149, .iload_n 1, 1), (150, .imul, 1), (151, .iload_n 2, 1), (152, .iadd, 1), (153, .iload 6, 2), (155, .iadd, 1), (156, .laload, 1), (157, .lastore, 1), (158, .iinc 6 (-1), 3), (161, .goto (-37), 3), (164, .goto 48, 3), (167, .iconst 0, 1), (168, .istore 6, 2), (170, .iload 6, 2), (172, .iload 5, 2), (174, .if_icmp .ge 38, 3), (177, .aload_n 0, 1), (178, .getfield 103, 3), (181, .bipush 60, 2), (183, .iload_n 3, 1), (184, .imul, 1), (185, .iload 4, 2), (187, .iadd, 1), (188, .iload 6, 2), (190, .iadd, 1), (191, .aload_n 0, 1), (192, .getfield 103, 3), (195, .bipush 60, 2), (197, .iload_n 1, 1), (198, .imul, 1), (199, .iload_n 2, 1), (200, .iadd, 1), (201, .iload 6, 2)]
def m_shift_c2 : List (Nat × (Instr × Nat)) := [(203, .iadd, 1), (204, .laload, 1), (205, .lastore, 1), (206, .iinc 6 1, 3), (209, .goto (-39), 3), (212, .iload 5, 2), (214, .ireturn, 1)]
def m_shift : am_M := (9, some .int, 7, false, m_shift_c0 ++ (m_shift_c1 ++ (m_shift_c2)))
def L_law_c0 : List (Nat × (Instr × Nat)) := [(0, .new 7, 3), (3, .dup, 1), (4, .invokespecial 9, 3), (7, .astore_n 1, 1), (8, .new 10, 3), (11, .dup, 1), (12, .invokespecial 12, 3), (15, .astore_n 2, 1), (16, .iconst 0, 1), (17, .istore_n 3, 1), (18, .iload_n 3, 1), (19, .aload_n 0, 1), (20, .arraylength, 1), (21, .bipush 6, 2), (23, .isub, 1), (24, .if_icmp .gt 1197, 3), (27, .aload_n 0, 1), (28, .iload_n 3, 1), (29, .iaload, 1), (30, .bipush 31, 2), (32, .iand, 1), (33, .tableswitch 1182 0 31 #[143, 186, 219, 252, 285, 308, 341, 384, 407, 420, 443, 466, 499, 532, 575, 608, 652, 686, 719, 742, 775, 788, 821, 834, 847, 890, 913, 946, 969, 1012, 1085, 1119], 143), (176, .aload_n 1, 1), (177, .aload_n 0, 1), (178, .iload_n 3, 1), (179, .iconst 1, 1), (180, .iadd, 1), (181, .iaload, 1), (182, .aload_n 0, 1), (183, .iload_n 3, 1), (184, .iconst 2, 1), (185, .iadd, 1), (186, .iaload, 1), (187, .aload_n 0, 1), (188, .iload_n 3, 1), (189, .iconst 3, 1), (190, .iadd, 1), (191, .iaload, 1), (192, .invokevirtual 13, 3), (195, .aload_n 2, 1), (196, .aload_n 0, 1), (197, .iload_n 3, 1), (198, .iconst 1, 1), (199, .iadd, 1), (200, .iaload, 1), (201, .aload_n 0, 1), (202, .iload_n 3, 1), (203, .iconst 2, 1), (204, .iadd, 1), (205, .iaload, 1), (206, .aload_n 0, 1), (207, .iload_n 3, 1), (208, .iconst 3, 1), (209, .iadd, 1), (210, .iaload, 1), (211, .invokevirtual 17, 3), (214, .if_icmp .eq 1001, 3), (217, .iconst 0, 1), (218, .ireturn, 1), (219, .aload_n 1, 1)]
def L_law_c1 : List (Nat × (Instr × Nat)) := [(220, .aload_n 0, 1), (221, .iload_n 3, 1), (222, .iconst 1, 1), (223, .iadd, 1), (224, .iaload, 1), (225, .aload_n 0, 1), (226, .iload_n 3, 1), (227, .iconst 2, 1), (228, .iadd, 1), (229, .iaload, 1), (230, .invokevirtual 18, 3), (233, .aload_n 2, 1), (234, .aload_n 0, 1), (235, .iload_n 3, 1), (236, .iconst 1, 1), (237, .iadd, 1), (238, .iaload, 1), (239, .aload_n 0, 1), (240, .iload_n 3, 1), (241, .iconst 2, 1), (242, .iadd, 1), (243, .iaload, 1), (244, .invokevirtual 22, 3), (247, .if_icmp .eq 968, 3), (250, .iconst 0, 1), (251, .ireturn, 1), (252, .aload_n 1, 1), (253, .aload_n 0, 1), (254, .iload_n 3, 1), (255, .iconst 1, 1), (256, .iadd, 1), (257, .iaload, 1), (258, .aload_n 0, 1), (259, .iload_n 3, 1), (260, .iconst 2, 1), (261, .iadd, 1), (262, .iaload, 1), (263, .invokevirtual 23, 3), (266, .aload_n 2, 1), (267, .aload_n 0, 1), (268, .iload_n 3, 1), (269, .iconst 1, 1), (270, .iadd, 1), (271, .iaload, 1), (272, .aload_n 0, 1), (273, .iload_n 3, 1), (274, .iconst 2, 1), (275, .iadd, 1), (276, .iaload, 1), (277, .invokevirtual 26, 3), (280, .if_icmp .eq 935, 3), (283, .iconst 0, 1), (284, .ireturn, 1), (285, .aload_n 1, 1), (286, .aload_n 0, 1), (287, .iload_n 3, 1), (288, .iconst 1, 1), (289, .iadd, 1), (290, .iaload, 1), (291, .aload_n 0, 1)]
def L_law_c2 : List (Nat × (Instr × Nat)) := [(292, .iload_n 3, 1), (293, .iconst 2, 1), (294, .iadd, 1), (295, .iaload, 1), (296, .invokevirtual 27, 3), (299, .aload_n 2, 1), (300, .aload_n 0, 1), (301, .iload_n 3, 1), (302, .iconst 1, 1), (303, .iadd, 1), (304, .iaload, 1), (305, .aload_n 0, 1), (306, .iload_n 3, 1), (307, .iconst 2, 1), (308, .iadd, 1), (309, .iaload, 1), (310, .invokevirtual 30, 3), (313, .if_icmp .eq 902, 3), (316, .iconst 0, 1), (317, .ireturn, 1), (318, .aload_n 1, 1), (319, .aload_n 0, 1), (320, .iload_n 3, 1), (321, .iconst 1, 1), (322, .iadd, 1), (323, .iaload, 1), (324, .invokevirtual 31, 3), (327, .aload_n 2, 1), (328, .aload_n 0, 1), (329, .iload_n 3, 1), (330, .iconst 1, 1), (331, .iadd, 1), (332, .iaload, 1), (333, .invokevirtual 35, 3), (336, .if_icmp .eq 879, 3), (339, .iconst 0, 1), (340, .ireturn, 1), (341, .aload_n 1, 1), (342, .aload_n 0, 1), (343, .iload_n 3, 1), (344, .iconst 1, 1), (345, .iadd, 1), (346, .iaload, 1), (347, .aload_n 0, 1), (348, .iload_n 3, 1), (349, .iconst 2, 1), (350, .iadd, 1), (351, .iaload, 1), (352, .invokevirtual 36, 3), (355, .aload_n 2, 1), (356, .aload_n 0, 1), (357, .iload_n 3, 1), (358, .iconst 1, 1), (359, .iadd, 1), (360, .iaload, 1), (361, .aload_n 0, 1), (362, .iload_n 3, 1), (363, .iconst 2, 1), (364, .iadd, 1), (365, .iaload, 1)]
def L_law_c3 : List (Nat × (Instr × Nat)) := [(366, .invokevirtual 39, 3), (369, .if_icmp .eq 846, 3), (372, .iconst 0, 1), (373, .ireturn, 1), (374, .aload_n 1, 1), (375, .aload_n 0, 1), (376, .iload_n 3, 1), (377, .iconst 1, 1), (378, .iadd, 1), (379, .iaload, 1), (380, .aload_n 0, 1), (381, .iload_n 3, 1), (382, .iconst 2, 1), (383, .iadd, 1), (384, .iaload, 1), (385, .aload_n 0, 1), (386, .iload_n 3, 1), (387, .iconst 3, 1), (388, .iadd, 1), (389, .iaload, 1), (390, .invokevirtual 40, 3), (393, .aload_n 2, 1), (394, .aload_n 0, 1), (395, .iload_n 3, 1), (396, .iconst 1, 1), (397, .iadd, 1), (398, .iaload, 1), (399, .aload_n 0, 1), (400, .iload_n 3, 1), (401, .iconst 2, 1), (402, .iadd, 1), (403, .iaload, 1), (404, .aload_n 0, 1), (405, .iload_n 3, 1), (406, .iconst 3, 1), (407, .iadd, 1), (408, .iaload, 1), (409, .invokevirtual 43, 3), (412, .if_icmp .eq 803, 3), (415, .iconst 0, 1), (416, .ireturn, 1), (417, .aload_n 1, 1), (418, .aload_n 0, 1), (419, .iload_n 3, 1), (420, .iconst 1, 1), (421, .iadd, 1), (422, .iaload, 1), (423, .invokevirtual 44, 3), (426, .aload_n 2, 1), (427, .aload_n 0, 1), (428, .iload_n 3, 1), (429, .iconst 1, 1), (430, .iadd, 1), (431, .iaload, 1), (432, .invokevirtual 47, 3), (435, .if_icmp .eq 780, 3), (438, .iconst 0, 1), (439, .ireturn, 1), (440, .aload_n 1, 1), (441, .invokevirtual 48, 3)]
def L_law_c4 : List (Nat × (Instr × Nat)) := [(444, .aload_n 2, 1), (445, .invokevirtual 52, 3), (448, .if_icmp .eq 767, 3), (451, .iconst 0, 1), (452, .ireturn, 1), (453, .aload_n 1, 1), (454, .aload_n 0, 1), (455, .iload_n 3, 1), (456, .iconst 1, 1), (457, .iadd, 1), (458, .iaload, 1), (459, .invokevirtual 53, 3), (462, .aload_n 2, 1), (463, .aload_n 0, 1), (464, .iload_n 3, 1), (465, .iconst 1, 1), (466, .iadd, 1), (467, .iaload, 1), (468, .invokevirtual 56, 3), (471, .if_icmp .eq 744, 3), (474, .iconst 0, 1), (475, .ireturn, 1), (476, .aload_n 1, 1), (477, .aload_n 0, 1), (478, .iload_n 3, 1), (479, .iconst 1, 1), (480, .iadd, 1), (481, .iaload, 1), (482, .invokevirtual 57, 3), (485, .aload_n 2, 1), (486, .aload_n 0, 1), (487, .iload_n 3, 1), (488, .iconst 1, 1), (489, .iadd, 1), (490, .iaload, 1), (491, .invokevirtual 60, 3), (494, .if_icmp .eq 721, 3), (497, .iconst 0, 1), (498, .ireturn, 1), (499, .aload_n 1, 1), (500, .aload_n 0, 1), (501, .iload_n 3, 1), (502, .iconst 1, 1), (503, .iadd, 1), (504, .iaload, 1), (505, .aload_n 0, 1), (506, .iload_n 3, 1), (507, .iconst 2, 1), (508, .iadd, 1), (509, .iaload, 1), (510, .invokevirtual 61, 3), (513, .aload_n 2, 1), (514, .aload_n 0, 1), (515, .iload_n 3, 1), (516, .iconst 1, 1), (517, .iadd, 1), (518, .iaload, 1), (519, .aload_n 0, 1), (520, .iload_n 3, 1), (521, .iconst 2, 1)]
def L_law_c5 : List (Nat × (Instr × Nat)) := [(522, .iadd, 1), (523, .iaload, 1), (524, .invokevirtual 64, 3), (527, .if_icmp .eq 688, 3), (530, .iconst 0, 1), (531, .ireturn, 1), (532, .aload_n 1, 1), (533, .aload_n 0, 1), (534, .iload_n 3, 1), (535, .iconst 1, 1), (536, .iadd, 1), (537, .iaload, 1), (538, .aload_n 0, 1), (539, .iload_n 3, 1), (540, .iconst 2, 1), (541, .iadd, 1), (542, .iaload, 1), (543, .invokevirtual 65, 3), (546, .aload_n 2, 1), (547, .aload_n 0, 1), (548, .iload_n 3, 1), (549, .iconst 1, 1), (550, .iadd, 1), (551, .iaload, 1), (552, .aload_n 0, 1), (553, .iload_n 3, 1), (554, .iconst 2, 1), (555, .iadd, 1), (556, .iaload, 1), (557, .invokevirtual 68, 3), (560, .if_icmp .eq 655, 3), (563, .iconst 0, 1), (564, .ireturn, 1), (565, .aload_n 1, 1), (566, .aload_n 0, 1), (567, .iload_n 3, 1), (568, .iconst 1, 1), (569, .iadd, 1), (570, .iaload, 1), (571, .aload_n 0, 1), (572, .iload_n 3, 1), (573, .iconst 2, 1), (574, .iadd, 1), (575, .iaload, 1), (576, .aload_n 0, 1), (577, .iload_n 3, 1), (578, .iconst 3, 1), (579, .iadd, 1), (580, .iaload, 1), (581, .invokevirtual 69, 3), (584, .aload_n 2, 1), (585, .aload_n 0, 1), (586, .iload_n 3, 1), (587, .iconst 1, 1), (588, .iadd, 1), (589, .iaload, 1), (590, .aload_n 0, 1), (591, .iload_n 3, 1), (592, .iconst 2, 1), (593, .iadd, 1)]
def L_law_c6 : List (Nat × (Instr × Nat)) := [(594, .iaload, 1), (595, .aload_n 0, 1), (596, .iload_n 3, 1), (597, .iconst 3, 1), (598, .iadd, 1), (599, .iaload, 1), (600, .invokevirtual 72, 3), (603, .if_icmp .eq 612, 3), (606, .iconst 0, 1), (607, .ireturn, 1), (608, .aload_n 1, 1), (609, .aload_n 0, 1), (610, .iload_n 3, 1), (611, .iconst 1, 1), (612, .iadd, 1), (613, .iaload, 1), (614, .aload_n 0, 1), (615, .iload_n 3, 1), (616, .iconst 2, 1), (617, .iadd, 1), (618, .iaload, 1), (619, .invokevirtual 73, 3), (622, .aload_n 2, 1), (623, .aload_n 0, 1), (624, .iload_n 3, 1), (625, .iconst 1, 1), (626, .iadd, 1), (627, .iaload, 1), (628, .aload_n 0, 1), (629, .iload_n 3, 1), (630, .iconst 2, 1), (631, .iadd, 1), (632, .iaload, 1), (633, .invokevirtual 76, 3), (636, .if_icmp .eq 579, 3), (639, .iconst 0, 1), (640, .ireturn, 1), (641, .aload_n 1, 1), (642, .aload_n 0, 1), (643, .iload_n 3, 1), (644, .iconst 1, 1), (645, .iadd, 1), (646, .iaload, 1), (647, .aload_n 0, 1), (648, .iload_n 3, 1), (649, .iconst 2, 1), (650, .iadd, 1), (651, .iaload, 1), (652, .aload_n 0, 1), (653, .iload_n 3, 1), (654, .iconst 3, 1), (655, .iadd, 1), (656, .iaload, 1), (657, .invokevirtual 77, 3), (660, .aload_n 2, 1), (661, .aload_n 0, 1), (662, .iload_n 3, 1), (663, .iconst 1, 1), (664, .iadd, 1), (665, .iaload, 1)]
def L_law_c7 : List (Nat × (Instr × Nat)) := [(666, .aload_n 0, 1), (667, .iload_n 3, 1), (668, .iconst 2, 1), (669, .iadd, 1), (670, .iaload, 1), (671, .aload_n 0, 1), (672, .iload_n 3, 1), (673, .iconst 3, 1), (674, .iadd, 1), (675, .iaload, 1), (676, .invokevirtual 81, 3), (679, .lcmp, 1), (680, .ifCond .eq 535, 3), (683, .iconst 0, 1), (684, .ireturn, 1), (685, .aload_n 1, 1), (686, .aload_n 0, 1), (687, .iload_n 3, 1), (688, .iconst 1, 1), (689, .iadd, 1), (690, .iaload, 1), (691, .aload_n 0, 1), (692, .iload_n 3, 1), (693, .iconst 2, 1), (694, .iadd, 1), (695, .iaload, 1), (696, .invokevirtual 82, 3), (699, .aload_n 2, 1), (700, .aload_n 0, 1), (701, .iload_n 3, 1), (702, .iconst 1, 1), (703, .iadd, 1), (704, .iaload, 1), (705, .aload_n 0, 1), (706, .iload_n 3, 1), (707, .iconst 2, 1), (708, .iadd, 1), (709, .iaload, 1), (710, .invokevirtual 86, 3), (713, .lcmp, 1), (714, .ifCond .eq 501, 3), (717, .iconst 0, 1), (718, .ireturn, 1), (719, .aload_n 1, 1), (720, .aload_n 0, 1), (721, .iload_n 3, 1), (722, .iconst 1, 1), (723, .iadd, 1), (724, .iaload, 1), (725, .aload_n 0, 1), (726, .iload_n 3, 1), (727, .iconst 2, 1), (728, .iadd, 1), (729, .iaload, 1), (730, .invokevirtual 87, 3), (733, .aload_n 2, 1), (734, .aload_n 0, 1), (735, .iload_n 3, 1), (736, .iconst 1, 1), (737, .iadd, 1)]
def L_law_c8 : List (Nat × (Instr × Nat)) := [(738, .iaload, 1), (739, .aload_n 0, 1), (740, .iload_n 3, 1), (741, .iconst 2, 1), (742, .iadd, 1), (743, .iaload, 1), (744, .invokevirtual 90, 3), (747, .if_icmp .eq 468, 3), (750, .iconst 0, 1), (751, .ireturn, 1), (752, .aload_n 1, 1), (753, .aload_n 0, 1), (754, .iload_n 3, 1), (755, .iconst 1, 1), (756, .iadd, 1), (757, .iaload, 1), (758, .invokevirtual 91, 3), (761, .aload_n 2, 1), (762, .aload_n 0, 1), (763, .iload_n 3, 1), (764, .iconst 1, 1), (765, .iadd, 1), (766, .iaload, 1), (767, .invokevirtual 94, 3), (770, .if_icmp .eq 445, 3), (773, .iconst 0, 1), (774, .ireturn, 1), (775, .aload_n 1, 1), (776, .aload_n 0, 1), (777, .iload_n 3, 1), (778, .iconst 1, 1), (779, .iadd, 1), (780, .iaload, 1), (781, .aload_n 0, 1), (782, .iload_n 3, 1), (783, .iconst 2, 1), (784, .iadd, 1), (785, .iaload, 1), (786, .invokevirtual 95, 3), (789, .aload_n 2, 1), (790, .aload_n 0, 1), (791, .iload_n 3, 1), (792, .iconst 1, 1), (793, .iadd, 1), (794, .iaload, 1), (795, .aload_n 0, 1), (796, .iload_n 3, 1), (797, .iconst 2, 1), (798, .iadd, 1), (799, .iaload, 1), (800, .invokevirtual 98, 3), (803, .if_icmp .eq 412, 3), (806, .iconst 0, 1), (807, .ireturn, 1), (808, .aload_n 1, 1), (809, .invokevirtual 99, 3), (812, .aload_n 2, 1), (813, .invokevirtual 102, 3), (816, .if_icmp .eq 399, 3), (819, .iconst 0, 1)]
def L_law_c9 : List (Nat × (Instr × Nat)) := [(820, .ireturn, 1), (821, .aload_n 1, 1), (822, .aload_n 0, 1), (823, .iload_n 3, 1), (824, .iconst 1, 1), (825, .iadd, 1), (826, .iaload, 1), (827, .aload_n 0, 1), (828, .iload_n 3, 1), (829, .iconst 2, 1), (830, .iadd, 1), (831, .iaload, 1), (832, .invokevirtual 103, 3), (835, .aload_n 2, 1), (836, .aload_n 0, 1), (837, .iload_n 3, 1), (838, .iconst 1, 1), (839, .iadd, 1), (840, .iaload, 1), (841, .aload_n 0, 1), (842, .iload_n 3, 1), (843, .iconst 2, 1), (844, .iadd, 1), (845, .iaload, 1), (846, .invokevirtual 106, 3), (849, .if_icmp .eq 366, 3), (852, .iconst 0, 1), (853, .ireturn, 1), (854, .aload_n 1, 1), (855, .invokevirtual 107, 3), (858, .aload_n 2, 1), (859, .invokevirtual 110, 3), (862, .if_icmp .eq 353, 3), (865, .iconst 0, 1), (866, .ireturn, 1), (867, .aload_n 1, 1), (868, .invokevirtual 111, 3), (871, .aload_n 2, 1), (872, .invokevirtual 114, 3), (875, .if_icmp .eq 340, 3), (878, .iconst 0, 1), (879, .ireturn, 1), (880, .aload_n 1, 1), (881, .aload_n 0, 1), (882, .iload_n 3, 1), (883, .iconst 1, 1), (884, .iadd, 1), (885, .iaload, 1), (886, .aload_n 0, 1), (887, .iload_n 3, 1), (888, .iconst 2, 1), (889, .iadd, 1), (890, .iaload, 1), (891, .aload_n 0, 1), (892, .iload_n 3, 1), (893, .iconst 3, 1), (894, .iadd, 1), (895, .iaload, 1), (896, .invokevirtual 115, 3), (899, .aload_n 2, 1)]
def L_law_c10 : List (Nat × (Instr × Nat)) := [(900, .aload_n 0, 1), (901, .iload_n 3, 1), (902, .iconst 1, 1), (903, .iadd, 1), (904, .iaload, 1), (905, .aload_n 0, 1), (906, .iload_n 3, 1), (907, .iconst 2, 1), (908, .iadd, 1), (909, .iaload, 1), (910, .aload_n 0, 1), (911, .iload_n 3, 1), (912, .iconst 3, 1), (913, .iadd, 1), (914, .iaload, 1), (915, .invokevirtual 118, 3), (918, .if_icmp .eq 297, 3), (921, .iconst 0, 1), (922, .ireturn, 1), (923, .aload_n 1, 1), (924, .aload_n 0, 1), (925, .iload_n 3, 1), (926, .iconst 1, 1), (927, .iadd, 1), (928, .iaload, 1), (929, .invokevirtual 119, 3), (932, .aload_n 2, 1), (933, .aload_n 0, 1), (934, .iload_n 3, 1), (935, .iconst 1, 1), (936, .iadd, 1), (937, .iaload, 1), (938, .invokevirtual 122, 3), (941, .if_icmp .eq 274, 3), (944, .iconst 0, 1), (945, .ireturn, 1), (946, .aload_n 1, 1), (947, .aload_n 0, 1), (948, .iload_n 3, 1), (949, .iconst 1, 1), (950, .iadd, 1), (951, .iaload, 1), (952, .aload_n 0, 1), (953, .iload_n 3, 1), (954, .iconst 2, 1), (955, .iadd, 1), (956, .iaload, 1), (957, .invokevirtual 123, 3), (960, .aload_n 2, 1), (961, .aload_n 0, 1), (962, .iload_n 3, 1), (963, .iconst 1, 1), (964, .iadd, 1), (965, .iaload, 1), (966, .aload_n 0, 1), (967, .iload_n 3, 1), (968, .iconst 2, 1), (969, .iadd, 1), (970, .iaload, 1), (971, .invokevirtual 126, 3)]
def L_law_c11 : List (Nat × (Instr × Nat)) := [(974, .if_icmp .eq 241, 3), (977, .iconst 0, 1), (978, .ireturn, 1), (979, .aload_n 1, 1), (980, .aload_n 0, 1), (981, .iload_n 3, 1), (982, .iconst 1, 1), (983, .iadd, 1), (984, .iaload, 1), (985, .invokevirtual 127, 3), (988, .aload_n 2, 1), (989, .aload_n 0, 1), (990, .iload_n 3, 1), (991, .iconst 1, 1), (992, .iadd, 1), (993, .iaload, 1), (994, .invokevirtual 130, 3), (997, .if_icmp .eq 218, 3), (1000, .iconst 0, 1), (1001, .ireturn, 1), (1002, .aload_n 1, 1), (1003, .aload_n 0, 1), (1004, .iload_n 3, 1), (1005, .iconst 1, 1), (1006, .iadd, 1), (1007, .iaload, 1), (1008, .aload_n 0, 1), (1009, .iload_n 3, 1), (1010, .iconst 2, 1), (1011, .iadd, 1), (1012, .iaload, 1), (1013, .aload_n 0, 1), (1014, .iload_n 3, 1), (1015, .iconst 3, 1), (1016, .iadd, 1), (1017, .iaload, 1), (1018, .invokevirtual 131, 3), (1021, .aload_n 2, 1), (1022, .aload_n 0, 1), (1023, .iload_n 3, 1), (1024, .iconst 1, 1), (1025, .iadd, 1), (1026, .iaload, 1), (1027, .aload_n 0, 1), (1028, .iload_n 3, 1), (1029, .iconst 2, 1), (1030, .iadd, 1), (1031, .iaload, 1), (1032, .aload_n 0, 1), (1033, .iload_n 3, 1), (1034, .iconst 3, 1), (1035, .iadd, 1), (1036, .iaload, 1), (1037, .invokevirtual 134, 3), (1040, .if_icmp .eq 175, 3), (1043, .iconst 0, 1), (1044, .ireturn, 1), (1045, .aload_n 1, 1), (1046, .aload_n 0, 1), (1047, .iload_n 3, 1)]
def L_law_c12 : List (Nat × (Instr × Nat)) := [(1048, .iconst 1, 1), (1049, .iadd, 1), (1050, .iaload, 1), (1051, .aload_n 0, 1), (1052, .iload_n 3, 1), (1053, .iconst 2, 1), (1054, .iadd, 1), (1055, .iaload, 1), (1056, .aload_n 0, 1), (1057, .iload_n 3, 1), (1058, .iconst 3, 1), (1059, .iadd, 1), (1060, .iaload, 1), (1061, .i2l, 1), (1062, .bipush 32, 2), (1064, .lshl, 1), (1065, .aload_n 0, 1), (1066, .iload_n 3, 1), (1067, .iconst 4, 1), (1068, .iadd, 1), (1069, .iaload, 1), (1070, .i2l, 1), (1071, .ldc2_w 135, 3), (1074, .land, 1), (1075, .lor, 1), (1076, .invokevirtual 137, 3), (1079, .aload_n 2, 1), (1080, .aload_n 0, 1), (1081, .iload_n 3, 1), (1082, .iconst 1, 1), (1083, .iadd, 1), (1084, .iaload, 1), (1085, .aload_n 0, 1), (1086, .iload_n 3, 1), (1087, .iconst 2, 1), (1088, .iadd, 1), (1089, .iaload, 1), (1090, .aload_n 0, 1), (1091, .iload_n 3, 1), (1092, .iconst 3, 1), (1093, .iadd, 1), (1094, .iaload, 1), (1095, .i2l, 1), (1096, .bipush 32, 2), (1098, .lshl, 1), (1099, .aload_n 0, 1), (1100, .iload_n 3, 1), (1101, .iconst 4, 1), (1102, .iadd, 1), (1103, .iaload, 1), (1104, .i2l, 1), (1105, .ldc2_w 135, 3), (1108, .land, 1), (1109, .lor, 1), (1110, .invokevirtual 141, 3), (1113, .if_icmp .eq 102, 3), (1116, .iconst 0, 1), (1117, .ireturn, 1), (1118, .aload_n 1, 1), (1119, .aload_n 0, 1)]
def L_law_c13 : List (Nat × (Instr × Nat)) := [(1120, .iload_n 3, 1), (1121, .iconst 1, 1), (1122, .iadd, 1), (1123, .iaload, 1), (1124, .aload_n 0, 1), (1125, .iload_n 3, 1), (1126, .iconst 2, 1), (1127, .iadd, 1), (1128, .iaload, 1), (1129, .invokevirtual 142, 3), (1132, .aload_n 2, 1), (1133, .aload_n 0, 1), (1134, .iload_n 3, 1), (1135, .iconst 1, 1), (1136, .iadd, 1), (1137, .iaload, 1), (1138, .aload_n 0, 1), (1139, .iload_n 3, 1), (1140, .iconst 2, 1), (1141, .iadd, 1), (1142, .iaload, 1), (1143, .invokevirtual 145, 3), (1146, .lcmp, 1), (1147, .ifCond .eq 68, 3), (1150, .iconst 0, 1), (1151, .ireturn, 1), (1152, .aload_n 1, 1), (1153, .aload_n 0, 1), (1154, .iload_n 3, 1), (1155, .iconst 1, 1), (1156, .iadd, 1), (1157, .iaload, 1), (1158, .aload_n 0, 1), (1159, .iload_n 3, 1), (1160, .iconst 2, 1), (1161, .iadd, 1), (1162, .iaload, 1), (1163, .aload_n 0, 1), (1164, .iload_n 3, 1), (1165, .iconst 3, 1), (1166, .iadd, 1), (1167, .iaload, 1), (1168, .aload_n 0, 1), (1169, .iload_n 3, 1), (1170, .iconst 4, 1), (1171, .iadd, 1), (1172, .iaload, 1), (1173, .aload_n 0, 1), (1174, .iload_n 3, 1), (1175, .iconst 5, 1), (1176, .iadd, 1), (1177, .iaload, 1), (1178, .invokevirtual 146, 3), (1181, .aload_n 2, 1), (1182, .aload_n 0, 1), (1183, .iload_n 3, 1), (1184, .iconst 1, 1), (1185, .iadd, 1), (1186, .iaload, 1), (1187, .aload_n 0, 1)]
def L_law_c14 : List (Nat × (Instr × Nat)) := [(1188, .iload_n 3, 1), (1189, .iconst 2, 1), (1190, .iadd, 1), (1191, .iaload, 1), (1192, .aload_n 0, 1), (1193, .iload_n 3, 1), (1194, .iconst 3, 1), (1195, .iadd, 1), (1196, .iaload, 1), (1197, .aload_n 0, 1), (1198, .iload_n 3, 1), (1199, .iconst 4, 1), (1200, .iadd, 1), (1201, .iaload, 1), (1202, .aload_n 0, 1), (1203, .iload_n 3, 1), (1204, .iconst 5, 1), (1205, .iadd, 1), (1206, .iaload, 1), (1207, .invokevirtual 150, 3), (1210, .if_icmp .eq 5, 3), (1213, .iconst 0, 1), (1214, .ireturn, 1), (1215, .iinc 3 6, 3), (1218, .goto (-1200), 3), (1221, .iconst 1, 1), (1222, .ireturn, 1)]
def L_law : am_M := (15, some .boolean, 4, false, L_law_c0 ++ (L_law_c1 ++ (L_law_c2 ++ (L_law_c3 ++ (L_law_c4 ++ (L_law_c5 ++ (L_law_c6 ++ (L_law_c7 ++ (L_law_c8 ++ (L_law_c9 ++ (L_law_c10 ++ (L_law_c11 ++ (L_law_c12 ++ (L_law_c13 ++ (L_law_c14)))))))))))))))
def am_fld : Nat → List (Nat × (Nat × Nat)) := fun o => match o with
  | 0 => [(34, 4, 0), (37, 4, 2), (30, 4, 4), (14, 0, 0), (20, 0, 1), (23, 0, 2)]
  | 1 => [(41, 1, 0), (9, 1, 1), (15, 1, 2), (18, 1, 3), (21, 1, 4), (24, 1, 5), (27, 1, 6), (31, 1, 7), (35, 1, 8), (38, 1, 9)]
  | 2 => [(99, 1, 0), (102, 1, 1), (77, 1, 2), (74, 1, 3), (80, 1, 4), (87, 1, 5), (83, 1, 6), (157, 1, 7), (160, 1, 8), (121, 1, 9), (9, 2, 0), (15, 2, 1), (19, 2, 2), (22, 2, 3), (28, 2, 4), (32, 2, 5), (35, 2, 6), (40, 2, 7), (43, 2, 8), (96, 3, 0)]
  | 3 => [(9, 3, 0), (15, 3, 1), (19, 3, 2), (22, 3, 3)]
  | 4 => [(19, 4, 0), (22, 4, 1), (26, 4, 2), (29, 4, 3), (7, 4, 4)]
  | 5 => [(9, 5, 0), (15, 5, 1), (18, 5, 2)]
  | 6 => [(9, 6, 0), (15, 6, 1), (19, 6, 2), (22, 6, 3), (25, 6, 4), (68, 3, 0)]
  | 7 => [(47, 1, 0), (26, 1, 1), (50, 1, 2), (11, 7, 0), (15, 7, 1)]
  | 8 => [(330, 1, 0), (88, 1, 1), (93, 1, 2), (96, 1, 3), (99, 1, 4), (105, 1, 5), (102, 1, 6), (127, 1, 7), (131, 1, 8), (145, 1, 9), (172, 2, 1), (165, 2, 2), (158, 2, 3), (81, 2, 5), (255, 4, 0), (258, 4, 1), (261, 4, 2), (342, 4, 3), (216, 4, 4), (205, 0, 0), (242, 0, 1), (252, 0, 2), (151, 6, 1), (291, 7, 0), (288, 7, 1), (268, 5, 0), (271, 5, 1), (277, 5, 2), (12, 8, 0), (18, 8, 1), (21, 8, 2), (27, 8, 3), (31, 8, 4), (34, 8, 5), (41, 8, 6), (47, 8, 7), (51, 8, 8), (58, 8, 9), (64, 8, 10)]
  | 9 => [(111, 9, 0), (9, 9, 1), (15, 9, 2), (18, 9, 3), (21, 9, 4), (24, 9, 5), (27, 9, 6), (30, 9, 7), (33, 9, 8), (36, 9, 9), (240, 9, 10), (220, 9, 11), (142, 9, 12), (39, 9, 13), (145, 9, 14), (148, 9, 15), (151, 9, 16), (186, 9, 17), (214, 9, 18), (107, 9, 19), (42, 9, 20), (45, 9, 21), (48, 9, 22), (51, 9, 23), (54, 9, 24), (57, 9, 25), (170, 9, 26), (60, 9, 27), (296, 9, 28), (64, 9, 29), (67, 9, 30), (70, 9, 31), (317, 9, 32), (73, 9, 33), (76, 9, 34), (320, 9, 35), (79, 9, 36), (82, 9, 37), (327, 9, 38), (85, 9, 39), (323, 9, 40), (88, 9, 41), (91, 9, 42), (94, 9, 43), (97, 9, 44), (100, 9, 45), (103, 9, 46)]
  | _ => []
def am_sfl : Nat → List (Nat × Nat) := fun o => match o with
  | 10 => [(9, 0), (15, 1)]
  | _ => []
def am_sta : Nat → List (Nat × Nat) := fun o => match o with
  | 7 => [(19, 2)]
  | 8 => [(313, 1)]
  | 10 => [(38, 0), (1053, 3)]
  | _ => []
def am_con : Nat → List (Nat × Value) := fun o => match o with
  | 6 => [(55, .ref 1000000), (57, .ref 1000001), (59, .ref 1000002), (93, .ref 1000003), (99, .ref 1000004)]
  | 8 => [(322, .int 65535), (228, .long (-9223372036854775808)), (233, .long (16))]
  | 9 => [(204, .ref 1000005), (210, .ref 1000006), (212, .ref 1000007), (173, .ref 1000008), (178, .ref 1000009), (257, .int 65535), (306, .long (-9223372036854775808)), (308, .long (16))]
  | 12 => [(265, .int 1431655765), (266, .int 858993459), (267, .int 252645135)]
  | 15 => [(135, .long (4294967295))]
  | _ => []
def am_new : Nat → List (Nat × Nat) := fun o => match o with
  | 0 => [(9, 4)]
  | 2 => [(26, 1)]
  | 8 => [(9, 2), (24, 0), (38, 6), (45, 3), (55, 7), (62, 5)]
  | 15 => [(7, 8), (10, 9)]
  | _ => []
def am_mt : Nat → List (Nat × (Nat × (Nat × Nat))) := fun o => match o with
  | 0 => [(3, 6, 0, 0), (11, 2, 4, 1), (41, 1, 5, 2), (26, 0, 119, 1)]
  | 1 => [(3, 6, 0, 0), (44, 7, 0, 0)]
  | 2 => [(3, 6, 0, 0), (46, 2, 2, 1), (59, 0, 14, 3), (109, 0, 18, 1), (105, 0, 19, 1), (113, 0, 20, 1), (117, 0, 22, 1), (124, 1, 23, 2), (127, 0, 17, 1), (163, 0, 26, 2), (141, 1, 27, 2), (167, 0, 28, 1), (170, 0, 30, 2), (67, 4, 31, 1), (173, 1, 5, 2), (49, 7, 0, 0), (55, 0, 35, 1), (70, 0, 16, 1), (63, 4, 11, 1), (151, 0, 42, 0), (130, 0, 43, 0), (154, 0, 44, 0), (134, 0, 45, 0), (137, 0, 46, 3), (144, 0, 47, 2), (148, 0, 48, 1), (90, 1, 86, 2)]
  | 3 => [(3, 6, 0, 0), (25, 1, 21, 3)]
  | 4 => [(1, 6, 0, 0), (13, 1, 5, 2), (32, 0, 96, 3)]
  | 5 => [(3, 6, 0, 0)]
  | 6 => [(3, 6, 0, 0), (29, 0, 59, 0), (34, 0, 60, 0), (42, 0, 61, 0), (61, 0, 62, 1), (46, 0, 63, 0), (51, 0, 65, 1), (38, 0, 70, 1), (65, 0, 71, 0), (71, 0, 72, 1), (78, 0, 73, 1), (81, 0, 74, 1), (84, 0, 75, 0), (95, 1, 76, 2), (74, 0, 77, 2), (87, 0, 78, 1), (90, 0, 79, 1)]
  | 7 => [(3, 6, 0, 0), (31, 0, 123, 5), (35, 1, 124, 2), (22, 4, 125, 1), (39, 0, 126, 1), (43, 0, 127, 4)]
  | 8 => [(3, 6, 0, 0), (11, 2, 1, 0), (26, 5, 3, 0), (40, 5, 6, 0), (57, 5, 7, 0), (68, 5, 8, 0), (69, 5, 9, 0), (70, 1, 11, 1), (74, 1, 12, 1), (77, 0, 13, 3), (84, 0, 16, 1), (108, 0, 17, 1), (112, 0, 24, 1), (115, 0, 25, 1), (118, 0, 28, 1), (121, 0, 29, 1), (124, 0, 32, 1), (230, 0, 33, 2), (191, 0, 34, 1), (319, 0, 36, 2), (326, 0, 37, 0), (336, 0, 38, 0), (339, 0, 39, 1), (195, 0, 40, 1), (137, 0, 19, 1), (181, 0, 41, 1), (134, 1, 31, 1), (141, 0, 53, 2), (148, 0, 56, 1), (154, 0, 58, 1), (162, 0, 81, 1), (168, 0, 45, 0), (175, 0, 82, 0), (178, 0, 83, 0), (185, 0, 85, 0), (188, 0, 88, 1), (198, 0, 90, 1), (220, 1, 91, 1), (323, 0, 92, 1), (201, 0, 93, 2), (209, 0, 95, 0), (214, 0, 96, 3), (217, 0, 98, 1), (333, 0, 99, 2), (225, 1, 100, 1), (235, 1, 102, 3), (351, 1, 103, 2), (239, 0, 105, 0), (245, 0, 107, 2), (249, 0, 109, 0), (345, 0, 110, 1), (348, 0, 111, 1), (264, 0, 115, 1), (274, 0, 116, 1), (281, 0, 118, 1), (284, 0, 122, 3), (294, 1, 130, 2), (316, 1, 125, 1), (297, 0, 133, 2), (300, 0, 135, 1), (304, 0, 138, 2), (307, 7, 0, 0)]
  | 9 => [(3, 6, 0, 0), (114, 1, 141, 3), (118, 1, 142, 1), (122, 0, 144, 1), (125, 0, 145, 1), (231, 0, 146, 1), (227, 0, 147, 2), (223, 0, 148, 2), (234, 0, 149, 1), (129, 0, 150, 1), (132, 0, 151, 2), (237, 1, 152, 2), (136, 0, 153, 1), (279, 1, 5, 2), (139, 0, 154, 1), (299, 0, 155, 0), (253, 0, 156, 1), (250, 0, 157, 0), (243, 0, 158, 0), (246, 0, 159, 3), (258, 0, 160, 1), (217, 0, 168, 1), (206, 0, 169, 1), (158, 0, 63, 0), (163, 0, 65, 1), (167, 0, 170, 1), (180, 0, 171, 0), (154, 0, 172, 0), (195, 0, 173, 0), (201, 0, 174, 0), (192, 0, 175, 0), (189, 0, 176, 1), (183, 0, 177, 1), (198, 0, 178, 0), (175, 0, 179, 1), (261, 0, 187, 1), (264, 0, 188, 0), (267, 0, 189, 0), (270, 1, 86, 2), (275, 0, 192, 1), (290, 0, 194, 1), (287, 0, 195, 1), (282, 1, 91, 1), (293, 0, 196, 2), (310, 1, 200, 3), (302, 1, 201, 1), (314, 0, 203, 0), (333, 0, 212, 3), (330, 0, 213, 1), (337, 1, 214, 1), (340, 0, 215, 3), (343, 0, 216, 3), (346, 1, 221, 1), (349, 1, 223, 2)]
  | 10 => [(335, 0, 64, 0), (492, 0, 66, 0), (495, 1, 67, 2), (1059, 1, 69, 3), (633, 0, 180, 2), (505, 0, 63, 0), (637, 1, 181, 4), (1062, 1, 185, 4)]
  | 11 => [(9, 1, 68, 2), (88, 1, 182, 1), (92, 1, 5, 2), (38, 1, 86, 2), (95, 1, 183, 4)]
  | 15 => [(9, 2, 0, 0), (13, 0, 10, 3), (18, 0, 15, 2), (23, 0, 49, 2), (27, 0, 50, 2), (31, 0, 51, 1), (36, 0, 52, 2), (40, 0, 54, 3), (44, 0, 55, 1), (48, 0, 57, 0), (53, 0, 80, 1), (57, 0, 84, 1), (61, 0, 87, 2), (65, 0, 89, 2), (69, 0, 94, 3), (73, 0, 97, 2), (77, 0, 101, 3), (82, 0, 104, 2), (87, 0, 106, 2), (91, 0, 108, 1), (95, 0, 112, 2), (99, 0, 113, 0), (103, 0, 114, 2), (107, 0, 117, 0), (111, 0, 120, 0), (115, 0, 121, 3), (119, 0, 128, 1), (123, 0, 129, 2), (127, 0, 131, 1), (131, 0, 132, 3), (137, 0, 134, 3), (142, 0, 136, 2), (146, 0, 137, 5), (12, 2, 139, 0), (17, 0, 140, 3), (22, 0, 143, 2), (26, 0, 161, 2), (30, 0, 162, 2), (35, 0, 163, 1), (39, 0, 164, 2), (43, 0, 165, 3), (47, 0, 166, 1), (52, 0, 167, 0), (56, 0, 186, 1), (60, 0, 190, 1), (64, 0, 191, 2), (68, 0, 193, 2), (72, 0, 197, 3), (76, 0, 198, 2), (81, 0, 199, 3), (86, 0, 202, 2), (90, 0, 204, 2), (94, 0, 205, 1), (98, 0, 206, 2), (102, 0, 207, 0), (106, 0, 208, 2), (110, 0, 209, 0), (114, 0, 210, 0), (118, 0, 211, 3), (122, 0, 217, 1), (126, 0, 218, 2), (130, 0, 219, 1), (134, 0, 220, 3), (141, 0, 222, 3), (145, 0, 224, 2), (150, 0, 225, 5)]
  | _ => []
def am_ms_0 : List (MethodName × (ByteArray × am_M)) := [(⟨"LostSheets", "<init>", "()V"⟩, prog_1_method_1_code, k_init), (⟨"LostSheets$Land", "<init>", "()V"⟩, prog_4_method_1_code, la_init), (⟨"LostSheets$Drawer", "<init>", "(I)V"⟩, prog_3_method_1_code, dr_init), (⟨"LostSheets$ByHand", "<init>", "()V"⟩, prog_2_method_1_code, bh_init), (⟨"LostSheets$Rows", "<init>", "(I)V"⟩, prog_6_method_1_code, ro_init), (⟨"java/lang/Math", "max", "(II)I"⟩, prog_14_method_65_code, jm_max), (⟨"LostSheets$Text", "<init>", "()V"⟩, prog_8_method_1_code, tx_init), (⟨"LostSheets$Trace", "<init>", "()V"⟩, prog_9_method_1_code, tr_init), (⟨"LostSheets$Office", "<init>", "()V"⟩, prog_5_method_1_code, of_init), (⟨"LostSheets$Tape", "<init>", "()V"⟩, prog_7_method_1_code, tp_init), (⟨"LostSheets", "drawer", "(III)I"⟩, prog_1_method_2_code, k_drawer), (⟨"LostSheets", "isCell", "(I)Z"⟩, prog_1_method_34_code, k_isCell), (⟨"LostSheets", "isDigit", "(I)Z"⟩, prog_1_method_36_code, k_isDigit), (⟨"LostSheets$Land", "addDrawer", "(III)Z"⟩, prog_4_method_4_code, la_addDrawer), (⟨"LostSheets$Drawer", "begins", "(III)V"⟩, prog_3_method_2_code, dr_begins), (⟨"LostSheets", "of", "(II)I"⟩, prog_1_method_3_code, k_of), (⟨"LostSheets$Land", "drawerAt", "(I)LLostSheets$Drawer;"⟩, prog_4_method_3_code, la_drawerAt), (⟨"LostSheets$Land", "feelOf", "(LLostSheets$Drawer;)I"⟩, prog_4_method_19_code, la_feelOf), (⟨"LostSheets$Land", "answersOf", "(LLostSheets$Drawer;)[I"⟩, prog_4_method_17_code, la_answersOf), (⟨"LostSheets$Land", "markAt", "(I)I"⟩, prog_4_method_5_code, la_markAt), (⟨"LostSheets$Office", "turnsBy", "([I)I"⟩, prog_5_method_4_code, of_turnsBy), (⟨"LostSheets$Office", "holds", "([III)I"⟩, prog_5_method_5_code, of_holds), (⟨"LostSheets$Land", "othersWith", "(LLostSheets$Drawer;)I"⟩, prog_4_method_18_code, la_othersWith), (⟨"java/lang/Math", "floorMod", "(II)I"⟩, prog_14_method_50_code, jm_floorMod), (⟨"LostSheets$Land", "wayOf", "(LLostSheets$Drawer;)I"⟩, prog_4_method_20_code, la_wayOf), (⟨"LostSheets$Land", "cameOf", "(LLostSheets$Drawer;)I"⟩, prog_4_method_27_code, la_cameOf), (⟨"LostSheets$Land", "endBySheet", "(LLostSheets$Drawer;I)I"⟩, prog_4_method_26_code, la_endBySheet), (⟨"LostSheets$Land", "stepFrom", "(II)I"⟩, prog_4_method_25_code, la_stepFrom), (⟨"LostSheets$Land", "hereOf", "(LLostSheets$Drawer;)I"⟩, prog_4_method_28_code, la_hereOf), (⟨"LostSheets$Land", "lookOf", "(LLostSheets$Drawer;)I"⟩, prog_4_method_29_code, la_lookOf), (⟨"LostSheets$Land", "mostAtOneMark", "(II)I"⟩, prog_4_method_30_code, la_mostAtOneMark), (⟨"LostSheets", "isMark", "(I)Z"⟩, prog_1_method_35_code, k_isMark)]
def am_ms_1 : List (MethodName × (ByteArray × am_M)) := [(⟨"LostSheets", "placesOf", "(LLostSheets$Drawer;)I"⟩, prog_1_method_47_code, k_placesOf), (⟨"LostSheets", "tryAt", "(II)V"⟩, prog_1_method_42_code, k_tryAt), (⟨"LostSheets$Land", "copyFrom", "(LLostSheets$Land;)V"⟩, prog_4_method_2_code, la_copyFrom), (⟨"LostSheets$Drawer", "copyFrom", "(LLostSheets$Drawer;)V"⟩, prog_3_method_3_code, dr_copyFrom), (⟨"LostSheets$Land", "putAt", "(II)V"⟩, prog_4_method_8_code, la_putAt), (⟨"LostSheets", "seenIsSo", "()Z"⟩, prog_1_method_50_code, k_seenIsSo), (⟨"LostSheets$ByHand", "lastHourSeen", "()I"⟩, prog_2_method_3_code, bh_lastHourSeen), (⟨"LostSheets", "seenIsSoIn", "(I)Z"⟩, prog_1_method_51_code, k_seenIsSoIn), (⟨"LostSheets$Land", "whereIs", "(I)I"⟩, prog_4_method_7_code, la_whereIs), (⟨"LostSheets$Land", "hoursGo", "(I)V"⟩, prog_4_method_23_code, la_hoursGo), (⟨"LostSheets$Land", "anyGoes", "()Z"⟩, prog_4_method_24_code, la_anyGoes), (⟨"LostSheets$Drawer", "goes", "()Z"⟩, prog_3_method_4_code, dr_goes), (⟨"LostSheets$Land", "hourGoes", "()V"⟩, prog_4_method_21_code, la_hourGoes), (⟨"LostSheets$Land", "know", "()I"⟩, prog_4_method_16_code, la_know), (⟨"LostSheets$Land", "stepsAndDraws", "(LLostSheets$Drawer;II)V"⟩, prog_4_method_22_code, la_stepsAndDraws), (⟨"LostSheets$Drawer", "writes", "(II)V"⟩, prog_3_method_5_code, dr_writes), (⟨"LostSheets$Drawer", "rowsWith", "(I)I"⟩, prog_3_method_6_code, dr_rowsWith), (⟨"LostSheets", "sheet", "(II)I"⟩, prog_1_method_4_code, k_sheet), (⟨"LostSheets", "put", "(II)I"⟩, prog_1_method_5_code, k_put), (⟨"LostSheets", "anew", "(I)I"⟩, prog_1_method_6_code, k_anew), (⟨"LostSheets", "mark", "(II)I"⟩, prog_1_method_7_code, k_mark), (⟨"LostSheets$Land", "setMark", "(II)V"⟩, prog_4_method_6_code, la_setMark), (⟨"LostSheets", "row", "(III)I"⟩, prog_1_method_8_code, k_row), (⟨"LostSheets", "feed", "(I)I"⟩, prog_1_method_9_code, k_feed), (⟨"LostSheets$Text", "append", "(I)Z"⟩, prog_8_method_2_code, tx_append), (⟨"LostSheets", "office", "()I"⟩, prog_1_method_10_code, k_office), (⟨"LostSheets$Text", "readInto", "(LLostSheets$Office;)I"⟩, prog_8_method_3_code, tx_readInto), (⟨"LostSheets$Office", "clear", "()V"⟩, prog_5_method_2_code, of_clear), (⟨"LostSheets$Text", "clause", "()Z"⟩, prog_8_method_8_code, tx_clause), (⟨"LostSheets$Text", "ahead", "()I"⟩, prog_8_method_4_code, tx_ahead), (⟨"LostSheets$Text", "takesAll", "(Ljava/lang/String;)Z"⟩, prog_8_method_6_code, tx_takesAll), (⟨"java/lang/String", "length", "()I"⟩, prog_15_method_54_code, js_length)]
def am_ms_2 : List (MethodName × (ByteArray × am_M)) := [(⟨"java/lang/String", "coder", "()B"⟩, prog_15_method_152_code, js_coder), (⟨"java/lang/String", "charAt", "(I)C"⟩, prog_15_method_56_code, js_charAt), (⟨"java/lang/String", "isLatin1", "()Z"⟩, prog_15_method_154_code, js_isLatin1), (⟨"java/lang/StringLatin1", "charAt", "([BI)C"⟩, prog_16_method_2_code, jl_charAt), (⟨"java/lang/String", "checkIndex", "(II)V"⟩, prog_15_method_155_code, js_checkIndex), (⟨"jdk/internal/util/Preconditions", "checkIndex", "(IILjava/util/function/BiFunction;)I"⟩, prog_19_method_11_code, jp_checkIndex), (⟨"LostSheets$Text", "takes", "(I)Z"⟩, prog_8_method_5_code, tx_takes), (⟨"LostSheets$Text", "oneOrTwoDigits", "()Z"⟩, prog_8_method_7_code, tx_oneOrTwoDigits), (⟨"LostSheets$Text", "anyOf", "(I)Z"⟩, prog_8_method_9_code, tx_anyOf), (⟨"LostSheets$Text", "allOf", "(I)Z"⟩, prog_8_method_10_code, tx_allOf), (⟨"LostSheets$Text", "one", "(I)Z"⟩, prog_8_method_11_code, tx_one), (⟨"LostSheets$Text", "test", "()Z"⟩, prog_8_method_14_code, tx_test), (⟨"LostSheets$Text", "placeIn", "(Ljava/lang/String;I)I"⟩, prog_8_method_15_code, tx_placeIn), (⟨"LostSheets$Office", "append", "(II)V"⟩, prog_5_method_3_code, of_append), (⟨"LostSheets$Text", "not", "(I)Z"⟩, prog_8_method_12_code, tx_not), (⟨"LostSheets$Text", "inBrackets", "(I)Z"⟩, prog_8_method_13_code, tx_inBrackets), (⟨"LostSheets", "told", "(I)I"⟩, prog_1_method_11_code, k_told), (⟨"LostSheets", "marksOf", "(I)I"⟩, prog_1_method_46_code, k_marksOf), (⟨"LostSheets$Land", "doneBits", "()I"⟩, prog_4_method_13_code, la_doneBits), (⟨"LostSheets", "whole", "()I"⟩, prog_1_method_43_code, k_whole), (⟨"LostSheets", "pass", "(I)I"⟩, prog_1_method_12_code, k_pass), (⟨"LostSheets$Land", "capDrew", "()V"⟩, prog_4_method_15_code, la_capDrew), (⟨"java/lang/Math", "min", "(II)I"⟩, prog_14_method_69_code, jm_min), (⟨"LostSheets", "on", "(II)I"⟩, prog_1_method_13_code, k_on), (⟨"LostSheets", "drawerBehindTen", "(I)LLostSheets$Drawer;"⟩, prog_1_method_38_code, k_drawerBehindTen), (⟨"LostSheets", "best", "(II)I"⟩, prog_1_method_14_code, k_best), (⟨"LostSheets", "crew", "(I)I"⟩, prog_1_method_45_code, k_crew), (⟨"java/lang/Integer", "bitCount", "(I)I"⟩, prog_13_method_49_code, ji_bitCount), (⟨"LostSheets$Land", "othersAreDone", "(I)V"⟩, prog_4_method_12_code, la_othersAreDone), (⟨"LostSheets", "landing", "(II)I"⟩, prog_1_method_44_code, k_landing), (⟨"LostSheets", "see", "(III)I"⟩, prog_1_method_15_code, k_see), (⟨"LostSheets$Rows", "clear", "()V"⟩, prog_6_method_2_code, ro_clear)]
def am_ms_3 : List (MethodName × (ByteArray × am_M)) := [(⟨"LostSheets$Rows", "append", "(III)Z"⟩, prog_6_method_3_code, ro_append), (⟨"LostSheets", "can", "(II)I"⟩, prog_1_method_16_code, k_can), (⟨"LostSheets", "possibleNumbers", "(I)I"⟩, prog_1_method_48_code, k_possibleNumbers), (⟨"LostSheets$Land", "setNumber", "(II)V"⟩, prog_4_method_9_code, la_setNumber), (⟨"LostSheets", "leastOf", "(I)I"⟩, prog_1_method_49_code, k_leastOf), (⟨"LostSheets", "odds", "(III)J"⟩, prog_1_method_17_code, k_odds), (⟨"LostSheets", "partOfFraction", "(JJI)J"⟩, prog_1_method_53_code, k_partOfFraction), (⟨"LostSheets", "greatestDivisor", "(JJ)J"⟩, prog_1_method_54_code, k_greatestDivisor), (⟨"LostSheets", "mean", "(II)J"⟩, prog_1_method_18_code, k_mean), (⟨"LostSheets$Land", "drewOfAll", "()I"⟩, prog_4_method_14_code, la_drewOfAll), (⟨"LostSheets", "plan", "(II)I"⟩, prog_1_method_19_code, k_plan), (⟨"LostSheets", "isPlanRow", "(II)Z"⟩, prog_1_method_37_code, k_isPlanRow), (⟨"LostSheets", "ends", "(I)I"⟩, prog_1_method_20_code, k_ends), (⟨"LostSheets", "tryPlan", "()V"⟩, prog_1_method_52_code, k_tryPlan), (⟨"LostSheets$Land", "emptySheet", "(I)V"⟩, prog_4_method_10_code, la_emptySheet), (⟨"LostSheets$Land", "notDone", "(I)V"⟩, prog_4_method_11_code, la_notDone), (⟨"LostSheets", "book", "(II)I"⟩, prog_1_method_21_code, k_book), (⟨"LostSheets", "looked", "()I"⟩, prog_1_method_22_code, k_looked), (⟨"LostSheets", "judge", "(II)I"⟩, prog_1_method_23_code, k_judge), (⟨"LostSheets", "tapeAt", "(I)LLostSheets$Tape;"⟩, prog_1_method_39_code, k_tapeAt), (⟨"LostSheets$Tape", "has", "(I)Z"⟩, prog_7_method_3_code, tp_has), (⟨"LostSheets", "image", "()I"⟩, prog_1_method_24_code, k_image), (⟨"LostSheets$ByHand", "copyFrom", "(LLostSheets$ByHand;)V"⟩, prog_2_method_2_code, bh_copyFrom), (⟨"LostSheets$Rows", "copyFrom", "(LLostSheets$Rows;)V"⟩, prog_6_method_4_code, ro_copyFrom), (⟨"LostSheets", "undo", "()I"⟩, prog_1_method_25_code, k_undo), (⟨"LostSheets", "act", "(III)I"⟩, prog_1_method_26_code, k_act), (⟨"LostSheets$Trace", "ofAct", "(LLostSheets$Drawer;II)I"⟩, prog_9_method_4_code, tr_ofAct), (⟨"LostSheets$Trace", "run", "(LLostSheets$Drawer;IIII)I"⟩, prog_9_method_5_code, tr_run), (⟨"LostSheets$Trace", "bodyOf", "(II)I"⟩, prog_9_method_2_code, tr_bodyOf), (⟨"LostSheets", "aboveOf", "(I)I"⟩, prog_1_method_40_code, k_aboveOf), (⟨"LostSheets$Trace", "begins", "(I)V"⟩, prog_9_method_3_code, tr_begins), (⟨"LostSheets$Trace", "does", "(ILLostSheets$Drawer;II)I"⟩, prog_9_method_6_code, tr_does)]
def am_ms_4 : List (MethodName × (ByteArray × am_M)) := [(⟨"LostSheets", "trace", "(I)I"⟩, prog_1_method_27_code, k_trace), (⟨"LostSheets", "taken", "(II)I"⟩, prog_1_method_28_code, k_taken), (⟨"LostSheets", "isUnder", "(II)Z"⟩, prog_1_method_41_code, k_isUnder), (⟨"LostSheets", "count", "(I)I"⟩, prog_1_method_29_code, k_count), (⟨"LostSheets", "tape", "(III)I"⟩, prog_1_method_30_code, k_tape), (⟨"LostSheets$Tape", "becomes", "(II)V"⟩, prog_7_method_2_code, tp_becomes), (⟨"LostSheets", "item", "(IIJ)I"⟩, prog_1_method_31_code, k_item), (⟨"LostSheets$Tape", "asItem", "(J)J"⟩, prog_7_method_5_code, tp_asItem), (⟨"LostSheets", "read", "(II)J"⟩, prog_1_method_32_code, k_read), (⟨"LostSheets", "shift", "(IIIII)I"⟩, prog_1_method_33_code, k_shift), (⟨"LostSheets$Tape", "hasRun", "(II)Z"⟩, prog_7_method_4_code, tp_hasRun), (⟨"LostSheetsModel", "<init>", "()V"⟩, prog_11_method_1_code, m_init), (⟨"LostSheetsModel", "drawer", "(III)I"⟩, prog_11_method_5_code, m_drawer), (⟨"LostSheetsModel", "within", "(III)Z"⟩, prog_11_method_2_code, m_within), (⟨"LostSheetsModel", "isCell", "(I)Z"⟩, prog_11_method_4_code, m_isCell), (⟨"LostSheetsModel", "of", "(II)I"⟩, prog_11_method_6_code, m_of), (⟨"LostSheetsModel", "isOne", "(I)Z"⟩, prog_11_method_3_code, m_isOne), (⟨"LostSheetsModel", "feel", "(I)I"⟩, prog_11_method_30_code, m_feel), (⟨"LostSheetsModel", "sum", "(I)I"⟩, prog_11_method_27_code, m_sum), (⟨"LostSheetsModel", "isTrue", "(II)Z"⟩, prog_11_method_26_code, m_isTrue), (⟨"LostSheetsModel", "letterOf", "(II)I"⟩, prog_11_method_25_code, m_letterOf), (⟨"LostSheetsModel", "others", "(I)I"⟩, prog_11_method_29_code, m_others), (⟨"LostSheetsModel", "wayOf", "(I)I"⟩, prog_11_method_31_code, m_wayOf), (⟨"LostSheetsModel", "came", "(IZ)I"⟩, prog_11_method_41_code, m_came), (⟨"LostSheetsModel", "step", "(II)I"⟩, prog_11_method_32_code, m_step), (⟨"LostSheetsModel", "look", "(I)I"⟩, prog_11_method_42_code, m_look), (⟨"LostSheetsModel", "places", "(I)I"⟩, prog_11_method_50_code, m_places), (⟨"LostSheetsModel", "isSeen", "()Z"⟩, prog_11_method_48_code, m_isSeen), (⟨"LostSheetsModel", "keep", "([I)V"⟩, prog_11_method_61_code, m_keep), (⟨"LostSheetsModel", "goesHour", "()V"⟩, prog_11_method_34_code, m_goesHour), (⟨"LostSheetsModel", "know", "()I"⟩, prog_11_method_28_code, m_know), (⟨"LostSheetsModel", "goesBy", "(III)V"⟩, prog_11_method_33_code, m_goesBy)]
def am_ms_5 : List (MethodName × (ByteArray × am_M)) := [(⟨"LostSheetsModel", "again", "([I)V"⟩, prog_11_method_62_code, m_again), (⟨"LostSheetsModel", "sheet", "(II)I"⟩, prog_11_method_7_code, m_sheet), (⟨"LostSheetsModel", "put", "(II)I"⟩, prog_11_method_8_code, m_put), (⟨"LostSheetsModel", "anew", "(I)I"⟩, prog_11_method_9_code, m_anew), (⟨"LostSheetsModel", "mark", "(II)I"⟩, prog_11_method_10_code, m_mark), (⟨"LostSheetsModel", "row", "(III)I"⟩, prog_11_method_11_code, m_row), (⟨"LostSheetsModel", "feed", "(I)I"⟩, prog_11_method_12_code, m_feed), (⟨"LostSheetsModel", "office", "()I"⟩, prog_11_method_24_code, m_office), (⟨"LostSheetsModel", "isClause", "(I)Z"⟩, prog_11_method_23_code, m_isClause), (⟨"LostSheetsModel", "isAll", "(Ljava/lang/String;)Z"⟩, prog_11_method_16_code, m_isAll), (⟨"LostSheetsModel", "is", "(I)Z"⟩, prog_11_method_13_code, m_is), (⟨"LostSheetsModel", "isNumber", "()Z"⟩, prog_11_method_15_code, m_isNumber), (⟨"LostSheetsModel", "isDigit", "()Z"⟩, prog_11_method_14_code, m_isDigit), (⟨"LostSheetsModel", "isE", "()Z"⟩, prog_11_method_22_code, m_isE), (⟨"LostSheetsModel", "isT", "()Z"⟩, prog_11_method_21_code, m_isT), (⟨"LostSheetsModel", "isF", "()Z"⟩, prog_11_method_20_code, m_isF), (⟨"LostSheetsModel", "isOpened", "(I)Z"⟩, prog_11_method_19_code, m_isOpened), (⟨"LostSheetsModel", "codes", "(I)Z"⟩, prog_11_method_17_code, m_codes), (⟨"LostSheetsModel", "isTest", "()Z"⟩, prog_11_method_18_code, m_isTest), (⟨"java/lang/String", "indexOf", "(I)I"⟩, prog_15_method_79_code, js_indexOf), (⟨"java/lang/String", "indexOf", "(II)I"⟩, prog_15_method_80_code, js_indexOf2), (⟨"java/lang/StringLatin1", "indexOf", "([BIII)I"⟩, prog_16_method_22_code, jl_indexOf), (⟨"java/lang/StringLatin1", "canEncode", "(I)Z"⟩, prog_16_method_4_code, jl_canEncode), (⟨"java/lang/StringLatin1", "indexOfChar", "([BIII)I"⟩, prog_16_method_23_code, jl_indexOfChar), (⟨"java/lang/String", "checkBoundsBeginEnd", "(III)V"⟩, prog_15_method_158_code, js_checkBoundsBeginEnd), (⟨"jdk/internal/util/Preconditions", "checkFromToIndex", "(IIILjava/util/function/BiFunction;)I"⟩, prog_19_method_12_code, jp_checkFromToIndex), (⟨"LostSheetsModel", "told", "(I)I"⟩, prog_11_method_38_code, m_told), (⟨"LostSheetsModel", "marksOf", "(I)I"⟩, prog_11_method_49_code, m_marksOf), (⟨"LostSheetsModel", "allDone", "()I"⟩, prog_11_method_36_code, m_allDone), (⟨"LostSheetsModel", "whole", "()I"⟩, prog_11_method_37_code, m_whole), (⟨"LostSheetsModel", "pass", "(I)I"⟩, prog_11_method_39_code, m_pass), (⟨"LostSheetsModel", "on", "(II)I"⟩, prog_11_method_40_code, m_on)]
def am_ms_6 : List (MethodName × (ByteArray × am_M)) := [(⟨"LostSheetsModel", "goesOn", "(I)V"⟩, prog_11_method_35_code, m_goesOn), (⟨"LostSheetsModel", "best", "(II)I"⟩, prog_11_method_46_code, m_best), (⟨"LostSheetsModel", "crew", "(I)I"⟩, prog_11_method_45_code, m_crew), (⟨"LostSheetsModel", "drawnBehind", "(I)I"⟩, prog_11_method_43_code, m_drawnBehind), (⟨"LostSheetsModel", "landing", "(II)I"⟩, prog_11_method_44_code, m_landing), (⟨"LostSheetsModel", "see", "(III)I"⟩, prog_11_method_47_code, m_see), (⟨"LostSheetsModel", "can", "(II)I"⟩, prog_11_method_51_code, m_can), (⟨"LostSheetsModel", "odds", "(III)J"⟩, prog_11_method_53_code, m_odds), (⟨"LostSheetsModel", "part", "(JJI)J"⟩, prog_11_method_52_code, m_part), (⟨"java/lang/Math", "abs", "(J)J"⟩, prog_14_method_61_code, jm_abs), (⟨"LostSheetsModel", "mean", "(II)J"⟩, prog_11_method_55_code, m_mean), (⟨"LostSheetsModel", "allDrew", "()I"⟩, prog_11_method_54_code, m_allDrew), (⟨"LostSheetsModel", "plan", "(II)I"⟩, prog_11_method_56_code, m_plan), (⟨"LostSheetsModel", "ends", "(I)I"⟩, prog_11_method_57_code, m_ends), (⟨"LostSheetsModel", "book", "(II)I"⟩, prog_11_method_58_code, m_book), (⟨"LostSheetsModel", "looked", "()I"⟩, prog_11_method_59_code, m_looked), (⟨"LostSheetsModel", "judge", "(II)I"⟩, prog_11_method_60_code, m_judge), (⟨"LostSheetsModel", "image", "()I"⟩, prog_11_method_63_code, m_image), (⟨"LostSheetsModel", "undo", "()I"⟩, prog_11_method_64_code, m_undo), (⟨"LostSheetsModel", "act", "(III)I"⟩, prog_11_method_70_code, m_act), (⟨"LostSheetsModel", "weeps", "(III)I"⟩, prog_11_method_67_code, m_weeps), (⟨"LostSheetsModel", "ran", "(I)V"⟩, prog_11_method_65_code, m_ran), (⟨"LostSheetsModel", "above", "(I)I"⟩, prog_11_method_66_code, m_above), (⟨"LostSheetsModel", "draws", "(III)I"⟩, prog_11_method_68_code, m_draws), (⟨"LostSheetsModel", "tells", "(III)I"⟩, prog_11_method_69_code, m_tells), (⟨"LostSheetsModel", "trace", "(I)I"⟩, prog_11_method_71_code, m_trace), (⟨"LostSheetsModel", "taken", "(II)I"⟩, prog_11_method_72_code, m_taken), (⟨"LostSheetsModel", "count", "(I)I"⟩, prog_11_method_73_code, m_count), (⟨"LostSheetsModel", "tape", "(III)I"⟩, prog_11_method_75_code, m_tape), (⟨"LostSheetsModel", "isTape", "(I)Z"⟩, prog_11_method_74_code, m_isTape), (⟨"LostSheetsModel", "item", "(IIJ)I"⟩, prog_11_method_77_code, m_item), (⟨"LostSheetsModel", "kept", "(IJ)J"⟩, prog_11_method_76_code, m_kept)]
def am_ms_7 : List (MethodName × (ByteArray × am_M)) := [(⟨"LostSheetsModel", "read", "(II)J"⟩, prog_11_method_78_code, m_read), (⟨"LostSheetsModel", "shift", "(IIIII)I"⟩, prog_11_method_79_code, m_shift)]
def am_ms : List (MethodName × (ByteArray × am_M)) := am_ms_0 ++ (am_ms_1 ++ (am_ms_2 ++ (am_ms_3 ++ (am_ms_4 ++ (am_ms_5 ++ (am_ms_6 ++ (am_ms_7)))))))
end
section
def am_il : Instr → Nat → Bool := fun i n => match i with
  | .iconst _ => n == 1
  | .lconst _ => n == 1
  | .aconst_null => n == 1
  | .iload_n _ => n == 1
  | .lload_n _ => n == 1
  | .aload_n _ => n == 1
  | .istore_n _ => n == 1
  | .astore_n _ => n == 1
  | .lstore_n _ => n == 1
  | .iadd => n == 1
  | .isub => n == 1
  | .imul => n == 1
  | .iand => n == 1
  | .ior => n == 1
  | .ixor => n == 1
  | .ishl => n == 1
  | .ishr => n == 1
  | .iushr => n == 1
  | .idiv => n == 1
  | .irem => n == 1
  | .ineg => n == 1
  | .ladd => n == 1
  | .land => n == 1
  | .lor => n == 1
  | .ldiv => n == 1
  | .lrem => n == 1
  | .lcmp => n == 1
  | .lneg => n == 1
  | .lshl => n == 1
  | .i2l => n == 1
  | .l2i => n == 1
  | .i2b => n == 1
  | .i2s => n == 1
  | .i2c => n == 1
  | .dup => n == 1
  | .dup_x1 => n == 1
  | .dup2 => n == 1
  | .pop => n == 1
  | .iaload => n == 1
  | .baload => n == 1
  | .laload => n == 1
  | .aaload => n == 1
  | .arraylength => n == 1
  | .iastore => n == 1
  | .bastore => n == 1
  | .lastore => n == 1
  | .aastore => n == 1
  | .ireturn => n == 1
  | .lreturn => n == 1
  | .areturn => n == 1
  | .return_ => n == 1
  | .bipush _ => n == 2
  | .ldc _ => n == 2
  | .iload _ => n == 2
  | .lload _ => n == 2
  | .aload _ => n == 2
  | .istore _ => n == 2
  | .astore _ => n == 2
  | .lstore _ => n == 2
  | .newarray _ => n == 2
  | .sipush _ => n == 3
  | .ldc_w _ => n == 3
  | .ldc2_w _ => n == 3
  | .iinc _ _ => n == 3
  | .goto _ => n == 3
  | .ifCond _ _ => n == 3
  | .if_icmp _ _ => n == 3
  | .ifnull _ => n == 3
  | .ifnonnull _ => n == 3
  | .getfield _ => n == 3
  | .putfield _ => n == 3
  | .getstatic _ => n == 3
  | .anewarray _ => n == 3
  | .new _ => n == 3
  | .invokevirtual _ => n == 3
  | .invokestatic _ => n == 3
  | .invokespecial _ => n == 3
  | _ => true
theorem dk_k_init_0 : (k_init_c0.all fun q => decide (decode prog_1_method_1_code q.1 = .ok q.2) && am_il q.2.1 q.2.2) = true := by decide +kernel
theorem dk_k_init_1 : (k_init_c1.all fun q => decide (decode prog_1_method_1_code q.1 = .ok q.2) && am_il q.2.1 q.2.2) = true := by decide +kernel
theorem dk_la_init_0 : (la_init_c0.all fun q => decide (decode prog_4_method_1_code q.1 = .ok q.2) && am_il q.2.1 q.2.2) = true := by decide +kernel
theorem dk_la_init_1 : (la_init_c1.all fun q => decide (decode prog_4_method_1_code q.1 = .ok q.2) && am_il q.2.1 q.2.2) = true := by decide +kernel
theorem dk_dr_init_0 : (dr_init_c0.all fun q => decide (decode prog_3_method_1_code q.1 = .ok q.2) && am_il q.2.1 q.2.2) = true := by decide +kernel
theorem dk_bh_init_0 : (bh_init_c0.all fun q => decide (decode prog_2_method_1_code q.1 = .ok q.2) && am_il q.2.1 q.2.2) = true := by decide +kernel
theorem dk_ro_init_0 : (ro_init_c0.all fun q => decide (decode prog_6_method_1_code q.1 = .ok q.2) && am_il q.2.1 q.2.2) = true := by decide +kernel
theorem dk_jm_max_0 : (jm_max_c0.all fun q => decide (decode prog_14_method_65_code q.1 = .ok q.2) && am_il q.2.1 q.2.2) = true := by decide +kernel
theorem dk_tx_init_0 : (tx_init_c0.all fun q => decide (decode prog_8_method_1_code q.1 = .ok q.2) && am_il q.2.1 q.2.2) = true := by decide +kernel
theorem dk_tr_init_0 : (tr_init_c0.all fun q => decide (decode prog_9_method_1_code q.1 = .ok q.2) && am_il q.2.1 q.2.2) = true := by decide +kernel
theorem dk_of_init_0 : (of_init_c0.all fun q => decide (decode prog_5_method_1_code q.1 = .ok q.2) && am_il q.2.1 q.2.2) = true := by decide +kernel
theorem dk_tp_init_0 : (tp_init_c0.all fun q => decide (decode prog_7_method_1_code q.1 = .ok q.2) && am_il q.2.1 q.2.2) = true := by decide +kernel
theorem dk_k_drawer_0 : (k_drawer_c0.all fun q => decide (decode prog_1_method_2_code q.1 = .ok q.2) && am_il q.2.1 q.2.2) = true := by decide +kernel
theorem dk_k_isCell_0 : (k_isCell_c0.all fun q => decide (decode prog_1_method_34_code q.1 = .ok q.2) && am_il q.2.1 q.2.2) = true := by decide +kernel
theorem dk_k_isDigit_0 : (k_isDigit_c0.all fun q => decide (decode prog_1_method_36_code q.1 = .ok q.2) && am_il q.2.1 q.2.2) = true := by decide +kernel
theorem dk_la_addDrawer_0 : (la_addDrawer_c0.all fun q => decide (decode prog_4_method_4_code q.1 = .ok q.2) && am_il q.2.1 q.2.2) = true := by decide +kernel
theorem dk_dr_begins_0 : (dr_begins_c0.all fun q => decide (decode prog_3_method_2_code q.1 = .ok q.2) && am_il q.2.1 q.2.2) = true := by decide +kernel
theorem dk_k_of_0 : (k_of_c0.all fun q => decide (decode prog_1_method_3_code q.1 = .ok q.2) && am_il q.2.1 q.2.2) = true := by decide +kernel
theorem dk_k_of_1 : (k_of_c1.all fun q => decide (decode prog_1_method_3_code q.1 = .ok q.2) && am_il q.2.1 q.2.2) = true := by decide +kernel
theorem dk_la_drawerAt_0 : (la_drawerAt_c0.all fun q => decide (decode prog_4_method_3_code q.1 = .ok q.2) && am_il q.2.1 q.2.2) = true := by decide +kernel
theorem dk_la_feelOf_0 : (la_feelOf_c0.all fun q => decide (decode prog_4_method_19_code q.1 = .ok q.2) && am_il q.2.1 q.2.2) = true := by decide +kernel
theorem dk_la_feelOf_1 : (la_feelOf_c1.all fun q => decide (decode prog_4_method_19_code q.1 = .ok q.2) && am_il q.2.1 q.2.2) = true := by decide +kernel
theorem dk_la_answersOf_0 : (la_answersOf_c0.all fun q => decide (decode prog_4_method_17_code q.1 = .ok q.2) && am_il q.2.1 q.2.2) = true := by decide +kernel
theorem dk_la_markAt_0 : (la_markAt_c0.all fun q => decide (decode prog_4_method_5_code q.1 = .ok q.2) && am_il q.2.1 q.2.2) = true := by decide +kernel
theorem dk_of_turnsBy_0 : (of_turnsBy_c0.all fun q => decide (decode prog_5_method_4_code q.1 = .ok q.2) && am_il q.2.1 q.2.2) = true := by decide +kernel
theorem dk_of_turnsBy_1 : (of_turnsBy_c1.all fun q => decide (decode prog_5_method_4_code q.1 = .ok q.2) && am_il q.2.1 q.2.2) = true := by decide +kernel
theorem dk_of_holds_0 : (of_holds_c0.all fun q => decide (decode prog_5_method_5_code q.1 = .ok q.2) && am_il q.2.1 q.2.2) = true := by decide +kernel
theorem dk_la_othersWith_0 : (la_othersWith_c0.all fun q => decide (decode prog_4_method_18_code q.1 = .ok q.2) && am_il q.2.1 q.2.2) = true := by decide +kernel
theorem dk_jm_floorMod_0 : (jm_floorMod_c0.all fun q => decide (decode prog_14_method_50_code q.1 = .ok q.2) && am_il q.2.1 q.2.2) = true := by decide +kernel
theorem dk_la_wayOf_0 : (la_wayOf_c0.all fun q => decide (decode prog_4_method_20_code q.1 = .ok q.2) && am_il q.2.1 q.2.2) = true := by decide +kernel
theorem dk_la_cameOf_0 : (la_cameOf_c0.all fun q => decide (decode prog_4_method_27_code q.1 = .ok q.2) && am_il q.2.1 q.2.2) = true := by decide +kernel
theorem dk_la_endBySheet_0 : (la_endBySheet_c0.all fun q => decide (decode prog_4_method_26_code q.1 = .ok q.2) && am_il q.2.1 q.2.2) = true := by decide +kernel
theorem dk_la_stepFrom_0 : (la_stepFrom_c0.all fun q => decide (decode prog_4_method_25_code q.1 = .ok q.2) && am_il q.2.1 q.2.2) = true := by decide +kernel
theorem dk_la_hereOf_0 : (la_hereOf_c0.all fun q => decide (decode prog_4_method_28_code q.1 = .ok q.2) && am_il q.2.1 q.2.2) = true := by decide +kernel
theorem dk_la_lookOf_0 : (la_lookOf_c0.all fun q => decide (decode prog_4_method_29_code q.1 = .ok q.2) && am_il q.2.1 q.2.2) = true := by decide +kernel
theorem dk_la_mostAtOneMark_0 : (la_mostAtOneMark_c0.all fun q => decide (decode prog_4_method_30_code q.1 = .ok q.2) && am_il q.2.1 q.2.2) = true := by decide +kernel
theorem dk_k_isMark_0 : (k_isMark_c0.all fun q => decide (decode prog_1_method_35_code q.1 = .ok q.2) && am_il q.2.1 q.2.2) = true := by decide +kernel
theorem dk_k_placesOf_0 : (k_placesOf_c0.all fun q => decide (decode prog_1_method_47_code q.1 = .ok q.2) && am_il q.2.1 q.2.2) = true := by decide +kernel
theorem dk_k_tryAt_0 : (k_tryAt_c0.all fun q => decide (decode prog_1_method_42_code q.1 = .ok q.2) && am_il q.2.1 q.2.2) = true := by decide +kernel
theorem dk_la_copyFrom_0 : (la_copyFrom_c0.all fun q => decide (decode prog_4_method_2_code q.1 = .ok q.2) && am_il q.2.1 q.2.2) = true := by decide +kernel
theorem dk_dr_copyFrom_0 : (dr_copyFrom_c0.all fun q => decide (decode prog_3_method_3_code q.1 = .ok q.2) && am_il q.2.1 q.2.2) = true := by decide +kernel
theorem dk_la_putAt_0 : (la_putAt_c0.all fun q => decide (decode prog_4_method_8_code q.1 = .ok q.2) && am_il q.2.1 q.2.2) = true := by decide +kernel
theorem dk_k_seenIsSo_0 : (k_seenIsSo_c0.all fun q => decide (decode prog_1_method_50_code q.1 = .ok q.2) && am_il q.2.1 q.2.2) = true := by decide +kernel
theorem dk_bh_lastHourSeen_0 : (bh_lastHourSeen_c0.all fun q => decide (decode prog_2_method_3_code q.1 = .ok q.2) && am_il q.2.1 q.2.2) = true := by decide +kernel
theorem dk_k_seenIsSoIn_0 : (k_seenIsSoIn_c0.all fun q => decide (decode prog_1_method_51_code q.1 = .ok q.2) && am_il q.2.1 q.2.2) = true := by decide +kernel
theorem dk_la_whereIs_0 : (la_whereIs_c0.all fun q => decide (decode prog_4_method_7_code q.1 = .ok q.2) && am_il q.2.1 q.2.2) = true := by decide +kernel
theorem dk_la_hoursGo_0 : (la_hoursGo_c0.all fun q => decide (decode prog_4_method_23_code q.1 = .ok q.2) && am_il q.2.1 q.2.2) = true := by decide +kernel
theorem dk_la_anyGoes_0 : (la_anyGoes_c0.all fun q => decide (decode prog_4_method_24_code q.1 = .ok q.2) && am_il q.2.1 q.2.2) = true := by decide +kernel
theorem dk_dr_goes_0 : (dr_goes_c0.all fun q => decide (decode prog_3_method_4_code q.1 = .ok q.2) && am_il q.2.1 q.2.2) = true := by decide +kernel
theorem dk_la_hourGoes_0 : (la_hourGoes_c0.all fun q => decide (decode prog_4_method_21_code q.1 = .ok q.2) && am_il q.2.1 q.2.2) = true := by decide +kernel
theorem dk_la_hourGoes_1 : (la_hourGoes_c1.all fun q => decide (decode prog_4_method_21_code q.1 = .ok q.2) && am_il q.2.1 q.2.2) = true := by decide +kernel
theorem dk_la_know_0 : (la_know_c0.all fun q => decide (decode prog_4_method_16_code q.1 = .ok q.2) && am_il q.2.1 q.2.2) = true := by decide +kernel
theorem dk_la_stepsAndDraws_0 : (la_stepsAndDraws_c0.all fun q => decide (decode prog_4_method_22_code q.1 = .ok q.2) && am_il q.2.1 q.2.2) = true := by decide +kernel
theorem dk_dr_writes_0 : (dr_writes_c0.all fun q => decide (decode prog_3_method_5_code q.1 = .ok q.2) && am_il q.2.1 q.2.2) = true := by decide +kernel
theorem dk_dr_rowsWith_0 : (dr_rowsWith_c0.all fun q => decide (decode prog_3_method_6_code q.1 = .ok q.2) && am_il q.2.1 q.2.2) = true := by decide +kernel
theorem dk_k_sheet_0 : (k_sheet_c0.all fun q => decide (decode prog_1_method_4_code q.1 = .ok q.2) && am_il q.2.1 q.2.2) = true := by decide +kernel
theorem dk_k_put_0 : (k_put_c0.all fun q => decide (decode prog_1_method_5_code q.1 = .ok q.2) && am_il q.2.1 q.2.2) = true := by decide +kernel
theorem dk_k_anew_0 : (k_anew_c0.all fun q => decide (decode prog_1_method_6_code q.1 = .ok q.2) && am_il q.2.1 q.2.2) = true := by decide +kernel
theorem dk_k_mark_0 : (k_mark_c0.all fun q => decide (decode prog_1_method_7_code q.1 = .ok q.2) && am_il q.2.1 q.2.2) = true := by decide +kernel
theorem dk_la_setMark_0 : (la_setMark_c0.all fun q => decide (decode prog_4_method_6_code q.1 = .ok q.2) && am_il q.2.1 q.2.2) = true := by decide +kernel
theorem dk_k_row_0 : (k_row_c0.all fun q => decide (decode prog_1_method_8_code q.1 = .ok q.2) && am_il q.2.1 q.2.2) = true := by decide +kernel
theorem dk_k_feed_0 : (k_feed_c0.all fun q => decide (decode prog_1_method_9_code q.1 = .ok q.2) && am_il q.2.1 q.2.2) = true := by decide +kernel
theorem dk_tx_append_0 : (tx_append_c0.all fun q => decide (decode prog_8_method_2_code q.1 = .ok q.2) && am_il q.2.1 q.2.2) = true := by decide +kernel
theorem dk_k_office_0 : (k_office_c0.all fun q => decide (decode prog_1_method_10_code q.1 = .ok q.2) && am_il q.2.1 q.2.2) = true := by decide +kernel
theorem dk_tx_readInto_0 : (tx_readInto_c0.all fun q => decide (decode prog_8_method_3_code q.1 = .ok q.2) && am_il q.2.1 q.2.2) = true := by decide +kernel
theorem dk_of_clear_0 : (of_clear_c0.all fun q => decide (decode prog_5_method_2_code q.1 = .ok q.2) && am_il q.2.1 q.2.2) = true := by decide +kernel
theorem dk_tx_clause_0 : (tx_clause_c0.all fun q => decide (decode prog_8_method_8_code q.1 = .ok q.2) && am_il q.2.1 q.2.2) = true := by decide +kernel
theorem dk_tx_ahead_0 : (tx_ahead_c0.all fun q => decide (decode prog_8_method_4_code q.1 = .ok q.2) && am_il q.2.1 q.2.2) = true := by decide +kernel
theorem dk_tx_takesAll_0 : (tx_takesAll_c0.all fun q => decide (decode prog_8_method_6_code q.1 = .ok q.2) && am_il q.2.1 q.2.2) = true := by decide +kernel
theorem dk_js_length_0 : (js_length_c0.all fun q => decide (decode prog_15_method_54_code q.1 = .ok q.2) && am_il q.2.1 q.2.2) = true := by decide +kernel
theorem dk_js_coder_0 : (js_coder_c0.all fun q => decide (decode prog_15_method_152_code q.1 = .ok q.2) && am_il q.2.1 q.2.2) = true := by decide +kernel
theorem dk_js_charAt_0 : (js_charAt_c0.all fun q => decide (decode prog_15_method_56_code q.1 = .ok q.2) && am_il q.2.1 q.2.2) = true := by decide +kernel
theorem dk_js_isLatin1_0 : (js_isLatin1_c0.all fun q => decide (decode prog_15_method_154_code q.1 = .ok q.2) && am_il q.2.1 q.2.2) = true := by decide +kernel
theorem dk_jl_charAt_0 : (jl_charAt_c0.all fun q => decide (decode prog_16_method_2_code q.1 = .ok q.2) && am_il q.2.1 q.2.2) = true := by decide +kernel
theorem dk_js_checkIndex_0 : (js_checkIndex_c0.all fun q => decide (decode prog_15_method_155_code q.1 = .ok q.2) && am_il q.2.1 q.2.2) = true := by decide +kernel
theorem dk_jp_checkIndex_0 : (jp_checkIndex_c0.all fun q => decide (decode prog_19_method_11_code q.1 = .ok q.2) && am_il q.2.1 q.2.2) = true := by decide +kernel
theorem dk_tx_takes_0 : (tx_takes_c0.all fun q => decide (decode prog_8_method_5_code q.1 = .ok q.2) && am_il q.2.1 q.2.2) = true := by decide +kernel
theorem dk_tx_oneOrTwoDigits_0 : (tx_oneOrTwoDigits_c0.all fun q => decide (decode prog_8_method_7_code q.1 = .ok q.2) && am_il q.2.1 q.2.2) = true := by decide +kernel
theorem dk_tx_anyOf_0 : (tx_anyOf_c0.all fun q => decide (decode prog_8_method_9_code q.1 = .ok q.2) && am_il q.2.1 q.2.2) = true := by decide +kernel
theorem dk_tx_allOf_0 : (tx_allOf_c0.all fun q => decide (decode prog_8_method_10_code q.1 = .ok q.2) && am_il q.2.1 q.2.2) = true := by decide +kernel
theorem dk_tx_one_0 : (tx_one_c0.all fun q => decide (decode prog_8_method_11_code q.1 = .ok q.2) && am_il q.2.1 q.2.2) = true := by decide +kernel
theorem dk_tx_test_0 : (tx_test_c0.all fun q => decide (decode prog_8_method_14_code q.1 = .ok q.2) && am_il q.2.1 q.2.2) = true := by decide +kernel
theorem dk_tx_placeIn_0 : (tx_placeIn_c0.all fun q => decide (decode prog_8_method_15_code q.1 = .ok q.2) && am_il q.2.1 q.2.2) = true := by decide +kernel
theorem dk_of_append_0 : (of_append_c0.all fun q => decide (decode prog_5_method_3_code q.1 = .ok q.2) && am_il q.2.1 q.2.2) = true := by decide +kernel
theorem dk_tx_not_0 : (tx_not_c0.all fun q => decide (decode prog_8_method_12_code q.1 = .ok q.2) && am_il q.2.1 q.2.2) = true := by decide +kernel
theorem dk_tx_inBrackets_0 : (tx_inBrackets_c0.all fun q => decide (decode prog_8_method_13_code q.1 = .ok q.2) && am_il q.2.1 q.2.2) = true := by decide +kernel
theorem dk_k_told_0 : (k_told_c0.all fun q => decide (decode prog_1_method_11_code q.1 = .ok q.2) && am_il q.2.1 q.2.2) = true := by decide +kernel
theorem dk_k_marksOf_0 : (k_marksOf_c0.all fun q => decide (decode prog_1_method_46_code q.1 = .ok q.2) && am_il q.2.1 q.2.2) = true := by decide +kernel
theorem dk_la_doneBits_0 : (la_doneBits_c0.all fun q => decide (decode prog_4_method_13_code q.1 = .ok q.2) && am_il q.2.1 q.2.2) = true := by decide +kernel
theorem dk_k_whole_0 : (k_whole_c0.all fun q => decide (decode prog_1_method_43_code q.1 = .ok q.2) && am_il q.2.1 q.2.2) = true := by decide +kernel
theorem dk_k_pass_0 : (k_pass_c0.all fun q => decide (decode prog_1_method_12_code q.1 = .ok q.2) && am_il q.2.1 q.2.2) = true := by decide +kernel
theorem dk_la_capDrew_0 : (la_capDrew_c0.all fun q => decide (decode prog_4_method_15_code q.1 = .ok q.2) && am_il q.2.1 q.2.2) = true := by decide +kernel
theorem dk_jm_min_0 : (jm_min_c0.all fun q => decide (decode prog_14_method_69_code q.1 = .ok q.2) && am_il q.2.1 q.2.2) = true := by decide +kernel
theorem dk_k_on_0 : (k_on_c0.all fun q => decide (decode prog_1_method_13_code q.1 = .ok q.2) && am_il q.2.1 q.2.2) = true := by decide +kernel
theorem dk_k_drawerBehindTen_0 : (k_drawerBehindTen_c0.all fun q => decide (decode prog_1_method_38_code q.1 = .ok q.2) && am_il q.2.1 q.2.2) = true := by decide +kernel
theorem dk_k_best_0 : (k_best_c0.all fun q => decide (decode prog_1_method_14_code q.1 = .ok q.2) && am_il q.2.1 q.2.2) = true := by decide +kernel
theorem dk_k_crew_0 : (k_crew_c0.all fun q => decide (decode prog_1_method_45_code q.1 = .ok q.2) && am_il q.2.1 q.2.2) = true := by decide +kernel
theorem dk_ji_bitCount_0 : (ji_bitCount_c0.all fun q => decide (decode prog_13_method_49_code q.1 = .ok q.2) && am_il q.2.1 q.2.2) = true := by decide +kernel
theorem dk_la_othersAreDone_0 : (la_othersAreDone_c0.all fun q => decide (decode prog_4_method_12_code q.1 = .ok q.2) && am_il q.2.1 q.2.2) = true := by decide +kernel
theorem dk_k_landing_0 : (k_landing_c0.all fun q => decide (decode prog_1_method_44_code q.1 = .ok q.2) && am_il q.2.1 q.2.2) = true := by decide +kernel
theorem dk_k_see_0 : (k_see_c0.all fun q => decide (decode prog_1_method_15_code q.1 = .ok q.2) && am_il q.2.1 q.2.2) = true := by decide +kernel
theorem dk_ro_clear_0 : (ro_clear_c0.all fun q => decide (decode prog_6_method_2_code q.1 = .ok q.2) && am_il q.2.1 q.2.2) = true := by decide +kernel
theorem dk_ro_append_0 : (ro_append_c0.all fun q => decide (decode prog_6_method_3_code q.1 = .ok q.2) && am_il q.2.1 q.2.2) = true := by decide +kernel
theorem dk_k_can_0 : (k_can_c0.all fun q => decide (decode prog_1_method_16_code q.1 = .ok q.2) && am_il q.2.1 q.2.2) = true := by decide +kernel
theorem dk_k_possibleNumbers_0 : (k_possibleNumbers_c0.all fun q => decide (decode prog_1_method_48_code q.1 = .ok q.2) && am_il q.2.1 q.2.2) = true := by decide +kernel
theorem dk_la_setNumber_0 : (la_setNumber_c0.all fun q => decide (decode prog_4_method_9_code q.1 = .ok q.2) && am_il q.2.1 q.2.2) = true := by decide +kernel
theorem dk_k_leastOf_0 : (k_leastOf_c0.all fun q => decide (decode prog_1_method_49_code q.1 = .ok q.2) && am_il q.2.1 q.2.2) = true := by decide +kernel
theorem dk_k_odds_0 : (k_odds_c0.all fun q => decide (decode prog_1_method_17_code q.1 = .ok q.2) && am_il q.2.1 q.2.2) = true := by decide +kernel
theorem dk_k_partOfFraction_0 : (k_partOfFraction_c0.all fun q => decide (decode prog_1_method_53_code q.1 = .ok q.2) && am_il q.2.1 q.2.2) = true := by decide +kernel
theorem dk_k_greatestDivisor_0 : (k_greatestDivisor_c0.all fun q => decide (decode prog_1_method_54_code q.1 = .ok q.2) && am_il q.2.1 q.2.2) = true := by decide +kernel
theorem dk_k_mean_0 : (k_mean_c0.all fun q => decide (decode prog_1_method_18_code q.1 = .ok q.2) && am_il q.2.1 q.2.2) = true := by decide +kernel
theorem dk_la_drewOfAll_0 : (la_drewOfAll_c0.all fun q => decide (decode prog_4_method_14_code q.1 = .ok q.2) && am_il q.2.1 q.2.2) = true := by decide +kernel
theorem dk_k_plan_0 : (k_plan_c0.all fun q => decide (decode prog_1_method_19_code q.1 = .ok q.2) && am_il q.2.1 q.2.2) = true := by decide +kernel
theorem dk_k_isPlanRow_0 : (k_isPlanRow_c0.all fun q => decide (decode prog_1_method_37_code q.1 = .ok q.2) && am_il q.2.1 q.2.2) = true := by decide +kernel
theorem dk_k_ends_0 : (k_ends_c0.all fun q => decide (decode prog_1_method_20_code q.1 = .ok q.2) && am_il q.2.1 q.2.2) = true := by decide +kernel
theorem dk_k_tryPlan_0 : (k_tryPlan_c0.all fun q => decide (decode prog_1_method_52_code q.1 = .ok q.2) && am_il q.2.1 q.2.2) = true := by decide +kernel
theorem dk_la_emptySheet_0 : (la_emptySheet_c0.all fun q => decide (decode prog_4_method_10_code q.1 = .ok q.2) && am_il q.2.1 q.2.2) = true := by decide +kernel
theorem dk_la_notDone_0 : (la_notDone_c0.all fun q => decide (decode prog_4_method_11_code q.1 = .ok q.2) && am_il q.2.1 q.2.2) = true := by decide +kernel
theorem dk_k_book_0 : (k_book_c0.all fun q => decide (decode prog_1_method_21_code q.1 = .ok q.2) && am_il q.2.1 q.2.2) = true := by decide +kernel
theorem dk_k_looked_0 : (k_looked_c0.all fun q => decide (decode prog_1_method_22_code q.1 = .ok q.2) && am_il q.2.1 q.2.2) = true := by decide +kernel
theorem dk_k_judge_0 : (k_judge_c0.all fun q => decide (decode prog_1_method_23_code q.1 = .ok q.2) && am_il q.2.1 q.2.2) = true := by decide +kernel
theorem dk_k_tapeAt_0 : (k_tapeAt_c0.all fun q => decide (decode prog_1_method_39_code q.1 = .ok q.2) && am_il q.2.1 q.2.2) = true := by decide +kernel
theorem dk_tp_has_0 : (tp_has_c0.all fun q => decide (decode prog_7_method_3_code q.1 = .ok q.2) && am_il q.2.1 q.2.2) = true := by decide +kernel
theorem dk_k_image_0 : (k_image_c0.all fun q => decide (decode prog_1_method_24_code q.1 = .ok q.2) && am_il q.2.1 q.2.2) = true := by decide +kernel
theorem dk_bh_copyFrom_0 : (bh_copyFrom_c0.all fun q => decide (decode prog_2_method_2_code q.1 = .ok q.2) && am_il q.2.1 q.2.2) = true := by decide +kernel
theorem dk_ro_copyFrom_0 : (ro_copyFrom_c0.all fun q => decide (decode prog_6_method_4_code q.1 = .ok q.2) && am_il q.2.1 q.2.2) = true := by decide +kernel
theorem dk_k_undo_0 : (k_undo_c0.all fun q => decide (decode prog_1_method_25_code q.1 = .ok q.2) && am_il q.2.1 q.2.2) = true := by decide +kernel
theorem dk_k_act_0 : (k_act_c0.all fun q => decide (decode prog_1_method_26_code q.1 = .ok q.2) && am_il q.2.1 q.2.2) = true := by decide +kernel
theorem dk_tr_ofAct_0 : (tr_ofAct_c0.all fun q => decide (decode prog_9_method_4_code q.1 = .ok q.2) && am_il q.2.1 q.2.2) = true := by decide +kernel
theorem dk_tr_run_0 : (tr_run_c0.all fun q => decide (decode prog_9_method_5_code q.1 = .ok q.2) && am_il q.2.1 q.2.2) = true := by decide +kernel
theorem dk_tr_bodyOf_0 : (tr_bodyOf_c0.all fun q => decide (decode prog_9_method_2_code q.1 = .ok q.2) && am_il q.2.1 q.2.2) = true := by decide +kernel
theorem dk_k_aboveOf_0 : (k_aboveOf_c0.all fun q => decide (decode prog_1_method_40_code q.1 = .ok q.2) && am_il q.2.1 q.2.2) = true := by decide +kernel
theorem dk_tr_begins_0 : (tr_begins_c0.all fun q => decide (decode prog_9_method_3_code q.1 = .ok q.2) && am_il q.2.1 q.2.2) = true := by decide +kernel
theorem dk_tr_does_0 : (tr_does_c0.all fun q => decide (decode prog_9_method_6_code q.1 = .ok q.2) && am_il q.2.1 q.2.2) = true := by decide +kernel
theorem dk_tr_does_1 : (tr_does_c1.all fun q => decide (decode prog_9_method_6_code q.1 = .ok q.2) && am_il q.2.1 q.2.2) = true := by decide +kernel
theorem dk_tr_does_2 : (tr_does_c2.all fun q => decide (decode prog_9_method_6_code q.1 = .ok q.2) && am_il q.2.1 q.2.2) = true := by decide +kernel
theorem dk_k_trace_0 : (k_trace_c0.all fun q => decide (decode prog_1_method_27_code q.1 = .ok q.2) && am_il q.2.1 q.2.2) = true := by decide +kernel
theorem dk_k_taken_0 : (k_taken_c0.all fun q => decide (decode prog_1_method_28_code q.1 = .ok q.2) && am_il q.2.1 q.2.2) = true := by decide +kernel
theorem dk_k_isUnder_0 : (k_isUnder_c0.all fun q => decide (decode prog_1_method_41_code q.1 = .ok q.2) && am_il q.2.1 q.2.2) = true := by decide +kernel
theorem dk_k_count_0 : (k_count_c0.all fun q => decide (decode prog_1_method_29_code q.1 = .ok q.2) && am_il q.2.1 q.2.2) = true := by decide +kernel
theorem dk_k_tape_0 : (k_tape_c0.all fun q => decide (decode prog_1_method_30_code q.1 = .ok q.2) && am_il q.2.1 q.2.2) = true := by decide +kernel
theorem dk_tp_becomes_0 : (tp_becomes_c0.all fun q => decide (decode prog_7_method_2_code q.1 = .ok q.2) && am_il q.2.1 q.2.2) = true := by decide +kernel
theorem dk_k_item_0 : (k_item_c0.all fun q => decide (decode prog_1_method_31_code q.1 = .ok q.2) && am_il q.2.1 q.2.2) = true := by decide +kernel
theorem dk_tp_asItem_0 : (tp_asItem_c0.all fun q => decide (decode prog_7_method_5_code q.1 = .ok q.2) && am_il q.2.1 q.2.2) = true := by decide +kernel
theorem dk_k_read_0 : (k_read_c0.all fun q => decide (decode prog_1_method_32_code q.1 = .ok q.2) && am_il q.2.1 q.2.2) = true := by decide +kernel
theorem dk_k_shift_0 : (k_shift_c0.all fun q => decide (decode prog_1_method_33_code q.1 = .ok q.2) && am_il q.2.1 q.2.2) = true := by decide +kernel
theorem dk_tp_hasRun_0 : (tp_hasRun_c0.all fun q => decide (decode prog_7_method_4_code q.1 = .ok q.2) && am_il q.2.1 q.2.2) = true := by decide +kernel
theorem dk_m_init_0 : (m_init_c0.all fun q => decide (decode prog_11_method_1_code q.1 = .ok q.2) && am_il q.2.1 q.2.2) = true := by decide +kernel
theorem dk_m_init_1 : (m_init_c1.all fun q => decide (decode prog_11_method_1_code q.1 = .ok q.2) && am_il q.2.1 q.2.2) = true := by decide +kernel
theorem dk_m_init_2 : (m_init_c2.all fun q => decide (decode prog_11_method_1_code q.1 = .ok q.2) && am_il q.2.1 q.2.2) = true := by decide +kernel
theorem dk_m_drawer_0 : (m_drawer_c0.all fun q => decide (decode prog_11_method_5_code q.1 = .ok q.2) && am_il q.2.1 q.2.2) = true := by decide +kernel
theorem dk_m_drawer_1 : (m_drawer_c1.all fun q => decide (decode prog_11_method_5_code q.1 = .ok q.2) && am_il q.2.1 q.2.2) = true := by decide +kernel
theorem dk_m_within_0 : (m_within_c0.all fun q => decide (decode prog_11_method_2_code q.1 = .ok q.2) && am_il q.2.1 q.2.2) = true := by decide +kernel
theorem dk_m_isCell_0 : (m_isCell_c0.all fun q => decide (decode prog_11_method_4_code q.1 = .ok q.2) && am_il q.2.1 q.2.2) = true := by decide +kernel
theorem dk_m_of_0 : (m_of_c0.all fun q => decide (decode prog_11_method_6_code q.1 = .ok q.2) && am_il q.2.1 q.2.2) = true := by decide +kernel
theorem dk_m_of_1 : (m_of_c1.all fun q => decide (decode prog_11_method_6_code q.1 = .ok q.2) && am_il q.2.1 q.2.2) = true := by decide +kernel
theorem dk_m_isOne_0 : (m_isOne_c0.all fun q => decide (decode prog_11_method_3_code q.1 = .ok q.2) && am_il q.2.1 q.2.2) = true := by decide +kernel
theorem dk_m_feel_0 : (m_feel_c0.all fun q => decide (decode prog_11_method_30_code q.1 = .ok q.2) && am_il q.2.1 q.2.2) = true := by decide +kernel
theorem dk_m_feel_1 : (m_feel_c1.all fun q => decide (decode prog_11_method_30_code q.1 = .ok q.2) && am_il q.2.1 q.2.2) = true := by decide +kernel
theorem dk_m_sum_0 : (m_sum_c0.all fun q => decide (decode prog_11_method_27_code q.1 = .ok q.2) && am_il q.2.1 q.2.2) = true := by decide +kernel
theorem dk_m_sum_1 : (m_sum_c1.all fun q => decide (decode prog_11_method_27_code q.1 = .ok q.2) && am_il q.2.1 q.2.2) = true := by decide +kernel
theorem dk_m_isTrue_0 : (m_isTrue_c0.all fun q => decide (decode prog_11_method_26_code q.1 = .ok q.2) && am_il q.2.1 q.2.2) = true := by decide +kernel
theorem dk_m_isTrue_1 : (m_isTrue_c1.all fun q => decide (decode prog_11_method_26_code q.1 = .ok q.2) && am_il q.2.1 q.2.2) = true := by decide +kernel
theorem dk_m_isTrue_2 : (m_isTrue_c2.all fun q => decide (decode prog_11_method_26_code q.1 = .ok q.2) && am_il q.2.1 q.2.2) = true := by decide +kernel
theorem dk_m_letterOf_0 : (m_letterOf_c0.all fun q => decide (decode prog_11_method_25_code q.1 = .ok q.2) && am_il q.2.1 q.2.2) = true := by decide +kernel
theorem dk_m_others_0 : (m_others_c0.all fun q => decide (decode prog_11_method_29_code q.1 = .ok q.2) && am_il q.2.1 q.2.2) = true := by decide +kernel
theorem dk_m_wayOf_0 : (m_wayOf_c0.all fun q => decide (decode prog_11_method_31_code q.1 = .ok q.2) && am_il q.2.1 q.2.2) = true := by decide +kernel
theorem dk_m_came_0 : (m_came_c0.all fun q => decide (decode prog_11_method_41_code q.1 = .ok q.2) && am_il q.2.1 q.2.2) = true := by decide +kernel
theorem dk_m_came_1 : (m_came_c1.all fun q => decide (decode prog_11_method_41_code q.1 = .ok q.2) && am_il q.2.1 q.2.2) = true := by decide +kernel
theorem dk_m_step_0 : (m_step_c0.all fun q => decide (decode prog_11_method_32_code q.1 = .ok q.2) && am_il q.2.1 q.2.2) = true := by decide +kernel
theorem dk_m_look_0 : (m_look_c0.all fun q => decide (decode prog_11_method_42_code q.1 = .ok q.2) && am_il q.2.1 q.2.2) = true := by decide +kernel
theorem dk_m_look_1 : (m_look_c1.all fun q => decide (decode prog_11_method_42_code q.1 = .ok q.2) && am_il q.2.1 q.2.2) = true := by decide +kernel
theorem dk_m_places_0 : (m_places_c0.all fun q => decide (decode prog_11_method_50_code q.1 = .ok q.2) && am_il q.2.1 q.2.2) = true := by decide +kernel
theorem dk_m_isSeen_0 : (m_isSeen_c0.all fun q => decide (decode prog_11_method_48_code q.1 = .ok q.2) && am_il q.2.1 q.2.2) = true := by decide +kernel
theorem dk_m_keep_0 : (m_keep_c0.all fun q => decide (decode prog_11_method_61_code q.1 = .ok q.2) && am_il q.2.1 q.2.2) = true := by decide +kernel
theorem dk_m_keep_1 : (m_keep_c1.all fun q => decide (decode prog_11_method_61_code q.1 = .ok q.2) && am_il q.2.1 q.2.2) = true := by decide +kernel
theorem dk_m_keep_2 : (m_keep_c2.all fun q => decide (decode prog_11_method_61_code q.1 = .ok q.2) && am_il q.2.1 q.2.2) = true := by decide +kernel
theorem dk_m_keep_3 : (m_keep_c3.all fun q => decide (decode prog_11_method_61_code q.1 = .ok q.2) && am_il q.2.1 q.2.2) = true := by decide +kernel
theorem dk_m_goesHour_0 : (m_goesHour_c0.all fun q => decide (decode prog_11_method_34_code q.1 = .ok q.2) && am_il q.2.1 q.2.2) = true := by decide +kernel
theorem dk_m_goesHour_1 : (m_goesHour_c1.all fun q => decide (decode prog_11_method_34_code q.1 = .ok q.2) && am_il q.2.1 q.2.2) = true := by decide +kernel
theorem dk_m_know_0 : (m_know_c0.all fun q => decide (decode prog_11_method_28_code q.1 = .ok q.2) && am_il q.2.1 q.2.2) = true := by decide +kernel
theorem dk_m_goesBy_0 : (m_goesBy_c0.all fun q => decide (decode prog_11_method_33_code q.1 = .ok q.2) && am_il q.2.1 q.2.2) = true := by decide +kernel
theorem dk_m_goesBy_1 : (m_goesBy_c1.all fun q => decide (decode prog_11_method_33_code q.1 = .ok q.2) && am_il q.2.1 q.2.2) = true := by decide +kernel
theorem dk_m_again_0 : (m_again_c0.all fun q => decide (decode prog_11_method_62_code q.1 = .ok q.2) && am_il q.2.1 q.2.2) = true := by decide +kernel
theorem dk_m_again_1 : (m_again_c1.all fun q => decide (decode prog_11_method_62_code q.1 = .ok q.2) && am_il q.2.1 q.2.2) = true := by decide +kernel
theorem dk_m_again_2 : (m_again_c2.all fun q => decide (decode prog_11_method_62_code q.1 = .ok q.2) && am_il q.2.1 q.2.2) = true := by decide +kernel
theorem dk_m_again_3 : (m_again_c3.all fun q => decide (decode prog_11_method_62_code q.1 = .ok q.2) && am_il q.2.1 q.2.2) = true := by decide +kernel
theorem dk_m_sheet_0 : (m_sheet_c0.all fun q => decide (decode prog_11_method_7_code q.1 = .ok q.2) && am_il q.2.1 q.2.2) = true := by decide +kernel
theorem dk_m_put_0 : (m_put_c0.all fun q => decide (decode prog_11_method_8_code q.1 = .ok q.2) && am_il q.2.1 q.2.2) = true := by decide +kernel
theorem dk_m_anew_0 : (m_anew_c0.all fun q => decide (decode prog_11_method_9_code q.1 = .ok q.2) && am_il q.2.1 q.2.2) = true := by decide +kernel
theorem dk_m_mark_0 : (m_mark_c0.all fun q => decide (decode prog_11_method_10_code q.1 = .ok q.2) && am_il q.2.1 q.2.2) = true := by decide +kernel
theorem dk_m_row_0 : (m_row_c0.all fun q => decide (decode prog_11_method_11_code q.1 = .ok q.2) && am_il q.2.1 q.2.2) = true := by decide +kernel
theorem dk_m_feed_0 : (m_feed_c0.all fun q => decide (decode prog_11_method_12_code q.1 = .ok q.2) && am_il q.2.1 q.2.2) = true := by decide +kernel
theorem dk_m_office_0 : (m_office_c0.all fun q => decide (decode prog_11_method_24_code q.1 = .ok q.2) && am_il q.2.1 q.2.2) = true := by decide +kernel
theorem dk_m_office_1 : (m_office_c1.all fun q => decide (decode prog_11_method_24_code q.1 = .ok q.2) && am_il q.2.1 q.2.2) = true := by decide +kernel
theorem dk_m_isClause_0 : (m_isClause_c0.all fun q => decide (decode prog_11_method_23_code q.1 = .ok q.2) && am_il q.2.1 q.2.2) = true := by decide +kernel
theorem dk_m_isClause_1 : (m_isClause_c1.all fun q => decide (decode prog_11_method_23_code q.1 = .ok q.2) && am_il q.2.1 q.2.2) = true := by decide +kernel
theorem dk_m_isAll_0 : (m_isAll_c0.all fun q => decide (decode prog_11_method_16_code q.1 = .ok q.2) && am_il q.2.1 q.2.2) = true := by decide +kernel
theorem dk_m_is_0 : (m_is_c0.all fun q => decide (decode prog_11_method_13_code q.1 = .ok q.2) && am_il q.2.1 q.2.2) = true := by decide +kernel
theorem dk_m_isNumber_0 : (m_isNumber_c0.all fun q => decide (decode prog_11_method_15_code q.1 = .ok q.2) && am_il q.2.1 q.2.2) = true := by decide +kernel
theorem dk_m_isDigit_0 : (m_isDigit_c0.all fun q => decide (decode prog_11_method_14_code q.1 = .ok q.2) && am_il q.2.1 q.2.2) = true := by decide +kernel
theorem dk_m_isE_0 : (m_isE_c0.all fun q => decide (decode prog_11_method_22_code q.1 = .ok q.2) && am_il q.2.1 q.2.2) = true := by decide +kernel
theorem dk_m_isT_0 : (m_isT_c0.all fun q => decide (decode prog_11_method_21_code q.1 = .ok q.2) && am_il q.2.1 q.2.2) = true := by decide +kernel
theorem dk_m_isF_0 : (m_isF_c0.all fun q => decide (decode prog_11_method_20_code q.1 = .ok q.2) && am_il q.2.1 q.2.2) = true := by decide +kernel
theorem dk_m_isOpened_0 : (m_isOpened_c0.all fun q => decide (decode prog_11_method_19_code q.1 = .ok q.2) && am_il q.2.1 q.2.2) = true := by decide +kernel
theorem dk_m_codes_0 : (m_codes_c0.all fun q => decide (decode prog_11_method_17_code q.1 = .ok q.2) && am_il q.2.1 q.2.2) = true := by decide +kernel
theorem dk_m_isTest_0 : (m_isTest_c0.all fun q => decide (decode prog_11_method_18_code q.1 = .ok q.2) && am_il q.2.1 q.2.2) = true := by decide +kernel
theorem dk_m_isTest_1 : (m_isTest_c1.all fun q => decide (decode prog_11_method_18_code q.1 = .ok q.2) && am_il q.2.1 q.2.2) = true := by decide +kernel
theorem dk_js_indexOf_0 : (js_indexOf_c0.all fun q => decide (decode prog_15_method_79_code q.1 = .ok q.2) && am_il q.2.1 q.2.2) = true := by decide +kernel
theorem dk_js_indexOf2_0 : (js_indexOf2_c0.all fun q => decide (decode prog_15_method_80_code q.1 = .ok q.2) && am_il q.2.1 q.2.2) = true := by decide +kernel
theorem dk_jl_indexOf_0 : (jl_indexOf_c0.all fun q => decide (decode prog_16_method_22_code q.1 = .ok q.2) && am_il q.2.1 q.2.2) = true := by decide +kernel
theorem dk_jl_canEncode_0 : (jl_canEncode_c0.all fun q => decide (decode prog_16_method_4_code q.1 = .ok q.2) && am_il q.2.1 q.2.2) = true := by decide +kernel
theorem dk_jl_indexOfChar_0 : (jl_indexOfChar_c0.all fun q => decide (decode prog_16_method_23_code q.1 = .ok q.2) && am_il q.2.1 q.2.2) = true := by decide +kernel
theorem dk_js_checkBoundsBeginEnd_0 : (js_checkBoundsBeginEnd_c0.all fun q => decide (decode prog_15_method_158_code q.1 = .ok q.2) && am_il q.2.1 q.2.2) = true := by decide +kernel
theorem dk_jp_checkFromToIndex_0 : (jp_checkFromToIndex_c0.all fun q => decide (decode prog_19_method_12_code q.1 = .ok q.2) && am_il q.2.1 q.2.2) = true := by decide +kernel
theorem dk_m_told_0 : (m_told_c0.all fun q => decide (decode prog_11_method_38_code q.1 = .ok q.2) && am_il q.2.1 q.2.2) = true := by decide +kernel
theorem dk_m_marksOf_0 : (m_marksOf_c0.all fun q => decide (decode prog_11_method_49_code q.1 = .ok q.2) && am_il q.2.1 q.2.2) = true := by decide +kernel
theorem dk_m_allDone_0 : (m_allDone_c0.all fun q => decide (decode prog_11_method_36_code q.1 = .ok q.2) && am_il q.2.1 q.2.2) = true := by decide +kernel
theorem dk_m_whole_0 : (m_whole_c0.all fun q => decide (decode prog_11_method_37_code q.1 = .ok q.2) && am_il q.2.1 q.2.2) = true := by decide +kernel
theorem dk_m_pass_0 : (m_pass_c0.all fun q => decide (decode prog_11_method_39_code q.1 = .ok q.2) && am_il q.2.1 q.2.2) = true := by decide +kernel
theorem dk_m_on_0 : (m_on_c0.all fun q => decide (decode prog_11_method_40_code q.1 = .ok q.2) && am_il q.2.1 q.2.2) = true := by decide +kernel
theorem dk_m_goesOn_0 : (m_goesOn_c0.all fun q => decide (decode prog_11_method_35_code q.1 = .ok q.2) && am_il q.2.1 q.2.2) = true := by decide +kernel
theorem dk_m_best_0 : (m_best_c0.all fun q => decide (decode prog_11_method_46_code q.1 = .ok q.2) && am_il q.2.1 q.2.2) = true := by decide +kernel
theorem dk_m_crew_0 : (m_crew_c0.all fun q => decide (decode prog_11_method_45_code q.1 = .ok q.2) && am_il q.2.1 q.2.2) = true := by decide +kernel
theorem dk_m_crew_1 : (m_crew_c1.all fun q => decide (decode prog_11_method_45_code q.1 = .ok q.2) && am_il q.2.1 q.2.2) = true := by decide +kernel
theorem dk_m_drawnBehind_0 : (m_drawnBehind_c0.all fun q => decide (decode prog_11_method_43_code q.1 = .ok q.2) && am_il q.2.1 q.2.2) = true := by decide +kernel
theorem dk_m_landing_0 : (m_landing_c0.all fun q => decide (decode prog_11_method_44_code q.1 = .ok q.2) && am_il q.2.1 q.2.2) = true := by decide +kernel
theorem dk_m_see_0 : (m_see_c0.all fun q => decide (decode prog_11_method_47_code q.1 = .ok q.2) && am_il q.2.1 q.2.2) = true := by decide +kernel
theorem dk_m_can_0 : (m_can_c0.all fun q => decide (decode prog_11_method_51_code q.1 = .ok q.2) && am_il q.2.1 q.2.2) = true := by decide +kernel
theorem dk_m_odds_0 : (m_odds_c0.all fun q => decide (decode prog_11_method_53_code q.1 = .ok q.2) && am_il q.2.1 q.2.2) = true := by decide +kernel
theorem dk_m_odds_1 : (m_odds_c1.all fun q => decide (decode prog_11_method_53_code q.1 = .ok q.2) && am_il q.2.1 q.2.2) = true := by decide +kernel
theorem dk_m_part_0 : (m_part_c0.all fun q => decide (decode prog_11_method_52_code q.1 = .ok q.2) && am_il q.2.1 q.2.2) = true := by decide +kernel
theorem dk_jm_abs_0 : (jm_abs_c0.all fun q => decide (decode prog_14_method_61_code q.1 = .ok q.2) && am_il q.2.1 q.2.2) = true := by decide +kernel
theorem dk_m_mean_0 : (m_mean_c0.all fun q => decide (decode prog_11_method_55_code q.1 = .ok q.2) && am_il q.2.1 q.2.2) = true := by decide +kernel
theorem dk_m_allDrew_0 : (m_allDrew_c0.all fun q => decide (decode prog_11_method_54_code q.1 = .ok q.2) && am_il q.2.1 q.2.2) = true := by decide +kernel
theorem dk_m_plan_0 : (m_plan_c0.all fun q => decide (decode prog_11_method_56_code q.1 = .ok q.2) && am_il q.2.1 q.2.2) = true := by decide +kernel
theorem dk_m_ends_0 : (m_ends_c0.all fun q => decide (decode prog_11_method_57_code q.1 = .ok q.2) && am_il q.2.1 q.2.2) = true := by decide +kernel
theorem dk_m_ends_1 : (m_ends_c1.all fun q => decide (decode prog_11_method_57_code q.1 = .ok q.2) && am_il q.2.1 q.2.2) = true := by decide +kernel
theorem dk_m_book_0 : (m_book_c0.all fun q => decide (decode prog_11_method_58_code q.1 = .ok q.2) && am_il q.2.1 q.2.2) = true := by decide +kernel
theorem dk_m_looked_0 : (m_looked_c0.all fun q => decide (decode prog_11_method_59_code q.1 = .ok q.2) && am_il q.2.1 q.2.2) = true := by decide +kernel
theorem dk_m_judge_0 : (m_judge_c0.all fun q => decide (decode prog_11_method_60_code q.1 = .ok q.2) && am_il q.2.1 q.2.2) = true := by decide +kernel
theorem dk_m_judge_1 : (m_judge_c1.all fun q => decide (decode prog_11_method_60_code q.1 = .ok q.2) && am_il q.2.1 q.2.2) = true := by decide +kernel
theorem dk_m_image_0 : (m_image_c0.all fun q => decide (decode prog_11_method_63_code q.1 = .ok q.2) && am_il q.2.1 q.2.2) = true := by decide +kernel
theorem dk_m_undo_0 : (m_undo_c0.all fun q => decide (decode prog_11_method_64_code q.1 = .ok q.2) && am_il q.2.1 q.2.2) = true := by decide +kernel
theorem dk_m_act_0 : (m_act_c0.all fun q => decide (decode prog_11_method_70_code q.1 = .ok q.2) && am_il q.2.1 q.2.2) = true := by decide +kernel
theorem dk_m_weeps_0 : (m_weeps_c0.all fun q => decide (decode prog_11_method_67_code q.1 = .ok q.2) && am_il q.2.1 q.2.2) = true := by decide +kernel
theorem dk_m_ran_0 : (m_ran_c0.all fun q => decide (decode prog_11_method_65_code q.1 = .ok q.2) && am_il q.2.1 q.2.2) = true := by decide +kernel
theorem dk_m_above_0 : (m_above_c0.all fun q => decide (decode prog_11_method_66_code q.1 = .ok q.2) && am_il q.2.1 q.2.2) = true := by decide +kernel
theorem dk_m_draws_0 : (m_draws_c0.all fun q => decide (decode prog_11_method_68_code q.1 = .ok q.2) && am_il q.2.1 q.2.2) = true := by decide +kernel
theorem dk_m_draws_1 : (m_draws_c1.all fun q => decide (decode prog_11_method_68_code q.1 = .ok q.2) && am_il q.2.1 q.2.2) = true := by decide +kernel
theorem dk_m_tells_0 : (m_tells_c0.all fun q => decide (decode prog_11_method_69_code q.1 = .ok q.2) && am_il q.2.1 q.2.2) = true := by decide +kernel
theorem dk_m_trace_0 : (m_trace_c0.all fun q => decide (decode prog_11_method_71_code q.1 = .ok q.2) && am_il q.2.1 q.2.2) = true := by decide +kernel
theorem dk_m_taken_0 : (m_taken_c0.all fun q => decide (decode prog_11_method_72_code q.1 = .ok q.2) && am_il q.2.1 q.2.2) = true := by decide +kernel
theorem dk_m_count_0 : (m_count_c0.all fun q => decide (decode prog_11_method_73_code q.1 = .ok q.2) && am_il q.2.1 q.2.2) = true := by decide +kernel
theorem dk_m_tape_0 : (m_tape_c0.all fun q => decide (decode prog_11_method_75_code q.1 = .ok q.2) && am_il q.2.1 q.2.2) = true := by decide +kernel
theorem dk_m_isTape_0 : (m_isTape_c0.all fun q => decide (decode prog_11_method_74_code q.1 = .ok q.2) && am_il q.2.1 q.2.2) = true := by decide +kernel
theorem dk_m_item_0 : (m_item_c0.all fun q => decide (decode prog_11_method_77_code q.1 = .ok q.2) && am_il q.2.1 q.2.2) = true := by decide +kernel
theorem dk_m_kept_0 : (m_kept_c0.all fun q => decide (decode prog_11_method_76_code q.1 = .ok q.2) && am_il q.2.1 q.2.2) = true := by decide +kernel
theorem dk_m_read_0 : (m_read_c0.all fun q => decide (decode prog_11_method_78_code q.1 = .ok q.2) && am_il q.2.1 q.2.2) = true := by decide +kernel
theorem dk_m_shift_0 : (m_shift_c0.all fun q => decide (decode prog_11_method_79_code q.1 = .ok q.2) && am_il q.2.1 q.2.2) = true := by decide +kernel
theorem dk_m_shift_1 : (m_shift_c1.all fun q => decide (decode prog_11_method_79_code q.1 = .ok q.2) && am_il q.2.1 q.2.2) = true := by decide +kernel
theorem dk_m_shift_2 : (m_shift_c2.all fun q => decide (decode prog_11_method_79_code q.1 = .ok q.2) && am_il q.2.1 q.2.2) = true := by decide +kernel
theorem dk_L_law_0 : (L_law_c0.all fun q => decide (decode code q.1 = .ok q.2) && am_il q.2.1 q.2.2) = true := by decide +kernel
theorem dk_L_law_1 : (L_law_c1.all fun q => decide (decode code q.1 = .ok q.2) && am_il q.2.1 q.2.2) = true := by decide +kernel
theorem dk_L_law_2 : (L_law_c2.all fun q => decide (decode code q.1 = .ok q.2) && am_il q.2.1 q.2.2) = true := by decide +kernel
theorem dk_L_law_3 : (L_law_c3.all fun q => decide (decode code q.1 = .ok q.2) && am_il q.2.1 q.2.2) = true := by decide +kernel
theorem dk_L_law_4 : (L_law_c4.all fun q => decide (decode code q.1 = .ok q.2) && am_il q.2.1 q.2.2) = true := by decide +kernel
theorem dk_L_law_5 : (L_law_c5.all fun q => decide (decode code q.1 = .ok q.2) && am_il q.2.1 q.2.2) = true := by decide +kernel
theorem dk_L_law_6 : (L_law_c6.all fun q => decide (decode code q.1 = .ok q.2) && am_il q.2.1 q.2.2) = true := by decide +kernel
theorem dk_L_law_7 : (L_law_c7.all fun q => decide (decode code q.1 = .ok q.2) && am_il q.2.1 q.2.2) = true := by decide +kernel
theorem dk_L_law_8 : (L_law_c8.all fun q => decide (decode code q.1 = .ok q.2) && am_il q.2.1 q.2.2) = true := by decide +kernel
theorem dk_L_law_9 : (L_law_c9.all fun q => decide (decode code q.1 = .ok q.2) && am_il q.2.1 q.2.2) = true := by decide +kernel
theorem dk_L_law_10 : (L_law_c10.all fun q => decide (decode code q.1 = .ok q.2) && am_il q.2.1 q.2.2) = true := by decide +kernel
theorem dk_L_law_11 : (L_law_c11.all fun q => decide (decode code q.1 = .ok q.2) && am_il q.2.1 q.2.2) = true := by decide +kernel
theorem dk_L_law_12 : (L_law_c12.all fun q => decide (decode code q.1 = .ok q.2) && am_il q.2.1 q.2.2) = true := by decide +kernel
theorem dk_L_law_13 : (L_law_c13.all fun q => decide (decode code q.1 = .ok q.2) && am_il q.2.1 q.2.2) = true := by decide +kernel
theorem dk_L_law_14 : (L_law_c14.all fun q => decide (decode code q.1 = .ok q.2) && am_il q.2.1 q.2.2) = true := by decide +kernel
end
section
theorem am_dk {b : ByteArray} {l : List (Nat × (Instr × Nat))} (h : (l.all fun q => decide (decode b q.1 = .ok q.2) && am_il q.2.1 q.2.2) = true) : ∀ q ∈ l, decode b q.1 = .ok q.2 ∧ am_il q.2.1 q.2.2 = true := fun q hq => by simpa using List.all_eq_true.mp h q hq
theorem tl_1 : ∀ w ∈ tables_1_1, w ∈ lw_tbl := fun w h => List.mem_append_right _ (List.mem_append_left _ h)
theorem tl_2 : ∀ w ∈ tables_1_2, w ∈ lw_tbl := fun w h => List.mem_append_right _ (List.mem_append_right _ (List.mem_append_left _ h))
theorem tl_3 : ∀ w ∈ tables_1_3, w ∈ lw_tbl := fun w h => List.mem_append_right _ (List.mem_append_right _ (List.mem_append_right _ (List.mem_append_left _ h)))
theorem tl_4 : ∀ w ∈ tables_1_4, w ∈ lw_tbl := fun w h => List.mem_append_right _ (List.mem_append_right _ (List.mem_append_right _ (List.mem_append_right _ (List.mem_append_left _ h))))
theorem tl_5 : ∀ w ∈ tables_1_5, w ∈ lw_tbl := fun w h => List.mem_append_right _ (List.mem_append_right _ (List.mem_append_right _ (List.mem_append_right _ (List.mem_append_right _ (List.mem_append_left _ h)))))
theorem tl_6 : ∀ w ∈ tables_1_6, w ∈ lw_tbl := fun w h => List.mem_append_right _ (List.mem_append_right _ (List.mem_append_right _ (List.mem_append_right _ (List.mem_append_right _ (List.mem_append_right _ h)))))
theorem ct_23 : (Jvm.Cond.code ({ cls := "LostSheets", name := "<init>", desc := "()V" } : Jvm.MethodName) prog_1_method_1_code (2 : Nat) (Option.none : Option FieldType)) ∈ lw_tbl := tl_1 _ (List.mem_of_getElem? (i := 23) rfl)
theorem ct_1 : (Jvm.Cond.initialized "LostSheets") ∈ lw_tbl := tl_1 _ (List.mem_of_getElem? (i := 1) rfl)
theorem ct_31 : (Jvm.Cond.code ({ cls := "LostSheets$Land", name := "<init>", desc := "()V" } : Jvm.MethodName) prog_4_method_1_code (2 : Nat) (Option.none : Option FieldType)) ∈ lw_tbl := tl_1 _ (List.mem_of_getElem? (i := 31) rfl)
theorem ct_2 : (Jvm.Cond.initialized "LostSheets$Land") ∈ lw_tbl := tl_1 _ (List.mem_of_getElem? (i := 2) rfl)
theorem ct_38 : (Jvm.Cond.code ({ cls := "LostSheets$Drawer", name := "<init>", desc := "(I)V" } : Jvm.MethodName) prog_3_method_1_code (2 : Nat) (Option.none : Option FieldType)) ∈ lw_tbl := tl_1 _ (List.mem_of_getElem? (i := 38) rfl)
theorem ct_3 : (Jvm.Cond.initialized "LostSheets$Drawer") ∈ lw_tbl := tl_1 _ (List.mem_of_getElem? (i := 3) rfl)
theorem ct_131 : (Jvm.Cond.code ({ cls := "LostSheets$ByHand", name := "<init>", desc := "()V" } : Jvm.MethodName) prog_2_method_1_code (1 : Nat) (Option.none : Option FieldType)) ∈ lw_tbl := tl_1 _ (List.mem_of_getElem? (i := 131) rfl)
theorem ct_4 : (Jvm.Cond.initialized "LostSheets$ByHand") ∈ lw_tbl := tl_1 _ (List.mem_of_getElem? (i := 4) rfl)
theorem ct_137 : (Jvm.Cond.code ({ cls := "LostSheets$Rows", name := "<init>", desc := "(I)V" } : Jvm.MethodName) prog_6_method_1_code (2 : Nat) (Option.none : Option FieldType)) ∈ lw_tbl := tl_1 _ (List.mem_of_getElem? (i := 137) rfl)
theorem ct_5 : (Jvm.Cond.initialized "LostSheets$Rows") ∈ lw_tbl := tl_1 _ (List.mem_of_getElem? (i := 5) rfl)
theorem ct_141 : (Jvm.Cond.code ({ cls := "java/lang/Math", name := "max", desc := "(II)I" } : Jvm.MethodName) prog_14_method_65_code (2 : Nat) (Option.some FieldType.int)) ∈ lw_tbl := tl_1 _ (List.mem_of_getElem? (i := 141) rfl)
theorem ct_6 : (Jvm.Cond.initialized "java/lang/Math") ∈ lw_tbl := tl_1 _ (List.mem_of_getElem? (i := 6) rfl)
theorem ct_183 : (Jvm.Cond.code ({ cls := "LostSheets$Text", name := "<init>", desc := "()V" } : Jvm.MethodName) prog_8_method_1_code (1 : Nat) (Option.none : Option FieldType)) ∈ lw_tbl := tl_1 _ (List.mem_of_getElem? (i := 183) rfl)
theorem ct_7 : (Jvm.Cond.initialized "LostSheets$Text") ∈ lw_tbl := tl_1 _ (List.mem_of_getElem? (i := 7) rfl)
theorem ct_209 : (Jvm.Cond.code ({ cls := "LostSheets$Trace", name := "<init>", desc := "()V" } : Jvm.MethodName) prog_9_method_1_code (1 : Nat) (Option.none : Option FieldType)) ∈ lw_tbl := tl_1 _ (List.mem_of_getElem? (i := 209) rfl)
theorem ct_8 : (Jvm.Cond.initialized "LostSheets$Trace") ∈ lw_tbl := tl_1 _ (List.mem_of_getElem? (i := 8) rfl)
theorem ct_225 : (Jvm.Cond.code ({ cls := "LostSheets$Office", name := "<init>", desc := "()V" } : Jvm.MethodName) prog_5_method_1_code (1 : Nat) (Option.none : Option FieldType)) ∈ lw_tbl := tl_1 _ (List.mem_of_getElem? (i := 225) rfl)
theorem ct_9 : (Jvm.Cond.initialized "LostSheets$Office") ∈ lw_tbl := tl_1 _ (List.mem_of_getElem? (i := 9) rfl)
theorem ct_245 : (Jvm.Cond.code ({ cls := "LostSheets$Tape", name := "<init>", desc := "()V" } : Jvm.MethodName) prog_7_method_1_code (1 : Nat) (Option.none : Option FieldType)) ∈ lw_tbl := tl_2 _ (List.mem_of_getElem? (i := 5) rfl)
theorem ct_10 : (Jvm.Cond.initialized "LostSheets$Tape") ∈ lw_tbl := tl_1 _ (List.mem_of_getElem? (i := 10) rfl)
theorem ct_298 : (Jvm.Cond.code ({ cls := "LostSheets", name := "drawer", desc := "(III)I" } : Jvm.MethodName) prog_1_method_2_code (4 : Nat) (Option.some FieldType.int)) ∈ lw_tbl := tl_2 _ (List.mem_of_getElem? (i := 58) rfl)
theorem ct_301 : (Jvm.Cond.code ({ cls := "LostSheets", name := "isCell", desc := "(I)Z" } : Jvm.MethodName) prog_1_method_34_code (1 : Nat) (Option.some FieldType.boolean)) ∈ lw_tbl := tl_2 _ (List.mem_of_getElem? (i := 61) rfl)
theorem ct_304 : (Jvm.Cond.code ({ cls := "LostSheets", name := "isDigit", desc := "(I)Z" } : Jvm.MethodName) prog_1_method_36_code (1 : Nat) (Option.some FieldType.boolean)) ∈ lw_tbl := tl_2 _ (List.mem_of_getElem? (i := 64) rfl)
theorem ct_308 : (Jvm.Cond.code ({ cls := "LostSheets$Land", name := "addDrawer", desc := "(III)Z" } : Jvm.MethodName) prog_4_method_4_code (4 : Nat) (Option.some FieldType.boolean)) ∈ lw_tbl := tl_2 _ (List.mem_of_getElem? (i := 68) rfl)
theorem ct_312 : (Jvm.Cond.code ({ cls := "LostSheets$Drawer", name := "begins", desc := "(III)V" } : Jvm.MethodName) prog_3_method_2_code (5 : Nat) (Option.none : Option FieldType)) ∈ lw_tbl := tl_2 _ (List.mem_of_getElem? (i := 72) rfl)
theorem ct_316 : (Jvm.Cond.code ({ cls := "LostSheets", name := "of", desc := "(II)I" } : Jvm.MethodName) prog_1_method_3_code (4 : Nat) (Option.some FieldType.int)) ∈ lw_tbl := tl_2 _ (List.mem_of_getElem? (i := 76) rfl)
theorem ct_320 : (Jvm.Cond.code ({ cls := "LostSheets$Land", name := "drawerAt", desc := "(I)LLostSheets$Drawer;" } : Jvm.MethodName) prog_4_method_3_code (2 : Nat) (Option.some (FieldType.object "LostSheets$Drawer"))) ∈ lw_tbl := tl_2 _ (List.mem_of_getElem? (i := 80) rfl)
theorem ct_324 : (Jvm.Cond.code ({ cls := "LostSheets$Land", name := "feelOf", desc := "(LLostSheets$Drawer;)I" } : Jvm.MethodName) prog_4_method_19_code (4 : Nat) (Option.some FieldType.int)) ∈ lw_tbl := tl_2 _ (List.mem_of_getElem? (i := 84) rfl)
theorem ct_328 : (Jvm.Cond.code ({ cls := "LostSheets$Land", name := "answersOf", desc := "(LLostSheets$Drawer;)[I" } : Jvm.MethodName) prog_4_method_17_code (2 : Nat) (Option.some (FieldType.array FieldType.int))) ∈ lw_tbl := tl_2 _ (List.mem_of_getElem? (i := 88) rfl)
theorem ct_332 : (Jvm.Cond.code ({ cls := "LostSheets$Land", name := "markAt", desc := "(I)I" } : Jvm.MethodName) prog_4_method_5_code (2 : Nat) (Option.some FieldType.int)) ∈ lw_tbl := tl_2 _ (List.mem_of_getElem? (i := 92) rfl)
theorem ct_336 : (Jvm.Cond.code ({ cls := "LostSheets$Office", name := "turnsBy", desc := "([I)I" } : Jvm.MethodName) prog_5_method_4_code (7 : Nat) (Option.some FieldType.int)) ∈ lw_tbl := tl_2 _ (List.mem_of_getElem? (i := 96) rfl)
theorem ct_339 : (Jvm.Cond.code ({ cls := "LostSheets$Office", name := "holds", desc := "([III)I" } : Jvm.MethodName) prog_5_method_5_code (6 : Nat) (Option.some FieldType.int)) ∈ lw_tbl := tl_2 _ (List.mem_of_getElem? (i := 99) rfl)
theorem ct_343 : (Jvm.Cond.code ({ cls := "LostSheets$Land", name := "othersWith", desc := "(LLostSheets$Drawer;)I" } : Jvm.MethodName) prog_4_method_18_code (4 : Nat) (Option.some FieldType.int)) ∈ lw_tbl := tl_2 _ (List.mem_of_getElem? (i := 103) rfl)
theorem ct_346 : (Jvm.Cond.code ({ cls := "java/lang/Math", name := "floorMod", desc := "(II)I" } : Jvm.MethodName) prog_14_method_50_code (3 : Nat) (Option.some FieldType.int)) ∈ lw_tbl := tl_2 _ (List.mem_of_getElem? (i := 106) rfl)
theorem ct_350 : (Jvm.Cond.code ({ cls := "LostSheets$Land", name := "wayOf", desc := "(LLostSheets$Drawer;)I" } : Jvm.MethodName) prog_4_method_20_code (2 : Nat) (Option.some FieldType.int)) ∈ lw_tbl := tl_2 _ (List.mem_of_getElem? (i := 110) rfl)
theorem ct_355 : (Jvm.Cond.code ({ cls := "LostSheets$Land", name := "cameOf", desc := "(LLostSheets$Drawer;)I" } : Jvm.MethodName) prog_4_method_27_code (4 : Nat) (Option.some FieldType.int)) ∈ lw_tbl := tl_2 _ (List.mem_of_getElem? (i := 115) rfl)
theorem ct_359 : (Jvm.Cond.code ({ cls := "LostSheets$Land", name := "endBySheet", desc := "(LLostSheets$Drawer;I)I" } : Jvm.MethodName) prog_4_method_26_code (5 : Nat) (Option.some FieldType.int)) ∈ lw_tbl := tl_2 _ (List.mem_of_getElem? (i := 119) rfl)
theorem ct_362 : (Jvm.Cond.code ({ cls := "LostSheets$Land", name := "stepFrom", desc := "(II)I" } : Jvm.MethodName) prog_4_method_25_code (4 : Nat) (Option.some FieldType.int)) ∈ lw_tbl := tl_2 _ (List.mem_of_getElem? (i := 122) rfl)
theorem ct_366 : (Jvm.Cond.code ({ cls := "LostSheets$Land", name := "hereOf", desc := "(LLostSheets$Drawer;)I" } : Jvm.MethodName) prog_4_method_28_code (5 : Nat) (Option.some FieldType.int)) ∈ lw_tbl := tl_2 _ (List.mem_of_getElem? (i := 126) rfl)
theorem ct_370 : (Jvm.Cond.code ({ cls := "LostSheets$Land", name := "lookOf", desc := "(LLostSheets$Drawer;)I" } : Jvm.MethodName) prog_4_method_29_code (7 : Nat) (Option.some FieldType.int)) ∈ lw_tbl := tl_2 _ (List.mem_of_getElem? (i := 130) rfl)
theorem ct_375 : (Jvm.Cond.code ({ cls := "LostSheets$Land", name := "mostAtOneMark", desc := "(II)I" } : Jvm.MethodName) prog_4_method_30_code (6 : Nat) (Option.some FieldType.int)) ∈ lw_tbl := tl_2 _ (List.mem_of_getElem? (i := 135) rfl)
theorem ct_378 : (Jvm.Cond.code ({ cls := "LostSheets", name := "isMark", desc := "(I)Z" } : Jvm.MethodName) prog_1_method_35_code (1 : Nat) (Option.some FieldType.boolean)) ∈ lw_tbl := tl_2 _ (List.mem_of_getElem? (i := 138) rfl)
theorem ct_383 : (Jvm.Cond.code ({ cls := "LostSheets", name := "placesOf", desc := "(LLostSheets$Drawer;)I" } : Jvm.MethodName) prog_1_method_47_code (4 : Nat) (Option.some FieldType.int)) ∈ lw_tbl := tl_2 _ (List.mem_of_getElem? (i := 143) rfl)
theorem ct_387 : (Jvm.Cond.code ({ cls := "LostSheets", name := "tryAt", desc := "(II)V" } : Jvm.MethodName) prog_1_method_42_code (3 : Nat) (Option.none : Option FieldType)) ∈ lw_tbl := tl_2 _ (List.mem_of_getElem? (i := 147) rfl)
theorem ct_391 : (Jvm.Cond.code ({ cls := "LostSheets$Land", name := "copyFrom", desc := "(LLostSheets$Land;)V" } : Jvm.MethodName) prog_4_method_2_code (3 : Nat) (Option.none : Option FieldType)) ∈ lw_tbl := tl_2 _ (List.mem_of_getElem? (i := 151) rfl)
theorem ct_398 : (Jvm.Cond.code ({ cls := "LostSheets$Drawer", name := "copyFrom", desc := "(LLostSheets$Drawer;)V" } : Jvm.MethodName) prog_3_method_3_code (2 : Nat) (Option.none : Option FieldType)) ∈ lw_tbl := tl_2 _ (List.mem_of_getElem? (i := 158) rfl)
theorem ct_403 : (Jvm.Cond.code ({ cls := "LostSheets$Land", name := "putAt", desc := "(II)V" } : Jvm.MethodName) prog_4_method_8_code (4 : Nat) (Option.none : Option FieldType)) ∈ lw_tbl := tl_2 _ (List.mem_of_getElem? (i := 163) rfl)
theorem ct_409 : (Jvm.Cond.code ({ cls := "LostSheets", name := "seenIsSo", desc := "()Z" } : Jvm.MethodName) prog_1_method_50_code (3 : Nat) (Option.some FieldType.boolean)) ∈ lw_tbl := tl_2 _ (List.mem_of_getElem? (i := 169) rfl)
theorem ct_413 : (Jvm.Cond.code ({ cls := "LostSheets$ByHand", name := "lastHourSeen", desc := "()I" } : Jvm.MethodName) prog_2_method_3_code (3 : Nat) (Option.some FieldType.int)) ∈ lw_tbl := tl_2 _ (List.mem_of_getElem? (i := 173) rfl)
theorem ct_418 : (Jvm.Cond.code ({ cls := "LostSheets", name := "seenIsSoIn", desc := "(I)Z" } : Jvm.MethodName) prog_1_method_51_code (4 : Nat) (Option.some FieldType.boolean)) ∈ lw_tbl := tl_2 _ (List.mem_of_getElem? (i := 178) rfl)
theorem ct_422 : (Jvm.Cond.code ({ cls := "LostSheets$Land", name := "whereIs", desc := "(I)I" } : Jvm.MethodName) prog_4_method_7_code (3 : Nat) (Option.some FieldType.int)) ∈ lw_tbl := tl_2 _ (List.mem_of_getElem? (i := 182) rfl)
theorem ct_427 : (Jvm.Cond.code ({ cls := "LostSheets$Land", name := "hoursGo", desc := "(I)V" } : Jvm.MethodName) prog_4_method_23_code (3 : Nat) (Option.none : Option FieldType)) ∈ lw_tbl := tl_2 _ (List.mem_of_getElem? (i := 187) rfl)
theorem ct_431 : (Jvm.Cond.code ({ cls := "LostSheets$Land", name := "anyGoes", desc := "()Z" } : Jvm.MethodName) prog_4_method_24_code (2 : Nat) (Option.some FieldType.boolean)) ∈ lw_tbl := tl_2 _ (List.mem_of_getElem? (i := 191) rfl)
theorem ct_435 : (Jvm.Cond.code ({ cls := "LostSheets$Drawer", name := "goes", desc := "()Z" } : Jvm.MethodName) prog_3_method_4_code (1 : Nat) (Option.some FieldType.boolean)) ∈ lw_tbl := tl_2 _ (List.mem_of_getElem? (i := 195) rfl)
theorem ct_439 : (Jvm.Cond.code ({ cls := "LostSheets$Land", name := "hourGoes", desc := "()V" } : Jvm.MethodName) prog_4_method_21_code (3 : Nat) (Option.none : Option FieldType)) ∈ lw_tbl := tl_2 _ (List.mem_of_getElem? (i := 199) rfl)
theorem ct_443 : (Jvm.Cond.code ({ cls := "LostSheets$Land", name := "know", desc := "()I" } : Jvm.MethodName) prog_4_method_16_code (1 : Nat) (Option.some FieldType.int)) ∈ lw_tbl := tl_2 _ (List.mem_of_getElem? (i := 203) rfl)
theorem ct_447 : (Jvm.Cond.code ({ cls := "LostSheets$Land", name := "stepsAndDraws", desc := "(LLostSheets$Drawer;II)V" } : Jvm.MethodName) prog_4_method_22_code (5 : Nat) (Option.none : Option FieldType)) ∈ lw_tbl := tl_2 _ (List.mem_of_getElem? (i := 207) rfl)
theorem ct_451 : (Jvm.Cond.code ({ cls := "LostSheets$Drawer", name := "writes", desc := "(II)V" } : Jvm.MethodName) prog_3_method_5_code (3 : Nat) (Option.none : Option FieldType)) ∈ lw_tbl := tl_2 _ (List.mem_of_getElem? (i := 211) rfl)
theorem ct_455 : (Jvm.Cond.code ({ cls := "LostSheets$Drawer", name := "rowsWith", desc := "(I)I" } : Jvm.MethodName) prog_3_method_6_code (4 : Nat) (Option.some FieldType.int)) ∈ lw_tbl := tl_2 _ (List.mem_of_getElem? (i := 215) rfl)
theorem ct_459 : (Jvm.Cond.code ({ cls := "LostSheets", name := "sheet", desc := "(II)I" } : Jvm.MethodName) prog_1_method_4_code (4 : Nat) (Option.some FieldType.int)) ∈ lw_tbl := tl_2 _ (List.mem_of_getElem? (i := 219) rfl)
theorem ct_463 : (Jvm.Cond.code ({ cls := "LostSheets", name := "put", desc := "(II)I" } : Jvm.MethodName) prog_1_method_5_code (5 : Nat) (Option.some FieldType.int)) ∈ lw_tbl := tl_2 _ (List.mem_of_getElem? (i := 223) rfl)
theorem ct_467 : (Jvm.Cond.code ({ cls := "LostSheets", name := "anew", desc := "(I)I" } : Jvm.MethodName) prog_1_method_6_code (4 : Nat) (Option.some FieldType.int)) ∈ lw_tbl := tl_2 _ (List.mem_of_getElem? (i := 227) rfl)
theorem ct_471 : (Jvm.Cond.code ({ cls := "LostSheets", name := "mark", desc := "(II)I" } : Jvm.MethodName) prog_1_method_7_code (4 : Nat) (Option.some FieldType.int)) ∈ lw_tbl := tl_2 _ (List.mem_of_getElem? (i := 231) rfl)
theorem ct_476 : (Jvm.Cond.code ({ cls := "LostSheets$Land", name := "setMark", desc := "(II)V" } : Jvm.MethodName) prog_4_method_6_code (3 : Nat) (Option.none : Option FieldType)) ∈ lw_tbl := tl_2 _ (List.mem_of_getElem? (i := 236) rfl)
theorem ct_480 : (Jvm.Cond.code ({ cls := "LostSheets", name := "row", desc := "(III)I" } : Jvm.MethodName) prog_1_method_8_code (6 : Nat) (Option.some FieldType.int)) ∈ lw_tbl := tl_3 _ (List.mem_of_getElem? (i := 0) rfl)
theorem ct_484 : (Jvm.Cond.code ({ cls := "LostSheets", name := "feed", desc := "(I)I" } : Jvm.MethodName) prog_1_method_9_code (2 : Nat) (Option.some FieldType.int)) ∈ lw_tbl := tl_3 _ (List.mem_of_getElem? (i := 4) rfl)
theorem ct_488 : (Jvm.Cond.code ({ cls := "LostSheets$Text", name := "append", desc := "(I)Z" } : Jvm.MethodName) prog_8_method_2_code (2 : Nat) (Option.some FieldType.boolean)) ∈ lw_tbl := tl_3 _ (List.mem_of_getElem? (i := 8) rfl)
theorem ct_492 : (Jvm.Cond.code ({ cls := "LostSheets", name := "office", desc := "()I" } : Jvm.MethodName) prog_1_method_10_code (3 : Nat) (Option.some FieldType.int)) ∈ lw_tbl := tl_3 _ (List.mem_of_getElem? (i := 12) rfl)
theorem ct_496 : (Jvm.Cond.code ({ cls := "LostSheets$Text", name := "readInto", desc := "(LLostSheets$Office;)I" } : Jvm.MethodName) prog_8_method_3_code (4 : Nat) (Option.some FieldType.int)) ∈ lw_tbl := tl_3 _ (List.mem_of_getElem? (i := 16) rfl)
theorem ct_500 : (Jvm.Cond.code ({ cls := "LostSheets$Office", name := "clear", desc := "()V" } : Jvm.MethodName) prog_5_method_2_code (1 : Nat) (Option.none : Option FieldType)) ∈ lw_tbl := tl_3 _ (List.mem_of_getElem? (i := 20) rfl)
theorem ct_504 : (Jvm.Cond.code ({ cls := "LostSheets$Text", name := "clause", desc := "()Z" } : Jvm.MethodName) prog_8_method_8_code (4 : Nat) (Option.some FieldType.boolean)) ∈ lw_tbl := tl_3 _ (List.mem_of_getElem? (i := 24) rfl)
theorem ct_508 : (Jvm.Cond.code ({ cls := "LostSheets$Text", name := "ahead", desc := "()I" } : Jvm.MethodName) prog_8_method_4_code (1 : Nat) (Option.some FieldType.int)) ∈ lw_tbl := tl_3 _ (List.mem_of_getElem? (i := 28) rfl)
theorem ct_515 : (Jvm.Cond.code ({ cls := "LostSheets$Text", name := "takesAll", desc := "(Ljava/lang/String;)Z" } : Jvm.MethodName) prog_8_method_6_code (3 : Nat) (Option.some FieldType.boolean)) ∈ lw_tbl := tl_3 _ (List.mem_of_getElem? (i := 35) rfl)
theorem ct_519 : (Jvm.Cond.code ({ cls := "java/lang/String", name := "length", desc := "()I" } : Jvm.MethodName) prog_15_method_54_code (1 : Nat) (Option.some FieldType.int)) ∈ lw_tbl := tl_3 _ (List.mem_of_getElem? (i := 39) rfl)
theorem ct_13 : (Jvm.Cond.initialized "java/lang/String") ∈ lw_tbl := tl_1 _ (List.mem_of_getElem? (i := 13) rfl)
theorem ct_523 : (Jvm.Cond.code ({ cls := "java/lang/String", name := "coder", desc := "()B" } : Jvm.MethodName) prog_15_method_152_code (1 : Nat) (Option.some FieldType.byte)) ∈ lw_tbl := tl_3 _ (List.mem_of_getElem? (i := 43) rfl)
theorem ct_529 : (Jvm.Cond.code ({ cls := "java/lang/String", name := "charAt", desc := "(I)C" } : Jvm.MethodName) prog_15_method_56_code (2 : Nat) (Option.some FieldType.char)) ∈ lw_tbl := tl_3 _ (List.mem_of_getElem? (i := 49) rfl)
theorem ct_533 : (Jvm.Cond.code ({ cls := "java/lang/String", name := "isLatin1", desc := "()Z" } : Jvm.MethodName) prog_15_method_154_code (1 : Nat) (Option.some FieldType.boolean)) ∈ lw_tbl := tl_3 _ (List.mem_of_getElem? (i := 53) rfl)
theorem ct_536 : (Jvm.Cond.code ({ cls := "java/lang/StringLatin1", name := "charAt", desc := "([BI)C" } : Jvm.MethodName) prog_16_method_2_code (2 : Nat) (Option.some FieldType.char)) ∈ lw_tbl := tl_3 _ (List.mem_of_getElem? (i := 56) rfl)
theorem ct_14 : (Jvm.Cond.initialized "java/lang/StringLatin1") ∈ lw_tbl := tl_1 _ (List.mem_of_getElem? (i := 14) rfl)
theorem ct_539 : (Jvm.Cond.code ({ cls := "java/lang/String", name := "checkIndex", desc := "(II)V" } : Jvm.MethodName) prog_15_method_155_code (2 : Nat) (Option.none : Option FieldType)) ∈ lw_tbl := tl_3 _ (List.mem_of_getElem? (i := 59) rfl)
theorem ct_544 : (Jvm.Cond.code ({ cls := "jdk/internal/util/Preconditions", name := "checkIndex", desc := "(IILjava/util/function/BiFunction;)I" } : Jvm.MethodName) prog_19_method_11_code (3 : Nat) (Option.some FieldType.int)) ∈ lw_tbl := tl_3 _ (List.mem_of_getElem? (i := 64) rfl)
theorem ct_15 : (Jvm.Cond.initialized "jdk/internal/util/Preconditions") ∈ lw_tbl := tl_1 _ (List.mem_of_getElem? (i := 15) rfl)
theorem ct_567 : (Jvm.Cond.code ({ cls := "LostSheets$Text", name := "takes", desc := "(I)Z" } : Jvm.MethodName) prog_8_method_5_code (2 : Nat) (Option.some FieldType.boolean)) ∈ lw_tbl := tl_3 _ (List.mem_of_getElem? (i := 87) rfl)
theorem ct_571 : (Jvm.Cond.code ({ cls := "LostSheets$Text", name := "oneOrTwoDigits", desc := "()Z" } : Jvm.MethodName) prog_8_method_7_code (3 : Nat) (Option.some FieldType.boolean)) ∈ lw_tbl := tl_3 _ (List.mem_of_getElem? (i := 91) rfl)
theorem ct_575 : (Jvm.Cond.code ({ cls := "LostSheets$Text", name := "anyOf", desc := "(I)Z" } : Jvm.MethodName) prog_8_method_9_code (4 : Nat) (Option.some FieldType.boolean)) ∈ lw_tbl := tl_3 _ (List.mem_of_getElem? (i := 95) rfl)
theorem ct_579 : (Jvm.Cond.code ({ cls := "LostSheets$Text", name := "allOf", desc := "(I)Z" } : Jvm.MethodName) prog_8_method_10_code (4 : Nat) (Option.some FieldType.boolean)) ∈ lw_tbl := tl_3 _ (List.mem_of_getElem? (i := 99) rfl)
theorem ct_583 : (Jvm.Cond.code ({ cls := "LostSheets$Text", name := "one", desc := "(I)Z" } : Jvm.MethodName) prog_8_method_11_code (3 : Nat) (Option.some FieldType.boolean)) ∈ lw_tbl := tl_3 _ (List.mem_of_getElem? (i := 103) rfl)
theorem ct_587 : (Jvm.Cond.code ({ cls := "LostSheets$Text", name := "test", desc := "()Z" } : Jvm.MethodName) prog_8_method_14_code (3 : Nat) (Option.some FieldType.boolean)) ∈ lw_tbl := tl_3 _ (List.mem_of_getElem? (i := 107) rfl)
theorem ct_591 : (Jvm.Cond.code ({ cls := "LostSheets$Text", name := "placeIn", desc := "(Ljava/lang/String;I)I" } : Jvm.MethodName) prog_8_method_15_code (3 : Nat) (Option.some FieldType.int)) ∈ lw_tbl := tl_3 _ (List.mem_of_getElem? (i := 111) rfl)
theorem ct_596 : (Jvm.Cond.code ({ cls := "LostSheets$Office", name := "append", desc := "(II)V" } : Jvm.MethodName) prog_5_method_3_code (3 : Nat) (Option.none : Option FieldType)) ∈ lw_tbl := tl_3 _ (List.mem_of_getElem? (i := 116) rfl)
theorem ct_600 : (Jvm.Cond.code ({ cls := "LostSheets$Text", name := "not", desc := "(I)Z" } : Jvm.MethodName) prog_8_method_12_code (3 : Nat) (Option.some FieldType.boolean)) ∈ lw_tbl := tl_3 _ (List.mem_of_getElem? (i := 120) rfl)
theorem ct_604 : (Jvm.Cond.code ({ cls := "LostSheets$Text", name := "inBrackets", desc := "(I)Z" } : Jvm.MethodName) prog_8_method_13_code (2 : Nat) (Option.some FieldType.boolean)) ∈ lw_tbl := tl_3 _ (List.mem_of_getElem? (i := 124) rfl)
theorem ct_608 : (Jvm.Cond.code ({ cls := "LostSheets", name := "told", desc := "(I)I" } : Jvm.MethodName) prog_1_method_11_code (2 : Nat) (Option.some FieldType.int)) ∈ lw_tbl := tl_3 _ (List.mem_of_getElem? (i := 128) rfl)
theorem ct_612 : (Jvm.Cond.code ({ cls := "LostSheets", name := "marksOf", desc := "(I)I" } : Jvm.MethodName) prog_1_method_46_code (4 : Nat) (Option.some FieldType.int)) ∈ lw_tbl := tl_3 _ (List.mem_of_getElem? (i := 132) rfl)
theorem ct_617 : (Jvm.Cond.code ({ cls := "LostSheets$Land", name := "doneBits", desc := "()I" } : Jvm.MethodName) prog_4_method_13_code (3 : Nat) (Option.some FieldType.int)) ∈ lw_tbl := tl_3 _ (List.mem_of_getElem? (i := 137) rfl)
theorem ct_621 : (Jvm.Cond.code ({ cls := "LostSheets", name := "whole", desc := "()I" } : Jvm.MethodName) prog_1_method_43_code (2 : Nat) (Option.some FieldType.int)) ∈ lw_tbl := tl_3 _ (List.mem_of_getElem? (i := 141) rfl)
theorem ct_626 : (Jvm.Cond.code ({ cls := "LostSheets", name := "pass", desc := "(I)I" } : Jvm.MethodName) prog_1_method_12_code (2 : Nat) (Option.some FieldType.int)) ∈ lw_tbl := tl_3 _ (List.mem_of_getElem? (i := 146) rfl)
theorem ct_630 : (Jvm.Cond.code ({ cls := "LostSheets$Land", name := "capDrew", desc := "()V" } : Jvm.MethodName) prog_4_method_15_code (2 : Nat) (Option.none : Option FieldType)) ∈ lw_tbl := tl_3 _ (List.mem_of_getElem? (i := 150) rfl)
theorem ct_633 : (Jvm.Cond.code ({ cls := "java/lang/Math", name := "min", desc := "(II)I" } : Jvm.MethodName) prog_14_method_69_code (2 : Nat) (Option.some FieldType.int)) ∈ lw_tbl := tl_3 _ (List.mem_of_getElem? (i := 153) rfl)
theorem ct_637 : (Jvm.Cond.code ({ cls := "LostSheets", name := "on", desc := "(II)I" } : Jvm.MethodName) prog_1_method_13_code (3 : Nat) (Option.some FieldType.int)) ∈ lw_tbl := tl_3 _ (List.mem_of_getElem? (i := 157) rfl)
theorem ct_641 : (Jvm.Cond.code ({ cls := "LostSheets", name := "drawerBehindTen", desc := "(I)LLostSheets$Drawer;" } : Jvm.MethodName) prog_1_method_38_code (2 : Nat) (Option.some (FieldType.object "LostSheets$Drawer"))) ∈ lw_tbl := tl_3 _ (List.mem_of_getElem? (i := 161) rfl)
theorem ct_645 : (Jvm.Cond.code ({ cls := "LostSheets", name := "best", desc := "(II)I" } : Jvm.MethodName) prog_1_method_14_code (3 : Nat) (Option.some FieldType.int)) ∈ lw_tbl := tl_3 _ (List.mem_of_getElem? (i := 165) rfl)
theorem ct_649 : (Jvm.Cond.code ({ cls := "LostSheets", name := "crew", desc := "(I)I" } : Jvm.MethodName) prog_1_method_45_code (7 : Nat) (Option.some FieldType.int)) ∈ lw_tbl := tl_3 _ (List.mem_of_getElem? (i := 169) rfl)
theorem ct_652 : (Jvm.Cond.code ({ cls := "java/lang/Integer", name := "bitCount", desc := "(I)I" } : Jvm.MethodName) prog_13_method_49_code (1 : Nat) (Option.some FieldType.int)) ∈ lw_tbl := tl_3 _ (List.mem_of_getElem? (i := 172) rfl)
theorem ct_18 : (Jvm.Cond.initialized "java/lang/Integer") ∈ lw_tbl := tl_1 _ (List.mem_of_getElem? (i := 18) rfl)
theorem ct_659 : (Jvm.Cond.code ({ cls := "LostSheets$Land", name := "othersAreDone", desc := "(I)V" } : Jvm.MethodName) prog_4_method_12_code (3 : Nat) (Option.none : Option FieldType)) ∈ lw_tbl := tl_3 _ (List.mem_of_getElem? (i := 179) rfl)
theorem ct_663 : (Jvm.Cond.code ({ cls := "LostSheets", name := "landing", desc := "(II)I" } : Jvm.MethodName) prog_1_method_44_code (7 : Nat) (Option.some FieldType.int)) ∈ lw_tbl := tl_3 _ (List.mem_of_getElem? (i := 183) rfl)
theorem ct_667 : (Jvm.Cond.code ({ cls := "LostSheets", name := "see", desc := "(III)I" } : Jvm.MethodName) prog_1_method_15_code (4 : Nat) (Option.some FieldType.int)) ∈ lw_tbl := tl_3 _ (List.mem_of_getElem? (i := 187) rfl)
theorem ct_671 : (Jvm.Cond.code ({ cls := "LostSheets$Rows", name := "clear", desc := "()V" } : Jvm.MethodName) prog_6_method_2_code (1 : Nat) (Option.none : Option FieldType)) ∈ lw_tbl := tl_3 _ (List.mem_of_getElem? (i := 191) rfl)
theorem ct_675 : (Jvm.Cond.code ({ cls := "LostSheets$Rows", name := "append", desc := "(III)Z" } : Jvm.MethodName) prog_6_method_3_code (4 : Nat) (Option.some FieldType.boolean)) ∈ lw_tbl := tl_3 _ (List.mem_of_getElem? (i := 195) rfl)
theorem ct_679 : (Jvm.Cond.code ({ cls := "LostSheets", name := "can", desc := "(II)I" } : Jvm.MethodName) prog_1_method_16_code (4 : Nat) (Option.some FieldType.int)) ∈ lw_tbl := tl_3 _ (List.mem_of_getElem? (i := 199) rfl)
theorem ct_683 : (Jvm.Cond.code ({ cls := "LostSheets", name := "possibleNumbers", desc := "(I)I" } : Jvm.MethodName) prog_1_method_48_code (4 : Nat) (Option.some FieldType.int)) ∈ lw_tbl := tl_3 _ (List.mem_of_getElem? (i := 203) rfl)
theorem ct_687 : (Jvm.Cond.code ({ cls := "LostSheets$Land", name := "setNumber", desc := "(II)V" } : Jvm.MethodName) prog_4_method_9_code (4 : Nat) (Option.none : Option FieldType)) ∈ lw_tbl := tl_3 _ (List.mem_of_getElem? (i := 207) rfl)
theorem ct_690 : (Jvm.Cond.code ({ cls := "LostSheets", name := "leastOf", desc := "(I)I" } : Jvm.MethodName) prog_1_method_49_code (2 : Nat) (Option.some FieldType.int)) ∈ lw_tbl := tl_3 _ (List.mem_of_getElem? (i := 210) rfl)
theorem ct_694 : (Jvm.Cond.code ({ cls := "LostSheets", name := "odds", desc := "(III)J" } : Jvm.MethodName) prog_1_method_17_code (6 : Nat) (Option.some FieldType.long)) ∈ lw_tbl := tl_3 _ (List.mem_of_getElem? (i := 214) rfl)
theorem ct_699 : (Jvm.Cond.code ({ cls := "LostSheets", name := "partOfFraction", desc := "(JJI)J" } : Jvm.MethodName) prog_1_method_53_code (7 : Nat) (Option.some FieldType.long)) ∈ lw_tbl := tl_3 _ (List.mem_of_getElem? (i := 219) rfl)
theorem ct_702 : (Jvm.Cond.code ({ cls := "LostSheets", name := "greatestDivisor", desc := "(JJ)J" } : Jvm.MethodName) prog_1_method_54_code (11 : Nat) (Option.some FieldType.long)) ∈ lw_tbl := tl_3 _ (List.mem_of_getElem? (i := 222) rfl)
theorem ct_706 : (Jvm.Cond.code ({ cls := "LostSheets", name := "mean", desc := "(II)J" } : Jvm.MethodName) prog_1_method_18_code (3 : Nat) (Option.some FieldType.long)) ∈ lw_tbl := tl_3 _ (List.mem_of_getElem? (i := 226) rfl)
theorem ct_710 : (Jvm.Cond.code ({ cls := "LostSheets$Land", name := "drewOfAll", desc := "()I" } : Jvm.MethodName) prog_4_method_14_code (3 : Nat) (Option.some FieldType.int)) ∈ lw_tbl := tl_3 _ (List.mem_of_getElem? (i := 230) rfl)
theorem ct_714 : (Jvm.Cond.code ({ cls := "LostSheets", name := "plan", desc := "(II)I" } : Jvm.MethodName) prog_1_method_19_code (3 : Nat) (Option.some FieldType.int)) ∈ lw_tbl := tl_3 _ (List.mem_of_getElem? (i := 234) rfl)
theorem ct_718 : (Jvm.Cond.code ({ cls := "LostSheets", name := "isPlanRow", desc := "(II)Z" } : Jvm.MethodName) prog_1_method_37_code (3 : Nat) (Option.some FieldType.boolean)) ∈ lw_tbl := tl_3 _ (List.mem_of_getElem? (i := 238) rfl)
theorem ct_722 : (Jvm.Cond.code ({ cls := "LostSheets", name := "ends", desc := "(I)I" } : Jvm.MethodName) prog_1_method_20_code (2 : Nat) (Option.some FieldType.int)) ∈ lw_tbl := tl_4 _ (List.mem_of_getElem? (i := 2) rfl)
theorem ct_726 : (Jvm.Cond.code ({ cls := "LostSheets", name := "tryPlan", desc := "()V" } : Jvm.MethodName) prog_1_method_52_code (4 : Nat) (Option.none : Option FieldType)) ∈ lw_tbl := tl_4 _ (List.mem_of_getElem? (i := 6) rfl)
theorem ct_730 : (Jvm.Cond.code ({ cls := "LostSheets$Land", name := "emptySheet", desc := "(I)V" } : Jvm.MethodName) prog_4_method_10_code (3 : Nat) (Option.none : Option FieldType)) ∈ lw_tbl := tl_4 _ (List.mem_of_getElem? (i := 10) rfl)
theorem ct_734 : (Jvm.Cond.code ({ cls := "LostSheets$Land", name := "notDone", desc := "(I)V" } : Jvm.MethodName) prog_4_method_11_code (3 : Nat) (Option.none : Option FieldType)) ∈ lw_tbl := tl_4 _ (List.mem_of_getElem? (i := 14) rfl)
theorem ct_738 : (Jvm.Cond.code ({ cls := "LostSheets", name := "book", desc := "(II)I" } : Jvm.MethodName) prog_1_method_21_code (3 : Nat) (Option.some FieldType.int)) ∈ lw_tbl := tl_4 _ (List.mem_of_getElem? (i := 18) rfl)
theorem ct_742 : (Jvm.Cond.code ({ cls := "LostSheets", name := "looked", desc := "()I" } : Jvm.MethodName) prog_1_method_22_code (3 : Nat) (Option.some FieldType.int)) ∈ lw_tbl := tl_4 _ (List.mem_of_getElem? (i := 22) rfl)
theorem ct_746 : (Jvm.Cond.code ({ cls := "LostSheets", name := "judge", desc := "(II)I" } : Jvm.MethodName) prog_1_method_23_code (6 : Nat) (Option.some FieldType.int)) ∈ lw_tbl := tl_4 _ (List.mem_of_getElem? (i := 26) rfl)
theorem ct_750 : (Jvm.Cond.code ({ cls := "LostSheets", name := "tapeAt", desc := "(I)LLostSheets$Tape;" } : Jvm.MethodName) prog_1_method_39_code (2 : Nat) (Option.some (FieldType.object "LostSheets$Tape"))) ∈ lw_tbl := tl_4 _ (List.mem_of_getElem? (i := 30) rfl)
theorem ct_754 : (Jvm.Cond.code ({ cls := "LostSheets$Tape", name := "has", desc := "(I)Z" } : Jvm.MethodName) prog_7_method_3_code (2 : Nat) (Option.some FieldType.boolean)) ∈ lw_tbl := tl_4 _ (List.mem_of_getElem? (i := 34) rfl)
theorem ct_758 : (Jvm.Cond.code ({ cls := "LostSheets", name := "image", desc := "()I" } : Jvm.MethodName) prog_1_method_24_code (1 : Nat) (Option.some FieldType.int)) ∈ lw_tbl := tl_4 _ (List.mem_of_getElem? (i := 38) rfl)
theorem ct_762 : (Jvm.Cond.code ({ cls := "LostSheets$ByHand", name := "copyFrom", desc := "(LLostSheets$ByHand;)V" } : Jvm.MethodName) prog_2_method_2_code (2 : Nat) (Option.none : Option FieldType)) ∈ lw_tbl := tl_4 _ (List.mem_of_getElem? (i := 42) rfl)
theorem ct_766 : (Jvm.Cond.code ({ cls := "LostSheets$Rows", name := "copyFrom", desc := "(LLostSheets$Rows;)V" } : Jvm.MethodName) prog_6_method_4_code (3 : Nat) (Option.none : Option FieldType)) ∈ lw_tbl := tl_4 _ (List.mem_of_getElem? (i := 46) rfl)
theorem ct_771 : (Jvm.Cond.code ({ cls := "LostSheets", name := "undo", desc := "()I" } : Jvm.MethodName) prog_1_method_25_code (1 : Nat) (Option.some FieldType.int)) ∈ lw_tbl := tl_4 _ (List.mem_of_getElem? (i := 51) rfl)
theorem ct_775 : (Jvm.Cond.code ({ cls := "LostSheets", name := "act", desc := "(III)I" } : Jvm.MethodName) prog_1_method_26_code (4 : Nat) (Option.some FieldType.int)) ∈ lw_tbl := tl_4 _ (List.mem_of_getElem? (i := 55) rfl)
theorem ct_779 : (Jvm.Cond.code ({ cls := "LostSheets$Trace", name := "ofAct", desc := "(LLostSheets$Drawer;II)I" } : Jvm.MethodName) prog_9_method_4_code (4 : Nat) (Option.some FieldType.int)) ∈ lw_tbl := tl_4 _ (List.mem_of_getElem? (i := 59) rfl)
theorem ct_783 : (Jvm.Cond.code ({ cls := "LostSheets$Trace", name := "run", desc := "(LLostSheets$Drawer;IIII)I" } : Jvm.MethodName) prog_9_method_5_code (7 : Nat) (Option.some FieldType.int)) ∈ lw_tbl := tl_4 _ (List.mem_of_getElem? (i := 63) rfl)
theorem ct_786 : (Jvm.Cond.code ({ cls := "LostSheets$Trace", name := "bodyOf", desc := "(II)I" } : Jvm.MethodName) prog_9_method_2_code (5 : Nat) (Option.some FieldType.int)) ∈ lw_tbl := tl_4 _ (List.mem_of_getElem? (i := 66) rfl)
theorem ct_791 : (Jvm.Cond.code ({ cls := "LostSheets", name := "aboveOf", desc := "(I)I" } : Jvm.MethodName) prog_1_method_40_code (1 : Nat) (Option.some FieldType.int)) ∈ lw_tbl := tl_4 _ (List.mem_of_getElem? (i := 71) rfl)
theorem ct_797 : (Jvm.Cond.code ({ cls := "LostSheets$Trace", name := "begins", desc := "(I)V" } : Jvm.MethodName) prog_9_method_3_code (2 : Nat) (Option.none : Option FieldType)) ∈ lw_tbl := tl_4 _ (List.mem_of_getElem? (i := 77) rfl)
theorem ct_801 : (Jvm.Cond.code ({ cls := "LostSheets$Trace", name := "does", desc := "(ILLostSheets$Drawer;II)I" } : Jvm.MethodName) prog_9_method_6_code (5 : Nat) (Option.some FieldType.int)) ∈ lw_tbl := tl_4 _ (List.mem_of_getElem? (i := 81) rfl)
theorem ct_805 : (Jvm.Cond.code ({ cls := "LostSheets", name := "trace", desc := "(I)I" } : Jvm.MethodName) prog_1_method_27_code (2 : Nat) (Option.some FieldType.int)) ∈ lw_tbl := tl_4 _ (List.mem_of_getElem? (i := 85) rfl)
theorem ct_809 : (Jvm.Cond.code ({ cls := "LostSheets", name := "taken", desc := "(II)I" } : Jvm.MethodName) prog_1_method_28_code (4 : Nat) (Option.some FieldType.int)) ∈ lw_tbl := tl_4 _ (List.mem_of_getElem? (i := 89) rfl)
theorem ct_812 : (Jvm.Cond.code ({ cls := "LostSheets", name := "isUnder", desc := "(II)Z" } : Jvm.MethodName) prog_1_method_41_code (4 : Nat) (Option.some FieldType.boolean)) ∈ lw_tbl := tl_4 _ (List.mem_of_getElem? (i := 92) rfl)
theorem ct_817 : (Jvm.Cond.code ({ cls := "LostSheets", name := "count", desc := "(I)I" } : Jvm.MethodName) prog_1_method_29_code (2 : Nat) (Option.some FieldType.int)) ∈ lw_tbl := tl_4 _ (List.mem_of_getElem? (i := 97) rfl)
theorem ct_821 : (Jvm.Cond.code ({ cls := "LostSheets", name := "tape", desc := "(III)I" } : Jvm.MethodName) prog_1_method_30_code (5 : Nat) (Option.some FieldType.int)) ∈ lw_tbl := tl_4 _ (List.mem_of_getElem? (i := 101) rfl)
theorem ct_825 : (Jvm.Cond.code ({ cls := "LostSheets$Tape", name := "becomes", desc := "(II)V" } : Jvm.MethodName) prog_7_method_2_code (4 : Nat) (Option.none : Option FieldType)) ∈ lw_tbl := tl_4 _ (List.mem_of_getElem? (i := 105) rfl)
theorem ct_829 : (Jvm.Cond.code ({ cls := "LostSheets", name := "item", desc := "(IIJ)I" } : Jvm.MethodName) prog_1_method_31_code (6 : Nat) (Option.some FieldType.int)) ∈ lw_tbl := tl_4 _ (List.mem_of_getElem? (i := 109) rfl)
theorem ct_833 : (Jvm.Cond.code ({ cls := "LostSheets$Tape", name := "asItem", desc := "(J)J" } : Jvm.MethodName) prog_7_method_5_code (3 : Nat) (Option.some FieldType.long)) ∈ lw_tbl := tl_4 _ (List.mem_of_getElem? (i := 113) rfl)
theorem ct_837 : (Jvm.Cond.code ({ cls := "LostSheets", name := "read", desc := "(II)J" } : Jvm.MethodName) prog_1_method_32_code (4 : Nat) (Option.some FieldType.long)) ∈ lw_tbl := tl_4 _ (List.mem_of_getElem? (i := 117) rfl)
theorem ct_841 : (Jvm.Cond.code ({ cls := "LostSheets", name := "shift", desc := "(IIIII)I" } : Jvm.MethodName) prog_1_method_33_code (8 : Nat) (Option.some FieldType.int)) ∈ lw_tbl := tl_4 _ (List.mem_of_getElem? (i := 121) rfl)
theorem ct_845 : (Jvm.Cond.code ({ cls := "LostSheets$Tape", name := "hasRun", desc := "(II)Z" } : Jvm.MethodName) prog_7_method_4_code (3 : Nat) (Option.some FieldType.boolean)) ∈ lw_tbl := tl_4 _ (List.mem_of_getElem? (i := 125) rfl)
theorem ct_851 : (Jvm.Cond.code ({ cls := "LostSheetsModel", name := "<init>", desc := "()V" } : Jvm.MethodName) prog_11_method_1_code (2 : Nat) (Option.none : Option FieldType)) ∈ lw_tbl := tl_4 _ (List.mem_of_getElem? (i := 131) rfl)
theorem ct_11 : (Jvm.Cond.initialized "LostSheetsModel") ∈ lw_tbl := tl_1 _ (List.mem_of_getElem? (i := 11) rfl)
theorem ct_999 : (Jvm.Cond.code ({ cls := "LostSheetsModel", name := "drawer", desc := "(III)I" } : Jvm.MethodName) prog_11_method_5_code (5 : Nat) (Option.some FieldType.int)) ∈ lw_tbl := tl_5 _ (List.mem_of_getElem? (i := 39) rfl)
theorem ct_1002 : (Jvm.Cond.code ({ cls := "LostSheetsModel", name := "within", desc := "(III)Z" } : Jvm.MethodName) prog_11_method_2_code (3 : Nat) (Option.some FieldType.boolean)) ∈ lw_tbl := tl_5 _ (List.mem_of_getElem? (i := 42) rfl)
theorem ct_1005 : (Jvm.Cond.code ({ cls := "LostSheetsModel", name := "isCell", desc := "(I)Z" } : Jvm.MethodName) prog_11_method_4_code (1 : Nat) (Option.some FieldType.boolean)) ∈ lw_tbl := tl_5 _ (List.mem_of_getElem? (i := 45) rfl)
theorem ct_1009 : (Jvm.Cond.code ({ cls := "LostSheetsModel", name := "of", desc := "(II)I" } : Jvm.MethodName) prog_11_method_6_code (3 : Nat) (Option.some FieldType.int)) ∈ lw_tbl := tl_5 _ (List.mem_of_getElem? (i := 49) rfl)
theorem ct_1013 : (Jvm.Cond.code ({ cls := "LostSheetsModel", name := "isOne", desc := "(I)Z" } : Jvm.MethodName) prog_11_method_3_code (2 : Nat) (Option.some FieldType.boolean)) ∈ lw_tbl := tl_5 _ (List.mem_of_getElem? (i := 53) rfl)
theorem ct_1017 : (Jvm.Cond.code ({ cls := "LostSheetsModel", name := "feel", desc := "(I)I" } : Jvm.MethodName) prog_11_method_30_code (3 : Nat) (Option.some FieldType.int)) ∈ lw_tbl := tl_5 _ (List.mem_of_getElem? (i := 57) rfl)
theorem ct_1021 : (Jvm.Cond.code ({ cls := "LostSheetsModel", name := "sum", desc := "(I)I" } : Jvm.MethodName) prog_11_method_27_code (5 : Nat) (Option.some FieldType.int)) ∈ lw_tbl := tl_5 _ (List.mem_of_getElem? (i := 61) rfl)
theorem ct_1025 : (Jvm.Cond.code ({ cls := "LostSheetsModel", name := "isTrue", desc := "(II)Z" } : Jvm.MethodName) prog_11_method_26_code (9 : Nat) (Option.some FieldType.boolean)) ∈ lw_tbl := tl_5 _ (List.mem_of_getElem? (i := 65) rfl)
theorem ct_1029 : (Jvm.Cond.code ({ cls := "LostSheetsModel", name := "letterOf", desc := "(II)I" } : Jvm.MethodName) prog_11_method_25_code (3 : Nat) (Option.some FieldType.int)) ∈ lw_tbl := tl_5 _ (List.mem_of_getElem? (i := 69) rfl)
theorem ct_1033 : (Jvm.Cond.code ({ cls := "LostSheetsModel", name := "others", desc := "(I)I" } : Jvm.MethodName) prog_11_method_29_code (4 : Nat) (Option.some FieldType.int)) ∈ lw_tbl := tl_5 _ (List.mem_of_getElem? (i := 73) rfl)
theorem ct_1037 : (Jvm.Cond.code ({ cls := "LostSheetsModel", name := "wayOf", desc := "(I)I" } : Jvm.MethodName) prog_11_method_31_code (2 : Nat) (Option.some FieldType.int)) ∈ lw_tbl := tl_5 _ (List.mem_of_getElem? (i := 77) rfl)
theorem ct_1041 : (Jvm.Cond.code ({ cls := "LostSheetsModel", name := "came", desc := "(IZ)I" } : Jvm.MethodName) prog_11_method_41_code (8 : Nat) (Option.some FieldType.int)) ∈ lw_tbl := tl_5 _ (List.mem_of_getElem? (i := 81) rfl)
theorem ct_1044 : (Jvm.Cond.code ({ cls := "LostSheetsModel", name := "step", desc := "(II)I" } : Jvm.MethodName) prog_11_method_32_code (2 : Nat) (Option.some FieldType.int)) ∈ lw_tbl := tl_5 _ (List.mem_of_getElem? (i := 84) rfl)
theorem ct_1048 : (Jvm.Cond.code ({ cls := "LostSheetsModel", name := "look", desc := "(I)I" } : Jvm.MethodName) prog_11_method_42_code (10 : Nat) (Option.some FieldType.int)) ∈ lw_tbl := tl_5 _ (List.mem_of_getElem? (i := 88) rfl)
theorem ct_1053 : (Jvm.Cond.code ({ cls := "LostSheetsModel", name := "places", desc := "(I)I" } : Jvm.MethodName) prog_11_method_50_code (5 : Nat) (Option.some FieldType.int)) ∈ lw_tbl := tl_5 _ (List.mem_of_getElem? (i := 93) rfl)
theorem ct_1057 : (Jvm.Cond.code ({ cls := "LostSheetsModel", name := "isSeen", desc := "()Z" } : Jvm.MethodName) prog_11_method_48_code (4 : Nat) (Option.some FieldType.boolean)) ∈ lw_tbl := tl_5 _ (List.mem_of_getElem? (i := 97) rfl)
theorem ct_1061 : (Jvm.Cond.code ({ cls := "LostSheetsModel", name := "keep", desc := "([I)V" } : Jvm.MethodName) prog_11_method_61_code (3 : Nat) (Option.none : Option FieldType)) ∈ lw_tbl := tl_5 _ (List.mem_of_getElem? (i := 101) rfl)
theorem ct_1065 : (Jvm.Cond.code ({ cls := "LostSheetsModel", name := "goesHour", desc := "()V" } : Jvm.MethodName) prog_11_method_34_code (3 : Nat) (Option.none : Option FieldType)) ∈ lw_tbl := tl_5 _ (List.mem_of_getElem? (i := 105) rfl)
theorem ct_1069 : (Jvm.Cond.code ({ cls := "LostSheetsModel", name := "know", desc := "()I" } : Jvm.MethodName) prog_11_method_28_code (3 : Nat) (Option.some FieldType.int)) ∈ lw_tbl := tl_5 _ (List.mem_of_getElem? (i := 109) rfl)
theorem ct_1073 : (Jvm.Cond.code ({ cls := "LostSheetsModel", name := "goesBy", desc := "(III)V" } : Jvm.MethodName) prog_11_method_33_code (7 : Nat) (Option.none : Option FieldType)) ∈ lw_tbl := tl_5 _ (List.mem_of_getElem? (i := 113) rfl)
theorem ct_1077 : (Jvm.Cond.code ({ cls := "LostSheetsModel", name := "again", desc := "([I)V" } : Jvm.MethodName) prog_11_method_62_code (3 : Nat) (Option.none : Option FieldType)) ∈ lw_tbl := tl_5 _ (List.mem_of_getElem? (i := 117) rfl)
theorem ct_1081 : (Jvm.Cond.code ({ cls := "LostSheetsModel", name := "sheet", desc := "(II)I" } : Jvm.MethodName) prog_11_method_7_code (3 : Nat) (Option.some FieldType.int)) ∈ lw_tbl := tl_5 _ (List.mem_of_getElem? (i := 121) rfl)
theorem ct_1085 : (Jvm.Cond.code ({ cls := "LostSheetsModel", name := "put", desc := "(II)I" } : Jvm.MethodName) prog_11_method_8_code (4 : Nat) (Option.some FieldType.int)) ∈ lw_tbl := tl_5 _ (List.mem_of_getElem? (i := 125) rfl)
theorem ct_1089 : (Jvm.Cond.code ({ cls := "LostSheetsModel", name := "anew", desc := "(I)I" } : Jvm.MethodName) prog_11_method_9_code (3 : Nat) (Option.some FieldType.int)) ∈ lw_tbl := tl_5 _ (List.mem_of_getElem? (i := 129) rfl)
theorem ct_1093 : (Jvm.Cond.code ({ cls := "LostSheetsModel", name := "mark", desc := "(II)I" } : Jvm.MethodName) prog_11_method_10_code (4 : Nat) (Option.some FieldType.int)) ∈ lw_tbl := tl_5 _ (List.mem_of_getElem? (i := 133) rfl)
theorem ct_1097 : (Jvm.Cond.code ({ cls := "LostSheetsModel", name := "row", desc := "(III)I" } : Jvm.MethodName) prog_11_method_11_code (5 : Nat) (Option.some FieldType.int)) ∈ lw_tbl := tl_5 _ (List.mem_of_getElem? (i := 137) rfl)
theorem ct_1101 : (Jvm.Cond.code ({ cls := "LostSheetsModel", name := "feed", desc := "(I)I" } : Jvm.MethodName) prog_11_method_12_code (2 : Nat) (Option.some FieldType.int)) ∈ lw_tbl := tl_5 _ (List.mem_of_getElem? (i := 141) rfl)
theorem ct_1105 : (Jvm.Cond.code ({ cls := "LostSheetsModel", name := "office", desc := "()I" } : Jvm.MethodName) prog_11_method_24_code (5 : Nat) (Option.some FieldType.int)) ∈ lw_tbl := tl_5 _ (List.mem_of_getElem? (i := 145) rfl)
theorem ct_1109 : (Jvm.Cond.code ({ cls := "LostSheetsModel", name := "isClause", desc := "(I)Z" } : Jvm.MethodName) prog_11_method_23_code (4 : Nat) (Option.some FieldType.boolean)) ∈ lw_tbl := tl_5 _ (List.mem_of_getElem? (i := 149) rfl)
theorem ct_1114 : (Jvm.Cond.code ({ cls := "LostSheetsModel", name := "isAll", desc := "(Ljava/lang/String;)Z" } : Jvm.MethodName) prog_11_method_16_code (3 : Nat) (Option.some FieldType.boolean)) ∈ lw_tbl := tl_5 _ (List.mem_of_getElem? (i := 154) rfl)
theorem ct_1120 : (Jvm.Cond.code ({ cls := "LostSheetsModel", name := "is", desc := "(I)Z" } : Jvm.MethodName) prog_11_method_13_code (2 : Nat) (Option.some FieldType.boolean)) ∈ lw_tbl := tl_5 _ (List.mem_of_getElem? (i := 160) rfl)
theorem ct_1126 : (Jvm.Cond.code ({ cls := "LostSheetsModel", name := "isNumber", desc := "()Z" } : Jvm.MethodName) prog_11_method_15_code (1 : Nat) (Option.some FieldType.boolean)) ∈ lw_tbl := tl_5 _ (List.mem_of_getElem? (i := 166) rfl)
theorem ct_1130 : (Jvm.Cond.code ({ cls := "LostSheetsModel", name := "isDigit", desc := "()Z" } : Jvm.MethodName) prog_11_method_14_code (1 : Nat) (Option.some FieldType.boolean)) ∈ lw_tbl := tl_5 _ (List.mem_of_getElem? (i := 170) rfl)
theorem ct_1134 : (Jvm.Cond.code ({ cls := "LostSheetsModel", name := "isE", desc := "()Z" } : Jvm.MethodName) prog_11_method_22_code (1 : Nat) (Option.some FieldType.boolean)) ∈ lw_tbl := tl_5 _ (List.mem_of_getElem? (i := 174) rfl)
theorem ct_1138 : (Jvm.Cond.code ({ cls := "LostSheetsModel", name := "isT", desc := "()Z" } : Jvm.MethodName) prog_11_method_21_code (1 : Nat) (Option.some FieldType.boolean)) ∈ lw_tbl := tl_5 _ (List.mem_of_getElem? (i := 178) rfl)
theorem ct_1142 : (Jvm.Cond.code ({ cls := "LostSheetsModel", name := "isF", desc := "()Z" } : Jvm.MethodName) prog_11_method_20_code (2 : Nat) (Option.some FieldType.boolean)) ∈ lw_tbl := tl_5 _ (List.mem_of_getElem? (i := 182) rfl)
theorem ct_1146 : (Jvm.Cond.code ({ cls := "LostSheetsModel", name := "isOpened", desc := "(I)Z" } : Jvm.MethodName) prog_11_method_19_code (2 : Nat) (Option.some FieldType.boolean)) ∈ lw_tbl := tl_5 _ (List.mem_of_getElem? (i := 186) rfl)
theorem ct_1150 : (Jvm.Cond.code ({ cls := "LostSheetsModel", name := "codes", desc := "(I)Z" } : Jvm.MethodName) prog_11_method_17_code (2 : Nat) (Option.some FieldType.boolean)) ∈ lw_tbl := tl_5 _ (List.mem_of_getElem? (i := 190) rfl)
theorem ct_1154 : (Jvm.Cond.code ({ cls := "LostSheetsModel", name := "isTest", desc := "()Z" } : Jvm.MethodName) prog_11_method_18_code (3 : Nat) (Option.some FieldType.boolean)) ∈ lw_tbl := tl_5 _ (List.mem_of_getElem? (i := 194) rfl)
theorem ct_1159 : (Jvm.Cond.code ({ cls := "java/lang/String", name := "indexOf", desc := "(I)I" } : Jvm.MethodName) prog_15_method_79_code (2 : Nat) (Option.some FieldType.int)) ∈ lw_tbl := tl_5 _ (List.mem_of_getElem? (i := 199) rfl)
theorem ct_1163 : (Jvm.Cond.code ({ cls := "java/lang/String", name := "indexOf", desc := "(II)I" } : Jvm.MethodName) prog_15_method_80_code (3 : Nat) (Option.some FieldType.int)) ∈ lw_tbl := tl_5 _ (List.mem_of_getElem? (i := 203) rfl)
theorem ct_1167 : (Jvm.Cond.code ({ cls := "java/lang/StringLatin1", name := "indexOf", desc := "([BIII)I" } : Jvm.MethodName) prog_16_method_22_code (4 : Nat) (Option.some FieldType.int)) ∈ lw_tbl := tl_5 _ (List.mem_of_getElem? (i := 207) rfl)
theorem ct_1170 : (Jvm.Cond.code ({ cls := "java/lang/StringLatin1", name := "canEncode", desc := "(I)Z" } : Jvm.MethodName) prog_16_method_4_code (1 : Nat) (Option.some FieldType.boolean)) ∈ lw_tbl := tl_5 _ (List.mem_of_getElem? (i := 210) rfl)
theorem ct_1175 : (Jvm.Cond.code ({ cls := "java/lang/StringLatin1", name := "indexOfChar", desc := "([BIII)I" } : Jvm.MethodName) prog_16_method_23_code (6 : Nat) (Option.some FieldType.int)) ∈ lw_tbl := tl_5 _ (List.mem_of_getElem? (i := 215) rfl)
theorem ct_1190 : (Jvm.Cond.code ({ cls := "java/lang/String", name := "checkBoundsBeginEnd", desc := "(III)V" } : Jvm.MethodName) prog_15_method_158_code (3 : Nat) (Option.none : Option FieldType)) ∈ lw_tbl := tl_5 _ (List.mem_of_getElem? (i := 230) rfl)
theorem ct_1193 : (Jvm.Cond.code ({ cls := "jdk/internal/util/Preconditions", name := "checkFromToIndex", desc := "(IIILjava/util/function/BiFunction;)I" } : Jvm.MethodName) prog_19_method_12_code (4 : Nat) (Option.some FieldType.int)) ∈ lw_tbl := tl_5 _ (List.mem_of_getElem? (i := 233) rfl)
theorem ct_1215 : (Jvm.Cond.code ({ cls := "LostSheetsModel", name := "told", desc := "(I)I" } : Jvm.MethodName) prog_11_method_38_code (2 : Nat) (Option.some FieldType.int)) ∈ lw_tbl := tl_6 _ (List.mem_of_getElem? (i := 15) rfl)
theorem ct_1219 : (Jvm.Cond.code ({ cls := "LostSheetsModel", name := "marksOf", desc := "(I)I" } : Jvm.MethodName) prog_11_method_49_code (5 : Nat) (Option.some FieldType.int)) ∈ lw_tbl := tl_6 _ (List.mem_of_getElem? (i := 19) rfl)
theorem ct_1223 : (Jvm.Cond.code ({ cls := "LostSheetsModel", name := "allDone", desc := "()I" } : Jvm.MethodName) prog_11_method_36_code (3 : Nat) (Option.some FieldType.int)) ∈ lw_tbl := tl_6 _ (List.mem_of_getElem? (i := 23) rfl)
theorem ct_1227 : (Jvm.Cond.code ({ cls := "LostSheetsModel", name := "whole", desc := "()I" } : Jvm.MethodName) prog_11_method_37_code (3 : Nat) (Option.some FieldType.int)) ∈ lw_tbl := tl_6 _ (List.mem_of_getElem? (i := 27) rfl)
theorem ct_1232 : (Jvm.Cond.code ({ cls := "LostSheetsModel", name := "pass", desc := "(I)I" } : Jvm.MethodName) prog_11_method_39_code (4 : Nat) (Option.some FieldType.int)) ∈ lw_tbl := tl_6 _ (List.mem_of_getElem? (i := 32) rfl)
theorem ct_1237 : (Jvm.Cond.code ({ cls := "LostSheetsModel", name := "on", desc := "(II)I" } : Jvm.MethodName) prog_11_method_40_code (4 : Nat) (Option.some FieldType.int)) ∈ lw_tbl := tl_6 _ (List.mem_of_getElem? (i := 37) rfl)
theorem ct_1241 : (Jvm.Cond.code ({ cls := "LostSheetsModel", name := "goesOn", desc := "(I)V" } : Jvm.MethodName) prog_11_method_35_code (3 : Nat) (Option.none : Option FieldType)) ∈ lw_tbl := tl_6 _ (List.mem_of_getElem? (i := 41) rfl)
theorem ct_1245 : (Jvm.Cond.code ({ cls := "LostSheetsModel", name := "best", desc := "(II)I" } : Jvm.MethodName) prog_11_method_46_code (3 : Nat) (Option.some FieldType.int)) ∈ lw_tbl := tl_6 _ (List.mem_of_getElem? (i := 45) rfl)
theorem ct_1249 : (Jvm.Cond.code ({ cls := "LostSheetsModel", name := "crew", desc := "(I)I" } : Jvm.MethodName) prog_11_method_45_code (7 : Nat) (Option.some FieldType.int)) ∈ lw_tbl := tl_6 _ (List.mem_of_getElem? (i := 49) rfl)
theorem ct_1253 : (Jvm.Cond.code ({ cls := "LostSheetsModel", name := "drawnBehind", desc := "(I)I" } : Jvm.MethodName) prog_11_method_43_code (3 : Nat) (Option.some FieldType.int)) ∈ lw_tbl := tl_6 _ (List.mem_of_getElem? (i := 53) rfl)
theorem ct_1258 : (Jvm.Cond.code ({ cls := "LostSheetsModel", name := "landing", desc := "(II)I" } : Jvm.MethodName) prog_11_method_44_code (8 : Nat) (Option.some FieldType.int)) ∈ lw_tbl := tl_6 _ (List.mem_of_getElem? (i := 58) rfl)
theorem ct_1262 : (Jvm.Cond.code ({ cls := "LostSheetsModel", name := "see", desc := "(III)I" } : Jvm.MethodName) prog_11_method_47_code (4 : Nat) (Option.some FieldType.int)) ∈ lw_tbl := tl_6 _ (List.mem_of_getElem? (i := 62) rfl)
theorem ct_1266 : (Jvm.Cond.code ({ cls := "LostSheetsModel", name := "can", desc := "(II)I" } : Jvm.MethodName) prog_11_method_51_code (7 : Nat) (Option.some FieldType.int)) ∈ lw_tbl := tl_6 _ (List.mem_of_getElem? (i := 66) rfl)
theorem ct_1270 : (Jvm.Cond.code ({ cls := "LostSheetsModel", name := "odds", desc := "(III)J" } : Jvm.MethodName) prog_11_method_53_code (7 : Nat) (Option.some FieldType.long)) ∈ lw_tbl := tl_6 _ (List.mem_of_getElem? (i := 70) rfl)
theorem ct_1275 : (Jvm.Cond.code ({ cls := "LostSheetsModel", name := "part", desc := "(JJI)J" } : Jvm.MethodName) prog_11_method_52_code (11 : Nat) (Option.some FieldType.long)) ∈ lw_tbl := tl_6 _ (List.mem_of_getElem? (i := 75) rfl)
theorem ct_1278 : (Jvm.Cond.code ({ cls := "java/lang/Math", name := "abs", desc := "(J)J" } : Jvm.MethodName) prog_14_method_61_code (2 : Nat) (Option.some FieldType.long)) ∈ lw_tbl := tl_6 _ (List.mem_of_getElem? (i := 78) rfl)
theorem ct_1282 : (Jvm.Cond.code ({ cls := "LostSheetsModel", name := "mean", desc := "(II)J" } : Jvm.MethodName) prog_11_method_55_code (4 : Nat) (Option.some FieldType.long)) ∈ lw_tbl := tl_6 _ (List.mem_of_getElem? (i := 82) rfl)
theorem ct_1286 : (Jvm.Cond.code ({ cls := "LostSheetsModel", name := "allDrew", desc := "()I" } : Jvm.MethodName) prog_11_method_54_code (3 : Nat) (Option.some FieldType.int)) ∈ lw_tbl := tl_6 _ (List.mem_of_getElem? (i := 86) rfl)
theorem ct_1290 : (Jvm.Cond.code ({ cls := "LostSheetsModel", name := "plan", desc := "(II)I" } : Jvm.MethodName) prog_11_method_56_code (3 : Nat) (Option.some FieldType.int)) ∈ lw_tbl := tl_6 _ (List.mem_of_getElem? (i := 90) rfl)
theorem ct_1294 : (Jvm.Cond.code ({ cls := "LostSheetsModel", name := "ends", desc := "(I)I" } : Jvm.MethodName) prog_11_method_57_code (3 : Nat) (Option.some FieldType.int)) ∈ lw_tbl := tl_6 _ (List.mem_of_getElem? (i := 94) rfl)
theorem ct_1298 : (Jvm.Cond.code ({ cls := "LostSheetsModel", name := "book", desc := "(II)I" } : Jvm.MethodName) prog_11_method_58_code (3 : Nat) (Option.some FieldType.int)) ∈ lw_tbl := tl_6 _ (List.mem_of_getElem? (i := 98) rfl)
theorem ct_1302 : (Jvm.Cond.code ({ cls := "LostSheetsModel", name := "looked", desc := "()I" } : Jvm.MethodName) prog_11_method_59_code (2 : Nat) (Option.some FieldType.int)) ∈ lw_tbl := tl_6 _ (List.mem_of_getElem? (i := 102) rfl)
theorem ct_1306 : (Jvm.Cond.code ({ cls := "LostSheetsModel", name := "judge", desc := "(II)I" } : Jvm.MethodName) prog_11_method_60_code (4 : Nat) (Option.some FieldType.int)) ∈ lw_tbl := tl_6 _ (List.mem_of_getElem? (i := 106) rfl)
theorem ct_1310 : (Jvm.Cond.code ({ cls := "LostSheetsModel", name := "image", desc := "()I" } : Jvm.MethodName) prog_11_method_63_code (1 : Nat) (Option.some FieldType.int)) ∈ lw_tbl := tl_6 _ (List.mem_of_getElem? (i := 110) rfl)
theorem ct_1314 : (Jvm.Cond.code ({ cls := "LostSheetsModel", name := "undo", desc := "()I" } : Jvm.MethodName) prog_11_method_64_code (1 : Nat) (Option.some FieldType.int)) ∈ lw_tbl := tl_6 _ (List.mem_of_getElem? (i := 114) rfl)
theorem ct_1318 : (Jvm.Cond.code ({ cls := "LostSheetsModel", name := "act", desc := "(III)I" } : Jvm.MethodName) prog_11_method_70_code (5 : Nat) (Option.some FieldType.int)) ∈ lw_tbl := tl_6 _ (List.mem_of_getElem? (i := 118) rfl)
theorem ct_1322 : (Jvm.Cond.code ({ cls := "LostSheetsModel", name := "weeps", desc := "(III)I" } : Jvm.MethodName) prog_11_method_67_code (4 : Nat) (Option.some FieldType.int)) ∈ lw_tbl := tl_6 _ (List.mem_of_getElem? (i := 122) rfl)
theorem ct_1326 : (Jvm.Cond.code ({ cls := "LostSheetsModel", name := "ran", desc := "(I)V" } : Jvm.MethodName) prog_11_method_65_code (2 : Nat) (Option.none : Option FieldType)) ∈ lw_tbl := tl_6 _ (List.mem_of_getElem? (i := 126) rfl)
theorem ct_1329 : (Jvm.Cond.code ({ cls := "LostSheetsModel", name := "above", desc := "(I)I" } : Jvm.MethodName) prog_11_method_66_code (1 : Nat) (Option.some FieldType.int)) ∈ lw_tbl := tl_6 _ (List.mem_of_getElem? (i := 129) rfl)
theorem ct_1333 : (Jvm.Cond.code ({ cls := "LostSheetsModel", name := "draws", desc := "(III)I" } : Jvm.MethodName) prog_11_method_68_code (5 : Nat) (Option.some FieldType.int)) ∈ lw_tbl := tl_6 _ (List.mem_of_getElem? (i := 133) rfl)
theorem ct_1337 : (Jvm.Cond.code ({ cls := "LostSheetsModel", name := "tells", desc := "(III)I" } : Jvm.MethodName) prog_11_method_69_code (5 : Nat) (Option.some FieldType.int)) ∈ lw_tbl := tl_6 _ (List.mem_of_getElem? (i := 137) rfl)
theorem ct_1341 : (Jvm.Cond.code ({ cls := "LostSheetsModel", name := "trace", desc := "(I)I" } : Jvm.MethodName) prog_11_method_71_code (2 : Nat) (Option.some FieldType.int)) ∈ lw_tbl := tl_6 _ (List.mem_of_getElem? (i := 141) rfl)
theorem ct_1345 : (Jvm.Cond.code ({ cls := "LostSheetsModel", name := "taken", desc := "(II)I" } : Jvm.MethodName) prog_11_method_72_code (4 : Nat) (Option.some FieldType.int)) ∈ lw_tbl := tl_6 _ (List.mem_of_getElem? (i := 145) rfl)
theorem ct_1349 : (Jvm.Cond.code ({ cls := "LostSheetsModel", name := "count", desc := "(I)I" } : Jvm.MethodName) prog_11_method_73_code (2 : Nat) (Option.some FieldType.int)) ∈ lw_tbl := tl_6 _ (List.mem_of_getElem? (i := 149) rfl)
theorem ct_1353 : (Jvm.Cond.code ({ cls := "LostSheetsModel", name := "tape", desc := "(III)I" } : Jvm.MethodName) prog_11_method_75_code (5 : Nat) (Option.some FieldType.int)) ∈ lw_tbl := tl_6 _ (List.mem_of_getElem? (i := 153) rfl)
theorem ct_1356 : (Jvm.Cond.code ({ cls := "LostSheetsModel", name := "isTape", desc := "(I)Z" } : Jvm.MethodName) prog_11_method_74_code (1 : Nat) (Option.some FieldType.boolean)) ∈ lw_tbl := tl_6 _ (List.mem_of_getElem? (i := 156) rfl)
theorem ct_1360 : (Jvm.Cond.code ({ cls := "LostSheetsModel", name := "item", desc := "(IIJ)I" } : Jvm.MethodName) prog_11_method_77_code (5 : Nat) (Option.some FieldType.int)) ∈ lw_tbl := tl_6 _ (List.mem_of_getElem? (i := 160) rfl)
theorem ct_1363 : (Jvm.Cond.code ({ cls := "LostSheetsModel", name := "kept", desc := "(IJ)J" } : Jvm.MethodName) prog_11_method_76_code (3 : Nat) (Option.some FieldType.long)) ∈ lw_tbl := tl_6 _ (List.mem_of_getElem? (i := 163) rfl)
theorem ct_1367 : (Jvm.Cond.code ({ cls := "LostSheetsModel", name := "read", desc := "(II)J" } : Jvm.MethodName) prog_11_method_78_code (3 : Nat) (Option.some FieldType.long)) ∈ lw_tbl := tl_6 _ (List.mem_of_getElem? (i := 167) rfl)
theorem ct_1371 : (Jvm.Cond.code ({ cls := "LostSheetsModel", name := "shift", desc := "(IIIII)I" } : Jvm.MethodName) prog_11_method_79_code (7 : Nat) (Option.some FieldType.int)) ∈ lw_tbl := tl_6 _ (List.mem_of_getElem? (i := 171) rfl)
theorem ct_132 : (Jvm.Cond.methodLink "LostSheets$ByHand" (3 : Nat) ({ cls := "java/lang/Object", name := "<init>", desc := "()V" } : Jvm.MethodName)) ∈ lw_tbl := tl_1 _ (List.mem_of_getElem? (i := 132) rfl)
theorem ct_135 : (Jvm.Cond.methodLink "LostSheets$ByHand" (11 : Nat) ({ cls := "LostSheets$Rows", name := "<init>", desc := "(I)V" } : Jvm.MethodName)) ∈ lw_tbl := tl_1 _ (List.mem_of_getElem? (i := 135) rfl)
theorem ct_136 : (Jvm.Cond.instanceMethod ({ cls := "LostSheets$Rows", name := "<init>", desc := "(I)V" } : Jvm.MethodName)) ∈ lw_tbl := tl_1 _ (List.mem_of_getElem? (i := 136) rfl)
theorem ct_414 : (Jvm.Cond.methodLink "LostSheets$ByHand" (41 : Nat) ({ cls := "java/lang/Math", name := "max", desc := "(II)I" } : Jvm.MethodName)) ∈ lw_tbl := tl_2 _ (List.mem_of_getElem? (i := 174) rfl)
theorem ct_140 : (Jvm.Cond.static ({ cls := "java/lang/Math", name := "max", desc := "(II)I" } : Jvm.MethodName)) ∈ lw_tbl := tl_1 _ (List.mem_of_getElem? (i := 140) rfl)
theorem ct_763 : (Jvm.Cond.methodLink "LostSheets$ByHand" (26 : Nat) ({ cls := "LostSheets$Rows", name := "copyFrom", desc := "(LLostSheets$Rows;)V" } : Jvm.MethodName)) ∈ lw_tbl := tl_4 _ (List.mem_of_getElem? (i := 43) rfl)
theorem ct_764 : (Jvm.Cond.instanceMethod ({ cls := "LostSheets$Rows", name := "copyFrom", desc := "(LLostSheets$Rows;)V" } : Jvm.MethodName)) ∈ lw_tbl := tl_4 _ (List.mem_of_getElem? (i := 44) rfl)
theorem ct_765 : (Jvm.Cond.selects "LostSheets$Rows" ({ cls := "LostSheets$Rows", name := "copyFrom", desc := "(LLostSheets$Rows;)V" } : Jvm.MethodName) ({ cls := "LostSheets$Rows", name := "copyFrom", desc := "(LLostSheets$Rows;)V" } : Jvm.MethodName)) ∈ lw_tbl := tl_4 _ (List.mem_of_getElem? (i := 45) rfl)
theorem ct_39 : (Jvm.Cond.methodLink "LostSheets$Drawer" (3 : Nat) ({ cls := "java/lang/Object", name := "<init>", desc := "()V" } : Jvm.MethodName)) ∈ lw_tbl := tl_1 _ (List.mem_of_getElem? (i := 39) rfl)
theorem ct_399 : (Jvm.Cond.methodLink "LostSheets$Drawer" (44 : Nat) ({ cls := "java/lang/System", name := "arraycopy", desc := "(Ljava/lang/Object;ILjava/lang/Object;II)V" } : Jvm.MethodName)) ∈ lw_tbl := tl_2 _ (List.mem_of_getElem? (i := 159) rfl)
theorem ct_32 : (Jvm.Cond.methodLink "LostSheets$Land" (3 : Nat) ({ cls := "java/lang/Object", name := "<init>", desc := "()V" } : Jvm.MethodName)) ∈ lw_tbl := tl_1 _ (List.mem_of_getElem? (i := 32) rfl)
theorem ct_36 : (Jvm.Cond.methodLink "LostSheets$Land" (46 : Nat) ({ cls := "LostSheets$Drawer", name := "<init>", desc := "(I)V" } : Jvm.MethodName)) ∈ lw_tbl := tl_1 _ (List.mem_of_getElem? (i := 36) rfl)
theorem ct_37 : (Jvm.Cond.instanceMethod ({ cls := "LostSheets$Drawer", name := "<init>", desc := "(I)V" } : Jvm.MethodName)) ∈ lw_tbl := tl_1 _ (List.mem_of_getElem? (i := 37) rfl)
theorem ct_309 : (Jvm.Cond.methodLink "LostSheets$Land" (59 : Nat) ({ cls := "LostSheets$Drawer", name := "begins", desc := "(III)V" } : Jvm.MethodName)) ∈ lw_tbl := tl_2 _ (List.mem_of_getElem? (i := 69) rfl)
theorem ct_310 : (Jvm.Cond.instanceMethod ({ cls := "LostSheets$Drawer", name := "begins", desc := "(III)V" } : Jvm.MethodName)) ∈ lw_tbl := tl_2 _ (List.mem_of_getElem? (i := 70) rfl)
theorem ct_311 : (Jvm.Cond.selects "LostSheets$Drawer" ({ cls := "LostSheets$Drawer", name := "begins", desc := "(III)V" } : Jvm.MethodName) ({ cls := "LostSheets$Drawer", name := "begins", desc := "(III)V" } : Jvm.MethodName)) ∈ lw_tbl := tl_2 _ (List.mem_of_getElem? (i := 71) rfl)
theorem ct_325 : (Jvm.Cond.methodLink "LostSheets$Land" (109 : Nat) ({ cls := "LostSheets$Land", name := "answersOf", desc := "(LLostSheets$Drawer;)[I" } : Jvm.MethodName)) ∈ lw_tbl := tl_2 _ (List.mem_of_getElem? (i := 85) rfl)
theorem ct_327 : (Jvm.Cond.instanceMethod ({ cls := "LostSheets$Land", name := "answersOf", desc := "(LLostSheets$Drawer;)[I" } : Jvm.MethodName)) ∈ lw_tbl := tl_2 _ (List.mem_of_getElem? (i := 87) rfl)
theorem cts_0 : Cond.selects "LostSheets$Land" ⟨"LostSheets$Land", "answersOf", "(LLostSheets$Drawer;)[I"⟩ ⟨"LostSheets$Land", "answersOf", "(LLostSheets$Drawer;)[I"⟩ ∈ lw_tbl := List.mem_append_left _ (List.mem_map.mpr ⟨(⟨"LostSheets$Land", "answersOf", "(LLostSheets$Drawer;)[I"⟩, _), List.mem_of_getElem? (i := 0) rfl, rfl⟩)
theorem ct_329 : (Jvm.Cond.methodLink "LostSheets$Land" (105 : Nat) ({ cls := "LostSheets$Land", name := "markAt", desc := "(I)I" } : Jvm.MethodName)) ∈ lw_tbl := tl_2 _ (List.mem_of_getElem? (i := 89) rfl)
theorem ct_330 : (Jvm.Cond.instanceMethod ({ cls := "LostSheets$Land", name := "markAt", desc := "(I)I" } : Jvm.MethodName)) ∈ lw_tbl := tl_2 _ (List.mem_of_getElem? (i := 90) rfl)
theorem ct_331 : (Jvm.Cond.selects "LostSheets$Land" ({ cls := "LostSheets$Land", name := "markAt", desc := "(I)I" } : Jvm.MethodName) ({ cls := "LostSheets$Land", name := "markAt", desc := "(I)I" } : Jvm.MethodName)) ∈ lw_tbl := tl_2 _ (List.mem_of_getElem? (i := 91) rfl)
theorem ct_333 : (Jvm.Cond.methodLink "LostSheets$Land" (113 : Nat) ({ cls := "LostSheets$Office", name := "turnsBy", desc := "([I)I" } : Jvm.MethodName)) ∈ lw_tbl := tl_2 _ (List.mem_of_getElem? (i := 93) rfl)
theorem ct_334 : (Jvm.Cond.instanceMethod ({ cls := "LostSheets$Office", name := "turnsBy", desc := "([I)I" } : Jvm.MethodName)) ∈ lw_tbl := tl_2 _ (List.mem_of_getElem? (i := 94) rfl)
theorem ct_335 : (Jvm.Cond.selects "LostSheets$Office" ({ cls := "LostSheets$Office", name := "turnsBy", desc := "([I)I" } : Jvm.MethodName) ({ cls := "LostSheets$Office", name := "turnsBy", desc := "([I)I" } : Jvm.MethodName)) ∈ lw_tbl := tl_2 _ (List.mem_of_getElem? (i := 95) rfl)
theorem ct_340 : (Jvm.Cond.methodLink "LostSheets$Land" (117 : Nat) ({ cls := "LostSheets$Land", name := "othersWith", desc := "(LLostSheets$Drawer;)I" } : Jvm.MethodName)) ∈ lw_tbl := tl_2 _ (List.mem_of_getElem? (i := 100) rfl)
theorem ct_342 : (Jvm.Cond.instanceMethod ({ cls := "LostSheets$Land", name := "othersWith", desc := "(LLostSheets$Drawer;)I" } : Jvm.MethodName)) ∈ lw_tbl := tl_2 _ (List.mem_of_getElem? (i := 102) rfl)
theorem cts_1 : Cond.selects "LostSheets$Land" ⟨"LostSheets$Land", "othersWith", "(LLostSheets$Drawer;)I"⟩ ⟨"LostSheets$Land", "othersWith", "(LLostSheets$Drawer;)I"⟩ ∈ lw_tbl := List.mem_append_left _ (List.mem_map.mpr ⟨(⟨"LostSheets$Land", "othersWith", "(LLostSheets$Drawer;)I"⟩, _), List.mem_of_getElem? (i := 1) rfl, rfl⟩)
theorem ct_344 : (Jvm.Cond.methodLink "LostSheets$Land" (124 : Nat) ({ cls := "java/lang/Math", name := "floorMod", desc := "(II)I" } : Jvm.MethodName)) ∈ lw_tbl := tl_2 _ (List.mem_of_getElem? (i := 104) rfl)
theorem ct_345 : (Jvm.Cond.static ({ cls := "java/lang/Math", name := "floorMod", desc := "(II)I" } : Jvm.MethodName)) ∈ lw_tbl := tl_2 _ (List.mem_of_getElem? (i := 105) rfl)
theorem ct_351 : (Jvm.Cond.methodLink "LostSheets$Land" (127 : Nat) ({ cls := "LostSheets$Land", name := "feelOf", desc := "(LLostSheets$Drawer;)I" } : Jvm.MethodName)) ∈ lw_tbl := tl_2 _ (List.mem_of_getElem? (i := 111) rfl)
theorem ct_322 : (Jvm.Cond.instanceMethod ({ cls := "LostSheets$Land", name := "feelOf", desc := "(LLostSheets$Drawer;)I" } : Jvm.MethodName)) ∈ lw_tbl := tl_2 _ (List.mem_of_getElem? (i := 82) rfl)
theorem ct_323 : (Jvm.Cond.selects "LostSheets$Land" ({ cls := "LostSheets$Land", name := "feelOf", desc := "(LLostSheets$Drawer;)I" } : Jvm.MethodName) ({ cls := "LostSheets$Land", name := "feelOf", desc := "(LLostSheets$Drawer;)I" } : Jvm.MethodName)) ∈ lw_tbl := tl_2 _ (List.mem_of_getElem? (i := 83) rfl)
theorem ct_356 : (Jvm.Cond.methodLink "LostSheets$Land" (163 : Nat) ({ cls := "LostSheets$Land", name := "endBySheet", desc := "(LLostSheets$Drawer;I)I" } : Jvm.MethodName)) ∈ lw_tbl := tl_2 _ (List.mem_of_getElem? (i := 116) rfl)
theorem ct_358 : (Jvm.Cond.instanceMethod ({ cls := "LostSheets$Land", name := "endBySheet", desc := "(LLostSheets$Drawer;I)I" } : Jvm.MethodName)) ∈ lw_tbl := tl_2 _ (List.mem_of_getElem? (i := 118) rfl)
theorem cts_2 : Cond.selects "LostSheets$Land" ⟨"LostSheets$Land", "endBySheet", "(LLostSheets$Drawer;I)I"⟩ ⟨"LostSheets$Land", "endBySheet", "(LLostSheets$Drawer;I)I"⟩ ∈ lw_tbl := List.mem_append_left _ (List.mem_map.mpr ⟨(⟨"LostSheets$Land", "endBySheet", "(LLostSheets$Drawer;I)I"⟩, _), List.mem_of_getElem? (i := 2) rfl, rfl⟩)
theorem ct_360 : (Jvm.Cond.methodLink "LostSheets$Land" (141 : Nat) ({ cls := "LostSheets$Land", name := "stepFrom", desc := "(II)I" } : Jvm.MethodName)) ∈ lw_tbl := tl_2 _ (List.mem_of_getElem? (i := 120) rfl)
theorem ct_361 : (Jvm.Cond.static ({ cls := "LostSheets$Land", name := "stepFrom", desc := "(II)I" } : Jvm.MethodName)) ∈ lw_tbl := tl_2 _ (List.mem_of_getElem? (i := 121) rfl)
theorem ct_371 : (Jvm.Cond.methodLink "LostSheets$Land" (167 : Nat) ({ cls := "LostSheets$Land", name := "hereOf", desc := "(LLostSheets$Drawer;)I" } : Jvm.MethodName)) ∈ lw_tbl := tl_2 _ (List.mem_of_getElem? (i := 131) rfl)
theorem ct_364 : (Jvm.Cond.instanceMethod ({ cls := "LostSheets$Land", name := "hereOf", desc := "(LLostSheets$Drawer;)I" } : Jvm.MethodName)) ∈ lw_tbl := tl_2 _ (List.mem_of_getElem? (i := 124) rfl)
theorem ct_365 : (Jvm.Cond.selects "LostSheets$Land" ({ cls := "LostSheets$Land", name := "hereOf", desc := "(LLostSheets$Drawer;)I" } : Jvm.MethodName) ({ cls := "LostSheets$Land", name := "hereOf", desc := "(LLostSheets$Drawer;)I" } : Jvm.MethodName)) ∈ lw_tbl := tl_2 _ (List.mem_of_getElem? (i := 125) rfl)
theorem ct_372 : (Jvm.Cond.methodLink "LostSheets$Land" (170 : Nat) ({ cls := "LostSheets$Land", name := "mostAtOneMark", desc := "(II)I" } : Jvm.MethodName)) ∈ lw_tbl := tl_2 _ (List.mem_of_getElem? (i := 132) rfl)
theorem ct_374 : (Jvm.Cond.instanceMethod ({ cls := "LostSheets$Land", name := "mostAtOneMark", desc := "(II)I" } : Jvm.MethodName)) ∈ lw_tbl := tl_2 _ (List.mem_of_getElem? (i := 134) rfl)
theorem cts_3 : Cond.selects "LostSheets$Land" ⟨"LostSheets$Land", "mostAtOneMark", "(II)I"⟩ ⟨"LostSheets$Land", "mostAtOneMark", "(II)I"⟩ ∈ lw_tbl := List.mem_append_left _ (List.mem_map.mpr ⟨(⟨"LostSheets$Land", "mostAtOneMark", "(II)I"⟩, _), List.mem_of_getElem? (i := 3) rfl, rfl⟩)
theorem ct_376 : (Jvm.Cond.methodLinkNest "LostSheets$Land" (67 : Nat) ({ cls := "LostSheets", name := "isMark", desc := "(I)Z" } : Jvm.MethodName) "LostSheets") ∈ lw_tbl := tl_2 _ (List.mem_of_getElem? (i := 136) rfl)
theorem ct_377 : (Jvm.Cond.static ({ cls := "LostSheets", name := "isMark", desc := "(I)Z" } : Jvm.MethodName)) ∈ lw_tbl := tl_2 _ (List.mem_of_getElem? (i := 137) rfl)
theorem ct_379 : (Jvm.Cond.methodLink "LostSheets$Land" (173 : Nat) ({ cls := "java/lang/Math", name := "max", desc := "(II)I" } : Jvm.MethodName)) ∈ lw_tbl := tl_2 _ (List.mem_of_getElem? (i := 139) rfl)
theorem ct_392 : (Jvm.Cond.methodLink "LostSheets$Land" (49 : Nat) ({ cls := "java/lang/System", name := "arraycopy", desc := "(Ljava/lang/Object;ILjava/lang/Object;II)V" } : Jvm.MethodName)) ∈ lw_tbl := tl_2 _ (List.mem_of_getElem? (i := 152) rfl)
theorem ct_395 : (Jvm.Cond.methodLink "LostSheets$Land" (55 : Nat) ({ cls := "LostSheets$Drawer", name := "copyFrom", desc := "(LLostSheets$Drawer;)V" } : Jvm.MethodName)) ∈ lw_tbl := tl_2 _ (List.mem_of_getElem? (i := 155) rfl)
theorem ct_396 : (Jvm.Cond.instanceMethod ({ cls := "LostSheets$Drawer", name := "copyFrom", desc := "(LLostSheets$Drawer;)V" } : Jvm.MethodName)) ∈ lw_tbl := tl_2 _ (List.mem_of_getElem? (i := 156) rfl)
theorem ct_397 : (Jvm.Cond.selects "LostSheets$Drawer" ({ cls := "LostSheets$Drawer", name := "copyFrom", desc := "(LLostSheets$Drawer;)V" } : Jvm.MethodName) ({ cls := "LostSheets$Drawer", name := "copyFrom", desc := "(LLostSheets$Drawer;)V" } : Jvm.MethodName)) ∈ lw_tbl := tl_2 _ (List.mem_of_getElem? (i := 157) rfl)
theorem ct_404 : (Jvm.Cond.methodLink "LostSheets$Land" (70 : Nat) ({ cls := "LostSheets$Land", name := "drawerAt", desc := "(I)LLostSheets$Drawer;" } : Jvm.MethodName)) ∈ lw_tbl := tl_2 _ (List.mem_of_getElem? (i := 164) rfl)
theorem ct_318 : (Jvm.Cond.instanceMethod ({ cls := "LostSheets$Land", name := "drawerAt", desc := "(I)LLostSheets$Drawer;" } : Jvm.MethodName)) ∈ lw_tbl := tl_2 _ (List.mem_of_getElem? (i := 78) rfl)
theorem ct_319 : (Jvm.Cond.selects "LostSheets$Land" ({ cls := "LostSheets$Land", name := "drawerAt", desc := "(I)LLostSheets$Drawer;" } : Jvm.MethodName) ({ cls := "LostSheets$Land", name := "drawerAt", desc := "(I)LLostSheets$Drawer;" } : Jvm.MethodName)) ∈ lw_tbl := tl_2 _ (List.mem_of_getElem? (i := 79) rfl)
theorem ct_405 : (Jvm.Cond.methodLinkNest "LostSheets$Land" (63 : Nat) ({ cls := "LostSheets", name := "isCell", desc := "(I)Z" } : Jvm.MethodName) "LostSheets") ∈ lw_tbl := tl_2 _ (List.mem_of_getElem? (i := 165) rfl)
theorem ct_300 : (Jvm.Cond.static ({ cls := "LostSheets", name := "isCell", desc := "(I)Z" } : Jvm.MethodName)) ∈ lw_tbl := tl_2 _ (List.mem_of_getElem? (i := 60) rfl)
theorem ct_428 : (Jvm.Cond.methodLink "LostSheets$Land" (151 : Nat) ({ cls := "LostSheets$Land", name := "anyGoes", desc := "()Z" } : Jvm.MethodName)) ∈ lw_tbl := tl_2 _ (List.mem_of_getElem? (i := 188) rfl)
theorem ct_430 : (Jvm.Cond.instanceMethod ({ cls := "LostSheets$Land", name := "anyGoes", desc := "()Z" } : Jvm.MethodName)) ∈ lw_tbl := tl_2 _ (List.mem_of_getElem? (i := 190) rfl)
theorem cts_8 : Cond.selects "LostSheets$Land" ⟨"LostSheets$Land", "anyGoes", "()Z"⟩ ⟨"LostSheets$Land", "anyGoes", "()Z"⟩ ∈ lw_tbl := List.mem_append_left _ (List.mem_map.mpr ⟨(⟨"LostSheets$Land", "anyGoes", "()Z"⟩, _), List.mem_of_getElem? (i := 8) rfl, rfl⟩)
theorem ct_432 : (Jvm.Cond.methodLink "LostSheets$Land" (130 : Nat) ({ cls := "LostSheets$Drawer", name := "goes", desc := "()Z" } : Jvm.MethodName)) ∈ lw_tbl := tl_2 _ (List.mem_of_getElem? (i := 192) rfl)
theorem ct_433 : (Jvm.Cond.instanceMethod ({ cls := "LostSheets$Drawer", name := "goes", desc := "()Z" } : Jvm.MethodName)) ∈ lw_tbl := tl_2 _ (List.mem_of_getElem? (i := 193) rfl)
theorem ct_434 : (Jvm.Cond.selects "LostSheets$Drawer" ({ cls := "LostSheets$Drawer", name := "goes", desc := "()Z" } : Jvm.MethodName) ({ cls := "LostSheets$Drawer", name := "goes", desc := "()Z" } : Jvm.MethodName)) ∈ lw_tbl := tl_2 _ (List.mem_of_getElem? (i := 194) rfl)
theorem ct_436 : (Jvm.Cond.methodLink "LostSheets$Land" (154 : Nat) ({ cls := "LostSheets$Land", name := "hourGoes", desc := "()V" } : Jvm.MethodName)) ∈ lw_tbl := tl_2 _ (List.mem_of_getElem? (i := 196) rfl)
theorem ct_437 : (Jvm.Cond.instanceMethod ({ cls := "LostSheets$Land", name := "hourGoes", desc := "()V" } : Jvm.MethodName)) ∈ lw_tbl := tl_2 _ (List.mem_of_getElem? (i := 197) rfl)
theorem ct_438 : (Jvm.Cond.selects "LostSheets$Land" ({ cls := "LostSheets$Land", name := "hourGoes", desc := "()V" } : Jvm.MethodName) ({ cls := "LostSheets$Land", name := "hourGoes", desc := "()V" } : Jvm.MethodName)) ∈ lw_tbl := tl_2 _ (List.mem_of_getElem? (i := 198) rfl)
theorem ct_440 : (Jvm.Cond.methodLink "LostSheets$Land" (134 : Nat) ({ cls := "LostSheets$Land", name := "know", desc := "()I" } : Jvm.MethodName)) ∈ lw_tbl := tl_2 _ (List.mem_of_getElem? (i := 200) rfl)
theorem ct_441 : (Jvm.Cond.instanceMethod ({ cls := "LostSheets$Land", name := "know", desc := "()I" } : Jvm.MethodName)) ∈ lw_tbl := tl_2 _ (List.mem_of_getElem? (i := 201) rfl)
theorem ct_442 : (Jvm.Cond.selects "LostSheets$Land" ({ cls := "LostSheets$Land", name := "know", desc := "()I" } : Jvm.MethodName) ({ cls := "LostSheets$Land", name := "know", desc := "()I" } : Jvm.MethodName)) ∈ lw_tbl := tl_2 _ (List.mem_of_getElem? (i := 202) rfl)
theorem ct_444 : (Jvm.Cond.methodLink "LostSheets$Land" (137 : Nat) ({ cls := "LostSheets$Land", name := "stepsAndDraws", desc := "(LLostSheets$Drawer;II)V" } : Jvm.MethodName)) ∈ lw_tbl := tl_2 _ (List.mem_of_getElem? (i := 204) rfl)
theorem ct_446 : (Jvm.Cond.instanceMethod ({ cls := "LostSheets$Land", name := "stepsAndDraws", desc := "(LLostSheets$Drawer;II)V" } : Jvm.MethodName)) ∈ lw_tbl := tl_2 _ (List.mem_of_getElem? (i := 206) rfl)
theorem cts_9 : Cond.selects "LostSheets$Land" ⟨"LostSheets$Land", "stepsAndDraws", "(LLostSheets$Drawer;II)V"⟩ ⟨"LostSheets$Land", "stepsAndDraws", "(LLostSheets$Drawer;II)V"⟩ ∈ lw_tbl := List.mem_append_left _ (List.mem_map.mpr ⟨(⟨"LostSheets$Land", "stepsAndDraws", "(LLostSheets$Drawer;II)V"⟩, _), List.mem_of_getElem? (i := 9) rfl, rfl⟩)
theorem ct_448 : (Jvm.Cond.methodLink "LostSheets$Land" (144 : Nat) ({ cls := "LostSheets$Drawer", name := "writes", desc := "(II)V" } : Jvm.MethodName)) ∈ lw_tbl := tl_2 _ (List.mem_of_getElem? (i := 208) rfl)
theorem ct_449 : (Jvm.Cond.instanceMethod ({ cls := "LostSheets$Drawer", name := "writes", desc := "(II)V" } : Jvm.MethodName)) ∈ lw_tbl := tl_2 _ (List.mem_of_getElem? (i := 209) rfl)
theorem ct_450 : (Jvm.Cond.selects "LostSheets$Drawer" ({ cls := "LostSheets$Drawer", name := "writes", desc := "(II)V" } : Jvm.MethodName) ({ cls := "LostSheets$Drawer", name := "writes", desc := "(II)V" } : Jvm.MethodName)) ∈ lw_tbl := tl_2 _ (List.mem_of_getElem? (i := 210) rfl)
theorem ct_452 : (Jvm.Cond.methodLink "LostSheets$Land" (148 : Nat) ({ cls := "LostSheets$Drawer", name := "rowsWith", desc := "(I)I" } : Jvm.MethodName)) ∈ lw_tbl := tl_2 _ (List.mem_of_getElem? (i := 212) rfl)
theorem ct_453 : (Jvm.Cond.instanceMethod ({ cls := "LostSheets$Drawer", name := "rowsWith", desc := "(I)I" } : Jvm.MethodName)) ∈ lw_tbl := tl_2 _ (List.mem_of_getElem? (i := 213) rfl)
theorem ct_454 : (Jvm.Cond.selects "LostSheets$Drawer" ({ cls := "LostSheets$Drawer", name := "rowsWith", desc := "(I)I" } : Jvm.MethodName) ({ cls := "LostSheets$Drawer", name := "rowsWith", desc := "(I)I" } : Jvm.MethodName)) ∈ lw_tbl := tl_2 _ (List.mem_of_getElem? (i := 214) rfl)
theorem ct_631 : (Jvm.Cond.methodLink "LostSheets$Land" (90 : Nat) ({ cls := "java/lang/Math", name := "min", desc := "(II)I" } : Jvm.MethodName)) ∈ lw_tbl := tl_3 _ (List.mem_of_getElem? (i := 151) rfl)
theorem ct_632 : (Jvm.Cond.static ({ cls := "java/lang/Math", name := "min", desc := "(II)I" } : Jvm.MethodName)) ∈ lw_tbl := tl_3 _ (List.mem_of_getElem? (i := 152) rfl)
theorem ct_226 : (Jvm.Cond.methodLink "LostSheets$Office" (3 : Nat) ({ cls := "java/lang/Object", name := "<init>", desc := "()V" } : Jvm.MethodName)) ∈ lw_tbl := tl_1 _ (List.mem_of_getElem? (i := 226) rfl)
theorem ct_337 : (Jvm.Cond.methodLink "LostSheets$Office" (25 : Nat) ({ cls := "LostSheets$Office", name := "holds", desc := "([III)I" } : Jvm.MethodName)) ∈ lw_tbl := tl_2 _ (List.mem_of_getElem? (i := 97) rfl)
theorem ct_338 : (Jvm.Cond.static ({ cls := "LostSheets$Office", name := "holds", desc := "([III)I" } : Jvm.MethodName)) ∈ lw_tbl := tl_2 _ (List.mem_of_getElem? (i := 98) rfl)
theorem ct_138 : (Jvm.Cond.methodLink "LostSheets$Rows" (1 : Nat) ({ cls := "java/lang/Object", name := "<init>", desc := "()V" } : Jvm.MethodName)) ∈ lw_tbl := tl_1 _ (List.mem_of_getElem? (i := 138) rfl)
theorem ct_139 : (Jvm.Cond.methodLink "LostSheets$Rows" (13 : Nat) ({ cls := "java/lang/Math", name := "max", desc := "(II)I" } : Jvm.MethodName)) ∈ lw_tbl := tl_1 _ (List.mem_of_getElem? (i := 139) rfl)
theorem ct_767 : (Jvm.Cond.methodLink "LostSheets$Rows" (32 : Nat) ({ cls := "LostSheets$Rows", name := "append", desc := "(III)Z" } : Jvm.MethodName)) ∈ lw_tbl := tl_4 _ (List.mem_of_getElem? (i := 47) rfl)
theorem ct_673 : (Jvm.Cond.instanceMethod ({ cls := "LostSheets$Rows", name := "append", desc := "(III)Z" } : Jvm.MethodName)) ∈ lw_tbl := tl_3 _ (List.mem_of_getElem? (i := 193) rfl)
theorem ct_674 : (Jvm.Cond.selects "LostSheets$Rows" ({ cls := "LostSheets$Rows", name := "append", desc := "(III)Z" } : Jvm.MethodName) ({ cls := "LostSheets$Rows", name := "append", desc := "(III)Z" } : Jvm.MethodName)) ∈ lw_tbl := tl_3 _ (List.mem_of_getElem? (i := 194) rfl)
theorem ct_246 : (Jvm.Cond.methodLink "LostSheets$Tape" (3 : Nat) ({ cls := "java/lang/Object", name := "<init>", desc := "()V" } : Jvm.MethodName)) ∈ lw_tbl := tl_2 _ (List.mem_of_getElem? (i := 6) rfl)
theorem ct_184 : (Jvm.Cond.methodLink "LostSheets$Text" (3 : Nat) ({ cls := "java/lang/Object", name := "<init>", desc := "()V" } : Jvm.MethodName)) ∈ lw_tbl := tl_1 _ (List.mem_of_getElem? (i := 184) rfl)
theorem ct_497 : (Jvm.Cond.methodLink "LostSheets$Text" (29 : Nat) ({ cls := "LostSheets$Office", name := "clear", desc := "()V" } : Jvm.MethodName)) ∈ lw_tbl := tl_3 _ (List.mem_of_getElem? (i := 17) rfl)
theorem ct_498 : (Jvm.Cond.instanceMethod ({ cls := "LostSheets$Office", name := "clear", desc := "()V" } : Jvm.MethodName)) ∈ lw_tbl := tl_3 _ (List.mem_of_getElem? (i := 18) rfl)
theorem ct_499 : (Jvm.Cond.selects "LostSheets$Office" ({ cls := "LostSheets$Office", name := "clear", desc := "()V" } : Jvm.MethodName) ({ cls := "LostSheets$Office", name := "clear", desc := "()V" } : Jvm.MethodName)) ∈ lw_tbl := tl_3 _ (List.mem_of_getElem? (i := 19) rfl)
theorem ct_501 : (Jvm.Cond.methodLink "LostSheets$Text" (34 : Nat) ({ cls := "LostSheets$Text", name := "clause", desc := "()Z" } : Jvm.MethodName)) ∈ lw_tbl := tl_3 _ (List.mem_of_getElem? (i := 21) rfl)
theorem ct_503 : (Jvm.Cond.instanceMethod ({ cls := "LostSheets$Text", name := "clause", desc := "()Z" } : Jvm.MethodName)) ∈ lw_tbl := tl_3 _ (List.mem_of_getElem? (i := 23) rfl)
theorem cts_10 : Cond.selects "LostSheets$Text" ⟨"LostSheets$Text", "clause", "()Z"⟩ ⟨"LostSheets$Text", "clause", "()Z"⟩ ∈ lw_tbl := List.mem_append_left _ (List.mem_map.mpr ⟨(⟨"LostSheets$Text", "clause", "()Z"⟩, _), List.mem_of_getElem? (i := 10) rfl, rfl⟩)
theorem ct_505 : (Jvm.Cond.methodLink "LostSheets$Text" (42 : Nat) ({ cls := "LostSheets$Text", name := "ahead", desc := "()I" } : Jvm.MethodName)) ∈ lw_tbl := tl_3 _ (List.mem_of_getElem? (i := 25) rfl)
theorem ct_507 : (Jvm.Cond.instanceMethod ({ cls := "LostSheets$Text", name := "ahead", desc := "()I" } : Jvm.MethodName)) ∈ lw_tbl := tl_3 _ (List.mem_of_getElem? (i := 27) rfl)
theorem cts_11 : Cond.selects "LostSheets$Text" ⟨"LostSheets$Text", "ahead", "()I"⟩ ⟨"LostSheets$Text", "ahead", "()I"⟩ ∈ lw_tbl := List.mem_append_left _ (List.mem_map.mpr ⟨(⟨"LostSheets$Text", "ahead", "()I"⟩, _), List.mem_of_getElem? (i := 11) rfl, rfl⟩)
theorem ct_512 : (Jvm.Cond.methodLink "LostSheets$Text" (61 : Nat) ({ cls := "LostSheets$Text", name := "takesAll", desc := "(Ljava/lang/String;)Z" } : Jvm.MethodName)) ∈ lw_tbl := tl_3 _ (List.mem_of_getElem? (i := 32) rfl)
theorem ct_514 : (Jvm.Cond.instanceMethod ({ cls := "LostSheets$Text", name := "takesAll", desc := "(Ljava/lang/String;)Z" } : Jvm.MethodName)) ∈ lw_tbl := tl_3 _ (List.mem_of_getElem? (i := 34) rfl)
theorem cts_12 : Cond.selects "LostSheets$Text" ⟨"LostSheets$Text", "takesAll", "(Ljava/lang/String;)Z"⟩ ⟨"LostSheets$Text", "takesAll", "(Ljava/lang/String;)Z"⟩ ∈ lw_tbl := List.mem_append_left _ (List.mem_map.mpr ⟨(⟨"LostSheets$Text", "takesAll", "(Ljava/lang/String;)Z"⟩, _), List.mem_of_getElem? (i := 12) rfl, rfl⟩)
theorem ct_516 : (Jvm.Cond.methodLink "LostSheets$Text" (46 : Nat) ({ cls := "java/lang/String", name := "length", desc := "()I" } : Jvm.MethodName)) ∈ lw_tbl := tl_3 _ (List.mem_of_getElem? (i := 36) rfl)
theorem ct_517 : (Jvm.Cond.instanceMethod ({ cls := "java/lang/String", name := "length", desc := "()I" } : Jvm.MethodName)) ∈ lw_tbl := tl_3 _ (List.mem_of_getElem? (i := 37) rfl)
theorem ct_518 : (Jvm.Cond.selects "java/lang/String" ({ cls := "java/lang/String", name := "length", desc := "()I" } : Jvm.MethodName) ({ cls := "java/lang/String", name := "length", desc := "()I" } : Jvm.MethodName)) ∈ lw_tbl := tl_3 _ (List.mem_of_getElem? (i := 38) rfl)
theorem ct_526 : (Jvm.Cond.methodLink "LostSheets$Text" (51 : Nat) ({ cls := "java/lang/String", name := "charAt", desc := "(I)C" } : Jvm.MethodName)) ∈ lw_tbl := tl_3 _ (List.mem_of_getElem? (i := 46) rfl)
theorem ct_527 : (Jvm.Cond.instanceMethod ({ cls := "java/lang/String", name := "charAt", desc := "(I)C" } : Jvm.MethodName)) ∈ lw_tbl := tl_3 _ (List.mem_of_getElem? (i := 47) rfl)
theorem ct_528 : (Jvm.Cond.selects "java/lang/String" ({ cls := "java/lang/String", name := "charAt", desc := "(I)C" } : Jvm.MethodName) ({ cls := "java/lang/String", name := "charAt", desc := "(I)C" } : Jvm.MethodName)) ∈ lw_tbl := tl_3 _ (List.mem_of_getElem? (i := 48) rfl)
theorem ct_564 : (Jvm.Cond.methodLink "LostSheets$Text" (38 : Nat) ({ cls := "LostSheets$Text", name := "takes", desc := "(I)Z" } : Jvm.MethodName)) ∈ lw_tbl := tl_3 _ (List.mem_of_getElem? (i := 84) rfl)
theorem ct_566 : (Jvm.Cond.instanceMethod ({ cls := "LostSheets$Text", name := "takes", desc := "(I)Z" } : Jvm.MethodName)) ∈ lw_tbl := tl_3 _ (List.mem_of_getElem? (i := 86) rfl)
theorem cts_13 : Cond.selects "LostSheets$Text" ⟨"LostSheets$Text", "takes", "(I)Z"⟩ ⟨"LostSheets$Text", "takes", "(I)Z"⟩ ∈ lw_tbl := List.mem_append_left _ (List.mem_map.mpr ⟨(⟨"LostSheets$Text", "takes", "(I)Z"⟩, _), List.mem_of_getElem? (i := 13) rfl, rfl⟩)
theorem ct_568 : (Jvm.Cond.methodLink "LostSheets$Text" (65 : Nat) ({ cls := "LostSheets$Text", name := "oneOrTwoDigits", desc := "()Z" } : Jvm.MethodName)) ∈ lw_tbl := tl_3 _ (List.mem_of_getElem? (i := 88) rfl)
theorem ct_570 : (Jvm.Cond.instanceMethod ({ cls := "LostSheets$Text", name := "oneOrTwoDigits", desc := "()Z" } : Jvm.MethodName)) ∈ lw_tbl := tl_3 _ (List.mem_of_getElem? (i := 90) rfl)
theorem cts_14 : Cond.selects "LostSheets$Text" ⟨"LostSheets$Text", "oneOrTwoDigits", "()Z"⟩ ⟨"LostSheets$Text", "oneOrTwoDigits", "()Z"⟩ ∈ lw_tbl := List.mem_append_left _ (List.mem_map.mpr ⟨(⟨"LostSheets$Text", "oneOrTwoDigits", "()Z"⟩, _), List.mem_of_getElem? (i := 14) rfl, rfl⟩)
theorem ct_572 : (Jvm.Cond.methodLink "LostSheets$Text" (71 : Nat) ({ cls := "LostSheets$Text", name := "anyOf", desc := "(I)Z" } : Jvm.MethodName)) ∈ lw_tbl := tl_3 _ (List.mem_of_getElem? (i := 92) rfl)
theorem ct_574 : (Jvm.Cond.instanceMethod ({ cls := "LostSheets$Text", name := "anyOf", desc := "(I)Z" } : Jvm.MethodName)) ∈ lw_tbl := tl_3 _ (List.mem_of_getElem? (i := 94) rfl)
theorem cts_15 : Cond.selects "LostSheets$Text" ⟨"LostSheets$Text", "anyOf", "(I)Z"⟩ ⟨"LostSheets$Text", "anyOf", "(I)Z"⟩ ∈ lw_tbl := List.mem_append_left _ (List.mem_map.mpr ⟨(⟨"LostSheets$Text", "anyOf", "(I)Z"⟩, _), List.mem_of_getElem? (i := 15) rfl, rfl⟩)
theorem ct_576 : (Jvm.Cond.methodLink "LostSheets$Text" (78 : Nat) ({ cls := "LostSheets$Text", name := "allOf", desc := "(I)Z" } : Jvm.MethodName)) ∈ lw_tbl := tl_3 _ (List.mem_of_getElem? (i := 96) rfl)
theorem ct_578 : (Jvm.Cond.instanceMethod ({ cls := "LostSheets$Text", name := "allOf", desc := "(I)Z" } : Jvm.MethodName)) ∈ lw_tbl := tl_3 _ (List.mem_of_getElem? (i := 98) rfl)
theorem cts_16 : Cond.selects "LostSheets$Text" ⟨"LostSheets$Text", "allOf", "(I)Z"⟩ ⟨"LostSheets$Text", "allOf", "(I)Z"⟩ ∈ lw_tbl := List.mem_append_left _ (List.mem_map.mpr ⟨(⟨"LostSheets$Text", "allOf", "(I)Z"⟩, _), List.mem_of_getElem? (i := 16) rfl, rfl⟩)
theorem ct_580 : (Jvm.Cond.methodLink "LostSheets$Text" (81 : Nat) ({ cls := "LostSheets$Text", name := "one", desc := "(I)Z" } : Jvm.MethodName)) ∈ lw_tbl := tl_3 _ (List.mem_of_getElem? (i := 100) rfl)
theorem ct_582 : (Jvm.Cond.instanceMethod ({ cls := "LostSheets$Text", name := "one", desc := "(I)Z" } : Jvm.MethodName)) ∈ lw_tbl := tl_3 _ (List.mem_of_getElem? (i := 102) rfl)
theorem cts_17 : Cond.selects "LostSheets$Text" ⟨"LostSheets$Text", "one", "(I)Z"⟩ ⟨"LostSheets$Text", "one", "(I)Z"⟩ ∈ lw_tbl := List.mem_append_left _ (List.mem_map.mpr ⟨(⟨"LostSheets$Text", "one", "(I)Z"⟩, _), List.mem_of_getElem? (i := 17) rfl, rfl⟩)
theorem ct_584 : (Jvm.Cond.methodLink "LostSheets$Text" (84 : Nat) ({ cls := "LostSheets$Text", name := "test", desc := "()Z" } : Jvm.MethodName)) ∈ lw_tbl := tl_3 _ (List.mem_of_getElem? (i := 104) rfl)
theorem ct_586 : (Jvm.Cond.instanceMethod ({ cls := "LostSheets$Text", name := "test", desc := "()Z" } : Jvm.MethodName)) ∈ lw_tbl := tl_3 _ (List.mem_of_getElem? (i := 106) rfl)
theorem cts_18 : Cond.selects "LostSheets$Text" ⟨"LostSheets$Text", "test", "()Z"⟩ ⟨"LostSheets$Text", "test", "()Z"⟩ ∈ lw_tbl := List.mem_append_left _ (List.mem_map.mpr ⟨(⟨"LostSheets$Text", "test", "()Z"⟩, _), List.mem_of_getElem? (i := 18) rfl, rfl⟩)
theorem ct_589 : (Jvm.Cond.methodLink "LostSheets$Text" (95 : Nat) ({ cls := "LostSheets$Text", name := "placeIn", desc := "(Ljava/lang/String;I)I" } : Jvm.MethodName)) ∈ lw_tbl := tl_3 _ (List.mem_of_getElem? (i := 109) rfl)
theorem ct_590 : (Jvm.Cond.static ({ cls := "LostSheets$Text", name := "placeIn", desc := "(Ljava/lang/String;I)I" } : Jvm.MethodName)) ∈ lw_tbl := tl_3 _ (List.mem_of_getElem? (i := 110) rfl)
theorem ct_593 : (Jvm.Cond.methodLink "LostSheets$Text" (74 : Nat) ({ cls := "LostSheets$Office", name := "append", desc := "(II)V" } : Jvm.MethodName)) ∈ lw_tbl := tl_3 _ (List.mem_of_getElem? (i := 113) rfl)
theorem ct_594 : (Jvm.Cond.instanceMethod ({ cls := "LostSheets$Office", name := "append", desc := "(II)V" } : Jvm.MethodName)) ∈ lw_tbl := tl_3 _ (List.mem_of_getElem? (i := 114) rfl)
theorem ct_595 : (Jvm.Cond.selects "LostSheets$Office" ({ cls := "LostSheets$Office", name := "append", desc := "(II)V" } : Jvm.MethodName) ({ cls := "LostSheets$Office", name := "append", desc := "(II)V" } : Jvm.MethodName)) ∈ lw_tbl := tl_3 _ (List.mem_of_getElem? (i := 115) rfl)
theorem ct_597 : (Jvm.Cond.methodLink "LostSheets$Text" (87 : Nat) ({ cls := "LostSheets$Text", name := "not", desc := "(I)Z" } : Jvm.MethodName)) ∈ lw_tbl := tl_3 _ (List.mem_of_getElem? (i := 117) rfl)
theorem ct_599 : (Jvm.Cond.instanceMethod ({ cls := "LostSheets$Text", name := "not", desc := "(I)Z" } : Jvm.MethodName)) ∈ lw_tbl := tl_3 _ (List.mem_of_getElem? (i := 119) rfl)
theorem cts_19 : Cond.selects "LostSheets$Text" ⟨"LostSheets$Text", "not", "(I)Z"⟩ ⟨"LostSheets$Text", "not", "(I)Z"⟩ ∈ lw_tbl := List.mem_append_left _ (List.mem_map.mpr ⟨(⟨"LostSheets$Text", "not", "(I)Z"⟩, _), List.mem_of_getElem? (i := 19) rfl, rfl⟩)
theorem ct_601 : (Jvm.Cond.methodLink "LostSheets$Text" (90 : Nat) ({ cls := "LostSheets$Text", name := "inBrackets", desc := "(I)Z" } : Jvm.MethodName)) ∈ lw_tbl := tl_3 _ (List.mem_of_getElem? (i := 121) rfl)
theorem ct_603 : (Jvm.Cond.instanceMethod ({ cls := "LostSheets$Text", name := "inBrackets", desc := "(I)Z" } : Jvm.MethodName)) ∈ lw_tbl := tl_3 _ (List.mem_of_getElem? (i := 123) rfl)
theorem cts_20 : Cond.selects "LostSheets$Text" ⟨"LostSheets$Text", "inBrackets", "(I)Z"⟩ ⟨"LostSheets$Text", "inBrackets", "(I)Z"⟩ ∈ lw_tbl := List.mem_append_left _ (List.mem_map.mpr ⟨(⟨"LostSheets$Text", "inBrackets", "(I)Z"⟩, _), List.mem_of_getElem? (i := 20) rfl, rfl⟩)
theorem ct_210 : (Jvm.Cond.methodLink "LostSheets$Trace" (3 : Nat) ({ cls := "java/lang/Object", name := "<init>", desc := "()V" } : Jvm.MethodName)) ∈ lw_tbl := tl_1 _ (List.mem_of_getElem? (i := 210) rfl)
theorem ct_780 : (Jvm.Cond.methodLink "LostSheets$Trace" (31 : Nat) ({ cls := "LostSheets$Trace", name := "run", desc := "(LLostSheets$Drawer;IIII)I" } : Jvm.MethodName)) ∈ lw_tbl := tl_4 _ (List.mem_of_getElem? (i := 60) rfl)
theorem ct_782 : (Jvm.Cond.instanceMethod ({ cls := "LostSheets$Trace", name := "run", desc := "(LLostSheets$Drawer;IIII)I" } : Jvm.MethodName)) ∈ lw_tbl := tl_4 _ (List.mem_of_getElem? (i := 62) rfl)
theorem cts_30 : Cond.selects "LostSheets$Trace" ⟨"LostSheets$Trace", "run", "(LLostSheets$Drawer;IIII)I"⟩ ⟨"LostSheets$Trace", "run", "(LLostSheets$Drawer;IIII)I"⟩ ∈ lw_tbl := List.mem_append_left _ (List.mem_map.mpr ⟨(⟨"LostSheets$Trace", "run", "(LLostSheets$Drawer;IIII)I"⟩, _), List.mem_of_getElem? (i := 30) rfl, rfl⟩)
theorem ct_784 : (Jvm.Cond.methodLink "LostSheets$Trace" (35 : Nat) ({ cls := "LostSheets$Trace", name := "bodyOf", desc := "(II)I" } : Jvm.MethodName)) ∈ lw_tbl := tl_4 _ (List.mem_of_getElem? (i := 64) rfl)
theorem ct_785 : (Jvm.Cond.static ({ cls := "LostSheets$Trace", name := "bodyOf", desc := "(II)I" } : Jvm.MethodName)) ∈ lw_tbl := tl_4 _ (List.mem_of_getElem? (i := 65) rfl)
theorem ct_789 : (Jvm.Cond.methodLinkNest "LostSheets$Trace" (22 : Nat) ({ cls := "LostSheets", name := "aboveOf", desc := "(I)I" } : Jvm.MethodName) "LostSheets") ∈ lw_tbl := tl_4 _ (List.mem_of_getElem? (i := 69) rfl)
theorem ct_790 : (Jvm.Cond.static ({ cls := "LostSheets", name := "aboveOf", desc := "(I)I" } : Jvm.MethodName)) ∈ lw_tbl := tl_4 _ (List.mem_of_getElem? (i := 70) rfl)
theorem ct_794 : (Jvm.Cond.methodLink "LostSheets$Trace" (39 : Nat) ({ cls := "LostSheets$Trace", name := "begins", desc := "(I)V" } : Jvm.MethodName)) ∈ lw_tbl := tl_4 _ (List.mem_of_getElem? (i := 74) rfl)
theorem ct_796 : (Jvm.Cond.instanceMethod ({ cls := "LostSheets$Trace", name := "begins", desc := "(I)V" } : Jvm.MethodName)) ∈ lw_tbl := tl_4 _ (List.mem_of_getElem? (i := 76) rfl)
theorem cts_31 : Cond.selects "LostSheets$Trace" ⟨"LostSheets$Trace", "begins", "(I)V"⟩ ⟨"LostSheets$Trace", "begins", "(I)V"⟩ ∈ lw_tbl := List.mem_append_left _ (List.mem_map.mpr ⟨(⟨"LostSheets$Trace", "begins", "(I)V"⟩, _), List.mem_of_getElem? (i := 31) rfl, rfl⟩)
theorem ct_798 : (Jvm.Cond.methodLink "LostSheets$Trace" (43 : Nat) ({ cls := "LostSheets$Trace", name := "does", desc := "(ILLostSheets$Drawer;II)I" } : Jvm.MethodName)) ∈ lw_tbl := tl_4 _ (List.mem_of_getElem? (i := 78) rfl)
theorem ct_800 : (Jvm.Cond.instanceMethod ({ cls := "LostSheets$Trace", name := "does", desc := "(ILLostSheets$Drawer;II)I" } : Jvm.MethodName)) ∈ lw_tbl := tl_4 _ (List.mem_of_getElem? (i := 80) rfl)
theorem cts_32 : Cond.selects "LostSheets$Trace" ⟨"LostSheets$Trace", "does", "(ILLostSheets$Drawer;II)I"⟩ ⟨"LostSheets$Trace", "does", "(ILLostSheets$Drawer;II)I"⟩ ∈ lw_tbl := List.mem_append_left _ (List.mem_map.mpr ⟨(⟨"LostSheets$Trace", "does", "(ILLostSheets$Drawer;II)I"⟩, _), List.mem_of_getElem? (i := 32) rfl, rfl⟩)
theorem ct_24 : (Jvm.Cond.methodLink "LostSheets" (3 : Nat) ({ cls := "java/lang/Object", name := "<init>", desc := "()V" } : Jvm.MethodName)) ∈ lw_tbl := tl_1 _ (List.mem_of_getElem? (i := 24) rfl)
theorem ct_29 : (Jvm.Cond.methodLink "LostSheets" (11 : Nat) ({ cls := "LostSheets$Land", name := "<init>", desc := "()V" } : Jvm.MethodName)) ∈ lw_tbl := tl_1 _ (List.mem_of_getElem? (i := 29) rfl)
theorem ct_30 : (Jvm.Cond.instanceMethod ({ cls := "LostSheets$Land", name := "<init>", desc := "()V" } : Jvm.MethodName)) ∈ lw_tbl := tl_1 _ (List.mem_of_getElem? (i := 30) rfl)
theorem ct_129 : (Jvm.Cond.methodLinkNest "LostSheets" (26 : Nat) ({ cls := "LostSheets$ByHand", name := "<init>", desc := "()V" } : Jvm.MethodName) "LostSheets") ∈ lw_tbl := tl_1 _ (List.mem_of_getElem? (i := 129) rfl)
theorem ct_130 : (Jvm.Cond.instanceMethod ({ cls := "LostSheets$ByHand", name := "<init>", desc := "()V" } : Jvm.MethodName)) ∈ lw_tbl := tl_1 _ (List.mem_of_getElem? (i := 130) rfl)
theorem ct_181 : (Jvm.Cond.methodLinkNest "LostSheets" (40 : Nat) ({ cls := "LostSheets$Text", name := "<init>", desc := "()V" } : Jvm.MethodName) "LostSheets") ∈ lw_tbl := tl_1 _ (List.mem_of_getElem? (i := 181) rfl)
theorem ct_182 : (Jvm.Cond.instanceMethod ({ cls := "LostSheets$Text", name := "<init>", desc := "()V" } : Jvm.MethodName)) ∈ lw_tbl := tl_1 _ (List.mem_of_getElem? (i := 182) rfl)
theorem ct_207 : (Jvm.Cond.methodLinkNest "LostSheets" (57 : Nat) ({ cls := "LostSheets$Trace", name := "<init>", desc := "()V" } : Jvm.MethodName) "LostSheets") ∈ lw_tbl := tl_1 _ (List.mem_of_getElem? (i := 207) rfl)
theorem ct_208 : (Jvm.Cond.instanceMethod ({ cls := "LostSheets$Trace", name := "<init>", desc := "()V" } : Jvm.MethodName)) ∈ lw_tbl := tl_1 _ (List.mem_of_getElem? (i := 208) rfl)
theorem ct_223 : (Jvm.Cond.methodLinkNest "LostSheets" (68 : Nat) ({ cls := "LostSheets$Office", name := "<init>", desc := "()V" } : Jvm.MethodName) "LostSheets") ∈ lw_tbl := tl_1 _ (List.mem_of_getElem? (i := 223) rfl)
theorem ct_224 : (Jvm.Cond.instanceMethod ({ cls := "LostSheets$Office", name := "<init>", desc := "()V" } : Jvm.MethodName)) ∈ lw_tbl := tl_1 _ (List.mem_of_getElem? (i := 224) rfl)
theorem ct_243 : (Jvm.Cond.methodLinkNest "LostSheets" (69 : Nat) ({ cls := "LostSheets$Tape", name := "<init>", desc := "()V" } : Jvm.MethodName) "LostSheets") ∈ lw_tbl := tl_2 _ (List.mem_of_getElem? (i := 3) rfl)
theorem ct_244 : (Jvm.Cond.instanceMethod ({ cls := "LostSheets$Tape", name := "<init>", desc := "()V" } : Jvm.MethodName)) ∈ lw_tbl := tl_2 _ (List.mem_of_getElem? (i := 4) rfl)
theorem ct_299 : (Jvm.Cond.methodLink "LostSheets" (70 : Nat) ({ cls := "LostSheets", name := "isCell", desc := "(I)Z" } : Jvm.MethodName)) ∈ lw_tbl := tl_2 _ (List.mem_of_getElem? (i := 59) rfl)
theorem ct_302 : (Jvm.Cond.methodLink "LostSheets" (74 : Nat) ({ cls := "LostSheets", name := "isDigit", desc := "(I)Z" } : Jvm.MethodName)) ∈ lw_tbl := tl_2 _ (List.mem_of_getElem? (i := 62) rfl)
theorem ct_303 : (Jvm.Cond.static ({ cls := "LostSheets", name := "isDigit", desc := "(I)Z" } : Jvm.MethodName)) ∈ lw_tbl := tl_2 _ (List.mem_of_getElem? (i := 63) rfl)
theorem ct_305 : (Jvm.Cond.methodLink "LostSheets" (77 : Nat) ({ cls := "LostSheets$Land", name := "addDrawer", desc := "(III)Z" } : Jvm.MethodName)) ∈ lw_tbl := tl_2 _ (List.mem_of_getElem? (i := 65) rfl)
theorem ct_306 : (Jvm.Cond.instanceMethod ({ cls := "LostSheets$Land", name := "addDrawer", desc := "(III)Z" } : Jvm.MethodName)) ∈ lw_tbl := tl_2 _ (List.mem_of_getElem? (i := 66) rfl)
theorem ct_307 : (Jvm.Cond.selects "LostSheets$Land" ({ cls := "LostSheets$Land", name := "addDrawer", desc := "(III)Z" } : Jvm.MethodName) ({ cls := "LostSheets$Land", name := "addDrawer", desc := "(III)Z" } : Jvm.MethodName)) ∈ lw_tbl := tl_2 _ (List.mem_of_getElem? (i := 67) rfl)
theorem ct_317 : (Jvm.Cond.methodLink "LostSheets" (84 : Nat) ({ cls := "LostSheets$Land", name := "drawerAt", desc := "(I)LLostSheets$Drawer;" } : Jvm.MethodName)) ∈ lw_tbl := tl_2 _ (List.mem_of_getElem? (i := 77) rfl)
theorem ct_321 : (Jvm.Cond.methodLink "LostSheets" (108 : Nat) ({ cls := "LostSheets$Land", name := "feelOf", desc := "(LLostSheets$Drawer;)I" } : Jvm.MethodName)) ∈ lw_tbl := tl_2 _ (List.mem_of_getElem? (i := 81) rfl)
theorem ct_347 : (Jvm.Cond.methodLink "LostSheets" (112 : Nat) ({ cls := "LostSheets$Land", name := "wayOf", desc := "(LLostSheets$Drawer;)I" } : Jvm.MethodName)) ∈ lw_tbl := tl_2 _ (List.mem_of_getElem? (i := 107) rfl)
theorem ct_348 : (Jvm.Cond.instanceMethod ({ cls := "LostSheets$Land", name := "wayOf", desc := "(LLostSheets$Drawer;)I" } : Jvm.MethodName)) ∈ lw_tbl := tl_2 _ (List.mem_of_getElem? (i := 108) rfl)
theorem ct_349 : (Jvm.Cond.selects "LostSheets$Land" ({ cls := "LostSheets$Land", name := "wayOf", desc := "(LLostSheets$Drawer;)I" } : Jvm.MethodName) ({ cls := "LostSheets$Land", name := "wayOf", desc := "(LLostSheets$Drawer;)I" } : Jvm.MethodName)) ∈ lw_tbl := tl_2 _ (List.mem_of_getElem? (i := 109) rfl)
theorem ct_352 : (Jvm.Cond.methodLink "LostSheets" (115 : Nat) ({ cls := "LostSheets$Land", name := "cameOf", desc := "(LLostSheets$Drawer;)I" } : Jvm.MethodName)) ∈ lw_tbl := tl_2 _ (List.mem_of_getElem? (i := 112) rfl)
theorem ct_353 : (Jvm.Cond.instanceMethod ({ cls := "LostSheets$Land", name := "cameOf", desc := "(LLostSheets$Drawer;)I" } : Jvm.MethodName)) ∈ lw_tbl := tl_2 _ (List.mem_of_getElem? (i := 113) rfl)
theorem ct_354 : (Jvm.Cond.selects "LostSheets$Land" ({ cls := "LostSheets$Land", name := "cameOf", desc := "(LLostSheets$Drawer;)I" } : Jvm.MethodName) ({ cls := "LostSheets$Land", name := "cameOf", desc := "(LLostSheets$Drawer;)I" } : Jvm.MethodName)) ∈ lw_tbl := tl_2 _ (List.mem_of_getElem? (i := 114) rfl)
theorem ct_363 : (Jvm.Cond.methodLink "LostSheets" (118 : Nat) ({ cls := "LostSheets$Land", name := "hereOf", desc := "(LLostSheets$Drawer;)I" } : Jvm.MethodName)) ∈ lw_tbl := tl_2 _ (List.mem_of_getElem? (i := 123) rfl)
theorem ct_367 : (Jvm.Cond.methodLink "LostSheets" (121 : Nat) ({ cls := "LostSheets$Land", name := "lookOf", desc := "(LLostSheets$Drawer;)I" } : Jvm.MethodName)) ∈ lw_tbl := tl_2 _ (List.mem_of_getElem? (i := 127) rfl)
theorem ct_368 : (Jvm.Cond.instanceMethod ({ cls := "LostSheets$Land", name := "lookOf", desc := "(LLostSheets$Drawer;)I" } : Jvm.MethodName)) ∈ lw_tbl := tl_2 _ (List.mem_of_getElem? (i := 128) rfl)
theorem ct_369 : (Jvm.Cond.selects "LostSheets$Land" ({ cls := "LostSheets$Land", name := "lookOf", desc := "(LLostSheets$Drawer;)I" } : Jvm.MethodName) ({ cls := "LostSheets$Land", name := "lookOf", desc := "(LLostSheets$Drawer;)I" } : Jvm.MethodName)) ∈ lw_tbl := tl_2 _ (List.mem_of_getElem? (i := 129) rfl)
theorem ct_380 : (Jvm.Cond.methodLink "LostSheets" (124 : Nat) ({ cls := "LostSheets", name := "placesOf", desc := "(LLostSheets$Drawer;)I" } : Jvm.MethodName)) ∈ lw_tbl := tl_2 _ (List.mem_of_getElem? (i := 140) rfl)
theorem ct_382 : (Jvm.Cond.instanceMethod ({ cls := "LostSheets", name := "placesOf", desc := "(LLostSheets$Drawer;)I" } : Jvm.MethodName)) ∈ lw_tbl := tl_2 _ (List.mem_of_getElem? (i := 142) rfl)
theorem cts_4 : Cond.selects "LostSheets" ⟨"LostSheets", "placesOf", "(LLostSheets$Drawer;)I"⟩ ⟨"LostSheets", "placesOf", "(LLostSheets$Drawer;)I"⟩ ∈ lw_tbl := List.mem_append_left _ (List.mem_map.mpr ⟨(⟨"LostSheets", "placesOf", "(LLostSheets$Drawer;)I"⟩, _), List.mem_of_getElem? (i := 4) rfl, rfl⟩)
theorem ct_384 : (Jvm.Cond.methodLink "LostSheets" (230 : Nat) ({ cls := "LostSheets", name := "tryAt", desc := "(II)V" } : Jvm.MethodName)) ∈ lw_tbl := tl_2 _ (List.mem_of_getElem? (i := 144) rfl)
theorem ct_386 : (Jvm.Cond.instanceMethod ({ cls := "LostSheets", name := "tryAt", desc := "(II)V" } : Jvm.MethodName)) ∈ lw_tbl := tl_2 _ (List.mem_of_getElem? (i := 146) rfl)
theorem cts_5 : Cond.selects "LostSheets" ⟨"LostSheets", "tryAt", "(II)V"⟩ ⟨"LostSheets", "tryAt", "(II)V"⟩ ∈ lw_tbl := List.mem_append_left _ (List.mem_map.mpr ⟨(⟨"LostSheets", "tryAt", "(II)V"⟩, _), List.mem_of_getElem? (i := 5) rfl, rfl⟩)
theorem ct_388 : (Jvm.Cond.methodLink "LostSheets" (191 : Nat) ({ cls := "LostSheets$Land", name := "copyFrom", desc := "(LLostSheets$Land;)V" } : Jvm.MethodName)) ∈ lw_tbl := tl_2 _ (List.mem_of_getElem? (i := 148) rfl)
theorem ct_389 : (Jvm.Cond.instanceMethod ({ cls := "LostSheets$Land", name := "copyFrom", desc := "(LLostSheets$Land;)V" } : Jvm.MethodName)) ∈ lw_tbl := tl_2 _ (List.mem_of_getElem? (i := 149) rfl)
theorem ct_390 : (Jvm.Cond.selects "LostSheets$Land" ({ cls := "LostSheets$Land", name := "copyFrom", desc := "(LLostSheets$Land;)V" } : Jvm.MethodName) ({ cls := "LostSheets$Land", name := "copyFrom", desc := "(LLostSheets$Land;)V" } : Jvm.MethodName)) ∈ lw_tbl := tl_2 _ (List.mem_of_getElem? (i := 150) rfl)
theorem ct_400 : (Jvm.Cond.methodLink "LostSheets" (319 : Nat) ({ cls := "LostSheets$Land", name := "putAt", desc := "(II)V" } : Jvm.MethodName)) ∈ lw_tbl := tl_2 _ (List.mem_of_getElem? (i := 160) rfl)
theorem ct_401 : (Jvm.Cond.instanceMethod ({ cls := "LostSheets$Land", name := "putAt", desc := "(II)V" } : Jvm.MethodName)) ∈ lw_tbl := tl_2 _ (List.mem_of_getElem? (i := 161) rfl)
theorem ct_402 : (Jvm.Cond.selects "LostSheets$Land" ({ cls := "LostSheets$Land", name := "putAt", desc := "(II)V" } : Jvm.MethodName) ({ cls := "LostSheets$Land", name := "putAt", desc := "(II)V" } : Jvm.MethodName)) ∈ lw_tbl := tl_2 _ (List.mem_of_getElem? (i := 162) rfl)
theorem ct_406 : (Jvm.Cond.methodLink "LostSheets" (326 : Nat) ({ cls := "LostSheets", name := "seenIsSo", desc := "()Z" } : Jvm.MethodName)) ∈ lw_tbl := tl_2 _ (List.mem_of_getElem? (i := 166) rfl)
theorem ct_408 : (Jvm.Cond.instanceMethod ({ cls := "LostSheets", name := "seenIsSo", desc := "()Z" } : Jvm.MethodName)) ∈ lw_tbl := tl_2 _ (List.mem_of_getElem? (i := 168) rfl)
theorem cts_6 : Cond.selects "LostSheets" ⟨"LostSheets", "seenIsSo", "()Z"⟩ ⟨"LostSheets", "seenIsSo", "()Z"⟩ ∈ lw_tbl := List.mem_append_left _ (List.mem_map.mpr ⟨(⟨"LostSheets", "seenIsSo", "()Z"⟩, _), List.mem_of_getElem? (i := 6) rfl, rfl⟩)
theorem ct_410 : (Jvm.Cond.methodLink "LostSheets" (336 : Nat) ({ cls := "LostSheets$ByHand", name := "lastHourSeen", desc := "()I" } : Jvm.MethodName)) ∈ lw_tbl := tl_2 _ (List.mem_of_getElem? (i := 170) rfl)
theorem ct_411 : (Jvm.Cond.instanceMethod ({ cls := "LostSheets$ByHand", name := "lastHourSeen", desc := "()I" } : Jvm.MethodName)) ∈ lw_tbl := tl_2 _ (List.mem_of_getElem? (i := 171) rfl)
theorem ct_412 : (Jvm.Cond.selects "LostSheets$ByHand" ({ cls := "LostSheets$ByHand", name := "lastHourSeen", desc := "()I" } : Jvm.MethodName) ({ cls := "LostSheets$ByHand", name := "lastHourSeen", desc := "()I" } : Jvm.MethodName)) ∈ lw_tbl := tl_2 _ (List.mem_of_getElem? (i := 172) rfl)
theorem ct_415 : (Jvm.Cond.methodLink "LostSheets" (339 : Nat) ({ cls := "LostSheets", name := "seenIsSoIn", desc := "(I)Z" } : Jvm.MethodName)) ∈ lw_tbl := tl_2 _ (List.mem_of_getElem? (i := 175) rfl)
theorem ct_417 : (Jvm.Cond.instanceMethod ({ cls := "LostSheets", name := "seenIsSoIn", desc := "(I)Z" } : Jvm.MethodName)) ∈ lw_tbl := tl_2 _ (List.mem_of_getElem? (i := 177) rfl)
theorem cts_7 : Cond.selects "LostSheets" ⟨"LostSheets", "seenIsSoIn", "(I)Z"⟩ ⟨"LostSheets", "seenIsSoIn", "(I)Z"⟩ ∈ lw_tbl := List.mem_append_left _ (List.mem_map.mpr ⟨(⟨"LostSheets", "seenIsSoIn", "(I)Z"⟩, _), List.mem_of_getElem? (i := 7) rfl, rfl⟩)
theorem ct_419 : (Jvm.Cond.methodLink "LostSheets" (195 : Nat) ({ cls := "LostSheets$Land", name := "whereIs", desc := "(I)I" } : Jvm.MethodName)) ∈ lw_tbl := tl_2 _ (List.mem_of_getElem? (i := 179) rfl)
theorem ct_420 : (Jvm.Cond.instanceMethod ({ cls := "LostSheets$Land", name := "whereIs", desc := "(I)I" } : Jvm.MethodName)) ∈ lw_tbl := tl_2 _ (List.mem_of_getElem? (i := 180) rfl)
theorem ct_421 : (Jvm.Cond.selects "LostSheets$Land" ({ cls := "LostSheets$Land", name := "whereIs", desc := "(I)I" } : Jvm.MethodName) ({ cls := "LostSheets$Land", name := "whereIs", desc := "(I)I" } : Jvm.MethodName)) ∈ lw_tbl := tl_2 _ (List.mem_of_getElem? (i := 181) rfl)
theorem ct_423 : (Jvm.Cond.methodLink "LostSheets" (137 : Nat) ({ cls := "LostSheets$Land", name := "markAt", desc := "(I)I" } : Jvm.MethodName)) ∈ lw_tbl := tl_2 _ (List.mem_of_getElem? (i := 183) rfl)
theorem ct_424 : (Jvm.Cond.methodLink "LostSheets" (181 : Nat) ({ cls := "LostSheets$Land", name := "hoursGo", desc := "(I)V" } : Jvm.MethodName)) ∈ lw_tbl := tl_2 _ (List.mem_of_getElem? (i := 184) rfl)
theorem ct_425 : (Jvm.Cond.instanceMethod ({ cls := "LostSheets$Land", name := "hoursGo", desc := "(I)V" } : Jvm.MethodName)) ∈ lw_tbl := tl_2 _ (List.mem_of_getElem? (i := 185) rfl)
theorem ct_426 : (Jvm.Cond.selects "LostSheets$Land" ({ cls := "LostSheets$Land", name := "hoursGo", desc := "(I)V" } : Jvm.MethodName) ({ cls := "LostSheets$Land", name := "hoursGo", desc := "(I)V" } : Jvm.MethodName)) ∈ lw_tbl := tl_2 _ (List.mem_of_getElem? (i := 186) rfl)
theorem ct_472 : (Jvm.Cond.methodLink "LostSheets" (134 : Nat) ({ cls := "LostSheets", name := "isMark", desc := "(I)Z" } : Jvm.MethodName)) ∈ lw_tbl := tl_2 _ (List.mem_of_getElem? (i := 232) rfl)
theorem ct_473 : (Jvm.Cond.methodLink "LostSheets" (141 : Nat) ({ cls := "LostSheets$Land", name := "setMark", desc := "(II)V" } : Jvm.MethodName)) ∈ lw_tbl := tl_2 _ (List.mem_of_getElem? (i := 233) rfl)
theorem ct_474 : (Jvm.Cond.instanceMethod ({ cls := "LostSheets$Land", name := "setMark", desc := "(II)V" } : Jvm.MethodName)) ∈ lw_tbl := tl_2 _ (List.mem_of_getElem? (i := 234) rfl)
theorem ct_475 : (Jvm.Cond.selects "LostSheets$Land" ({ cls := "LostSheets$Land", name := "setMark", desc := "(II)V" } : Jvm.MethodName) ({ cls := "LostSheets$Land", name := "setMark", desc := "(II)V" } : Jvm.MethodName)) ∈ lw_tbl := tl_2 _ (List.mem_of_getElem? (i := 235) rfl)
theorem ct_485 : (Jvm.Cond.methodLink "LostSheets" (148 : Nat) ({ cls := "LostSheets$Text", name := "append", desc := "(I)Z" } : Jvm.MethodName)) ∈ lw_tbl := tl_3 _ (List.mem_of_getElem? (i := 5) rfl)
theorem ct_486 : (Jvm.Cond.instanceMethod ({ cls := "LostSheets$Text", name := "append", desc := "(I)Z" } : Jvm.MethodName)) ∈ lw_tbl := tl_3 _ (List.mem_of_getElem? (i := 6) rfl)
theorem ct_487 : (Jvm.Cond.selects "LostSheets$Text" ({ cls := "LostSheets$Text", name := "append", desc := "(I)Z" } : Jvm.MethodName) ({ cls := "LostSheets$Text", name := "append", desc := "(I)Z" } : Jvm.MethodName)) ∈ lw_tbl := tl_3 _ (List.mem_of_getElem? (i := 7) rfl)
theorem ct_493 : (Jvm.Cond.methodLink "LostSheets" (154 : Nat) ({ cls := "LostSheets$Text", name := "readInto", desc := "(LLostSheets$Office;)I" } : Jvm.MethodName)) ∈ lw_tbl := tl_3 _ (List.mem_of_getElem? (i := 13) rfl)
theorem ct_494 : (Jvm.Cond.instanceMethod ({ cls := "LostSheets$Text", name := "readInto", desc := "(LLostSheets$Office;)I" } : Jvm.MethodName)) ∈ lw_tbl := tl_3 _ (List.mem_of_getElem? (i := 14) rfl)
theorem ct_495 : (Jvm.Cond.selects "LostSheets$Text" ({ cls := "LostSheets$Text", name := "readInto", desc := "(LLostSheets$Office;)I" } : Jvm.MethodName) ({ cls := "LostSheets$Text", name := "readInto", desc := "(LLostSheets$Office;)I" } : Jvm.MethodName)) ∈ lw_tbl := tl_3 _ (List.mem_of_getElem? (i := 15) rfl)
theorem ct_609 : (Jvm.Cond.methodLink "LostSheets" (162 : Nat) ({ cls := "LostSheets", name := "marksOf", desc := "(I)I" } : Jvm.MethodName)) ∈ lw_tbl := tl_3 _ (List.mem_of_getElem? (i := 129) rfl)
theorem ct_611 : (Jvm.Cond.instanceMethod ({ cls := "LostSheets", name := "marksOf", desc := "(I)I" } : Jvm.MethodName)) ∈ lw_tbl := tl_3 _ (List.mem_of_getElem? (i := 131) rfl)
theorem cts_21 : Cond.selects "LostSheets" ⟨"LostSheets", "marksOf", "(I)I"⟩ ⟨"LostSheets", "marksOf", "(I)I"⟩ ∈ lw_tbl := List.mem_append_left _ (List.mem_map.mpr ⟨(⟨"LostSheets", "marksOf", "(I)I"⟩, _), List.mem_of_getElem? (i := 21) rfl, rfl⟩)
theorem ct_613 : (Jvm.Cond.methodLink "LostSheets" (168 : Nat) ({ cls := "LostSheets$Land", name := "know", desc := "()I" } : Jvm.MethodName)) ∈ lw_tbl := tl_3 _ (List.mem_of_getElem? (i := 133) rfl)
theorem ct_614 : (Jvm.Cond.methodLink "LostSheets" (175 : Nat) ({ cls := "LostSheets$Land", name := "doneBits", desc := "()I" } : Jvm.MethodName)) ∈ lw_tbl := tl_3 _ (List.mem_of_getElem? (i := 134) rfl)
theorem ct_615 : (Jvm.Cond.instanceMethod ({ cls := "LostSheets$Land", name := "doneBits", desc := "()I" } : Jvm.MethodName)) ∈ lw_tbl := tl_3 _ (List.mem_of_getElem? (i := 135) rfl)
theorem ct_616 : (Jvm.Cond.selects "LostSheets$Land" ({ cls := "LostSheets$Land", name := "doneBits", desc := "()I" } : Jvm.MethodName) ({ cls := "LostSheets$Land", name := "doneBits", desc := "()I" } : Jvm.MethodName)) ∈ lw_tbl := tl_3 _ (List.mem_of_getElem? (i := 136) rfl)
theorem ct_618 : (Jvm.Cond.methodLink "LostSheets" (178 : Nat) ({ cls := "LostSheets", name := "whole", desc := "()I" } : Jvm.MethodName)) ∈ lw_tbl := tl_3 _ (List.mem_of_getElem? (i := 138) rfl)
theorem ct_620 : (Jvm.Cond.instanceMethod ({ cls := "LostSheets", name := "whole", desc := "()I" } : Jvm.MethodName)) ∈ lw_tbl := tl_3 _ (List.mem_of_getElem? (i := 140) rfl)
theorem cts_22 : Cond.selects "LostSheets" ⟨"LostSheets", "whole", "()I"⟩ ⟨"LostSheets", "whole", "()I"⟩ ∈ lw_tbl := List.mem_append_left _ (List.mem_map.mpr ⟨(⟨"LostSheets", "whole", "()I"⟩, _), List.mem_of_getElem? (i := 22) rfl, rfl⟩)
theorem ct_627 : (Jvm.Cond.methodLink "LostSheets" (185 : Nat) ({ cls := "LostSheets$Land", name := "capDrew", desc := "()V" } : Jvm.MethodName)) ∈ lw_tbl := tl_3 _ (List.mem_of_getElem? (i := 147) rfl)
theorem ct_628 : (Jvm.Cond.instanceMethod ({ cls := "LostSheets$Land", name := "capDrew", desc := "()V" } : Jvm.MethodName)) ∈ lw_tbl := tl_3 _ (List.mem_of_getElem? (i := 148) rfl)
theorem ct_629 : (Jvm.Cond.selects "LostSheets$Land" ({ cls := "LostSheets$Land", name := "capDrew", desc := "()V" } : Jvm.MethodName) ({ cls := "LostSheets$Land", name := "capDrew", desc := "()V" } : Jvm.MethodName)) ∈ lw_tbl := tl_3 _ (List.mem_of_getElem? (i := 149) rfl)
theorem ct_638 : (Jvm.Cond.methodLink "LostSheets" (188 : Nat) ({ cls := "LostSheets", name := "drawerBehindTen", desc := "(I)LLostSheets$Drawer;" } : Jvm.MethodName)) ∈ lw_tbl := tl_3 _ (List.mem_of_getElem? (i := 158) rfl)
theorem ct_640 : (Jvm.Cond.instanceMethod ({ cls := "LostSheets", name := "drawerBehindTen", desc := "(I)LLostSheets$Drawer;" } : Jvm.MethodName)) ∈ lw_tbl := tl_3 _ (List.mem_of_getElem? (i := 160) rfl)
theorem cts_23 : Cond.selects "LostSheets" ⟨"LostSheets", "drawerBehindTen", "(I)LLostSheets$Drawer;"⟩ ⟨"LostSheets", "drawerBehindTen", "(I)LLostSheets$Drawer;"⟩ ∈ lw_tbl := List.mem_append_left _ (List.mem_map.mpr ⟨(⟨"LostSheets", "drawerBehindTen", "(I)LLostSheets$Drawer;"⟩, _), List.mem_of_getElem? (i := 23) rfl, rfl⟩)
theorem ct_646 : (Jvm.Cond.methodLink "LostSheets" (198 : Nat) ({ cls := "LostSheets", name := "crew", desc := "(I)I" } : Jvm.MethodName)) ∈ lw_tbl := tl_3 _ (List.mem_of_getElem? (i := 166) rfl)
theorem ct_648 : (Jvm.Cond.instanceMethod ({ cls := "LostSheets", name := "crew", desc := "(I)I" } : Jvm.MethodName)) ∈ lw_tbl := tl_3 _ (List.mem_of_getElem? (i := 168) rfl)
theorem cts_24 : Cond.selects "LostSheets" ⟨"LostSheets", "crew", "(I)I"⟩ ⟨"LostSheets", "crew", "(I)I"⟩ ∈ lw_tbl := List.mem_append_left _ (List.mem_map.mpr ⟨(⟨"LostSheets", "crew", "(I)I"⟩, _), List.mem_of_getElem? (i := 24) rfl, rfl⟩)
theorem ct_650 : (Jvm.Cond.methodLink "LostSheets" (220 : Nat) ({ cls := "java/lang/Integer", name := "bitCount", desc := "(I)I" } : Jvm.MethodName)) ∈ lw_tbl := tl_3 _ (List.mem_of_getElem? (i := 170) rfl)
theorem ct_651 : (Jvm.Cond.static ({ cls := "java/lang/Integer", name := "bitCount", desc := "(I)I" } : Jvm.MethodName)) ∈ lw_tbl := tl_3 _ (List.mem_of_getElem? (i := 171) rfl)
theorem ct_656 : (Jvm.Cond.methodLink "LostSheets" (323 : Nat) ({ cls := "LostSheets$Land", name := "othersAreDone", desc := "(I)V" } : Jvm.MethodName)) ∈ lw_tbl := tl_3 _ (List.mem_of_getElem? (i := 176) rfl)
theorem ct_657 : (Jvm.Cond.instanceMethod ({ cls := "LostSheets$Land", name := "othersAreDone", desc := "(I)V" } : Jvm.MethodName)) ∈ lw_tbl := tl_3 _ (List.mem_of_getElem? (i := 177) rfl)
theorem ct_658 : (Jvm.Cond.selects "LostSheets$Land" ({ cls := "LostSheets$Land", name := "othersAreDone", desc := "(I)V" } : Jvm.MethodName) ({ cls := "LostSheets$Land", name := "othersAreDone", desc := "(I)V" } : Jvm.MethodName)) ∈ lw_tbl := tl_3 _ (List.mem_of_getElem? (i := 178) rfl)
theorem ct_660 : (Jvm.Cond.methodLink "LostSheets" (201 : Nat) ({ cls := "LostSheets", name := "landing", desc := "(II)I" } : Jvm.MethodName)) ∈ lw_tbl := tl_3 _ (List.mem_of_getElem? (i := 180) rfl)
theorem ct_662 : (Jvm.Cond.instanceMethod ({ cls := "LostSheets", name := "landing", desc := "(II)I" } : Jvm.MethodName)) ∈ lw_tbl := tl_3 _ (List.mem_of_getElem? (i := 182) rfl)
theorem cts_25 : Cond.selects "LostSheets" ⟨"LostSheets", "landing", "(II)I"⟩ ⟨"LostSheets", "landing", "(II)I"⟩ ∈ lw_tbl := List.mem_append_left _ (List.mem_map.mpr ⟨(⟨"LostSheets", "landing", "(II)I"⟩, _), List.mem_of_getElem? (i := 25) rfl, rfl⟩)
theorem ct_668 : (Jvm.Cond.methodLink "LostSheets" (209 : Nat) ({ cls := "LostSheets$Rows", name := "clear", desc := "()V" } : Jvm.MethodName)) ∈ lw_tbl := tl_3 _ (List.mem_of_getElem? (i := 188) rfl)
theorem ct_669 : (Jvm.Cond.instanceMethod ({ cls := "LostSheets$Rows", name := "clear", desc := "()V" } : Jvm.MethodName)) ∈ lw_tbl := tl_3 _ (List.mem_of_getElem? (i := 189) rfl)
theorem ct_670 : (Jvm.Cond.selects "LostSheets$Rows" ({ cls := "LostSheets$Rows", name := "clear", desc := "()V" } : Jvm.MethodName) ({ cls := "LostSheets$Rows", name := "clear", desc := "()V" } : Jvm.MethodName)) ∈ lw_tbl := tl_3 _ (List.mem_of_getElem? (i := 190) rfl)
theorem ct_672 : (Jvm.Cond.methodLink "LostSheets" (214 : Nat) ({ cls := "LostSheets$Rows", name := "append", desc := "(III)Z" } : Jvm.MethodName)) ∈ lw_tbl := tl_3 _ (List.mem_of_getElem? (i := 192) rfl)
theorem ct_680 : (Jvm.Cond.methodLink "LostSheets" (217 : Nat) ({ cls := "LostSheets", name := "possibleNumbers", desc := "(I)I" } : Jvm.MethodName)) ∈ lw_tbl := tl_3 _ (List.mem_of_getElem? (i := 200) rfl)
theorem ct_682 : (Jvm.Cond.instanceMethod ({ cls := "LostSheets", name := "possibleNumbers", desc := "(I)I" } : Jvm.MethodName)) ∈ lw_tbl := tl_3 _ (List.mem_of_getElem? (i := 202) rfl)
theorem cts_26 : Cond.selects "LostSheets" ⟨"LostSheets", "possibleNumbers", "(I)I"⟩ ⟨"LostSheets", "possibleNumbers", "(I)I"⟩ ∈ lw_tbl := List.mem_append_left _ (List.mem_map.mpr ⟨(⟨"LostSheets", "possibleNumbers", "(I)I"⟩, _), List.mem_of_getElem? (i := 26) rfl, rfl⟩)
theorem ct_684 : (Jvm.Cond.methodLink "LostSheets" (333 : Nat) ({ cls := "LostSheets$Land", name := "setNumber", desc := "(II)V" } : Jvm.MethodName)) ∈ lw_tbl := tl_3 _ (List.mem_of_getElem? (i := 204) rfl)
theorem ct_685 : (Jvm.Cond.instanceMethod ({ cls := "LostSheets$Land", name := "setNumber", desc := "(II)V" } : Jvm.MethodName)) ∈ lw_tbl := tl_3 _ (List.mem_of_getElem? (i := 205) rfl)
theorem ct_686 : (Jvm.Cond.selects "LostSheets$Land" ({ cls := "LostSheets$Land", name := "setNumber", desc := "(II)V" } : Jvm.MethodName) ({ cls := "LostSheets$Land", name := "setNumber", desc := "(II)V" } : Jvm.MethodName)) ∈ lw_tbl := tl_3 _ (List.mem_of_getElem? (i := 206) rfl)
theorem ct_688 : (Jvm.Cond.methodLink "LostSheets" (225 : Nat) ({ cls := "LostSheets", name := "leastOf", desc := "(I)I" } : Jvm.MethodName)) ∈ lw_tbl := tl_3 _ (List.mem_of_getElem? (i := 208) rfl)
theorem ct_689 : (Jvm.Cond.static ({ cls := "LostSheets", name := "leastOf", desc := "(I)I" } : Jvm.MethodName)) ∈ lw_tbl := tl_3 _ (List.mem_of_getElem? (i := 209) rfl)
theorem ct_697 : (Jvm.Cond.methodLink "LostSheets" (235 : Nat) ({ cls := "LostSheets", name := "partOfFraction", desc := "(JJI)J" } : Jvm.MethodName)) ∈ lw_tbl := tl_3 _ (List.mem_of_getElem? (i := 217) rfl)
theorem ct_698 : (Jvm.Cond.static ({ cls := "LostSheets", name := "partOfFraction", desc := "(JJI)J" } : Jvm.MethodName)) ∈ lw_tbl := tl_3 _ (List.mem_of_getElem? (i := 218) rfl)
theorem ct_700 : (Jvm.Cond.methodLink "LostSheets" (351 : Nat) ({ cls := "LostSheets", name := "greatestDivisor", desc := "(JJ)J" } : Jvm.MethodName)) ∈ lw_tbl := tl_3 _ (List.mem_of_getElem? (i := 220) rfl)
theorem ct_701 : (Jvm.Cond.static ({ cls := "LostSheets", name := "greatestDivisor", desc := "(JJ)J" } : Jvm.MethodName)) ∈ lw_tbl := tl_3 _ (List.mem_of_getElem? (i := 221) rfl)
theorem ct_707 : (Jvm.Cond.methodLink "LostSheets" (239 : Nat) ({ cls := "LostSheets$Land", name := "drewOfAll", desc := "()I" } : Jvm.MethodName)) ∈ lw_tbl := tl_3 _ (List.mem_of_getElem? (i := 227) rfl)
theorem ct_708 : (Jvm.Cond.instanceMethod ({ cls := "LostSheets$Land", name := "drewOfAll", desc := "()I" } : Jvm.MethodName)) ∈ lw_tbl := tl_3 _ (List.mem_of_getElem? (i := 228) rfl)
theorem ct_709 : (Jvm.Cond.selects "LostSheets$Land" ({ cls := "LostSheets$Land", name := "drewOfAll", desc := "()I" } : Jvm.MethodName) ({ cls := "LostSheets$Land", name := "drewOfAll", desc := "()I" } : Jvm.MethodName)) ∈ lw_tbl := tl_3 _ (List.mem_of_getElem? (i := 229) rfl)
theorem ct_715 : (Jvm.Cond.methodLink "LostSheets" (245 : Nat) ({ cls := "LostSheets", name := "isPlanRow", desc := "(II)Z" } : Jvm.MethodName)) ∈ lw_tbl := tl_3 _ (List.mem_of_getElem? (i := 235) rfl)
theorem ct_717 : (Jvm.Cond.instanceMethod ({ cls := "LostSheets", name := "isPlanRow", desc := "(II)Z" } : Jvm.MethodName)) ∈ lw_tbl := tl_3 _ (List.mem_of_getElem? (i := 237) rfl)
theorem cts_27 : Cond.selects "LostSheets" ⟨"LostSheets", "isPlanRow", "(II)Z"⟩ ⟨"LostSheets", "isPlanRow", "(II)Z"⟩ ∈ lw_tbl := List.mem_append_left _ (List.mem_map.mpr ⟨(⟨"LostSheets", "isPlanRow", "(II)Z"⟩, _), List.mem_of_getElem? (i := 27) rfl, rfl⟩)
theorem ct_723 : (Jvm.Cond.methodLink "LostSheets" (249 : Nat) ({ cls := "LostSheets", name := "tryPlan", desc := "()V" } : Jvm.MethodName)) ∈ lw_tbl := tl_4 _ (List.mem_of_getElem? (i := 3) rfl)
theorem ct_725 : (Jvm.Cond.instanceMethod ({ cls := "LostSheets", name := "tryPlan", desc := "()V" } : Jvm.MethodName)) ∈ lw_tbl := tl_4 _ (List.mem_of_getElem? (i := 5) rfl)
theorem cts_28 : Cond.selects "LostSheets" ⟨"LostSheets", "tryPlan", "()V"⟩ ⟨"LostSheets", "tryPlan", "()V"⟩ ∈ lw_tbl := List.mem_append_left _ (List.mem_map.mpr ⟨(⟨"LostSheets", "tryPlan", "()V"⟩, _), List.mem_of_getElem? (i := 28) rfl, rfl⟩)
theorem ct_727 : (Jvm.Cond.methodLink "LostSheets" (345 : Nat) ({ cls := "LostSheets$Land", name := "emptySheet", desc := "(I)V" } : Jvm.MethodName)) ∈ lw_tbl := tl_4 _ (List.mem_of_getElem? (i := 7) rfl)
theorem ct_728 : (Jvm.Cond.instanceMethod ({ cls := "LostSheets$Land", name := "emptySheet", desc := "(I)V" } : Jvm.MethodName)) ∈ lw_tbl := tl_4 _ (List.mem_of_getElem? (i := 8) rfl)
theorem ct_729 : (Jvm.Cond.selects "LostSheets$Land" ({ cls := "LostSheets$Land", name := "emptySheet", desc := "(I)V" } : Jvm.MethodName) ({ cls := "LostSheets$Land", name := "emptySheet", desc := "(I)V" } : Jvm.MethodName)) ∈ lw_tbl := tl_4 _ (List.mem_of_getElem? (i := 9) rfl)
theorem ct_731 : (Jvm.Cond.methodLink "LostSheets" (348 : Nat) ({ cls := "LostSheets$Land", name := "notDone", desc := "(I)V" } : Jvm.MethodName)) ∈ lw_tbl := tl_4 _ (List.mem_of_getElem? (i := 11) rfl)
theorem ct_732 : (Jvm.Cond.instanceMethod ({ cls := "LostSheets$Land", name := "notDone", desc := "(I)V" } : Jvm.MethodName)) ∈ lw_tbl := tl_4 _ (List.mem_of_getElem? (i := 12) rfl)
theorem ct_733 : (Jvm.Cond.selects "LostSheets$Land" ({ cls := "LostSheets$Land", name := "notDone", desc := "(I)V" } : Jvm.MethodName) ({ cls := "LostSheets$Land", name := "notDone", desc := "(I)V" } : Jvm.MethodName)) ∈ lw_tbl := tl_4 _ (List.mem_of_getElem? (i := 13) rfl)
theorem ct_747 : (Jvm.Cond.methodLink "LostSheets" (264 : Nat) ({ cls := "LostSheets", name := "tapeAt", desc := "(I)LLostSheets$Tape;" } : Jvm.MethodName)) ∈ lw_tbl := tl_4 _ (List.mem_of_getElem? (i := 27) rfl)
theorem ct_749 : (Jvm.Cond.instanceMethod ({ cls := "LostSheets", name := "tapeAt", desc := "(I)LLostSheets$Tape;" } : Jvm.MethodName)) ∈ lw_tbl := tl_4 _ (List.mem_of_getElem? (i := 29) rfl)
theorem cts_29 : Cond.selects "LostSheets" ⟨"LostSheets", "tapeAt", "(I)LLostSheets$Tape;"⟩ ⟨"LostSheets", "tapeAt", "(I)LLostSheets$Tape;"⟩ ∈ lw_tbl := List.mem_append_left _ (List.mem_map.mpr ⟨(⟨"LostSheets", "tapeAt", "(I)LLostSheets$Tape;"⟩, _), List.mem_of_getElem? (i := 29) rfl, rfl⟩)
theorem ct_751 : (Jvm.Cond.methodLink "LostSheets" (274 : Nat) ({ cls := "LostSheets$Tape", name := "has", desc := "(I)Z" } : Jvm.MethodName)) ∈ lw_tbl := tl_4 _ (List.mem_of_getElem? (i := 31) rfl)
theorem ct_752 : (Jvm.Cond.instanceMethod ({ cls := "LostSheets$Tape", name := "has", desc := "(I)Z" } : Jvm.MethodName)) ∈ lw_tbl := tl_4 _ (List.mem_of_getElem? (i := 32) rfl)
theorem ct_753 : (Jvm.Cond.selects "LostSheets$Tape" ({ cls := "LostSheets$Tape", name := "has", desc := "(I)Z" } : Jvm.MethodName) ({ cls := "LostSheets$Tape", name := "has", desc := "(I)Z" } : Jvm.MethodName)) ∈ lw_tbl := tl_4 _ (List.mem_of_getElem? (i := 33) rfl)
theorem ct_759 : (Jvm.Cond.methodLink "LostSheets" (281 : Nat) ({ cls := "LostSheets$ByHand", name := "copyFrom", desc := "(LLostSheets$ByHand;)V" } : Jvm.MethodName)) ∈ lw_tbl := tl_4 _ (List.mem_of_getElem? (i := 39) rfl)
theorem ct_760 : (Jvm.Cond.instanceMethod ({ cls := "LostSheets$ByHand", name := "copyFrom", desc := "(LLostSheets$ByHand;)V" } : Jvm.MethodName)) ∈ lw_tbl := tl_4 _ (List.mem_of_getElem? (i := 40) rfl)
theorem ct_761 : (Jvm.Cond.selects "LostSheets$ByHand" ({ cls := "LostSheets$ByHand", name := "copyFrom", desc := "(LLostSheets$ByHand;)V" } : Jvm.MethodName) ({ cls := "LostSheets$ByHand", name := "copyFrom", desc := "(LLostSheets$ByHand;)V" } : Jvm.MethodName)) ∈ lw_tbl := tl_4 _ (List.mem_of_getElem? (i := 41) rfl)
theorem ct_776 : (Jvm.Cond.methodLink "LostSheets" (284 : Nat) ({ cls := "LostSheets$Trace", name := "ofAct", desc := "(LLostSheets$Drawer;II)I" } : Jvm.MethodName)) ∈ lw_tbl := tl_4 _ (List.mem_of_getElem? (i := 56) rfl)
theorem ct_777 : (Jvm.Cond.instanceMethod ({ cls := "LostSheets$Trace", name := "ofAct", desc := "(LLostSheets$Drawer;II)I" } : Jvm.MethodName)) ∈ lw_tbl := tl_4 _ (List.mem_of_getElem? (i := 57) rfl)
theorem ct_778 : (Jvm.Cond.selects "LostSheets$Trace" ({ cls := "LostSheets$Trace", name := "ofAct", desc := "(LLostSheets$Drawer;II)I" } : Jvm.MethodName) ({ cls := "LostSheets$Trace", name := "ofAct", desc := "(LLostSheets$Drawer;II)I" } : Jvm.MethodName)) ∈ lw_tbl := tl_4 _ (List.mem_of_getElem? (i := 58) rfl)
theorem ct_810 : (Jvm.Cond.methodLink "LostSheets" (294 : Nat) ({ cls := "LostSheets", name := "isUnder", desc := "(II)Z" } : Jvm.MethodName)) ∈ lw_tbl := tl_4 _ (List.mem_of_getElem? (i := 90) rfl)
theorem ct_811 : (Jvm.Cond.static ({ cls := "LostSheets", name := "isUnder", desc := "(II)Z" } : Jvm.MethodName)) ∈ lw_tbl := tl_4 _ (List.mem_of_getElem? (i := 91) rfl)
theorem ct_813 : (Jvm.Cond.methodLink "LostSheets" (316 : Nat) ({ cls := "LostSheets", name := "aboveOf", desc := "(I)I" } : Jvm.MethodName)) ∈ lw_tbl := tl_4 _ (List.mem_of_getElem? (i := 93) rfl)
theorem ct_822 : (Jvm.Cond.methodLink "LostSheets" (297 : Nat) ({ cls := "LostSheets$Tape", name := "becomes", desc := "(II)V" } : Jvm.MethodName)) ∈ lw_tbl := tl_4 _ (List.mem_of_getElem? (i := 102) rfl)
theorem ct_823 : (Jvm.Cond.instanceMethod ({ cls := "LostSheets$Tape", name := "becomes", desc := "(II)V" } : Jvm.MethodName)) ∈ lw_tbl := tl_4 _ (List.mem_of_getElem? (i := 103) rfl)
theorem ct_824 : (Jvm.Cond.selects "LostSheets$Tape" ({ cls := "LostSheets$Tape", name := "becomes", desc := "(II)V" } : Jvm.MethodName) ({ cls := "LostSheets$Tape", name := "becomes", desc := "(II)V" } : Jvm.MethodName)) ∈ lw_tbl := tl_4 _ (List.mem_of_getElem? (i := 104) rfl)
theorem ct_830 : (Jvm.Cond.methodLink "LostSheets" (300 : Nat) ({ cls := "LostSheets$Tape", name := "asItem", desc := "(J)J" } : Jvm.MethodName)) ∈ lw_tbl := tl_4 _ (List.mem_of_getElem? (i := 110) rfl)
theorem ct_831 : (Jvm.Cond.instanceMethod ({ cls := "LostSheets$Tape", name := "asItem", desc := "(J)J" } : Jvm.MethodName)) ∈ lw_tbl := tl_4 _ (List.mem_of_getElem? (i := 111) rfl)
theorem ct_832 : (Jvm.Cond.selects "LostSheets$Tape" ({ cls := "LostSheets$Tape", name := "asItem", desc := "(J)J" } : Jvm.MethodName) ({ cls := "LostSheets$Tape", name := "asItem", desc := "(J)J" } : Jvm.MethodName)) ∈ lw_tbl := tl_4 _ (List.mem_of_getElem? (i := 112) rfl)
theorem ct_842 : (Jvm.Cond.methodLink "LostSheets" (304 : Nat) ({ cls := "LostSheets$Tape", name := "hasRun", desc := "(II)Z" } : Jvm.MethodName)) ∈ lw_tbl := tl_4 _ (List.mem_of_getElem? (i := 122) rfl)
theorem ct_843 : (Jvm.Cond.instanceMethod ({ cls := "LostSheets$Tape", name := "hasRun", desc := "(II)Z" } : Jvm.MethodName)) ∈ lw_tbl := tl_4 _ (List.mem_of_getElem? (i := 123) rfl)
theorem ct_844 : (Jvm.Cond.selects "LostSheets$Tape" ({ cls := "LostSheets$Tape", name := "hasRun", desc := "(II)Z" } : Jvm.MethodName) ({ cls := "LostSheets$Tape", name := "hasRun", desc := "(II)Z" } : Jvm.MethodName)) ∈ lw_tbl := tl_4 _ (List.mem_of_getElem? (i := 124) rfl)
theorem ct_846 : (Jvm.Cond.methodLink "LostSheets" (307 : Nat) ({ cls := "java/lang/System", name := "arraycopy", desc := "(Ljava/lang/Object;ILjava/lang/Object;II)V" } : Jvm.MethodName)) ∈ lw_tbl := tl_4 _ (List.mem_of_getElem? (i := 126) rfl)
theorem ct_852 : (Jvm.Cond.methodLink "LostSheetsModel" (3 : Nat) ({ cls := "java/lang/Object", name := "<init>", desc := "()V" } : Jvm.MethodName)) ∈ lw_tbl := tl_4 _ (List.mem_of_getElem? (i := 132) rfl)
theorem ct_1000 : (Jvm.Cond.methodLink "LostSheetsModel" (114 : Nat) ({ cls := "LostSheetsModel", name := "within", desc := "(III)Z" } : Jvm.MethodName)) ∈ lw_tbl := tl_5 _ (List.mem_of_getElem? (i := 40) rfl)
theorem ct_1001 : (Jvm.Cond.static ({ cls := "LostSheetsModel", name := "within", desc := "(III)Z" } : Jvm.MethodName)) ∈ lw_tbl := tl_5 _ (List.mem_of_getElem? (i := 41) rfl)
theorem ct_1003 : (Jvm.Cond.methodLink "LostSheetsModel" (118 : Nat) ({ cls := "LostSheetsModel", name := "isCell", desc := "(I)Z" } : Jvm.MethodName)) ∈ lw_tbl := tl_5 _ (List.mem_of_getElem? (i := 43) rfl)
theorem ct_1004 : (Jvm.Cond.static ({ cls := "LostSheetsModel", name := "isCell", desc := "(I)Z" } : Jvm.MethodName)) ∈ lw_tbl := tl_5 _ (List.mem_of_getElem? (i := 44) rfl)
theorem ct_1010 : (Jvm.Cond.methodLink "LostSheetsModel" (122 : Nat) ({ cls := "LostSheetsModel", name := "isOne", desc := "(I)Z" } : Jvm.MethodName)) ∈ lw_tbl := tl_5 _ (List.mem_of_getElem? (i := 50) rfl)
theorem ct_1012 : (Jvm.Cond.instanceMethod ({ cls := "LostSheetsModel", name := "isOne", desc := "(I)Z" } : Jvm.MethodName)) ∈ lw_tbl := tl_5 _ (List.mem_of_getElem? (i := 52) rfl)
theorem cts_33 : Cond.selects "LostSheetsModel" ⟨"LostSheetsModel", "isOne", "(I)Z"⟩ ⟨"LostSheetsModel", "isOne", "(I)Z"⟩ ∈ lw_tbl := List.mem_append_left _ (List.mem_map.mpr ⟨(⟨"LostSheetsModel", "isOne", "(I)Z"⟩, _), List.mem_of_getElem? (i := 33) rfl, rfl⟩)
theorem ct_1014 : (Jvm.Cond.methodLink "LostSheetsModel" (125 : Nat) ({ cls := "LostSheetsModel", name := "feel", desc := "(I)I" } : Jvm.MethodName)) ∈ lw_tbl := tl_5 _ (List.mem_of_getElem? (i := 54) rfl)
theorem ct_1016 : (Jvm.Cond.instanceMethod ({ cls := "LostSheetsModel", name := "feel", desc := "(I)I" } : Jvm.MethodName)) ∈ lw_tbl := tl_5 _ (List.mem_of_getElem? (i := 56) rfl)
theorem cts_34 : Cond.selects "LostSheetsModel" ⟨"LostSheetsModel", "feel", "(I)I"⟩ ⟨"LostSheetsModel", "feel", "(I)I"⟩ ∈ lw_tbl := List.mem_append_left _ (List.mem_map.mpr ⟨(⟨"LostSheetsModel", "feel", "(I)I"⟩, _), List.mem_of_getElem? (i := 34) rfl, rfl⟩)
theorem ct_1018 : (Jvm.Cond.methodLink "LostSheetsModel" (231 : Nat) ({ cls := "LostSheetsModel", name := "sum", desc := "(I)I" } : Jvm.MethodName)) ∈ lw_tbl := tl_5 _ (List.mem_of_getElem? (i := 58) rfl)
theorem ct_1020 : (Jvm.Cond.instanceMethod ({ cls := "LostSheetsModel", name := "sum", desc := "(I)I" } : Jvm.MethodName)) ∈ lw_tbl := tl_5 _ (List.mem_of_getElem? (i := 60) rfl)
theorem cts_35 : Cond.selects "LostSheetsModel" ⟨"LostSheetsModel", "sum", "(I)I"⟩ ⟨"LostSheetsModel", "sum", "(I)I"⟩ ∈ lw_tbl := List.mem_append_left _ (List.mem_map.mpr ⟨(⟨"LostSheetsModel", "sum", "(I)I"⟩, _), List.mem_of_getElem? (i := 35) rfl, rfl⟩)
theorem ct_1022 : (Jvm.Cond.methodLink "LostSheetsModel" (227 : Nat) ({ cls := "LostSheetsModel", name := "isTrue", desc := "(II)Z" } : Jvm.MethodName)) ∈ lw_tbl := tl_5 _ (List.mem_of_getElem? (i := 62) rfl)
theorem ct_1024 : (Jvm.Cond.instanceMethod ({ cls := "LostSheetsModel", name := "isTrue", desc := "(II)Z" } : Jvm.MethodName)) ∈ lw_tbl := tl_5 _ (List.mem_of_getElem? (i := 64) rfl)
theorem cts_36 : Cond.selects "LostSheetsModel" ⟨"LostSheetsModel", "isTrue", "(II)Z"⟩ ⟨"LostSheetsModel", "isTrue", "(II)Z"⟩ ∈ lw_tbl := List.mem_append_left _ (List.mem_map.mpr ⟨(⟨"LostSheetsModel", "isTrue", "(II)Z"⟩, _), List.mem_of_getElem? (i := 36) rfl, rfl⟩)
theorem ct_1026 : (Jvm.Cond.methodLink "LostSheetsModel" (223 : Nat) ({ cls := "LostSheetsModel", name := "letterOf", desc := "(II)I" } : Jvm.MethodName)) ∈ lw_tbl := tl_5 _ (List.mem_of_getElem? (i := 66) rfl)
theorem ct_1028 : (Jvm.Cond.instanceMethod ({ cls := "LostSheetsModel", name := "letterOf", desc := "(II)I" } : Jvm.MethodName)) ∈ lw_tbl := tl_5 _ (List.mem_of_getElem? (i := 68) rfl)
theorem cts_37 : Cond.selects "LostSheetsModel" ⟨"LostSheetsModel", "letterOf", "(II)I"⟩ ⟨"LostSheetsModel", "letterOf", "(II)I"⟩ ∈ lw_tbl := List.mem_append_left _ (List.mem_map.mpr ⟨(⟨"LostSheetsModel", "letterOf", "(II)I"⟩, _), List.mem_of_getElem? (i := 37) rfl, rfl⟩)
theorem ct_1030 : (Jvm.Cond.methodLink "LostSheetsModel" (234 : Nat) ({ cls := "LostSheetsModel", name := "others", desc := "(I)I" } : Jvm.MethodName)) ∈ lw_tbl := tl_5 _ (List.mem_of_getElem? (i := 70) rfl)
theorem ct_1032 : (Jvm.Cond.instanceMethod ({ cls := "LostSheetsModel", name := "others", desc := "(I)I" } : Jvm.MethodName)) ∈ lw_tbl := tl_5 _ (List.mem_of_getElem? (i := 72) rfl)
theorem cts_38 : Cond.selects "LostSheetsModel" ⟨"LostSheetsModel", "others", "(I)I"⟩ ⟨"LostSheetsModel", "others", "(I)I"⟩ ∈ lw_tbl := List.mem_append_left _ (List.mem_map.mpr ⟨(⟨"LostSheetsModel", "others", "(I)I"⟩, _), List.mem_of_getElem? (i := 38) rfl, rfl⟩)
theorem ct_1034 : (Jvm.Cond.methodLink "LostSheetsModel" (129 : Nat) ({ cls := "LostSheetsModel", name := "wayOf", desc := "(I)I" } : Jvm.MethodName)) ∈ lw_tbl := tl_5 _ (List.mem_of_getElem? (i := 74) rfl)
theorem ct_1036 : (Jvm.Cond.instanceMethod ({ cls := "LostSheetsModel", name := "wayOf", desc := "(I)I" } : Jvm.MethodName)) ∈ lw_tbl := tl_5 _ (List.mem_of_getElem? (i := 76) rfl)
theorem cts_39 : Cond.selects "LostSheetsModel" ⟨"LostSheetsModel", "wayOf", "(I)I"⟩ ⟨"LostSheetsModel", "wayOf", "(I)I"⟩ ∈ lw_tbl := List.mem_append_left _ (List.mem_map.mpr ⟨(⟨"LostSheetsModel", "wayOf", "(I)I"⟩, _), List.mem_of_getElem? (i := 39) rfl, rfl⟩)
theorem ct_1038 : (Jvm.Cond.methodLink "LostSheetsModel" (132 : Nat) ({ cls := "LostSheetsModel", name := "came", desc := "(IZ)I" } : Jvm.MethodName)) ∈ lw_tbl := tl_5 _ (List.mem_of_getElem? (i := 78) rfl)
theorem ct_1040 : (Jvm.Cond.instanceMethod ({ cls := "LostSheetsModel", name := "came", desc := "(IZ)I" } : Jvm.MethodName)) ∈ lw_tbl := tl_5 _ (List.mem_of_getElem? (i := 80) rfl)
theorem cts_40 : Cond.selects "LostSheetsModel" ⟨"LostSheetsModel", "came", "(IZ)I"⟩ ⟨"LostSheetsModel", "came", "(IZ)I"⟩ ∈ lw_tbl := List.mem_append_left _ (List.mem_map.mpr ⟨(⟨"LostSheetsModel", "came", "(IZ)I"⟩, _), List.mem_of_getElem? (i := 40) rfl, rfl⟩)
theorem ct_1042 : (Jvm.Cond.methodLink "LostSheetsModel" (237 : Nat) ({ cls := "LostSheetsModel", name := "step", desc := "(II)I" } : Jvm.MethodName)) ∈ lw_tbl := tl_5 _ (List.mem_of_getElem? (i := 82) rfl)
theorem ct_1043 : (Jvm.Cond.static ({ cls := "LostSheetsModel", name := "step", desc := "(II)I" } : Jvm.MethodName)) ∈ lw_tbl := tl_5 _ (List.mem_of_getElem? (i := 83) rfl)
theorem ct_1045 : (Jvm.Cond.methodLink "LostSheetsModel" (136 : Nat) ({ cls := "LostSheetsModel", name := "look", desc := "(I)I" } : Jvm.MethodName)) ∈ lw_tbl := tl_5 _ (List.mem_of_getElem? (i := 85) rfl)
theorem ct_1047 : (Jvm.Cond.instanceMethod ({ cls := "LostSheetsModel", name := "look", desc := "(I)I" } : Jvm.MethodName)) ∈ lw_tbl := tl_5 _ (List.mem_of_getElem? (i := 87) rfl)
theorem cts_41 : Cond.selects "LostSheetsModel" ⟨"LostSheetsModel", "look", "(I)I"⟩ ⟨"LostSheetsModel", "look", "(I)I"⟩ ∈ lw_tbl := List.mem_append_left _ (List.mem_map.mpr ⟨(⟨"LostSheetsModel", "look", "(I)I"⟩, _), List.mem_of_getElem? (i := 41) rfl, rfl⟩)
theorem ct_1049 : (Jvm.Cond.methodLink "LostSheetsModel" (279 : Nat) ({ cls := "java/lang/Math", name := "max", desc := "(II)I" } : Jvm.MethodName)) ∈ lw_tbl := tl_5 _ (List.mem_of_getElem? (i := 89) rfl)
theorem ct_1050 : (Jvm.Cond.methodLink "LostSheetsModel" (139 : Nat) ({ cls := "LostSheetsModel", name := "places", desc := "(I)I" } : Jvm.MethodName)) ∈ lw_tbl := tl_5 _ (List.mem_of_getElem? (i := 90) rfl)
theorem ct_1052 : (Jvm.Cond.instanceMethod ({ cls := "LostSheetsModel", name := "places", desc := "(I)I" } : Jvm.MethodName)) ∈ lw_tbl := tl_5 _ (List.mem_of_getElem? (i := 92) rfl)
theorem cts_42 : Cond.selects "LostSheetsModel" ⟨"LostSheetsModel", "places", "(I)I"⟩ ⟨"LostSheetsModel", "places", "(I)I"⟩ ∈ lw_tbl := List.mem_append_left _ (List.mem_map.mpr ⟨(⟨"LostSheetsModel", "places", "(I)I"⟩, _), List.mem_of_getElem? (i := 42) rfl, rfl⟩)
theorem ct_1054 : (Jvm.Cond.methodLink "LostSheetsModel" (299 : Nat) ({ cls := "LostSheetsModel", name := "isSeen", desc := "()Z" } : Jvm.MethodName)) ∈ lw_tbl := tl_5 _ (List.mem_of_getElem? (i := 94) rfl)
theorem ct_1056 : (Jvm.Cond.instanceMethod ({ cls := "LostSheetsModel", name := "isSeen", desc := "()Z" } : Jvm.MethodName)) ∈ lw_tbl := tl_5 _ (List.mem_of_getElem? (i := 96) rfl)
theorem cts_43 : Cond.selects "LostSheetsModel" ⟨"LostSheetsModel", "isSeen", "()Z"⟩ ⟨"LostSheetsModel", "isSeen", "()Z"⟩ ∈ lw_tbl := List.mem_append_left _ (List.mem_map.mpr ⟨(⟨"LostSheetsModel", "isSeen", "()Z"⟩, _), List.mem_of_getElem? (i := 43) rfl, rfl⟩)
theorem ct_1058 : (Jvm.Cond.methodLink "LostSheetsModel" (253 : Nat) ({ cls := "LostSheetsModel", name := "keep", desc := "([I)V" } : Jvm.MethodName)) ∈ lw_tbl := tl_5 _ (List.mem_of_getElem? (i := 98) rfl)
theorem ct_1060 : (Jvm.Cond.instanceMethod ({ cls := "LostSheetsModel", name := "keep", desc := "([I)V" } : Jvm.MethodName)) ∈ lw_tbl := tl_5 _ (List.mem_of_getElem? (i := 100) rfl)
theorem cts_44 : Cond.selects "LostSheetsModel" ⟨"LostSheetsModel", "keep", "([I)V"⟩ ⟨"LostSheetsModel", "keep", "([I)V"⟩ ∈ lw_tbl := List.mem_append_left _ (List.mem_map.mpr ⟨(⟨"LostSheetsModel", "keep", "([I)V"⟩, _), List.mem_of_getElem? (i := 44) rfl, rfl⟩)
theorem ct_1062 : (Jvm.Cond.methodLink "LostSheetsModel" (250 : Nat) ({ cls := "LostSheetsModel", name := "goesHour", desc := "()V" } : Jvm.MethodName)) ∈ lw_tbl := tl_5 _ (List.mem_of_getElem? (i := 102) rfl)
theorem ct_1064 : (Jvm.Cond.instanceMethod ({ cls := "LostSheetsModel", name := "goesHour", desc := "()V" } : Jvm.MethodName)) ∈ lw_tbl := tl_5 _ (List.mem_of_getElem? (i := 104) rfl)
theorem cts_45 : Cond.selects "LostSheetsModel" ⟨"LostSheetsModel", "goesHour", "()V"⟩ ⟨"LostSheetsModel", "goesHour", "()V"⟩ ∈ lw_tbl := List.mem_append_left _ (List.mem_map.mpr ⟨(⟨"LostSheetsModel", "goesHour", "()V"⟩, _), List.mem_of_getElem? (i := 45) rfl, rfl⟩)
theorem ct_1066 : (Jvm.Cond.methodLink "LostSheetsModel" (243 : Nat) ({ cls := "LostSheetsModel", name := "know", desc := "()I" } : Jvm.MethodName)) ∈ lw_tbl := tl_5 _ (List.mem_of_getElem? (i := 106) rfl)
theorem ct_1068 : (Jvm.Cond.instanceMethod ({ cls := "LostSheetsModel", name := "know", desc := "()I" } : Jvm.MethodName)) ∈ lw_tbl := tl_5 _ (List.mem_of_getElem? (i := 108) rfl)
theorem cts_46 : Cond.selects "LostSheetsModel" ⟨"LostSheetsModel", "know", "()I"⟩ ⟨"LostSheetsModel", "know", "()I"⟩ ∈ lw_tbl := List.mem_append_left _ (List.mem_map.mpr ⟨(⟨"LostSheetsModel", "know", "()I"⟩, _), List.mem_of_getElem? (i := 46) rfl, rfl⟩)
theorem ct_1070 : (Jvm.Cond.methodLink "LostSheetsModel" (246 : Nat) ({ cls := "LostSheetsModel", name := "goesBy", desc := "(III)V" } : Jvm.MethodName)) ∈ lw_tbl := tl_5 _ (List.mem_of_getElem? (i := 110) rfl)
theorem ct_1072 : (Jvm.Cond.instanceMethod ({ cls := "LostSheetsModel", name := "goesBy", desc := "(III)V" } : Jvm.MethodName)) ∈ lw_tbl := tl_5 _ (List.mem_of_getElem? (i := 112) rfl)
theorem cts_47 : Cond.selects "LostSheetsModel" ⟨"LostSheetsModel", "goesBy", "(III)V"⟩ ⟨"LostSheetsModel", "goesBy", "(III)V"⟩ ∈ lw_tbl := List.mem_append_left _ (List.mem_map.mpr ⟨(⟨"LostSheetsModel", "goesBy", "(III)V"⟩, _), List.mem_of_getElem? (i := 47) rfl, rfl⟩)
theorem ct_1074 : (Jvm.Cond.methodLink "LostSheetsModel" (258 : Nat) ({ cls := "LostSheetsModel", name := "again", desc := "([I)V" } : Jvm.MethodName)) ∈ lw_tbl := tl_5 _ (List.mem_of_getElem? (i := 114) rfl)
theorem ct_1076 : (Jvm.Cond.instanceMethod ({ cls := "LostSheetsModel", name := "again", desc := "([I)V" } : Jvm.MethodName)) ∈ lw_tbl := tl_5 _ (List.mem_of_getElem? (i := 116) rfl)
theorem cts_48 : Cond.selects "LostSheetsModel" ⟨"LostSheetsModel", "again", "([I)V"⟩ ⟨"LostSheetsModel", "again", "([I)V"⟩ ∈ lw_tbl := List.mem_append_left _ (List.mem_map.mpr ⟨(⟨"LostSheetsModel", "again", "([I)V"⟩, _), List.mem_of_getElem? (i := 48) rfl, rfl⟩)
theorem ct_1106 : (Jvm.Cond.methodLink "LostSheetsModel" (217 : Nat) ({ cls := "LostSheetsModel", name := "isClause", desc := "(I)Z" } : Jvm.MethodName)) ∈ lw_tbl := tl_5 _ (List.mem_of_getElem? (i := 146) rfl)
theorem ct_1108 : (Jvm.Cond.instanceMethod ({ cls := "LostSheetsModel", name := "isClause", desc := "(I)Z" } : Jvm.MethodName)) ∈ lw_tbl := tl_5 _ (List.mem_of_getElem? (i := 148) rfl)
theorem cts_49 : Cond.selects "LostSheetsModel" ⟨"LostSheetsModel", "isClause", "(I)Z"⟩ ⟨"LostSheetsModel", "isClause", "(I)Z"⟩ ∈ lw_tbl := List.mem_append_left _ (List.mem_map.mpr ⟨(⟨"LostSheetsModel", "isClause", "(I)Z"⟩, _), List.mem_of_getElem? (i := 49) rfl, rfl⟩)
theorem ct_1111 : (Jvm.Cond.methodLink "LostSheetsModel" (206 : Nat) ({ cls := "LostSheetsModel", name := "isAll", desc := "(Ljava/lang/String;)Z" } : Jvm.MethodName)) ∈ lw_tbl := tl_5 _ (List.mem_of_getElem? (i := 151) rfl)
theorem ct_1113 : (Jvm.Cond.instanceMethod ({ cls := "LostSheetsModel", name := "isAll", desc := "(Ljava/lang/String;)Z" } : Jvm.MethodName)) ∈ lw_tbl := tl_5 _ (List.mem_of_getElem? (i := 153) rfl)
theorem cts_50 : Cond.selects "LostSheetsModel" ⟨"LostSheetsModel", "isAll", "(Ljava/lang/String;)Z"⟩ ⟨"LostSheetsModel", "isAll", "(Ljava/lang/String;)Z"⟩ ∈ lw_tbl := List.mem_append_left _ (List.mem_map.mpr ⟨(⟨"LostSheetsModel", "isAll", "(Ljava/lang/String;)Z"⟩, _), List.mem_of_getElem? (i := 50) rfl, rfl⟩)
theorem ct_1115 : (Jvm.Cond.methodLink "LostSheetsModel" (158 : Nat) ({ cls := "java/lang/String", name := "length", desc := "()I" } : Jvm.MethodName)) ∈ lw_tbl := tl_5 _ (List.mem_of_getElem? (i := 155) rfl)
theorem ct_1116 : (Jvm.Cond.methodLink "LostSheetsModel" (163 : Nat) ({ cls := "java/lang/String", name := "charAt", desc := "(I)C" } : Jvm.MethodName)) ∈ lw_tbl := tl_5 _ (List.mem_of_getElem? (i := 156) rfl)
theorem ct_1117 : (Jvm.Cond.methodLink "LostSheetsModel" (167 : Nat) ({ cls := "LostSheetsModel", name := "is", desc := "(I)Z" } : Jvm.MethodName)) ∈ lw_tbl := tl_5 _ (List.mem_of_getElem? (i := 157) rfl)
theorem ct_1119 : (Jvm.Cond.instanceMethod ({ cls := "LostSheetsModel", name := "is", desc := "(I)Z" } : Jvm.MethodName)) ∈ lw_tbl := tl_5 _ (List.mem_of_getElem? (i := 159) rfl)
theorem cts_51 : Cond.selects "LostSheetsModel" ⟨"LostSheetsModel", "is", "(I)Z"⟩ ⟨"LostSheetsModel", "is", "(I)Z"⟩ ∈ lw_tbl := List.mem_append_left _ (List.mem_map.mpr ⟨(⟨"LostSheetsModel", "is", "(I)Z"⟩, _), List.mem_of_getElem? (i := 51) rfl, rfl⟩)
theorem ct_1123 : (Jvm.Cond.methodLink "LostSheetsModel" (180 : Nat) ({ cls := "LostSheetsModel", name := "isNumber", desc := "()Z" } : Jvm.MethodName)) ∈ lw_tbl := tl_5 _ (List.mem_of_getElem? (i := 163) rfl)
theorem ct_1125 : (Jvm.Cond.instanceMethod ({ cls := "LostSheetsModel", name := "isNumber", desc := "()Z" } : Jvm.MethodName)) ∈ lw_tbl := tl_5 _ (List.mem_of_getElem? (i := 165) rfl)
theorem cts_52 : Cond.selects "LostSheetsModel" ⟨"LostSheetsModel", "isNumber", "()Z"⟩ ⟨"LostSheetsModel", "isNumber", "()Z"⟩ ∈ lw_tbl := List.mem_append_left _ (List.mem_map.mpr ⟨(⟨"LostSheetsModel", "isNumber", "()Z"⟩, _), List.mem_of_getElem? (i := 52) rfl, rfl⟩)
theorem ct_1127 : (Jvm.Cond.methodLink "LostSheetsModel" (154 : Nat) ({ cls := "LostSheetsModel", name := "isDigit", desc := "()Z" } : Jvm.MethodName)) ∈ lw_tbl := tl_5 _ (List.mem_of_getElem? (i := 167) rfl)
theorem ct_1129 : (Jvm.Cond.instanceMethod ({ cls := "LostSheetsModel", name := "isDigit", desc := "()Z" } : Jvm.MethodName)) ∈ lw_tbl := tl_5 _ (List.mem_of_getElem? (i := 169) rfl)
theorem cts_53 : Cond.selects "LostSheetsModel" ⟨"LostSheetsModel", "isDigit", "()Z"⟩ ⟨"LostSheetsModel", "isDigit", "()Z"⟩ ∈ lw_tbl := List.mem_append_left _ (List.mem_map.mpr ⟨(⟨"LostSheetsModel", "isDigit", "()Z"⟩, _), List.mem_of_getElem? (i := 53) rfl, rfl⟩)
theorem ct_1131 : (Jvm.Cond.methodLink "LostSheetsModel" (195 : Nat) ({ cls := "LostSheetsModel", name := "isE", desc := "()Z" } : Jvm.MethodName)) ∈ lw_tbl := tl_5 _ (List.mem_of_getElem? (i := 171) rfl)
theorem ct_1133 : (Jvm.Cond.instanceMethod ({ cls := "LostSheetsModel", name := "isE", desc := "()Z" } : Jvm.MethodName)) ∈ lw_tbl := tl_5 _ (List.mem_of_getElem? (i := 173) rfl)
theorem cts_54 : Cond.selects "LostSheetsModel" ⟨"LostSheetsModel", "isE", "()Z"⟩ ⟨"LostSheetsModel", "isE", "()Z"⟩ ∈ lw_tbl := List.mem_append_left _ (List.mem_map.mpr ⟨(⟨"LostSheetsModel", "isE", "()Z"⟩, _), List.mem_of_getElem? (i := 54) rfl, rfl⟩)
theorem ct_1135 : (Jvm.Cond.methodLink "LostSheetsModel" (201 : Nat) ({ cls := "LostSheetsModel", name := "isT", desc := "()Z" } : Jvm.MethodName)) ∈ lw_tbl := tl_5 _ (List.mem_of_getElem? (i := 175) rfl)
theorem ct_1137 : (Jvm.Cond.instanceMethod ({ cls := "LostSheetsModel", name := "isT", desc := "()Z" } : Jvm.MethodName)) ∈ lw_tbl := tl_5 _ (List.mem_of_getElem? (i := 177) rfl)
theorem cts_55 : Cond.selects "LostSheetsModel" ⟨"LostSheetsModel", "isT", "()Z"⟩ ⟨"LostSheetsModel", "isT", "()Z"⟩ ∈ lw_tbl := List.mem_append_left _ (List.mem_map.mpr ⟨(⟨"LostSheetsModel", "isT", "()Z"⟩, _), List.mem_of_getElem? (i := 55) rfl, rfl⟩)
theorem ct_1139 : (Jvm.Cond.methodLink "LostSheetsModel" (192 : Nat) ({ cls := "LostSheetsModel", name := "isF", desc := "()Z" } : Jvm.MethodName)) ∈ lw_tbl := tl_5 _ (List.mem_of_getElem? (i := 179) rfl)
theorem ct_1141 : (Jvm.Cond.instanceMethod ({ cls := "LostSheetsModel", name := "isF", desc := "()Z" } : Jvm.MethodName)) ∈ lw_tbl := tl_5 _ (List.mem_of_getElem? (i := 181) rfl)
theorem cts_56 : Cond.selects "LostSheetsModel" ⟨"LostSheetsModel", "isF", "()Z"⟩ ⟨"LostSheetsModel", "isF", "()Z"⟩ ∈ lw_tbl := List.mem_append_left _ (List.mem_map.mpr ⟨(⟨"LostSheetsModel", "isF", "()Z"⟩, _), List.mem_of_getElem? (i := 56) rfl, rfl⟩)
theorem ct_1143 : (Jvm.Cond.methodLink "LostSheetsModel" (189 : Nat) ({ cls := "LostSheetsModel", name := "isOpened", desc := "(I)Z" } : Jvm.MethodName)) ∈ lw_tbl := tl_5 _ (List.mem_of_getElem? (i := 183) rfl)
theorem ct_1145 : (Jvm.Cond.instanceMethod ({ cls := "LostSheetsModel", name := "isOpened", desc := "(I)Z" } : Jvm.MethodName)) ∈ lw_tbl := tl_5 _ (List.mem_of_getElem? (i := 185) rfl)
theorem cts_57 : Cond.selects "LostSheetsModel" ⟨"LostSheetsModel", "isOpened", "(I)Z"⟩ ⟨"LostSheetsModel", "isOpened", "(I)Z"⟩ ∈ lw_tbl := List.mem_append_left _ (List.mem_map.mpr ⟨(⟨"LostSheetsModel", "isOpened", "(I)Z"⟩, _), List.mem_of_getElem? (i := 57) rfl, rfl⟩)
theorem ct_1147 : (Jvm.Cond.methodLink "LostSheetsModel" (183 : Nat) ({ cls := "LostSheetsModel", name := "codes", desc := "(I)Z" } : Jvm.MethodName)) ∈ lw_tbl := tl_5 _ (List.mem_of_getElem? (i := 187) rfl)
theorem ct_1149 : (Jvm.Cond.instanceMethod ({ cls := "LostSheetsModel", name := "codes", desc := "(I)Z" } : Jvm.MethodName)) ∈ lw_tbl := tl_5 _ (List.mem_of_getElem? (i := 189) rfl)
theorem cts_58 : Cond.selects "LostSheetsModel" ⟨"LostSheetsModel", "codes", "(I)Z"⟩ ⟨"LostSheetsModel", "codes", "(I)Z"⟩ ∈ lw_tbl := List.mem_append_left _ (List.mem_map.mpr ⟨(⟨"LostSheetsModel", "codes", "(I)Z"⟩, _), List.mem_of_getElem? (i := 58) rfl, rfl⟩)
theorem ct_1151 : (Jvm.Cond.methodLink "LostSheetsModel" (198 : Nat) ({ cls := "LostSheetsModel", name := "isTest", desc := "()Z" } : Jvm.MethodName)) ∈ lw_tbl := tl_5 _ (List.mem_of_getElem? (i := 191) rfl)
theorem ct_1153 : (Jvm.Cond.instanceMethod ({ cls := "LostSheetsModel", name := "isTest", desc := "()Z" } : Jvm.MethodName)) ∈ lw_tbl := tl_5 _ (List.mem_of_getElem? (i := 193) rfl)
theorem cts_59 : Cond.selects "LostSheetsModel" ⟨"LostSheetsModel", "isTest", "()Z"⟩ ⟨"LostSheetsModel", "isTest", "()Z"⟩ ∈ lw_tbl := List.mem_append_left _ (List.mem_map.mpr ⟨(⟨"LostSheetsModel", "isTest", "()Z"⟩, _), List.mem_of_getElem? (i := 59) rfl, rfl⟩)
theorem ct_1156 : (Jvm.Cond.methodLink "LostSheetsModel" (175 : Nat) ({ cls := "java/lang/String", name := "indexOf", desc := "(I)I" } : Jvm.MethodName)) ∈ lw_tbl := tl_5 _ (List.mem_of_getElem? (i := 196) rfl)
theorem ct_1157 : (Jvm.Cond.instanceMethod ({ cls := "java/lang/String", name := "indexOf", desc := "(I)I" } : Jvm.MethodName)) ∈ lw_tbl := tl_5 _ (List.mem_of_getElem? (i := 197) rfl)
theorem ct_1158 : (Jvm.Cond.selects "java/lang/String" ({ cls := "java/lang/String", name := "indexOf", desc := "(I)I" } : Jvm.MethodName) ({ cls := "java/lang/String", name := "indexOf", desc := "(I)I" } : Jvm.MethodName)) ∈ lw_tbl := tl_5 _ (List.mem_of_getElem? (i := 198) rfl)
theorem ct_1216 : (Jvm.Cond.methodLink "LostSheetsModel" (261 : Nat) ({ cls := "LostSheetsModel", name := "marksOf", desc := "(I)I" } : Jvm.MethodName)) ∈ lw_tbl := tl_6 _ (List.mem_of_getElem? (i := 16) rfl)
theorem ct_1218 : (Jvm.Cond.instanceMethod ({ cls := "LostSheetsModel", name := "marksOf", desc := "(I)I" } : Jvm.MethodName)) ∈ lw_tbl := tl_6 _ (List.mem_of_getElem? (i := 18) rfl)
theorem cts_60 : Cond.selects "LostSheetsModel" ⟨"LostSheetsModel", "marksOf", "(I)I"⟩ ⟨"LostSheetsModel", "marksOf", "(I)I"⟩ ∈ lw_tbl := List.mem_append_left _ (List.mem_map.mpr ⟨(⟨"LostSheetsModel", "marksOf", "(I)I"⟩, _), List.mem_of_getElem? (i := 60) rfl, rfl⟩)
theorem ct_1220 : (Jvm.Cond.methodLink "LostSheetsModel" (264 : Nat) ({ cls := "LostSheetsModel", name := "allDone", desc := "()I" } : Jvm.MethodName)) ∈ lw_tbl := tl_6 _ (List.mem_of_getElem? (i := 20) rfl)
theorem ct_1222 : (Jvm.Cond.instanceMethod ({ cls := "LostSheetsModel", name := "allDone", desc := "()I" } : Jvm.MethodName)) ∈ lw_tbl := tl_6 _ (List.mem_of_getElem? (i := 22) rfl)
theorem cts_61 : Cond.selects "LostSheetsModel" ⟨"LostSheetsModel", "allDone", "()I"⟩ ⟨"LostSheetsModel", "allDone", "()I"⟩ ∈ lw_tbl := List.mem_append_left _ (List.mem_map.mpr ⟨(⟨"LostSheetsModel", "allDone", "()I"⟩, _), List.mem_of_getElem? (i := 61) rfl, rfl⟩)
theorem ct_1224 : (Jvm.Cond.methodLink "LostSheetsModel" (267 : Nat) ({ cls := "LostSheetsModel", name := "whole", desc := "()I" } : Jvm.MethodName)) ∈ lw_tbl := tl_6 _ (List.mem_of_getElem? (i := 24) rfl)
theorem ct_1226 : (Jvm.Cond.instanceMethod ({ cls := "LostSheetsModel", name := "whole", desc := "()I" } : Jvm.MethodName)) ∈ lw_tbl := tl_6 _ (List.mem_of_getElem? (i := 26) rfl)
theorem cts_62 : Cond.selects "LostSheetsModel" ⟨"LostSheetsModel", "whole", "()I"⟩ ⟨"LostSheetsModel", "whole", "()I"⟩ ∈ lw_tbl := List.mem_append_left _ (List.mem_map.mpr ⟨(⟨"LostSheetsModel", "whole", "()I"⟩, _), List.mem_of_getElem? (i := 62) rfl, rfl⟩)
theorem ct_1233 : (Jvm.Cond.methodLink "LostSheetsModel" (270 : Nat) ({ cls := "java/lang/Math", name := "min", desc := "(II)I" } : Jvm.MethodName)) ∈ lw_tbl := tl_6 _ (List.mem_of_getElem? (i := 33) rfl)
theorem ct_1238 : (Jvm.Cond.methodLink "LostSheetsModel" (275 : Nat) ({ cls := "LostSheetsModel", name := "goesOn", desc := "(I)V" } : Jvm.MethodName)) ∈ lw_tbl := tl_6 _ (List.mem_of_getElem? (i := 38) rfl)
theorem ct_1240 : (Jvm.Cond.instanceMethod ({ cls := "LostSheetsModel", name := "goesOn", desc := "(I)V" } : Jvm.MethodName)) ∈ lw_tbl := tl_6 _ (List.mem_of_getElem? (i := 40) rfl)
theorem cts_63 : Cond.selects "LostSheetsModel" ⟨"LostSheetsModel", "goesOn", "(I)V"⟩ ⟨"LostSheetsModel", "goesOn", "(I)V"⟩ ∈ lw_tbl := List.mem_append_left _ (List.mem_map.mpr ⟨(⟨"LostSheetsModel", "goesOn", "(I)V"⟩, _), List.mem_of_getElem? (i := 63) rfl, rfl⟩)
theorem ct_1246 : (Jvm.Cond.methodLink "LostSheetsModel" (290 : Nat) ({ cls := "LostSheetsModel", name := "crew", desc := "(I)I" } : Jvm.MethodName)) ∈ lw_tbl := tl_6 _ (List.mem_of_getElem? (i := 46) rfl)
theorem ct_1248 : (Jvm.Cond.instanceMethod ({ cls := "LostSheetsModel", name := "crew", desc := "(I)I" } : Jvm.MethodName)) ∈ lw_tbl := tl_6 _ (List.mem_of_getElem? (i := 48) rfl)
theorem cts_64 : Cond.selects "LostSheetsModel" ⟨"LostSheetsModel", "crew", "(I)I"⟩ ⟨"LostSheetsModel", "crew", "(I)I"⟩ ∈ lw_tbl := List.mem_append_left _ (List.mem_map.mpr ⟨(⟨"LostSheetsModel", "crew", "(I)I"⟩, _), List.mem_of_getElem? (i := 64) rfl, rfl⟩)
theorem ct_1250 : (Jvm.Cond.methodLink "LostSheetsModel" (287 : Nat) ({ cls := "LostSheetsModel", name := "drawnBehind", desc := "(I)I" } : Jvm.MethodName)) ∈ lw_tbl := tl_6 _ (List.mem_of_getElem? (i := 50) rfl)
theorem ct_1252 : (Jvm.Cond.instanceMethod ({ cls := "LostSheetsModel", name := "drawnBehind", desc := "(I)I" } : Jvm.MethodName)) ∈ lw_tbl := tl_6 _ (List.mem_of_getElem? (i := 52) rfl)
theorem cts_65 : Cond.selects "LostSheetsModel" ⟨"LostSheetsModel", "drawnBehind", "(I)I"⟩ ⟨"LostSheetsModel", "drawnBehind", "(I)I"⟩ ∈ lw_tbl := List.mem_append_left _ (List.mem_map.mpr ⟨(⟨"LostSheetsModel", "drawnBehind", "(I)I"⟩, _), List.mem_of_getElem? (i := 65) rfl, rfl⟩)
theorem ct_1254 : (Jvm.Cond.methodLink "LostSheetsModel" (282 : Nat) ({ cls := "java/lang/Integer", name := "bitCount", desc := "(I)I" } : Jvm.MethodName)) ∈ lw_tbl := tl_6 _ (List.mem_of_getElem? (i := 54) rfl)
theorem ct_1255 : (Jvm.Cond.methodLink "LostSheetsModel" (293 : Nat) ({ cls := "LostSheetsModel", name := "landing", desc := "(II)I" } : Jvm.MethodName)) ∈ lw_tbl := tl_6 _ (List.mem_of_getElem? (i := 55) rfl)
theorem ct_1257 : (Jvm.Cond.instanceMethod ({ cls := "LostSheetsModel", name := "landing", desc := "(II)I" } : Jvm.MethodName)) ∈ lw_tbl := tl_6 _ (List.mem_of_getElem? (i := 57) rfl)
theorem cts_66 : Cond.selects "LostSheetsModel" ⟨"LostSheetsModel", "landing", "(II)I"⟩ ⟨"LostSheetsModel", "landing", "(II)I"⟩ ∈ lw_tbl := List.mem_append_left _ (List.mem_map.mpr ⟨(⟨"LostSheetsModel", "landing", "(II)I"⟩, _), List.mem_of_getElem? (i := 66) rfl, rfl⟩)
theorem ct_1273 : (Jvm.Cond.methodLink "LostSheetsModel" (310 : Nat) ({ cls := "LostSheetsModel", name := "part", desc := "(JJI)J" } : Jvm.MethodName)) ∈ lw_tbl := tl_6 _ (List.mem_of_getElem? (i := 73) rfl)
theorem ct_1274 : (Jvm.Cond.static ({ cls := "LostSheetsModel", name := "part", desc := "(JJI)J" } : Jvm.MethodName)) ∈ lw_tbl := tl_6 _ (List.mem_of_getElem? (i := 74) rfl)
theorem ct_1276 : (Jvm.Cond.methodLink "LostSheetsModel" (302 : Nat) ({ cls := "java/lang/Math", name := "abs", desc := "(J)J" } : Jvm.MethodName)) ∈ lw_tbl := tl_6 _ (List.mem_of_getElem? (i := 76) rfl)
theorem ct_1277 : (Jvm.Cond.static ({ cls := "java/lang/Math", name := "abs", desc := "(J)J" } : Jvm.MethodName)) ∈ lw_tbl := tl_6 _ (List.mem_of_getElem? (i := 77) rfl)
theorem ct_1283 : (Jvm.Cond.methodLink "LostSheetsModel" (314 : Nat) ({ cls := "LostSheetsModel", name := "allDrew", desc := "()I" } : Jvm.MethodName)) ∈ lw_tbl := tl_6 _ (List.mem_of_getElem? (i := 83) rfl)
theorem ct_1285 : (Jvm.Cond.instanceMethod ({ cls := "LostSheetsModel", name := "allDrew", desc := "()I" } : Jvm.MethodName)) ∈ lw_tbl := tl_6 _ (List.mem_of_getElem? (i := 85) rfl)
theorem cts_67 : Cond.selects "LostSheetsModel" ⟨"LostSheetsModel", "allDrew", "()I"⟩ ⟨"LostSheetsModel", "allDrew", "()I"⟩ ∈ lw_tbl := List.mem_append_left _ (List.mem_map.mpr ⟨(⟨"LostSheetsModel", "allDrew", "()I"⟩, _), List.mem_of_getElem? (i := 67) rfl, rfl⟩)
theorem ct_1319 : (Jvm.Cond.methodLink "LostSheetsModel" (333 : Nat) ({ cls := "LostSheetsModel", name := "weeps", desc := "(III)I" } : Jvm.MethodName)) ∈ lw_tbl := tl_6 _ (List.mem_of_getElem? (i := 119) rfl)
theorem ct_1321 : (Jvm.Cond.instanceMethod ({ cls := "LostSheetsModel", name := "weeps", desc := "(III)I" } : Jvm.MethodName)) ∈ lw_tbl := tl_6 _ (List.mem_of_getElem? (i := 121) rfl)
theorem cts_68 : Cond.selects "LostSheetsModel" ⟨"LostSheetsModel", "weeps", "(III)I"⟩ ⟨"LostSheetsModel", "weeps", "(III)I"⟩ ∈ lw_tbl := List.mem_append_left _ (List.mem_map.mpr ⟨(⟨"LostSheetsModel", "weeps", "(III)I"⟩, _), List.mem_of_getElem? (i := 68) rfl, rfl⟩)
theorem ct_1323 : (Jvm.Cond.methodLink "LostSheetsModel" (330 : Nat) ({ cls := "LostSheetsModel", name := "ran", desc := "(I)V" } : Jvm.MethodName)) ∈ lw_tbl := tl_6 _ (List.mem_of_getElem? (i := 123) rfl)
theorem ct_1325 : (Jvm.Cond.instanceMethod ({ cls := "LostSheetsModel", name := "ran", desc := "(I)V" } : Jvm.MethodName)) ∈ lw_tbl := tl_6 _ (List.mem_of_getElem? (i := 125) rfl)
theorem cts_69 : Cond.selects "LostSheetsModel" ⟨"LostSheetsModel", "ran", "(I)V"⟩ ⟨"LostSheetsModel", "ran", "(I)V"⟩ ∈ lw_tbl := List.mem_append_left _ (List.mem_map.mpr ⟨(⟨"LostSheetsModel", "ran", "(I)V"⟩, _), List.mem_of_getElem? (i := 69) rfl, rfl⟩)
theorem ct_1327 : (Jvm.Cond.methodLink "LostSheetsModel" (337 : Nat) ({ cls := "LostSheetsModel", name := "above", desc := "(I)I" } : Jvm.MethodName)) ∈ lw_tbl := tl_6 _ (List.mem_of_getElem? (i := 127) rfl)
theorem ct_1328 : (Jvm.Cond.static ({ cls := "LostSheetsModel", name := "above", desc := "(I)I" } : Jvm.MethodName)) ∈ lw_tbl := tl_6 _ (List.mem_of_getElem? (i := 128) rfl)
theorem ct_1330 : (Jvm.Cond.methodLink "LostSheetsModel" (340 : Nat) ({ cls := "LostSheetsModel", name := "draws", desc := "(III)I" } : Jvm.MethodName)) ∈ lw_tbl := tl_6 _ (List.mem_of_getElem? (i := 130) rfl)
theorem ct_1332 : (Jvm.Cond.instanceMethod ({ cls := "LostSheetsModel", name := "draws", desc := "(III)I" } : Jvm.MethodName)) ∈ lw_tbl := tl_6 _ (List.mem_of_getElem? (i := 132) rfl)
theorem cts_70 : Cond.selects "LostSheetsModel" ⟨"LostSheetsModel", "draws", "(III)I"⟩ ⟨"LostSheetsModel", "draws", "(III)I"⟩ ∈ lw_tbl := List.mem_append_left _ (List.mem_map.mpr ⟨(⟨"LostSheetsModel", "draws", "(III)I"⟩, _), List.mem_of_getElem? (i := 70) rfl, rfl⟩)
theorem ct_1334 : (Jvm.Cond.methodLink "LostSheetsModel" (343 : Nat) ({ cls := "LostSheetsModel", name := "tells", desc := "(III)I" } : Jvm.MethodName)) ∈ lw_tbl := tl_6 _ (List.mem_of_getElem? (i := 134) rfl)
theorem ct_1336 : (Jvm.Cond.instanceMethod ({ cls := "LostSheetsModel", name := "tells", desc := "(III)I" } : Jvm.MethodName)) ∈ lw_tbl := tl_6 _ (List.mem_of_getElem? (i := 136) rfl)
theorem cts_71 : Cond.selects "LostSheetsModel" ⟨"LostSheetsModel", "tells", "(III)I"⟩ ⟨"LostSheetsModel", "tells", "(III)I"⟩ ∈ lw_tbl := List.mem_append_left _ (List.mem_map.mpr ⟨(⟨"LostSheetsModel", "tells", "(III)I"⟩, _), List.mem_of_getElem? (i := 71) rfl, rfl⟩)
theorem ct_1354 : (Jvm.Cond.methodLink "LostSheetsModel" (346 : Nat) ({ cls := "LostSheetsModel", name := "isTape", desc := "(I)Z" } : Jvm.MethodName)) ∈ lw_tbl := tl_6 _ (List.mem_of_getElem? (i := 154) rfl)
theorem ct_1355 : (Jvm.Cond.static ({ cls := "LostSheetsModel", name := "isTape", desc := "(I)Z" } : Jvm.MethodName)) ∈ lw_tbl := tl_6 _ (List.mem_of_getElem? (i := 155) rfl)
theorem ct_1361 : (Jvm.Cond.methodLink "LostSheetsModel" (349 : Nat) ({ cls := "LostSheetsModel", name := "kept", desc := "(IJ)J" } : Jvm.MethodName)) ∈ lw_tbl := tl_6 _ (List.mem_of_getElem? (i := 161) rfl)
theorem ct_1362 : (Jvm.Cond.static ({ cls := "LostSheetsModel", name := "kept", desc := "(IJ)J" } : Jvm.MethodName)) ∈ lw_tbl := tl_6 _ (List.mem_of_getElem? (i := 162) rfl)
theorem ct_520 : (Jvm.Cond.methodLink "java/lang/String" (335 : Nat) ({ cls := "java/lang/String", name := "coder", desc := "()B" } : Jvm.MethodName)) ∈ lw_tbl := tl_3 _ (List.mem_of_getElem? (i := 40) rfl)
theorem ct_521 : (Jvm.Cond.instanceMethod ({ cls := "java/lang/String", name := "coder", desc := "()B" } : Jvm.MethodName)) ∈ lw_tbl := tl_3 _ (List.mem_of_getElem? (i := 41) rfl)
theorem ct_522 : (Jvm.Cond.selects "java/lang/String" ({ cls := "java/lang/String", name := "coder", desc := "()B" } : Jvm.MethodName) ({ cls := "java/lang/String", name := "coder", desc := "()B" } : Jvm.MethodName)) ∈ lw_tbl := tl_3 _ (List.mem_of_getElem? (i := 42) rfl)
theorem ct_530 : (Jvm.Cond.methodLink "java/lang/String" (492 : Nat) ({ cls := "java/lang/String", name := "isLatin1", desc := "()Z" } : Jvm.MethodName)) ∈ lw_tbl := tl_3 _ (List.mem_of_getElem? (i := 50) rfl)
theorem ct_531 : (Jvm.Cond.instanceMethod ({ cls := "java/lang/String", name := "isLatin1", desc := "()Z" } : Jvm.MethodName)) ∈ lw_tbl := tl_3 _ (List.mem_of_getElem? (i := 51) rfl)
theorem ct_532 : (Jvm.Cond.selects "java/lang/String" ({ cls := "java/lang/String", name := "isLatin1", desc := "()Z" } : Jvm.MethodName) ({ cls := "java/lang/String", name := "isLatin1", desc := "()Z" } : Jvm.MethodName)) ∈ lw_tbl := tl_3 _ (List.mem_of_getElem? (i := 52) rfl)
theorem ct_534 : (Jvm.Cond.methodLink "java/lang/String" (495 : Nat) ({ cls := "java/lang/StringLatin1", name := "charAt", desc := "([BI)C" } : Jvm.MethodName)) ∈ lw_tbl := tl_3 _ (List.mem_of_getElem? (i := 54) rfl)
theorem ct_535 : (Jvm.Cond.static ({ cls := "java/lang/StringLatin1", name := "charAt", desc := "([BI)C" } : Jvm.MethodName)) ∈ lw_tbl := tl_3 _ (List.mem_of_getElem? (i := 55) rfl)
theorem ct_542 : (Jvm.Cond.methodLink "java/lang/String" (1059 : Nat) ({ cls := "jdk/internal/util/Preconditions", name := "checkIndex", desc := "(IILjava/util/function/BiFunction;)I" } : Jvm.MethodName)) ∈ lw_tbl := tl_3 _ (List.mem_of_getElem? (i := 62) rfl)
theorem ct_543 : (Jvm.Cond.static ({ cls := "jdk/internal/util/Preconditions", name := "checkIndex", desc := "(IILjava/util/function/BiFunction;)I" } : Jvm.MethodName)) ∈ lw_tbl := tl_3 _ (List.mem_of_getElem? (i := 63) rfl)
theorem ct_1160 : (Jvm.Cond.methodLink "java/lang/String" (633 : Nat) ({ cls := "java/lang/String", name := "indexOf", desc := "(II)I" } : Jvm.MethodName)) ∈ lw_tbl := tl_5 _ (List.mem_of_getElem? (i := 200) rfl)
theorem ct_1161 : (Jvm.Cond.instanceMethod ({ cls := "java/lang/String", name := "indexOf", desc := "(II)I" } : Jvm.MethodName)) ∈ lw_tbl := tl_5 _ (List.mem_of_getElem? (i := 201) rfl)
theorem ct_1162 : (Jvm.Cond.selects "java/lang/String" ({ cls := "java/lang/String", name := "indexOf", desc := "(II)I" } : Jvm.MethodName) ({ cls := "java/lang/String", name := "indexOf", desc := "(II)I" } : Jvm.MethodName)) ∈ lw_tbl := tl_5 _ (List.mem_of_getElem? (i := 202) rfl)
theorem ct_1164 : (Jvm.Cond.methodLink "java/lang/String" (505 : Nat) ({ cls := "java/lang/String", name := "length", desc := "()I" } : Jvm.MethodName)) ∈ lw_tbl := tl_5 _ (List.mem_of_getElem? (i := 204) rfl)
theorem ct_1165 : (Jvm.Cond.methodLink "java/lang/String" (637 : Nat) ({ cls := "java/lang/StringLatin1", name := "indexOf", desc := "([BIII)I" } : Jvm.MethodName)) ∈ lw_tbl := tl_5 _ (List.mem_of_getElem? (i := 205) rfl)
theorem ct_1166 : (Jvm.Cond.static ({ cls := "java/lang/StringLatin1", name := "indexOf", desc := "([BIII)I" } : Jvm.MethodName)) ∈ lw_tbl := tl_5 _ (List.mem_of_getElem? (i := 206) rfl)
theorem ct_1191 : (Jvm.Cond.methodLink "java/lang/String" (1062 : Nat) ({ cls := "jdk/internal/util/Preconditions", name := "checkFromToIndex", desc := "(IIILjava/util/function/BiFunction;)I" } : Jvm.MethodName)) ∈ lw_tbl := tl_5 _ (List.mem_of_getElem? (i := 231) rfl)
theorem ct_1192 : (Jvm.Cond.static ({ cls := "jdk/internal/util/Preconditions", name := "checkFromToIndex", desc := "(IIILjava/util/function/BiFunction;)I" } : Jvm.MethodName)) ∈ lw_tbl := tl_5 _ (List.mem_of_getElem? (i := 232) rfl)
theorem ct_537 : (Jvm.Cond.methodLink "java/lang/StringLatin1" (9 : Nat) ({ cls := "java/lang/String", name := "checkIndex", desc := "(II)V" } : Jvm.MethodName)) ∈ lw_tbl := tl_3 _ (List.mem_of_getElem? (i := 57) rfl)
theorem ct_538 : (Jvm.Cond.static ({ cls := "java/lang/String", name := "checkIndex", desc := "(II)V" } : Jvm.MethodName)) ∈ lw_tbl := tl_3 _ (List.mem_of_getElem? (i := 58) rfl)
theorem ct_1168 : (Jvm.Cond.methodLink "java/lang/StringLatin1" (88 : Nat) ({ cls := "java/lang/StringLatin1", name := "canEncode", desc := "(I)Z" } : Jvm.MethodName)) ∈ lw_tbl := tl_5 _ (List.mem_of_getElem? (i := 208) rfl)
theorem ct_1169 : (Jvm.Cond.static ({ cls := "java/lang/StringLatin1", name := "canEncode", desc := "(I)Z" } : Jvm.MethodName)) ∈ lw_tbl := tl_5 _ (List.mem_of_getElem? (i := 209) rfl)
theorem ct_1171 : (Jvm.Cond.methodLink "java/lang/StringLatin1" (92 : Nat) ({ cls := "java/lang/Math", name := "max", desc := "(II)I" } : Jvm.MethodName)) ∈ lw_tbl := tl_5 _ (List.mem_of_getElem? (i := 211) rfl)
theorem ct_1172 : (Jvm.Cond.methodLink "java/lang/StringLatin1" (38 : Nat) ({ cls := "java/lang/Math", name := "min", desc := "(II)I" } : Jvm.MethodName)) ∈ lw_tbl := tl_5 _ (List.mem_of_getElem? (i := 212) rfl)
theorem ct_1173 : (Jvm.Cond.methodLink "java/lang/StringLatin1" (95 : Nat) ({ cls := "java/lang/StringLatin1", name := "indexOfChar", desc := "([BIII)I" } : Jvm.MethodName)) ∈ lw_tbl := tl_5 _ (List.mem_of_getElem? (i := 213) rfl)
theorem ct_1174 : (Jvm.Cond.static ({ cls := "java/lang/StringLatin1", name := "indexOfChar", desc := "([BIII)I" } : Jvm.MethodName)) ∈ lw_tbl := tl_5 _ (List.mem_of_getElem? (i := 214) rfl)
theorem ct_21 : (Jvm.Cond.methodLink "LostSheetsLaw" (9 : Nat) ({ cls := "LostSheets", name := "<init>", desc := "()V" } : Jvm.MethodName)) ∈ lw_tbl := tl_1 _ (List.mem_of_getElem? (i := 21) rfl)
theorem ct_22 : (Jvm.Cond.instanceMethod ({ cls := "LostSheets", name := "<init>", desc := "()V" } : Jvm.MethodName)) ∈ lw_tbl := tl_1 _ (List.mem_of_getElem? (i := 22) rfl)
theorem ct_295 : (Jvm.Cond.methodLink "LostSheetsLaw" (13 : Nat) ({ cls := "LostSheets", name := "drawer", desc := "(III)I" } : Jvm.MethodName)) ∈ lw_tbl := tl_2 _ (List.mem_of_getElem? (i := 55) rfl)
theorem ct_296 : (Jvm.Cond.instanceMethod ({ cls := "LostSheets", name := "drawer", desc := "(III)I" } : Jvm.MethodName)) ∈ lw_tbl := tl_2 _ (List.mem_of_getElem? (i := 56) rfl)
theorem ct_297 : (Jvm.Cond.selects "LostSheets" ({ cls := "LostSheets", name := "drawer", desc := "(III)I" } : Jvm.MethodName) ({ cls := "LostSheets", name := "drawer", desc := "(III)I" } : Jvm.MethodName)) ∈ lw_tbl := tl_2 _ (List.mem_of_getElem? (i := 57) rfl)
theorem ct_313 : (Jvm.Cond.methodLink "LostSheetsLaw" (18 : Nat) ({ cls := "LostSheets", name := "of", desc := "(II)I" } : Jvm.MethodName)) ∈ lw_tbl := tl_2 _ (List.mem_of_getElem? (i := 73) rfl)
theorem ct_314 : (Jvm.Cond.instanceMethod ({ cls := "LostSheets", name := "of", desc := "(II)I" } : Jvm.MethodName)) ∈ lw_tbl := tl_2 _ (List.mem_of_getElem? (i := 74) rfl)
theorem ct_315 : (Jvm.Cond.selects "LostSheets" ({ cls := "LostSheets", name := "of", desc := "(II)I" } : Jvm.MethodName) ({ cls := "LostSheets", name := "of", desc := "(II)I" } : Jvm.MethodName)) ∈ lw_tbl := tl_2 _ (List.mem_of_getElem? (i := 75) rfl)
theorem ct_456 : (Jvm.Cond.methodLink "LostSheetsLaw" (23 : Nat) ({ cls := "LostSheets", name := "sheet", desc := "(II)I" } : Jvm.MethodName)) ∈ lw_tbl := tl_2 _ (List.mem_of_getElem? (i := 216) rfl)
theorem ct_457 : (Jvm.Cond.instanceMethod ({ cls := "LostSheets", name := "sheet", desc := "(II)I" } : Jvm.MethodName)) ∈ lw_tbl := tl_2 _ (List.mem_of_getElem? (i := 217) rfl)
theorem ct_458 : (Jvm.Cond.selects "LostSheets" ({ cls := "LostSheets", name := "sheet", desc := "(II)I" } : Jvm.MethodName) ({ cls := "LostSheets", name := "sheet", desc := "(II)I" } : Jvm.MethodName)) ∈ lw_tbl := tl_2 _ (List.mem_of_getElem? (i := 218) rfl)
theorem ct_460 : (Jvm.Cond.methodLink "LostSheetsLaw" (27 : Nat) ({ cls := "LostSheets", name := "put", desc := "(II)I" } : Jvm.MethodName)) ∈ lw_tbl := tl_2 _ (List.mem_of_getElem? (i := 220) rfl)
theorem ct_461 : (Jvm.Cond.instanceMethod ({ cls := "LostSheets", name := "put", desc := "(II)I" } : Jvm.MethodName)) ∈ lw_tbl := tl_2 _ (List.mem_of_getElem? (i := 221) rfl)
theorem ct_462 : (Jvm.Cond.selects "LostSheets" ({ cls := "LostSheets", name := "put", desc := "(II)I" } : Jvm.MethodName) ({ cls := "LostSheets", name := "put", desc := "(II)I" } : Jvm.MethodName)) ∈ lw_tbl := tl_2 _ (List.mem_of_getElem? (i := 222) rfl)
theorem ct_464 : (Jvm.Cond.methodLink "LostSheetsLaw" (31 : Nat) ({ cls := "LostSheets", name := "anew", desc := "(I)I" } : Jvm.MethodName)) ∈ lw_tbl := tl_2 _ (List.mem_of_getElem? (i := 224) rfl)
theorem ct_465 : (Jvm.Cond.instanceMethod ({ cls := "LostSheets", name := "anew", desc := "(I)I" } : Jvm.MethodName)) ∈ lw_tbl := tl_2 _ (List.mem_of_getElem? (i := 225) rfl)
theorem ct_466 : (Jvm.Cond.selects "LostSheets" ({ cls := "LostSheets", name := "anew", desc := "(I)I" } : Jvm.MethodName) ({ cls := "LostSheets", name := "anew", desc := "(I)I" } : Jvm.MethodName)) ∈ lw_tbl := tl_2 _ (List.mem_of_getElem? (i := 226) rfl)
theorem ct_468 : (Jvm.Cond.methodLink "LostSheetsLaw" (36 : Nat) ({ cls := "LostSheets", name := "mark", desc := "(II)I" } : Jvm.MethodName)) ∈ lw_tbl := tl_2 _ (List.mem_of_getElem? (i := 228) rfl)
theorem ct_469 : (Jvm.Cond.instanceMethod ({ cls := "LostSheets", name := "mark", desc := "(II)I" } : Jvm.MethodName)) ∈ lw_tbl := tl_2 _ (List.mem_of_getElem? (i := 229) rfl)
theorem ct_470 : (Jvm.Cond.selects "LostSheets" ({ cls := "LostSheets", name := "mark", desc := "(II)I" } : Jvm.MethodName) ({ cls := "LostSheets", name := "mark", desc := "(II)I" } : Jvm.MethodName)) ∈ lw_tbl := tl_2 _ (List.mem_of_getElem? (i := 230) rfl)
theorem ct_477 : (Jvm.Cond.methodLink "LostSheetsLaw" (40 : Nat) ({ cls := "LostSheets", name := "row", desc := "(III)I" } : Jvm.MethodName)) ∈ lw_tbl := tl_2 _ (List.mem_of_getElem? (i := 237) rfl)
theorem ct_478 : (Jvm.Cond.instanceMethod ({ cls := "LostSheets", name := "row", desc := "(III)I" } : Jvm.MethodName)) ∈ lw_tbl := tl_2 _ (List.mem_of_getElem? (i := 238) rfl)
theorem ct_479 : (Jvm.Cond.selects "LostSheets" ({ cls := "LostSheets", name := "row", desc := "(III)I" } : Jvm.MethodName) ({ cls := "LostSheets", name := "row", desc := "(III)I" } : Jvm.MethodName)) ∈ lw_tbl := tl_2 _ (List.mem_of_getElem? (i := 239) rfl)
theorem ct_481 : (Jvm.Cond.methodLink "LostSheetsLaw" (44 : Nat) ({ cls := "LostSheets", name := "feed", desc := "(I)I" } : Jvm.MethodName)) ∈ lw_tbl := tl_3 _ (List.mem_of_getElem? (i := 1) rfl)
theorem ct_482 : (Jvm.Cond.instanceMethod ({ cls := "LostSheets", name := "feed", desc := "(I)I" } : Jvm.MethodName)) ∈ lw_tbl := tl_3 _ (List.mem_of_getElem? (i := 2) rfl)
theorem ct_483 : (Jvm.Cond.selects "LostSheets" ({ cls := "LostSheets", name := "feed", desc := "(I)I" } : Jvm.MethodName) ({ cls := "LostSheets", name := "feed", desc := "(I)I" } : Jvm.MethodName)) ∈ lw_tbl := tl_3 _ (List.mem_of_getElem? (i := 3) rfl)
theorem ct_489 : (Jvm.Cond.methodLink "LostSheetsLaw" (48 : Nat) ({ cls := "LostSheets", name := "office", desc := "()I" } : Jvm.MethodName)) ∈ lw_tbl := tl_3 _ (List.mem_of_getElem? (i := 9) rfl)
theorem ct_490 : (Jvm.Cond.instanceMethod ({ cls := "LostSheets", name := "office", desc := "()I" } : Jvm.MethodName)) ∈ lw_tbl := tl_3 _ (List.mem_of_getElem? (i := 10) rfl)
theorem ct_491 : (Jvm.Cond.selects "LostSheets" ({ cls := "LostSheets", name := "office", desc := "()I" } : Jvm.MethodName) ({ cls := "LostSheets", name := "office", desc := "()I" } : Jvm.MethodName)) ∈ lw_tbl := tl_3 _ (List.mem_of_getElem? (i := 11) rfl)
theorem ct_605 : (Jvm.Cond.methodLink "LostSheetsLaw" (53 : Nat) ({ cls := "LostSheets", name := "told", desc := "(I)I" } : Jvm.MethodName)) ∈ lw_tbl := tl_3 _ (List.mem_of_getElem? (i := 125) rfl)
theorem ct_606 : (Jvm.Cond.instanceMethod ({ cls := "LostSheets", name := "told", desc := "(I)I" } : Jvm.MethodName)) ∈ lw_tbl := tl_3 _ (List.mem_of_getElem? (i := 126) rfl)
theorem ct_607 : (Jvm.Cond.selects "LostSheets" ({ cls := "LostSheets", name := "told", desc := "(I)I" } : Jvm.MethodName) ({ cls := "LostSheets", name := "told", desc := "(I)I" } : Jvm.MethodName)) ∈ lw_tbl := tl_3 _ (List.mem_of_getElem? (i := 127) rfl)
theorem ct_623 : (Jvm.Cond.methodLink "LostSheetsLaw" (57 : Nat) ({ cls := "LostSheets", name := "pass", desc := "(I)I" } : Jvm.MethodName)) ∈ lw_tbl := tl_3 _ (List.mem_of_getElem? (i := 143) rfl)
theorem ct_624 : (Jvm.Cond.instanceMethod ({ cls := "LostSheets", name := "pass", desc := "(I)I" } : Jvm.MethodName)) ∈ lw_tbl := tl_3 _ (List.mem_of_getElem? (i := 144) rfl)
theorem ct_625 : (Jvm.Cond.selects "LostSheets" ({ cls := "LostSheets", name := "pass", desc := "(I)I" } : Jvm.MethodName) ({ cls := "LostSheets", name := "pass", desc := "(I)I" } : Jvm.MethodName)) ∈ lw_tbl := tl_3 _ (List.mem_of_getElem? (i := 145) rfl)
theorem ct_634 : (Jvm.Cond.methodLink "LostSheetsLaw" (61 : Nat) ({ cls := "LostSheets", name := "on", desc := "(II)I" } : Jvm.MethodName)) ∈ lw_tbl := tl_3 _ (List.mem_of_getElem? (i := 154) rfl)
theorem ct_635 : (Jvm.Cond.instanceMethod ({ cls := "LostSheets", name := "on", desc := "(II)I" } : Jvm.MethodName)) ∈ lw_tbl := tl_3 _ (List.mem_of_getElem? (i := 155) rfl)
theorem ct_636 : (Jvm.Cond.selects "LostSheets" ({ cls := "LostSheets", name := "on", desc := "(II)I" } : Jvm.MethodName) ({ cls := "LostSheets", name := "on", desc := "(II)I" } : Jvm.MethodName)) ∈ lw_tbl := tl_3 _ (List.mem_of_getElem? (i := 156) rfl)
theorem ct_642 : (Jvm.Cond.methodLink "LostSheetsLaw" (65 : Nat) ({ cls := "LostSheets", name := "best", desc := "(II)I" } : Jvm.MethodName)) ∈ lw_tbl := tl_3 _ (List.mem_of_getElem? (i := 162) rfl)
theorem ct_643 : (Jvm.Cond.instanceMethod ({ cls := "LostSheets", name := "best", desc := "(II)I" } : Jvm.MethodName)) ∈ lw_tbl := tl_3 _ (List.mem_of_getElem? (i := 163) rfl)
theorem ct_644 : (Jvm.Cond.selects "LostSheets" ({ cls := "LostSheets", name := "best", desc := "(II)I" } : Jvm.MethodName) ({ cls := "LostSheets", name := "best", desc := "(II)I" } : Jvm.MethodName)) ∈ lw_tbl := tl_3 _ (List.mem_of_getElem? (i := 164) rfl)
theorem ct_664 : (Jvm.Cond.methodLink "LostSheetsLaw" (69 : Nat) ({ cls := "LostSheets", name := "see", desc := "(III)I" } : Jvm.MethodName)) ∈ lw_tbl := tl_3 _ (List.mem_of_getElem? (i := 184) rfl)
theorem ct_665 : (Jvm.Cond.instanceMethod ({ cls := "LostSheets", name := "see", desc := "(III)I" } : Jvm.MethodName)) ∈ lw_tbl := tl_3 _ (List.mem_of_getElem? (i := 185) rfl)
theorem ct_666 : (Jvm.Cond.selects "LostSheets" ({ cls := "LostSheets", name := "see", desc := "(III)I" } : Jvm.MethodName) ({ cls := "LostSheets", name := "see", desc := "(III)I" } : Jvm.MethodName)) ∈ lw_tbl := tl_3 _ (List.mem_of_getElem? (i := 186) rfl)
theorem ct_676 : (Jvm.Cond.methodLink "LostSheetsLaw" (73 : Nat) ({ cls := "LostSheets", name := "can", desc := "(II)I" } : Jvm.MethodName)) ∈ lw_tbl := tl_3 _ (List.mem_of_getElem? (i := 196) rfl)
theorem ct_677 : (Jvm.Cond.instanceMethod ({ cls := "LostSheets", name := "can", desc := "(II)I" } : Jvm.MethodName)) ∈ lw_tbl := tl_3 _ (List.mem_of_getElem? (i := 197) rfl)
theorem ct_678 : (Jvm.Cond.selects "LostSheets" ({ cls := "LostSheets", name := "can", desc := "(II)I" } : Jvm.MethodName) ({ cls := "LostSheets", name := "can", desc := "(II)I" } : Jvm.MethodName)) ∈ lw_tbl := tl_3 _ (List.mem_of_getElem? (i := 198) rfl)
theorem ct_691 : (Jvm.Cond.methodLink "LostSheetsLaw" (77 : Nat) ({ cls := "LostSheets", name := "odds", desc := "(III)J" } : Jvm.MethodName)) ∈ lw_tbl := tl_3 _ (List.mem_of_getElem? (i := 211) rfl)
theorem ct_692 : (Jvm.Cond.instanceMethod ({ cls := "LostSheets", name := "odds", desc := "(III)J" } : Jvm.MethodName)) ∈ lw_tbl := tl_3 _ (List.mem_of_getElem? (i := 212) rfl)
theorem ct_693 : (Jvm.Cond.selects "LostSheets" ({ cls := "LostSheets", name := "odds", desc := "(III)J" } : Jvm.MethodName) ({ cls := "LostSheets", name := "odds", desc := "(III)J" } : Jvm.MethodName)) ∈ lw_tbl := tl_3 _ (List.mem_of_getElem? (i := 213) rfl)
theorem ct_703 : (Jvm.Cond.methodLink "LostSheetsLaw" (82 : Nat) ({ cls := "LostSheets", name := "mean", desc := "(II)J" } : Jvm.MethodName)) ∈ lw_tbl := tl_3 _ (List.mem_of_getElem? (i := 223) rfl)
theorem ct_704 : (Jvm.Cond.instanceMethod ({ cls := "LostSheets", name := "mean", desc := "(II)J" } : Jvm.MethodName)) ∈ lw_tbl := tl_3 _ (List.mem_of_getElem? (i := 224) rfl)
theorem ct_705 : (Jvm.Cond.selects "LostSheets" ({ cls := "LostSheets", name := "mean", desc := "(II)J" } : Jvm.MethodName) ({ cls := "LostSheets", name := "mean", desc := "(II)J" } : Jvm.MethodName)) ∈ lw_tbl := tl_3 _ (List.mem_of_getElem? (i := 225) rfl)
theorem ct_711 : (Jvm.Cond.methodLink "LostSheetsLaw" (87 : Nat) ({ cls := "LostSheets", name := "plan", desc := "(II)I" } : Jvm.MethodName)) ∈ lw_tbl := tl_3 _ (List.mem_of_getElem? (i := 231) rfl)
theorem ct_712 : (Jvm.Cond.instanceMethod ({ cls := "LostSheets", name := "plan", desc := "(II)I" } : Jvm.MethodName)) ∈ lw_tbl := tl_3 _ (List.mem_of_getElem? (i := 232) rfl)
theorem ct_713 : (Jvm.Cond.selects "LostSheets" ({ cls := "LostSheets", name := "plan", desc := "(II)I" } : Jvm.MethodName) ({ cls := "LostSheets", name := "plan", desc := "(II)I" } : Jvm.MethodName)) ∈ lw_tbl := tl_3 _ (List.mem_of_getElem? (i := 233) rfl)
theorem ct_719 : (Jvm.Cond.methodLink "LostSheetsLaw" (91 : Nat) ({ cls := "LostSheets", name := "ends", desc := "(I)I" } : Jvm.MethodName)) ∈ lw_tbl := tl_3 _ (List.mem_of_getElem? (i := 239) rfl)
theorem ct_720 : (Jvm.Cond.instanceMethod ({ cls := "LostSheets", name := "ends", desc := "(I)I" } : Jvm.MethodName)) ∈ lw_tbl := tl_4 _ (List.mem_of_getElem? (i := 0) rfl)
theorem ct_721 : (Jvm.Cond.selects "LostSheets" ({ cls := "LostSheets", name := "ends", desc := "(I)I" } : Jvm.MethodName) ({ cls := "LostSheets", name := "ends", desc := "(I)I" } : Jvm.MethodName)) ∈ lw_tbl := tl_4 _ (List.mem_of_getElem? (i := 1) rfl)
theorem ct_735 : (Jvm.Cond.methodLink "LostSheetsLaw" (95 : Nat) ({ cls := "LostSheets", name := "book", desc := "(II)I" } : Jvm.MethodName)) ∈ lw_tbl := tl_4 _ (List.mem_of_getElem? (i := 15) rfl)
theorem ct_736 : (Jvm.Cond.instanceMethod ({ cls := "LostSheets", name := "book", desc := "(II)I" } : Jvm.MethodName)) ∈ lw_tbl := tl_4 _ (List.mem_of_getElem? (i := 16) rfl)
theorem ct_737 : (Jvm.Cond.selects "LostSheets" ({ cls := "LostSheets", name := "book", desc := "(II)I" } : Jvm.MethodName) ({ cls := "LostSheets", name := "book", desc := "(II)I" } : Jvm.MethodName)) ∈ lw_tbl := tl_4 _ (List.mem_of_getElem? (i := 17) rfl)
theorem ct_739 : (Jvm.Cond.methodLink "LostSheetsLaw" (99 : Nat) ({ cls := "LostSheets", name := "looked", desc := "()I" } : Jvm.MethodName)) ∈ lw_tbl := tl_4 _ (List.mem_of_getElem? (i := 19) rfl)
theorem ct_740 : (Jvm.Cond.instanceMethod ({ cls := "LostSheets", name := "looked", desc := "()I" } : Jvm.MethodName)) ∈ lw_tbl := tl_4 _ (List.mem_of_getElem? (i := 20) rfl)
theorem ct_741 : (Jvm.Cond.selects "LostSheets" ({ cls := "LostSheets", name := "looked", desc := "()I" } : Jvm.MethodName) ({ cls := "LostSheets", name := "looked", desc := "()I" } : Jvm.MethodName)) ∈ lw_tbl := tl_4 _ (List.mem_of_getElem? (i := 21) rfl)
theorem ct_743 : (Jvm.Cond.methodLink "LostSheetsLaw" (103 : Nat) ({ cls := "LostSheets", name := "judge", desc := "(II)I" } : Jvm.MethodName)) ∈ lw_tbl := tl_4 _ (List.mem_of_getElem? (i := 23) rfl)
theorem ct_744 : (Jvm.Cond.instanceMethod ({ cls := "LostSheets", name := "judge", desc := "(II)I" } : Jvm.MethodName)) ∈ lw_tbl := tl_4 _ (List.mem_of_getElem? (i := 24) rfl)
theorem ct_745 : (Jvm.Cond.selects "LostSheets" ({ cls := "LostSheets", name := "judge", desc := "(II)I" } : Jvm.MethodName) ({ cls := "LostSheets", name := "judge", desc := "(II)I" } : Jvm.MethodName)) ∈ lw_tbl := tl_4 _ (List.mem_of_getElem? (i := 25) rfl)
theorem ct_755 : (Jvm.Cond.methodLink "LostSheetsLaw" (107 : Nat) ({ cls := "LostSheets", name := "image", desc := "()I" } : Jvm.MethodName)) ∈ lw_tbl := tl_4 _ (List.mem_of_getElem? (i := 35) rfl)
theorem ct_756 : (Jvm.Cond.instanceMethod ({ cls := "LostSheets", name := "image", desc := "()I" } : Jvm.MethodName)) ∈ lw_tbl := tl_4 _ (List.mem_of_getElem? (i := 36) rfl)
theorem ct_757 : (Jvm.Cond.selects "LostSheets" ({ cls := "LostSheets", name := "image", desc := "()I" } : Jvm.MethodName) ({ cls := "LostSheets", name := "image", desc := "()I" } : Jvm.MethodName)) ∈ lw_tbl := tl_4 _ (List.mem_of_getElem? (i := 37) rfl)
theorem ct_768 : (Jvm.Cond.methodLink "LostSheetsLaw" (111 : Nat) ({ cls := "LostSheets", name := "undo", desc := "()I" } : Jvm.MethodName)) ∈ lw_tbl := tl_4 _ (List.mem_of_getElem? (i := 48) rfl)
theorem ct_769 : (Jvm.Cond.instanceMethod ({ cls := "LostSheets", name := "undo", desc := "()I" } : Jvm.MethodName)) ∈ lw_tbl := tl_4 _ (List.mem_of_getElem? (i := 49) rfl)
theorem ct_770 : (Jvm.Cond.selects "LostSheets" ({ cls := "LostSheets", name := "undo", desc := "()I" } : Jvm.MethodName) ({ cls := "LostSheets", name := "undo", desc := "()I" } : Jvm.MethodName)) ∈ lw_tbl := tl_4 _ (List.mem_of_getElem? (i := 50) rfl)
theorem ct_772 : (Jvm.Cond.methodLink "LostSheetsLaw" (115 : Nat) ({ cls := "LostSheets", name := "act", desc := "(III)I" } : Jvm.MethodName)) ∈ lw_tbl := tl_4 _ (List.mem_of_getElem? (i := 52) rfl)
theorem ct_773 : (Jvm.Cond.instanceMethod ({ cls := "LostSheets", name := "act", desc := "(III)I" } : Jvm.MethodName)) ∈ lw_tbl := tl_4 _ (List.mem_of_getElem? (i := 53) rfl)
theorem ct_774 : (Jvm.Cond.selects "LostSheets" ({ cls := "LostSheets", name := "act", desc := "(III)I" } : Jvm.MethodName) ({ cls := "LostSheets", name := "act", desc := "(III)I" } : Jvm.MethodName)) ∈ lw_tbl := tl_4 _ (List.mem_of_getElem? (i := 54) rfl)
theorem ct_802 : (Jvm.Cond.methodLink "LostSheetsLaw" (119 : Nat) ({ cls := "LostSheets", name := "trace", desc := "(I)I" } : Jvm.MethodName)) ∈ lw_tbl := tl_4 _ (List.mem_of_getElem? (i := 82) rfl)
theorem ct_803 : (Jvm.Cond.instanceMethod ({ cls := "LostSheets", name := "trace", desc := "(I)I" } : Jvm.MethodName)) ∈ lw_tbl := tl_4 _ (List.mem_of_getElem? (i := 83) rfl)
theorem ct_804 : (Jvm.Cond.selects "LostSheets" ({ cls := "LostSheets", name := "trace", desc := "(I)I" } : Jvm.MethodName) ({ cls := "LostSheets", name := "trace", desc := "(I)I" } : Jvm.MethodName)) ∈ lw_tbl := tl_4 _ (List.mem_of_getElem? (i := 84) rfl)
theorem ct_806 : (Jvm.Cond.methodLink "LostSheetsLaw" (123 : Nat) ({ cls := "LostSheets", name := "taken", desc := "(II)I" } : Jvm.MethodName)) ∈ lw_tbl := tl_4 _ (List.mem_of_getElem? (i := 86) rfl)
theorem ct_807 : (Jvm.Cond.instanceMethod ({ cls := "LostSheets", name := "taken", desc := "(II)I" } : Jvm.MethodName)) ∈ lw_tbl := tl_4 _ (List.mem_of_getElem? (i := 87) rfl)
theorem ct_808 : (Jvm.Cond.selects "LostSheets" ({ cls := "LostSheets", name := "taken", desc := "(II)I" } : Jvm.MethodName) ({ cls := "LostSheets", name := "taken", desc := "(II)I" } : Jvm.MethodName)) ∈ lw_tbl := tl_4 _ (List.mem_of_getElem? (i := 88) rfl)
theorem ct_814 : (Jvm.Cond.methodLink "LostSheetsLaw" (127 : Nat) ({ cls := "LostSheets", name := "count", desc := "(I)I" } : Jvm.MethodName)) ∈ lw_tbl := tl_4 _ (List.mem_of_getElem? (i := 94) rfl)
theorem ct_815 : (Jvm.Cond.instanceMethod ({ cls := "LostSheets", name := "count", desc := "(I)I" } : Jvm.MethodName)) ∈ lw_tbl := tl_4 _ (List.mem_of_getElem? (i := 95) rfl)
theorem ct_816 : (Jvm.Cond.selects "LostSheets" ({ cls := "LostSheets", name := "count", desc := "(I)I" } : Jvm.MethodName) ({ cls := "LostSheets", name := "count", desc := "(I)I" } : Jvm.MethodName)) ∈ lw_tbl := tl_4 _ (List.mem_of_getElem? (i := 96) rfl)
theorem ct_818 : (Jvm.Cond.methodLink "LostSheetsLaw" (131 : Nat) ({ cls := "LostSheets", name := "tape", desc := "(III)I" } : Jvm.MethodName)) ∈ lw_tbl := tl_4 _ (List.mem_of_getElem? (i := 98) rfl)
theorem ct_819 : (Jvm.Cond.instanceMethod ({ cls := "LostSheets", name := "tape", desc := "(III)I" } : Jvm.MethodName)) ∈ lw_tbl := tl_4 _ (List.mem_of_getElem? (i := 99) rfl)
theorem ct_820 : (Jvm.Cond.selects "LostSheets" ({ cls := "LostSheets", name := "tape", desc := "(III)I" } : Jvm.MethodName) ({ cls := "LostSheets", name := "tape", desc := "(III)I" } : Jvm.MethodName)) ∈ lw_tbl := tl_4 _ (List.mem_of_getElem? (i := 100) rfl)
theorem ct_826 : (Jvm.Cond.methodLink "LostSheetsLaw" (137 : Nat) ({ cls := "LostSheets", name := "item", desc := "(IIJ)I" } : Jvm.MethodName)) ∈ lw_tbl := tl_4 _ (List.mem_of_getElem? (i := 106) rfl)
theorem ct_827 : (Jvm.Cond.instanceMethod ({ cls := "LostSheets", name := "item", desc := "(IIJ)I" } : Jvm.MethodName)) ∈ lw_tbl := tl_4 _ (List.mem_of_getElem? (i := 107) rfl)
theorem ct_828 : (Jvm.Cond.selects "LostSheets" ({ cls := "LostSheets", name := "item", desc := "(IIJ)I" } : Jvm.MethodName) ({ cls := "LostSheets", name := "item", desc := "(IIJ)I" } : Jvm.MethodName)) ∈ lw_tbl := tl_4 _ (List.mem_of_getElem? (i := 108) rfl)
theorem ct_834 : (Jvm.Cond.methodLink "LostSheetsLaw" (142 : Nat) ({ cls := "LostSheets", name := "read", desc := "(II)J" } : Jvm.MethodName)) ∈ lw_tbl := tl_4 _ (List.mem_of_getElem? (i := 114) rfl)
theorem ct_835 : (Jvm.Cond.instanceMethod ({ cls := "LostSheets", name := "read", desc := "(II)J" } : Jvm.MethodName)) ∈ lw_tbl := tl_4 _ (List.mem_of_getElem? (i := 115) rfl)
theorem ct_836 : (Jvm.Cond.selects "LostSheets" ({ cls := "LostSheets", name := "read", desc := "(II)J" } : Jvm.MethodName) ({ cls := "LostSheets", name := "read", desc := "(II)J" } : Jvm.MethodName)) ∈ lw_tbl := tl_4 _ (List.mem_of_getElem? (i := 116) rfl)
theorem ct_838 : (Jvm.Cond.methodLink "LostSheetsLaw" (146 : Nat) ({ cls := "LostSheets", name := "shift", desc := "(IIIII)I" } : Jvm.MethodName)) ∈ lw_tbl := tl_4 _ (List.mem_of_getElem? (i := 118) rfl)
theorem ct_839 : (Jvm.Cond.instanceMethod ({ cls := "LostSheets", name := "shift", desc := "(IIIII)I" } : Jvm.MethodName)) ∈ lw_tbl := tl_4 _ (List.mem_of_getElem? (i := 119) rfl)
theorem ct_840 : (Jvm.Cond.selects "LostSheets" ({ cls := "LostSheets", name := "shift", desc := "(IIIII)I" } : Jvm.MethodName) ({ cls := "LostSheets", name := "shift", desc := "(IIIII)I" } : Jvm.MethodName)) ∈ lw_tbl := tl_4 _ (List.mem_of_getElem? (i := 120) rfl)
theorem ct_849 : (Jvm.Cond.methodLink "LostSheetsLaw" (12 : Nat) ({ cls := "LostSheetsModel", name := "<init>", desc := "()V" } : Jvm.MethodName)) ∈ lw_tbl := tl_4 _ (List.mem_of_getElem? (i := 129) rfl)
theorem ct_850 : (Jvm.Cond.instanceMethod ({ cls := "LostSheetsModel", name := "<init>", desc := "()V" } : Jvm.MethodName)) ∈ lw_tbl := tl_4 _ (List.mem_of_getElem? (i := 130) rfl)
theorem ct_996 : (Jvm.Cond.methodLink "LostSheetsLaw" (17 : Nat) ({ cls := "LostSheetsModel", name := "drawer", desc := "(III)I" } : Jvm.MethodName)) ∈ lw_tbl := tl_5 _ (List.mem_of_getElem? (i := 36) rfl)
theorem ct_997 : (Jvm.Cond.instanceMethod ({ cls := "LostSheetsModel", name := "drawer", desc := "(III)I" } : Jvm.MethodName)) ∈ lw_tbl := tl_5 _ (List.mem_of_getElem? (i := 37) rfl)
theorem ct_998 : (Jvm.Cond.selects "LostSheetsModel" ({ cls := "LostSheetsModel", name := "drawer", desc := "(III)I" } : Jvm.MethodName) ({ cls := "LostSheetsModel", name := "drawer", desc := "(III)I" } : Jvm.MethodName)) ∈ lw_tbl := tl_5 _ (List.mem_of_getElem? (i := 38) rfl)
theorem ct_1006 : (Jvm.Cond.methodLink "LostSheetsLaw" (22 : Nat) ({ cls := "LostSheetsModel", name := "of", desc := "(II)I" } : Jvm.MethodName)) ∈ lw_tbl := tl_5 _ (List.mem_of_getElem? (i := 46) rfl)
theorem ct_1007 : (Jvm.Cond.instanceMethod ({ cls := "LostSheetsModel", name := "of", desc := "(II)I" } : Jvm.MethodName)) ∈ lw_tbl := tl_5 _ (List.mem_of_getElem? (i := 47) rfl)
theorem ct_1008 : (Jvm.Cond.selects "LostSheetsModel" ({ cls := "LostSheetsModel", name := "of", desc := "(II)I" } : Jvm.MethodName) ({ cls := "LostSheetsModel", name := "of", desc := "(II)I" } : Jvm.MethodName)) ∈ lw_tbl := tl_5 _ (List.mem_of_getElem? (i := 48) rfl)
theorem ct_1078 : (Jvm.Cond.methodLink "LostSheetsLaw" (26 : Nat) ({ cls := "LostSheetsModel", name := "sheet", desc := "(II)I" } : Jvm.MethodName)) ∈ lw_tbl := tl_5 _ (List.mem_of_getElem? (i := 118) rfl)
theorem ct_1079 : (Jvm.Cond.instanceMethod ({ cls := "LostSheetsModel", name := "sheet", desc := "(II)I" } : Jvm.MethodName)) ∈ lw_tbl := tl_5 _ (List.mem_of_getElem? (i := 119) rfl)
theorem ct_1080 : (Jvm.Cond.selects "LostSheetsModel" ({ cls := "LostSheetsModel", name := "sheet", desc := "(II)I" } : Jvm.MethodName) ({ cls := "LostSheetsModel", name := "sheet", desc := "(II)I" } : Jvm.MethodName)) ∈ lw_tbl := tl_5 _ (List.mem_of_getElem? (i := 120) rfl)
theorem ct_1082 : (Jvm.Cond.methodLink "LostSheetsLaw" (30 : Nat) ({ cls := "LostSheetsModel", name := "put", desc := "(II)I" } : Jvm.MethodName)) ∈ lw_tbl := tl_5 _ (List.mem_of_getElem? (i := 122) rfl)
theorem ct_1083 : (Jvm.Cond.instanceMethod ({ cls := "LostSheetsModel", name := "put", desc := "(II)I" } : Jvm.MethodName)) ∈ lw_tbl := tl_5 _ (List.mem_of_getElem? (i := 123) rfl)
theorem ct_1084 : (Jvm.Cond.selects "LostSheetsModel" ({ cls := "LostSheetsModel", name := "put", desc := "(II)I" } : Jvm.MethodName) ({ cls := "LostSheetsModel", name := "put", desc := "(II)I" } : Jvm.MethodName)) ∈ lw_tbl := tl_5 _ (List.mem_of_getElem? (i := 124) rfl)
theorem ct_1086 : (Jvm.Cond.methodLink "LostSheetsLaw" (35 : Nat) ({ cls := "LostSheetsModel", name := "anew", desc := "(I)I" } : Jvm.MethodName)) ∈ lw_tbl := tl_5 _ (List.mem_of_getElem? (i := 126) rfl)
theorem ct_1087 : (Jvm.Cond.instanceMethod ({ cls := "LostSheetsModel", name := "anew", desc := "(I)I" } : Jvm.MethodName)) ∈ lw_tbl := tl_5 _ (List.mem_of_getElem? (i := 127) rfl)
theorem ct_1088 : (Jvm.Cond.selects "LostSheetsModel" ({ cls := "LostSheetsModel", name := "anew", desc := "(I)I" } : Jvm.MethodName) ({ cls := "LostSheetsModel", name := "anew", desc := "(I)I" } : Jvm.MethodName)) ∈ lw_tbl := tl_5 _ (List.mem_of_getElem? (i := 128) rfl)
theorem ct_1090 : (Jvm.Cond.methodLink "LostSheetsLaw" (39 : Nat) ({ cls := "LostSheetsModel", name := "mark", desc := "(II)I" } : Jvm.MethodName)) ∈ lw_tbl := tl_5 _ (List.mem_of_getElem? (i := 130) rfl)
theorem ct_1091 : (Jvm.Cond.instanceMethod ({ cls := "LostSheetsModel", name := "mark", desc := "(II)I" } : Jvm.MethodName)) ∈ lw_tbl := tl_5 _ (List.mem_of_getElem? (i := 131) rfl)
theorem ct_1092 : (Jvm.Cond.selects "LostSheetsModel" ({ cls := "LostSheetsModel", name := "mark", desc := "(II)I" } : Jvm.MethodName) ({ cls := "LostSheetsModel", name := "mark", desc := "(II)I" } : Jvm.MethodName)) ∈ lw_tbl := tl_5 _ (List.mem_of_getElem? (i := 132) rfl)
theorem ct_1094 : (Jvm.Cond.methodLink "LostSheetsLaw" (43 : Nat) ({ cls := "LostSheetsModel", name := "row", desc := "(III)I" } : Jvm.MethodName)) ∈ lw_tbl := tl_5 _ (List.mem_of_getElem? (i := 134) rfl)
theorem ct_1095 : (Jvm.Cond.instanceMethod ({ cls := "LostSheetsModel", name := "row", desc := "(III)I" } : Jvm.MethodName)) ∈ lw_tbl := tl_5 _ (List.mem_of_getElem? (i := 135) rfl)
theorem ct_1096 : (Jvm.Cond.selects "LostSheetsModel" ({ cls := "LostSheetsModel", name := "row", desc := "(III)I" } : Jvm.MethodName) ({ cls := "LostSheetsModel", name := "row", desc := "(III)I" } : Jvm.MethodName)) ∈ lw_tbl := tl_5 _ (List.mem_of_getElem? (i := 136) rfl)
theorem ct_1098 : (Jvm.Cond.methodLink "LostSheetsLaw" (47 : Nat) ({ cls := "LostSheetsModel", name := "feed", desc := "(I)I" } : Jvm.MethodName)) ∈ lw_tbl := tl_5 _ (List.mem_of_getElem? (i := 138) rfl)
theorem ct_1099 : (Jvm.Cond.instanceMethod ({ cls := "LostSheetsModel", name := "feed", desc := "(I)I" } : Jvm.MethodName)) ∈ lw_tbl := tl_5 _ (List.mem_of_getElem? (i := 139) rfl)
theorem ct_1100 : (Jvm.Cond.selects "LostSheetsModel" ({ cls := "LostSheetsModel", name := "feed", desc := "(I)I" } : Jvm.MethodName) ({ cls := "LostSheetsModel", name := "feed", desc := "(I)I" } : Jvm.MethodName)) ∈ lw_tbl := tl_5 _ (List.mem_of_getElem? (i := 140) rfl)
theorem ct_1102 : (Jvm.Cond.methodLink "LostSheetsLaw" (52 : Nat) ({ cls := "LostSheetsModel", name := "office", desc := "()I" } : Jvm.MethodName)) ∈ lw_tbl := tl_5 _ (List.mem_of_getElem? (i := 142) rfl)
theorem ct_1103 : (Jvm.Cond.instanceMethod ({ cls := "LostSheetsModel", name := "office", desc := "()I" } : Jvm.MethodName)) ∈ lw_tbl := tl_5 _ (List.mem_of_getElem? (i := 143) rfl)
theorem ct_1104 : (Jvm.Cond.selects "LostSheetsModel" ({ cls := "LostSheetsModel", name := "office", desc := "()I" } : Jvm.MethodName) ({ cls := "LostSheetsModel", name := "office", desc := "()I" } : Jvm.MethodName)) ∈ lw_tbl := tl_5 _ (List.mem_of_getElem? (i := 144) rfl)
theorem ct_1212 : (Jvm.Cond.methodLink "LostSheetsLaw" (56 : Nat) ({ cls := "LostSheetsModel", name := "told", desc := "(I)I" } : Jvm.MethodName)) ∈ lw_tbl := tl_6 _ (List.mem_of_getElem? (i := 12) rfl)
theorem ct_1213 : (Jvm.Cond.instanceMethod ({ cls := "LostSheetsModel", name := "told", desc := "(I)I" } : Jvm.MethodName)) ∈ lw_tbl := tl_6 _ (List.mem_of_getElem? (i := 13) rfl)
theorem ct_1214 : (Jvm.Cond.selects "LostSheetsModel" ({ cls := "LostSheetsModel", name := "told", desc := "(I)I" } : Jvm.MethodName) ({ cls := "LostSheetsModel", name := "told", desc := "(I)I" } : Jvm.MethodName)) ∈ lw_tbl := tl_6 _ (List.mem_of_getElem? (i := 14) rfl)
theorem ct_1229 : (Jvm.Cond.methodLink "LostSheetsLaw" (60 : Nat) ({ cls := "LostSheetsModel", name := "pass", desc := "(I)I" } : Jvm.MethodName)) ∈ lw_tbl := tl_6 _ (List.mem_of_getElem? (i := 29) rfl)
theorem ct_1230 : (Jvm.Cond.instanceMethod ({ cls := "LostSheetsModel", name := "pass", desc := "(I)I" } : Jvm.MethodName)) ∈ lw_tbl := tl_6 _ (List.mem_of_getElem? (i := 30) rfl)
theorem ct_1231 : (Jvm.Cond.selects "LostSheetsModel" ({ cls := "LostSheetsModel", name := "pass", desc := "(I)I" } : Jvm.MethodName) ({ cls := "LostSheetsModel", name := "pass", desc := "(I)I" } : Jvm.MethodName)) ∈ lw_tbl := tl_6 _ (List.mem_of_getElem? (i := 31) rfl)
theorem ct_1234 : (Jvm.Cond.methodLink "LostSheetsLaw" (64 : Nat) ({ cls := "LostSheetsModel", name := "on", desc := "(II)I" } : Jvm.MethodName)) ∈ lw_tbl := tl_6 _ (List.mem_of_getElem? (i := 34) rfl)
theorem ct_1235 : (Jvm.Cond.instanceMethod ({ cls := "LostSheetsModel", name := "on", desc := "(II)I" } : Jvm.MethodName)) ∈ lw_tbl := tl_6 _ (List.mem_of_getElem? (i := 35) rfl)
theorem ct_1236 : (Jvm.Cond.selects "LostSheetsModel" ({ cls := "LostSheetsModel", name := "on", desc := "(II)I" } : Jvm.MethodName) ({ cls := "LostSheetsModel", name := "on", desc := "(II)I" } : Jvm.MethodName)) ∈ lw_tbl := tl_6 _ (List.mem_of_getElem? (i := 36) rfl)
theorem ct_1242 : (Jvm.Cond.methodLink "LostSheetsLaw" (68 : Nat) ({ cls := "LostSheetsModel", name := "best", desc := "(II)I" } : Jvm.MethodName)) ∈ lw_tbl := tl_6 _ (List.mem_of_getElem? (i := 42) rfl)
theorem ct_1243 : (Jvm.Cond.instanceMethod ({ cls := "LostSheetsModel", name := "best", desc := "(II)I" } : Jvm.MethodName)) ∈ lw_tbl := tl_6 _ (List.mem_of_getElem? (i := 43) rfl)
theorem ct_1244 : (Jvm.Cond.selects "LostSheetsModel" ({ cls := "LostSheetsModel", name := "best", desc := "(II)I" } : Jvm.MethodName) ({ cls := "LostSheetsModel", name := "best", desc := "(II)I" } : Jvm.MethodName)) ∈ lw_tbl := tl_6 _ (List.mem_of_getElem? (i := 44) rfl)
theorem ct_1259 : (Jvm.Cond.methodLink "LostSheetsLaw" (72 : Nat) ({ cls := "LostSheetsModel", name := "see", desc := "(III)I" } : Jvm.MethodName)) ∈ lw_tbl := tl_6 _ (List.mem_of_getElem? (i := 59) rfl)
theorem ct_1260 : (Jvm.Cond.instanceMethod ({ cls := "LostSheetsModel", name := "see", desc := "(III)I" } : Jvm.MethodName)) ∈ lw_tbl := tl_6 _ (List.mem_of_getElem? (i := 60) rfl)
theorem ct_1261 : (Jvm.Cond.selects "LostSheetsModel" ({ cls := "LostSheetsModel", name := "see", desc := "(III)I" } : Jvm.MethodName) ({ cls := "LostSheetsModel", name := "see", desc := "(III)I" } : Jvm.MethodName)) ∈ lw_tbl := tl_6 _ (List.mem_of_getElem? (i := 61) rfl)
theorem ct_1263 : (Jvm.Cond.methodLink "LostSheetsLaw" (76 : Nat) ({ cls := "LostSheetsModel", name := "can", desc := "(II)I" } : Jvm.MethodName)) ∈ lw_tbl := tl_6 _ (List.mem_of_getElem? (i := 63) rfl)
theorem ct_1264 : (Jvm.Cond.instanceMethod ({ cls := "LostSheetsModel", name := "can", desc := "(II)I" } : Jvm.MethodName)) ∈ lw_tbl := tl_6 _ (List.mem_of_getElem? (i := 64) rfl)
theorem ct_1265 : (Jvm.Cond.selects "LostSheetsModel" ({ cls := "LostSheetsModel", name := "can", desc := "(II)I" } : Jvm.MethodName) ({ cls := "LostSheetsModel", name := "can", desc := "(II)I" } : Jvm.MethodName)) ∈ lw_tbl := tl_6 _ (List.mem_of_getElem? (i := 65) rfl)
theorem ct_1267 : (Jvm.Cond.methodLink "LostSheetsLaw" (81 : Nat) ({ cls := "LostSheetsModel", name := "odds", desc := "(III)J" } : Jvm.MethodName)) ∈ lw_tbl := tl_6 _ (List.mem_of_getElem? (i := 67) rfl)
theorem ct_1268 : (Jvm.Cond.instanceMethod ({ cls := "LostSheetsModel", name := "odds", desc := "(III)J" } : Jvm.MethodName)) ∈ lw_tbl := tl_6 _ (List.mem_of_getElem? (i := 68) rfl)
theorem ct_1269 : (Jvm.Cond.selects "LostSheetsModel" ({ cls := "LostSheetsModel", name := "odds", desc := "(III)J" } : Jvm.MethodName) ({ cls := "LostSheetsModel", name := "odds", desc := "(III)J" } : Jvm.MethodName)) ∈ lw_tbl := tl_6 _ (List.mem_of_getElem? (i := 69) rfl)
theorem ct_1279 : (Jvm.Cond.methodLink "LostSheetsLaw" (86 : Nat) ({ cls := "LostSheetsModel", name := "mean", desc := "(II)J" } : Jvm.MethodName)) ∈ lw_tbl := tl_6 _ (List.mem_of_getElem? (i := 79) rfl)
theorem ct_1280 : (Jvm.Cond.instanceMethod ({ cls := "LostSheetsModel", name := "mean", desc := "(II)J" } : Jvm.MethodName)) ∈ lw_tbl := tl_6 _ (List.mem_of_getElem? (i := 80) rfl)
theorem ct_1281 : (Jvm.Cond.selects "LostSheetsModel" ({ cls := "LostSheetsModel", name := "mean", desc := "(II)J" } : Jvm.MethodName) ({ cls := "LostSheetsModel", name := "mean", desc := "(II)J" } : Jvm.MethodName)) ∈ lw_tbl := tl_6 _ (List.mem_of_getElem? (i := 81) rfl)
theorem ct_1287 : (Jvm.Cond.methodLink "LostSheetsLaw" (90 : Nat) ({ cls := "LostSheetsModel", name := "plan", desc := "(II)I" } : Jvm.MethodName)) ∈ lw_tbl := tl_6 _ (List.mem_of_getElem? (i := 87) rfl)
theorem ct_1288 : (Jvm.Cond.instanceMethod ({ cls := "LostSheetsModel", name := "plan", desc := "(II)I" } : Jvm.MethodName)) ∈ lw_tbl := tl_6 _ (List.mem_of_getElem? (i := 88) rfl)
theorem ct_1289 : (Jvm.Cond.selects "LostSheetsModel" ({ cls := "LostSheetsModel", name := "plan", desc := "(II)I" } : Jvm.MethodName) ({ cls := "LostSheetsModel", name := "plan", desc := "(II)I" } : Jvm.MethodName)) ∈ lw_tbl := tl_6 _ (List.mem_of_getElem? (i := 89) rfl)
theorem ct_1291 : (Jvm.Cond.methodLink "LostSheetsLaw" (94 : Nat) ({ cls := "LostSheetsModel", name := "ends", desc := "(I)I" } : Jvm.MethodName)) ∈ lw_tbl := tl_6 _ (List.mem_of_getElem? (i := 91) rfl)
theorem ct_1292 : (Jvm.Cond.instanceMethod ({ cls := "LostSheetsModel", name := "ends", desc := "(I)I" } : Jvm.MethodName)) ∈ lw_tbl := tl_6 _ (List.mem_of_getElem? (i := 92) rfl)
theorem ct_1293 : (Jvm.Cond.selects "LostSheetsModel" ({ cls := "LostSheetsModel", name := "ends", desc := "(I)I" } : Jvm.MethodName) ({ cls := "LostSheetsModel", name := "ends", desc := "(I)I" } : Jvm.MethodName)) ∈ lw_tbl := tl_6 _ (List.mem_of_getElem? (i := 93) rfl)
theorem ct_1295 : (Jvm.Cond.methodLink "LostSheetsLaw" (98 : Nat) ({ cls := "LostSheetsModel", name := "book", desc := "(II)I" } : Jvm.MethodName)) ∈ lw_tbl := tl_6 _ (List.mem_of_getElem? (i := 95) rfl)
theorem ct_1296 : (Jvm.Cond.instanceMethod ({ cls := "LostSheetsModel", name := "book", desc := "(II)I" } : Jvm.MethodName)) ∈ lw_tbl := tl_6 _ (List.mem_of_getElem? (i := 96) rfl)
theorem ct_1297 : (Jvm.Cond.selects "LostSheetsModel" ({ cls := "LostSheetsModel", name := "book", desc := "(II)I" } : Jvm.MethodName) ({ cls := "LostSheetsModel", name := "book", desc := "(II)I" } : Jvm.MethodName)) ∈ lw_tbl := tl_6 _ (List.mem_of_getElem? (i := 97) rfl)
theorem ct_1299 : (Jvm.Cond.methodLink "LostSheetsLaw" (102 : Nat) ({ cls := "LostSheetsModel", name := "looked", desc := "()I" } : Jvm.MethodName)) ∈ lw_tbl := tl_6 _ (List.mem_of_getElem? (i := 99) rfl)
theorem ct_1300 : (Jvm.Cond.instanceMethod ({ cls := "LostSheetsModel", name := "looked", desc := "()I" } : Jvm.MethodName)) ∈ lw_tbl := tl_6 _ (List.mem_of_getElem? (i := 100) rfl)
theorem ct_1301 : (Jvm.Cond.selects "LostSheetsModel" ({ cls := "LostSheetsModel", name := "looked", desc := "()I" } : Jvm.MethodName) ({ cls := "LostSheetsModel", name := "looked", desc := "()I" } : Jvm.MethodName)) ∈ lw_tbl := tl_6 _ (List.mem_of_getElem? (i := 101) rfl)
theorem ct_1303 : (Jvm.Cond.methodLink "LostSheetsLaw" (106 : Nat) ({ cls := "LostSheetsModel", name := "judge", desc := "(II)I" } : Jvm.MethodName)) ∈ lw_tbl := tl_6 _ (List.mem_of_getElem? (i := 103) rfl)
theorem ct_1304 : (Jvm.Cond.instanceMethod ({ cls := "LostSheetsModel", name := "judge", desc := "(II)I" } : Jvm.MethodName)) ∈ lw_tbl := tl_6 _ (List.mem_of_getElem? (i := 104) rfl)
theorem ct_1305 : (Jvm.Cond.selects "LostSheetsModel" ({ cls := "LostSheetsModel", name := "judge", desc := "(II)I" } : Jvm.MethodName) ({ cls := "LostSheetsModel", name := "judge", desc := "(II)I" } : Jvm.MethodName)) ∈ lw_tbl := tl_6 _ (List.mem_of_getElem? (i := 105) rfl)
theorem ct_1307 : (Jvm.Cond.methodLink "LostSheetsLaw" (110 : Nat) ({ cls := "LostSheetsModel", name := "image", desc := "()I" } : Jvm.MethodName)) ∈ lw_tbl := tl_6 _ (List.mem_of_getElem? (i := 107) rfl)
theorem ct_1308 : (Jvm.Cond.instanceMethod ({ cls := "LostSheetsModel", name := "image", desc := "()I" } : Jvm.MethodName)) ∈ lw_tbl := tl_6 _ (List.mem_of_getElem? (i := 108) rfl)
theorem ct_1309 : (Jvm.Cond.selects "LostSheetsModel" ({ cls := "LostSheetsModel", name := "image", desc := "()I" } : Jvm.MethodName) ({ cls := "LostSheetsModel", name := "image", desc := "()I" } : Jvm.MethodName)) ∈ lw_tbl := tl_6 _ (List.mem_of_getElem? (i := 109) rfl)
theorem ct_1311 : (Jvm.Cond.methodLink "LostSheetsLaw" (114 : Nat) ({ cls := "LostSheetsModel", name := "undo", desc := "()I" } : Jvm.MethodName)) ∈ lw_tbl := tl_6 _ (List.mem_of_getElem? (i := 111) rfl)
theorem ct_1312 : (Jvm.Cond.instanceMethod ({ cls := "LostSheetsModel", name := "undo", desc := "()I" } : Jvm.MethodName)) ∈ lw_tbl := tl_6 _ (List.mem_of_getElem? (i := 112) rfl)
theorem ct_1313 : (Jvm.Cond.selects "LostSheetsModel" ({ cls := "LostSheetsModel", name := "undo", desc := "()I" } : Jvm.MethodName) ({ cls := "LostSheetsModel", name := "undo", desc := "()I" } : Jvm.MethodName)) ∈ lw_tbl := tl_6 _ (List.mem_of_getElem? (i := 113) rfl)
theorem ct_1315 : (Jvm.Cond.methodLink "LostSheetsLaw" (118 : Nat) ({ cls := "LostSheetsModel", name := "act", desc := "(III)I" } : Jvm.MethodName)) ∈ lw_tbl := tl_6 _ (List.mem_of_getElem? (i := 115) rfl)
theorem ct_1316 : (Jvm.Cond.instanceMethod ({ cls := "LostSheetsModel", name := "act", desc := "(III)I" } : Jvm.MethodName)) ∈ lw_tbl := tl_6 _ (List.mem_of_getElem? (i := 116) rfl)
theorem ct_1317 : (Jvm.Cond.selects "LostSheetsModel" ({ cls := "LostSheetsModel", name := "act", desc := "(III)I" } : Jvm.MethodName) ({ cls := "LostSheetsModel", name := "act", desc := "(III)I" } : Jvm.MethodName)) ∈ lw_tbl := tl_6 _ (List.mem_of_getElem? (i := 117) rfl)
theorem ct_1338 : (Jvm.Cond.methodLink "LostSheetsLaw" (122 : Nat) ({ cls := "LostSheetsModel", name := "trace", desc := "(I)I" } : Jvm.MethodName)) ∈ lw_tbl := tl_6 _ (List.mem_of_getElem? (i := 138) rfl)
theorem ct_1339 : (Jvm.Cond.instanceMethod ({ cls := "LostSheetsModel", name := "trace", desc := "(I)I" } : Jvm.MethodName)) ∈ lw_tbl := tl_6 _ (List.mem_of_getElem? (i := 139) rfl)
theorem ct_1340 : (Jvm.Cond.selects "LostSheetsModel" ({ cls := "LostSheetsModel", name := "trace", desc := "(I)I" } : Jvm.MethodName) ({ cls := "LostSheetsModel", name := "trace", desc := "(I)I" } : Jvm.MethodName)) ∈ lw_tbl := tl_6 _ (List.mem_of_getElem? (i := 140) rfl)
theorem ct_1342 : (Jvm.Cond.methodLink "LostSheetsLaw" (126 : Nat) ({ cls := "LostSheetsModel", name := "taken", desc := "(II)I" } : Jvm.MethodName)) ∈ lw_tbl := tl_6 _ (List.mem_of_getElem? (i := 142) rfl)
theorem ct_1343 : (Jvm.Cond.instanceMethod ({ cls := "LostSheetsModel", name := "taken", desc := "(II)I" } : Jvm.MethodName)) ∈ lw_tbl := tl_6 _ (List.mem_of_getElem? (i := 143) rfl)
theorem ct_1344 : (Jvm.Cond.selects "LostSheetsModel" ({ cls := "LostSheetsModel", name := "taken", desc := "(II)I" } : Jvm.MethodName) ({ cls := "LostSheetsModel", name := "taken", desc := "(II)I" } : Jvm.MethodName)) ∈ lw_tbl := tl_6 _ (List.mem_of_getElem? (i := 144) rfl)
theorem ct_1346 : (Jvm.Cond.methodLink "LostSheetsLaw" (130 : Nat) ({ cls := "LostSheetsModel", name := "count", desc := "(I)I" } : Jvm.MethodName)) ∈ lw_tbl := tl_6 _ (List.mem_of_getElem? (i := 146) rfl)
theorem ct_1347 : (Jvm.Cond.instanceMethod ({ cls := "LostSheetsModel", name := "count", desc := "(I)I" } : Jvm.MethodName)) ∈ lw_tbl := tl_6 _ (List.mem_of_getElem? (i := 147) rfl)
theorem ct_1348 : (Jvm.Cond.selects "LostSheetsModel" ({ cls := "LostSheetsModel", name := "count", desc := "(I)I" } : Jvm.MethodName) ({ cls := "LostSheetsModel", name := "count", desc := "(I)I" } : Jvm.MethodName)) ∈ lw_tbl := tl_6 _ (List.mem_of_getElem? (i := 148) rfl)
theorem ct_1350 : (Jvm.Cond.methodLink "LostSheetsLaw" (134 : Nat) ({ cls := "LostSheetsModel", name := "tape", desc := "(III)I" } : Jvm.MethodName)) ∈ lw_tbl := tl_6 _ (List.mem_of_getElem? (i := 150) rfl)
theorem ct_1351 : (Jvm.Cond.instanceMethod ({ cls := "LostSheetsModel", name := "tape", desc := "(III)I" } : Jvm.MethodName)) ∈ lw_tbl := tl_6 _ (List.mem_of_getElem? (i := 151) rfl)
theorem ct_1352 : (Jvm.Cond.selects "LostSheetsModel" ({ cls := "LostSheetsModel", name := "tape", desc := "(III)I" } : Jvm.MethodName) ({ cls := "LostSheetsModel", name := "tape", desc := "(III)I" } : Jvm.MethodName)) ∈ lw_tbl := tl_6 _ (List.mem_of_getElem? (i := 152) rfl)
theorem ct_1357 : (Jvm.Cond.methodLink "LostSheetsLaw" (141 : Nat) ({ cls := "LostSheetsModel", name := "item", desc := "(IIJ)I" } : Jvm.MethodName)) ∈ lw_tbl := tl_6 _ (List.mem_of_getElem? (i := 157) rfl)
theorem ct_1358 : (Jvm.Cond.instanceMethod ({ cls := "LostSheetsModel", name := "item", desc := "(IIJ)I" } : Jvm.MethodName)) ∈ lw_tbl := tl_6 _ (List.mem_of_getElem? (i := 158) rfl)
theorem ct_1359 : (Jvm.Cond.selects "LostSheetsModel" ({ cls := "LostSheetsModel", name := "item", desc := "(IIJ)I" } : Jvm.MethodName) ({ cls := "LostSheetsModel", name := "item", desc := "(IIJ)I" } : Jvm.MethodName)) ∈ lw_tbl := tl_6 _ (List.mem_of_getElem? (i := 159) rfl)
theorem ct_1364 : (Jvm.Cond.methodLink "LostSheetsLaw" (145 : Nat) ({ cls := "LostSheetsModel", name := "read", desc := "(II)J" } : Jvm.MethodName)) ∈ lw_tbl := tl_6 _ (List.mem_of_getElem? (i := 164) rfl)
theorem ct_1365 : (Jvm.Cond.instanceMethod ({ cls := "LostSheetsModel", name := "read", desc := "(II)J" } : Jvm.MethodName)) ∈ lw_tbl := tl_6 _ (List.mem_of_getElem? (i := 165) rfl)
theorem ct_1366 : (Jvm.Cond.selects "LostSheetsModel" ({ cls := "LostSheetsModel", name := "read", desc := "(II)J" } : Jvm.MethodName) ({ cls := "LostSheetsModel", name := "read", desc := "(II)J" } : Jvm.MethodName)) ∈ lw_tbl := tl_6 _ (List.mem_of_getElem? (i := 166) rfl)
theorem ct_1368 : (Jvm.Cond.methodLink "LostSheetsLaw" (150 : Nat) ({ cls := "LostSheetsModel", name := "shift", desc := "(IIIII)I" } : Jvm.MethodName)) ∈ lw_tbl := tl_6 _ (List.mem_of_getElem? (i := 168) rfl)
theorem ct_1369 : (Jvm.Cond.instanceMethod ({ cls := "LostSheetsModel", name := "shift", desc := "(IIIII)I" } : Jvm.MethodName)) ∈ lw_tbl := tl_6 _ (List.mem_of_getElem? (i := 169) rfl)
theorem ct_1370 : (Jvm.Cond.selects "LostSheetsModel" ({ cls := "LostSheetsModel", name := "shift", desc := "(IIIII)I" } : Jvm.MethodName) ({ cls := "LostSheetsModel", name := "shift", desc := "(IIIII)I" } : Jvm.MethodName)) ∈ lw_tbl := tl_6 _ (List.mem_of_getElem? (i := 170) rfl)
theorem ct_143 : (Jvm.Cond.fieldLink "LostSheets$ByHand" (34 : Nat) "LostSheets$Rows" "most" "I") ∈ lw_tbl := tl_1 _ (List.mem_of_getElem? (i := 143) rfl)
theorem ct_148 : (Jvm.Cond.fieldLink "LostSheets$ByHand" (37 : Nat) "LostSheets$Rows" "second" "[I") ∈ lw_tbl := tl_1 _ (List.mem_of_getElem? (i := 148) rfl)
theorem ct_153 : (Jvm.Cond.fieldLink "LostSheets$ByHand" (30 : Nat) "LostSheets$Rows" "size" "I") ∈ lw_tbl := tl_1 _ (List.mem_of_getElem? (i := 153) rfl)
theorem ct_166 : (Jvm.Cond.fieldLink "LostSheets$ByHand" (14 : Nat) "LostSheets$ByHand" "seen" "LLostSheets$Rows;") ∈ lw_tbl := tl_1 _ (List.mem_of_getElem? (i := 166) rfl)
theorem ct_168 : (Jvm.Cond.fieldLink "LostSheets$ByHand" (20 : Nat) "LostSheets$ByHand" "planned" "LLostSheets$Rows;") ∈ lw_tbl := tl_1 _ (List.mem_of_getElem? (i := 168) rfl)
theorem ct_170 : (Jvm.Cond.fieldLink "LostSheets$ByHand" (23 : Nat) "LostSheets$ByHand" "booked" "LLostSheets$Rows;") ∈ lw_tbl := tl_1 _ (List.mem_of_getElem? (i := 170) rfl)
theorem ct_40 : (Jvm.Cond.fieldLink "LostSheets$Drawer" (41 : Nat) "LostSheets$Drawer" "number" "I") ∈ lw_tbl := tl_1 _ (List.mem_of_getElem? (i := 40) rfl)
theorem ct_44 : (Jvm.Cond.fieldLink "LostSheets$Drawer" (9 : Nat) "LostSheets$Drawer" "kind" "I") ∈ lw_tbl := tl_1 _ (List.mem_of_getElem? (i := 44) rfl)
theorem ct_48 : (Jvm.Cond.fieldLink "LostSheets$Drawer" (15 : Nat) "LostSheets$Drawer" "v" "I") ∈ lw_tbl := tl_1 _ (List.mem_of_getElem? (i := 48) rfl)
theorem ct_52 : (Jvm.Cond.fieldLink "LostSheets$Drawer" (18 : Nat) "LostSheets$Drawer" "at" "I") ∈ lw_tbl := tl_1 _ (List.mem_of_getElem? (i := 52) rfl)
theorem ct_55 : (Jvm.Cond.fieldLink "LostSheets$Drawer" (21 : Nat) "LostSheets$Drawer" "rows" "I") ∈ lw_tbl := tl_1 _ (List.mem_of_getElem? (i := 55) rfl)
theorem ct_58 : (Jvm.Cond.fieldLink "LostSheets$Drawer" (24 : Nat) "LostSheets$Drawer" "drew" "I") ∈ lw_tbl := tl_1 _ (List.mem_of_getElem? (i := 58) rfl)
theorem ct_61 : (Jvm.Cond.fieldLink "LostSheets$Drawer" (27 : Nat) "LostSheets$Drawer" "done" "Z") ∈ lw_tbl := tl_1 _ (List.mem_of_getElem? (i := 61) rfl)
theorem ct_64 : (Jvm.Cond.fieldLink "LostSheets$Drawer" (31 : Nat) "LostSheets$Drawer" "sheetWays" "[I") ∈ lw_tbl := tl_1 _ (List.mem_of_getElem? (i := 64) rfl)
theorem ct_67 : (Jvm.Cond.fieldLink "LostSheets$Drawer" (35 : Nat) "LostSheets$Drawer" "sheetMarks" "[I") ∈ lw_tbl := tl_1 _ (List.mem_of_getElem? (i := 67) rfl)
theorem ct_70 : (Jvm.Cond.fieldLink "LostSheets$Drawer" (38 : Nat) "LostSheets$Drawer" "toldRow" "[I") ∈ lw_tbl := tl_1 _ (List.mem_of_getElem? (i := 70) rfl)
theorem ct_42 : (Jvm.Cond.fieldLink "LostSheets$Land" (99 : Nat) "LostSheets$Drawer" "number" "I") ∈ lw_tbl := tl_1 _ (List.mem_of_getElem? (i := 42) rfl)
theorem ct_47 : (Jvm.Cond.fieldLink "LostSheets$Land" (102 : Nat) "LostSheets$Drawer" "kind" "I") ∈ lw_tbl := tl_1 _ (List.mem_of_getElem? (i := 47) rfl)
theorem ct_51 : (Jvm.Cond.fieldLink "LostSheets$Land" (77 : Nat) "LostSheets$Drawer" "v" "I") ∈ lw_tbl := tl_1 _ (List.mem_of_getElem? (i := 51) rfl)
theorem ct_54 : (Jvm.Cond.fieldLink "LostSheets$Land" (74 : Nat) "LostSheets$Drawer" "at" "I") ∈ lw_tbl := tl_1 _ (List.mem_of_getElem? (i := 54) rfl)
theorem ct_57 : (Jvm.Cond.fieldLink "LostSheets$Land" (80 : Nat) "LostSheets$Drawer" "rows" "I") ∈ lw_tbl := tl_1 _ (List.mem_of_getElem? (i := 57) rfl)
theorem ct_60 : (Jvm.Cond.fieldLink "LostSheets$Land" (87 : Nat) "LostSheets$Drawer" "drew" "I") ∈ lw_tbl := tl_1 _ (List.mem_of_getElem? (i := 60) rfl)
theorem ct_63 : (Jvm.Cond.fieldLink "LostSheets$Land" (83 : Nat) "LostSheets$Drawer" "done" "Z") ∈ lw_tbl := tl_1 _ (List.mem_of_getElem? (i := 63) rfl)
theorem ct_66 : (Jvm.Cond.fieldLink "LostSheets$Land" (157 : Nat) "LostSheets$Drawer" "sheetWays" "[I") ∈ lw_tbl := tl_1 _ (List.mem_of_getElem? (i := 66) rfl)
theorem ct_69 : (Jvm.Cond.fieldLink "LostSheets$Land" (160 : Nat) "LostSheets$Drawer" "sheetMarks" "[I") ∈ lw_tbl := tl_1 _ (List.mem_of_getElem? (i := 69) rfl)
theorem ct_72 : (Jvm.Cond.fieldLink "LostSheets$Land" (121 : Nat) "LostSheets$Drawer" "toldRow" "[I") ∈ lw_tbl := tl_1 _ (List.mem_of_getElem? (i := 72) rfl)
theorem ct_95 : (Jvm.Cond.fieldLink "LostSheets$Land" (9 : Nat) "LostSheets$Land" "marks" "[I") ∈ lw_tbl := tl_1 _ (List.mem_of_getElem? (i := 95) rfl)
theorem ct_96 : (Jvm.Cond.fieldLink "LostSheets$Land" (15 : Nat) "LostSheets$Land" "drawn" "I") ∈ lw_tbl := tl_1 _ (List.mem_of_getElem? (i := 96) rfl)
theorem ct_98 : (Jvm.Cond.fieldLink "LostSheets$Land" (19 : Nat) "LostSheets$Land" "hour" "I") ∈ lw_tbl := tl_1 _ (List.mem_of_getElem? (i := 98) rfl)
theorem ct_100 : (Jvm.Cond.fieldLink "LostSheets$Land" (22 : Nat) "LostSheets$Land" "office" "LLostSheets$Office;") ∈ lw_tbl := tl_1 _ (List.mem_of_getElem? (i := 100) rfl)
theorem ct_102 : (Jvm.Cond.fieldLink "LostSheets$Land" (28 : Nat) "LostSheets$Land" "drawers" "[LLostSheets$Drawer;") ∈ lw_tbl := tl_1 _ (List.mem_of_getElem? (i := 102) rfl)
theorem ct_103 : (Jvm.Cond.fieldLink "LostSheets$Land" (32 : Nat) "LostSheets$Land" "drawerCount" "I") ∈ lw_tbl := tl_1 _ (List.mem_of_getElem? (i := 103) rfl)
theorem ct_105 : (Jvm.Cond.fieldLink "LostSheets$Land" (35 : Nat) "LostSheets$Land" "waysAhead" "[I") ∈ lw_tbl := tl_1 _ (List.mem_of_getElem? (i := 105) rfl)
theorem ct_106 : (Jvm.Cond.fieldLink "LostSheets$Land" (40 : Nat) "LostSheets$Land" "answers" "[I") ∈ lw_tbl := tl_1 _ (List.mem_of_getElem? (i := 106) rfl)
theorem ct_107 : (Jvm.Cond.fieldLink "LostSheets$Land" (43 : Nat) "LostSheets$Land" "atMark" "[I") ∈ lw_tbl := tl_1 _ (List.mem_of_getElem? (i := 107) rfl)
theorem ct_229 : (Jvm.Cond.fieldLink "LostSheets$Land" (96 : Nat) "LostSheets$Office" "know" "I") ∈ lw_tbl := tl_1 _ (List.mem_of_getElem? (i := 229) rfl)
theorem ct_227 : (Jvm.Cond.fieldLink "LostSheets$Office" (9 : Nat) "LostSheets$Office" "know" "I") ∈ lw_tbl := tl_1 _ (List.mem_of_getElem? (i := 227) rfl)
theorem ct_230 : (Jvm.Cond.fieldLink "LostSheets$Office" (15 : Nat) "LostSheets$Office" "steps" "[I") ∈ lw_tbl := tl_1 _ (List.mem_of_getElem? (i := 230) rfl)
theorem ct_231 : (Jvm.Cond.fieldLink "LostSheets$Office" (19 : Nat) "LostSheets$Office" "numbers" "[I") ∈ lw_tbl := tl_1 _ (List.mem_of_getElem? (i := 231) rfl)
theorem ct_232 : (Jvm.Cond.fieldLink "LostSheets$Office" (22 : Nat) "LostSheets$Office" "size" "I") ∈ lw_tbl := tl_1 _ (List.mem_of_getElem? (i := 232) rfl)
theorem ct_142 : (Jvm.Cond.fieldLink "LostSheets$Rows" (19 : Nat) "LostSheets$Rows" "most" "I") ∈ lw_tbl := tl_1 _ (List.mem_of_getElem? (i := 142) rfl)
theorem ct_145 : (Jvm.Cond.fieldLink "LostSheets$Rows" (22 : Nat) "LostSheets$Rows" "first" "[I") ∈ lw_tbl := tl_1 _ (List.mem_of_getElem? (i := 145) rfl)
theorem ct_147 : (Jvm.Cond.fieldLink "LostSheets$Rows" (26 : Nat) "LostSheets$Rows" "second" "[I") ∈ lw_tbl := tl_1 _ (List.mem_of_getElem? (i := 147) rfl)
theorem ct_150 : (Jvm.Cond.fieldLink "LostSheets$Rows" (29 : Nat) "LostSheets$Rows" "third" "[I") ∈ lw_tbl := tl_1 _ (List.mem_of_getElem? (i := 150) rfl)
theorem ct_152 : (Jvm.Cond.fieldLink "LostSheets$Rows" (7 : Nat) "LostSheets$Rows" "size" "I") ∈ lw_tbl := tl_1 _ (List.mem_of_getElem? (i := 152) rfl)
theorem ct_247 : (Jvm.Cond.fieldLink "LostSheets$Tape" (9 : Nat) "LostSheets$Tape" "sort" "I") ∈ lw_tbl := tl_2 _ (List.mem_of_getElem? (i := 7) rfl)
theorem ct_249 : (Jvm.Cond.fieldLink "LostSheets$Tape" (15 : Nat) "LostSheets$Tape" "length" "I") ∈ lw_tbl := tl_2 _ (List.mem_of_getElem? (i := 9) rfl)
theorem ct_251 : (Jvm.Cond.fieldLink "LostSheets$Tape" (18 : Nat) "LostSheets$Tape" "items" "[J") ∈ lw_tbl := tl_2 _ (List.mem_of_getElem? (i := 11) rfl)
theorem ct_185 : (Jvm.Cond.fieldLink "LostSheets$Text" (9 : Nat) "LostSheets$Text" "signs" "[B") ∈ lw_tbl := tl_1 _ (List.mem_of_getElem? (i := 185) rfl)
theorem ct_186 : (Jvm.Cond.fieldLink "LostSheets$Text" (15 : Nat) "LostSheets$Text" "size" "I") ∈ lw_tbl := tl_1 _ (List.mem_of_getElem? (i := 186) rfl)
theorem ct_188 : (Jvm.Cond.fieldLink "LostSheets$Text" (19 : Nat) "LostSheets$Text" "place" "I") ∈ lw_tbl := tl_1 _ (List.mem_of_getElem? (i := 188) rfl)
theorem ct_189 : (Jvm.Cond.fieldLink "LostSheets$Text" (22 : Nat) "LostSheets$Text" "number" "I") ∈ lw_tbl := tl_1 _ (List.mem_of_getElem? (i := 189) rfl)
theorem ct_190 : (Jvm.Cond.fieldLink "LostSheets$Text" (25 : Nat) "LostSheets$Text" "into" "LLostSheets$Office;") ∈ lw_tbl := tl_1 _ (List.mem_of_getElem? (i := 190) rfl)
theorem ct_228 : (Jvm.Cond.fieldLink "LostSheets$Text" (68 : Nat) "LostSheets$Office" "know" "I") ∈ lw_tbl := tl_1 _ (List.mem_of_getElem? (i := 228) rfl)
theorem ct_41 : (Jvm.Cond.fieldLink "LostSheets$Trace" (47 : Nat) "LostSheets$Drawer" "number" "I") ∈ lw_tbl := tl_1 _ (List.mem_of_getElem? (i := 41) rfl)
theorem ct_46 : (Jvm.Cond.fieldLink "LostSheets$Trace" (26 : Nat) "LostSheets$Drawer" "kind" "I") ∈ lw_tbl := tl_1 _ (List.mem_of_getElem? (i := 46) rfl)
theorem ct_50 : (Jvm.Cond.fieldLink "LostSheets$Trace" (50 : Nat) "LostSheets$Drawer" "v" "I") ∈ lw_tbl := tl_1 _ (List.mem_of_getElem? (i := 50) rfl)
theorem ct_211 : (Jvm.Cond.fieldLink "LostSheets$Trace" (11 : Nat) "LostSheets$Trace" "kept" "[I") ∈ lw_tbl := tl_1 _ (List.mem_of_getElem? (i := 211) rfl)
theorem ct_213 : (Jvm.Cond.fieldLink "LostSheets$Trace" (15 : Nat) "LostSheets$Trace" "ran" "I") ∈ lw_tbl := tl_1 _ (List.mem_of_getElem? (i := 213) rfl)
theorem ct_43 : (Jvm.Cond.fieldLink "LostSheets" (330 : Nat) "LostSheets$Drawer" "number" "I") ∈ lw_tbl := tl_1 _ (List.mem_of_getElem? (i := 43) rfl)
theorem ct_45 : (Jvm.Cond.fieldLink "LostSheets" (88 : Nat) "LostSheets$Drawer" "kind" "I") ∈ lw_tbl := tl_1 _ (List.mem_of_getElem? (i := 45) rfl)
theorem ct_49 : (Jvm.Cond.fieldLink "LostSheets" (93 : Nat) "LostSheets$Drawer" "v" "I") ∈ lw_tbl := tl_1 _ (List.mem_of_getElem? (i := 49) rfl)
theorem ct_53 : (Jvm.Cond.fieldLink "LostSheets" (96 : Nat) "LostSheets$Drawer" "at" "I") ∈ lw_tbl := tl_1 _ (List.mem_of_getElem? (i := 53) rfl)
theorem ct_56 : (Jvm.Cond.fieldLink "LostSheets" (99 : Nat) "LostSheets$Drawer" "rows" "I") ∈ lw_tbl := tl_1 _ (List.mem_of_getElem? (i := 56) rfl)
theorem ct_59 : (Jvm.Cond.fieldLink "LostSheets" (105 : Nat) "LostSheets$Drawer" "drew" "I") ∈ lw_tbl := tl_1 _ (List.mem_of_getElem? (i := 59) rfl)
theorem ct_62 : (Jvm.Cond.fieldLink "LostSheets" (102 : Nat) "LostSheets$Drawer" "done" "Z") ∈ lw_tbl := tl_1 _ (List.mem_of_getElem? (i := 62) rfl)
theorem ct_65 : (Jvm.Cond.fieldLink "LostSheets" (127 : Nat) "LostSheets$Drawer" "sheetWays" "[I") ∈ lw_tbl := tl_1 _ (List.mem_of_getElem? (i := 65) rfl)
theorem ct_68 : (Jvm.Cond.fieldLink "LostSheets" (131 : Nat) "LostSheets$Drawer" "sheetMarks" "[I") ∈ lw_tbl := tl_1 _ (List.mem_of_getElem? (i := 68) rfl)
theorem ct_71 : (Jvm.Cond.fieldLink "LostSheets" (145 : Nat) "LostSheets$Drawer" "toldRow" "[I") ∈ lw_tbl := tl_1 _ (List.mem_of_getElem? (i := 71) rfl)
theorem ct_97 : (Jvm.Cond.fieldLink "LostSheets" (172 : Nat) "LostSheets$Land" "drawn" "I") ∈ lw_tbl := tl_1 _ (List.mem_of_getElem? (i := 97) rfl)
theorem ct_99 : (Jvm.Cond.fieldLink "LostSheets" (165 : Nat) "LostSheets$Land" "hour" "I") ∈ lw_tbl := tl_1 _ (List.mem_of_getElem? (i := 99) rfl)
theorem ct_101 : (Jvm.Cond.fieldLink "LostSheets" (158 : Nat) "LostSheets$Land" "office" "LLostSheets$Office;") ∈ lw_tbl := tl_1 _ (List.mem_of_getElem? (i := 101) rfl)
theorem ct_104 : (Jvm.Cond.fieldLink "LostSheets" (81 : Nat) "LostSheets$Land" "drawerCount" "I") ∈ lw_tbl := tl_1 _ (List.mem_of_getElem? (i := 104) rfl)
theorem ct_144 : (Jvm.Cond.fieldLink "LostSheets" (255 : Nat) "LostSheets$Rows" "most" "I") ∈ lw_tbl := tl_1 _ (List.mem_of_getElem? (i := 144) rfl)
theorem ct_146 : (Jvm.Cond.fieldLink "LostSheets" (258 : Nat) "LostSheets$Rows" "first" "[I") ∈ lw_tbl := tl_1 _ (List.mem_of_getElem? (i := 146) rfl)
theorem ct_149 : (Jvm.Cond.fieldLink "LostSheets" (261 : Nat) "LostSheets$Rows" "second" "[I") ∈ lw_tbl := tl_1 _ (List.mem_of_getElem? (i := 149) rfl)
theorem ct_151 : (Jvm.Cond.fieldLink "LostSheets" (342 : Nat) "LostSheets$Rows" "third" "[I") ∈ lw_tbl := tl_1 _ (List.mem_of_getElem? (i := 151) rfl)
theorem ct_154 : (Jvm.Cond.fieldLink "LostSheets" (216 : Nat) "LostSheets$Rows" "size" "I") ∈ lw_tbl := tl_1 _ (List.mem_of_getElem? (i := 154) rfl)
theorem ct_167 : (Jvm.Cond.fieldLink "LostSheets" (205 : Nat) "LostSheets$ByHand" "seen" "LLostSheets$Rows;") ∈ lw_tbl := tl_1 _ (List.mem_of_getElem? (i := 167) rfl)
theorem ct_169 : (Jvm.Cond.fieldLink "LostSheets" (242 : Nat) "LostSheets$ByHand" "planned" "LLostSheets$Rows;") ∈ lw_tbl := tl_1 _ (List.mem_of_getElem? (i := 169) rfl)
theorem ct_171 : (Jvm.Cond.fieldLink "LostSheets" (252 : Nat) "LostSheets$ByHand" "booked" "LLostSheets$Rows;") ∈ lw_tbl := tl_1 _ (List.mem_of_getElem? (i := 171) rfl)
theorem ct_187 : (Jvm.Cond.fieldLink "LostSheets" (151 : Nat) "LostSheets$Text" "size" "I") ∈ lw_tbl := tl_1 _ (List.mem_of_getElem? (i := 187) rfl)
theorem ct_212 : (Jvm.Cond.fieldLink "LostSheets" (291 : Nat) "LostSheets$Trace" "kept" "[I") ∈ lw_tbl := tl_1 _ (List.mem_of_getElem? (i := 212) rfl)
theorem ct_214 : (Jvm.Cond.fieldLink "LostSheets" (288 : Nat) "LostSheets$Trace" "ran" "I") ∈ lw_tbl := tl_1 _ (List.mem_of_getElem? (i := 214) rfl)
theorem ct_248 : (Jvm.Cond.fieldLink "LostSheets" (268 : Nat) "LostSheets$Tape" "sort" "I") ∈ lw_tbl := tl_2 _ (List.mem_of_getElem? (i := 8) rfl)
theorem ct_250 : (Jvm.Cond.fieldLink "LostSheets" (271 : Nat) "LostSheets$Tape" "length" "I") ∈ lw_tbl := tl_2 _ (List.mem_of_getElem? (i := 10) rfl)
theorem ct_252 : (Jvm.Cond.fieldLink "LostSheets" (277 : Nat) "LostSheets$Tape" "items" "[J") ∈ lw_tbl := tl_2 _ (List.mem_of_getElem? (i := 12) rfl)
theorem ct_261 : (Jvm.Cond.fieldLink "LostSheets" (12 : Nat) "LostSheets" "now" "LLostSheets$Land;") ∈ lw_tbl := tl_2 _ (List.mem_of_getElem? (i := 21) rfl)
theorem ct_262 : (Jvm.Cond.fieldLink "LostSheets" (18 : Nat) "LostSheets" "imageLand" "LLostSheets$Land;") ∈ lw_tbl := tl_2 _ (List.mem_of_getElem? (i := 22) rfl)
theorem ct_263 : (Jvm.Cond.fieldLink "LostSheets" (21 : Nat) "LostSheets" "trial" "LLostSheets$Land;") ∈ lw_tbl := tl_2 _ (List.mem_of_getElem? (i := 23) rfl)
theorem ct_264 : (Jvm.Cond.fieldLink "LostSheets" (27 : Nat) "LostSheets" "byHand" "LLostSheets$ByHand;") ∈ lw_tbl := tl_2 _ (List.mem_of_getElem? (i := 24) rfl)
theorem ct_265 : (Jvm.Cond.fieldLink "LostSheets" (31 : Nat) "LostSheets" "imageByHand" "LLostSheets$ByHand;") ∈ lw_tbl := tl_2 _ (List.mem_of_getElem? (i := 25) rfl)
theorem ct_266 : (Jvm.Cond.fieldLink "LostSheets" (34 : Nat) "LostSheets" "imageTaken" "Z") ∈ lw_tbl := tl_2 _ (List.mem_of_getElem? (i := 26) rfl)
theorem ct_267 : (Jvm.Cond.fieldLink "LostSheets" (41 : Nat) "LostSheets" "text" "LLostSheets$Text;") ∈ lw_tbl := tl_2 _ (List.mem_of_getElem? (i := 27) rfl)
theorem ct_268 : (Jvm.Cond.fieldLink "LostSheets" (47 : Nat) "LostSheets" "offices" "[LLostSheets$Office;") ∈ lw_tbl := tl_2 _ (List.mem_of_getElem? (i := 28) rfl)
theorem ct_269 : (Jvm.Cond.fieldLink "LostSheets" (51 : Nat) "LostSheets" "officeCount" "I") ∈ lw_tbl := tl_2 _ (List.mem_of_getElem? (i := 29) rfl)
theorem ct_270 : (Jvm.Cond.fieldLink "LostSheets" (58 : Nat) "LostSheets" "bodies" "LLostSheets$Trace;") ∈ lw_tbl := tl_2 _ (List.mem_of_getElem? (i := 30) rfl)
theorem ct_271 : (Jvm.Cond.fieldLink "LostSheets" (64 : Nat) "LostSheets" "tapes" "[LLostSheets$Tape;") ∈ lw_tbl := tl_2 _ (List.mem_of_getElem? (i := 31) rfl)
theorem ct_853 : (Jvm.Cond.fieldLink "LostSheetsModel" (111 : Nat) "LostSheetsModel" "drawers" "I") ∈ lw_tbl := tl_4 _ (List.mem_of_getElem? (i := 133) rfl)
theorem ct_854 : (Jvm.Cond.fieldLink "LostSheetsModel" (9 : Nat) "LostSheetsModel" "kind" "[I") ∈ lw_tbl := tl_4 _ (List.mem_of_getElem? (i := 134) rfl)
theorem ct_855 : (Jvm.Cond.fieldLink "LostSheetsModel" (15 : Nat) "LostSheetsModel" "v" "[I") ∈ lw_tbl := tl_4 _ (List.mem_of_getElem? (i := 135) rfl)
theorem ct_856 : (Jvm.Cond.fieldLink "LostSheetsModel" (18 : Nat) "LostSheetsModel" "cell" "[I") ∈ lw_tbl := tl_4 _ (List.mem_of_getElem? (i := 136) rfl)
theorem ct_857 : (Jvm.Cond.fieldLink "LostSheetsModel" (21 : Nat) "LostSheetsModel" "sheeted" "[I") ∈ lw_tbl := tl_4 _ (List.mem_of_getElem? (i := 137) rfl)
theorem ct_858 : (Jvm.Cond.fieldLink "LostSheetsModel" (24 : Nat) "LostSheetsModel" "done" "[I") ∈ lw_tbl := tl_4 _ (List.mem_of_getElem? (i := 138) rfl)
theorem ct_859 : (Jvm.Cond.fieldLink "LostSheetsModel" (27 : Nat) "LostSheetsModel" "drew" "[I") ∈ lw_tbl := tl_4 _ (List.mem_of_getElem? (i := 139) rfl)
theorem ct_860 : (Jvm.Cond.fieldLink "LostSheetsModel" (30 : Nat) "LostSheetsModel" "sheets" "[I") ∈ lw_tbl := tl_4 _ (List.mem_of_getElem? (i := 140) rfl)
theorem ct_861 : (Jvm.Cond.fieldLink "LostSheetsModel" (33 : Nat) "LostSheetsModel" "rows" "[I") ∈ lw_tbl := tl_4 _ (List.mem_of_getElem? (i := 141) rfl)
theorem ct_862 : (Jvm.Cond.fieldLink "LostSheetsModel" (36 : Nat) "LostSheetsModel" "marks" "[I") ∈ lw_tbl := tl_4 _ (List.mem_of_getElem? (i := 142) rfl)
theorem ct_863 : (Jvm.Cond.fieldLink "LostSheetsModel" (240 : Nat) "LostSheetsModel" "drawn" "I") ∈ lw_tbl := tl_4 _ (List.mem_of_getElem? (i := 143) rfl)
theorem ct_864 : (Jvm.Cond.fieldLink "LostSheetsModel" (220 : Nat) "LostSheetsModel" "hour" "I") ∈ lw_tbl := tl_4 _ (List.mem_of_getElem? (i := 144) rfl)
theorem ct_865 : (Jvm.Cond.fieldLink "LostSheetsModel" (142 : Nat) "LostSheetsModel" "texted" "I") ∈ lw_tbl := tl_4 _ (List.mem_of_getElem? (i := 145) rfl)
theorem ct_866 : (Jvm.Cond.fieldLink "LostSheetsModel" (39 : Nat) "LostSheetsModel" "text" "[I") ∈ lw_tbl := tl_4 _ (List.mem_of_getElem? (i := 146) rfl)
theorem ct_867 : (Jvm.Cond.fieldLink "LostSheetsModel" (145 : Nat) "LostSheetsModel" "at" "I") ∈ lw_tbl := tl_4 _ (List.mem_of_getElem? (i := 147) rfl)
theorem ct_868 : (Jvm.Cond.fieldLink "LostSheetsModel" (148 : Nat) "LostSheetsModel" "value" "I") ∈ lw_tbl := tl_4 _ (List.mem_of_getElem? (i := 148) rfl)
theorem ct_869 : (Jvm.Cond.fieldLink "LostSheetsModel" (151 : Nat) "LostSheetsModel" "digits" "I") ∈ lw_tbl := tl_4 _ (List.mem_of_getElem? (i := 149) rfl)
theorem ct_870 : (Jvm.Cond.fieldLink "LostSheetsModel" (186 : Nat) "LostSheetsModel" "open" "I") ∈ lw_tbl := tl_4 _ (List.mem_of_getElem? (i := 150) rfl)
theorem ct_871 : (Jvm.Cond.fieldLink "LostSheetsModel" (214 : Nat) "LostSheetsModel" "offices" "I") ∈ lw_tbl := tl_4 _ (List.mem_of_getElem? (i := 151) rfl)
theorem ct_872 : (Jvm.Cond.fieldLink "LostSheetsModel" (107 : Nat) "LostSheetsModel" "holds" "I") ∈ lw_tbl := tl_4 _ (List.mem_of_getElem? (i := 152) rfl)
theorem ct_873 : (Jvm.Cond.fieldLink "LostSheetsModel" (42 : Nat) "LostSheetsModel" "clauses" "[I") ∈ lw_tbl := tl_4 _ (List.mem_of_getElem? (i := 153) rfl)
theorem ct_874 : (Jvm.Cond.fieldLink "LostSheetsModel" (45 : Nat) "LostSheetsModel" "word" "[I") ∈ lw_tbl := tl_4 _ (List.mem_of_getElem? (i := 154) rfl)
theorem ct_875 : (Jvm.Cond.fieldLink "LostSheetsModel" (48 : Nat) "LostSheetsModel" "number" "[I") ∈ lw_tbl := tl_4 _ (List.mem_of_getElem? (i := 155) rfl)
theorem ct_876 : (Jvm.Cond.fieldLink "LostSheetsModel" (51 : Nat) "LostSheetsModel" "begins" "[I") ∈ lw_tbl := tl_4 _ (List.mem_of_getElem? (i := 156) rfl)
theorem ct_877 : (Jvm.Cond.fieldLink "LostSheetsModel" (54 : Nat) "LostSheetsModel" "length" "[I") ∈ lw_tbl := tl_4 _ (List.mem_of_getElem? (i := 157) rfl)
theorem ct_878 : (Jvm.Cond.fieldLink "LostSheetsModel" (57 : Nat) "LostSheetsModel" "code" "[I") ∈ lw_tbl := tl_4 _ (List.mem_of_getElem? (i := 158) rfl)
theorem ct_879 : (Jvm.Cond.fieldLink "LostSheetsModel" (170 : Nat) "LostSheetsModel" "coded" "I") ∈ lw_tbl := tl_4 _ (List.mem_of_getElem? (i := 159) rfl)
theorem ct_880 : (Jvm.Cond.fieldLink "LostSheetsModel" (60 : Nat) "LostSheetsModel" "stack" "[Z") ∈ lw_tbl := tl_4 _ (List.mem_of_getElem? (i := 160) rfl)
theorem ct_881 : (Jvm.Cond.fieldLink "LostSheetsModel" (296 : Nat) "LostSheetsModel" "seen" "I") ∈ lw_tbl := tl_4 _ (List.mem_of_getElem? (i := 161) rfl)
theorem ct_882 : (Jvm.Cond.fieldLink "LostSheetsModel" (64 : Nat) "LostSheetsModel" "seenOf" "[I") ∈ lw_tbl := tl_4 _ (List.mem_of_getElem? (i := 162) rfl)
theorem ct_883 : (Jvm.Cond.fieldLink "LostSheetsModel" (67 : Nat) "LostSheetsModel" "seenIn" "[I") ∈ lw_tbl := tl_4 _ (List.mem_of_getElem? (i := 163) rfl)
theorem ct_884 : (Jvm.Cond.fieldLink "LostSheetsModel" (70 : Nat) "LostSheetsModel" "seenMark" "[I") ∈ lw_tbl := tl_4 _ (List.mem_of_getElem? (i := 164) rfl)
theorem ct_885 : (Jvm.Cond.fieldLink "LostSheetsModel" (317 : Nat) "LostSheetsModel" "inPlan" "I") ∈ lw_tbl := tl_4 _ (List.mem_of_getElem? (i := 165) rfl)
theorem ct_886 : (Jvm.Cond.fieldLink "LostSheetsModel" (73 : Nat) "LostSheetsModel" "goes" "[I") ∈ lw_tbl := tl_4 _ (List.mem_of_getElem? (i := 166) rfl)
theorem ct_887 : (Jvm.Cond.fieldLink "LostSheetsModel" (76 : Nat) "LostSheetsModel" "whose" "[I") ∈ lw_tbl := tl_4 _ (List.mem_of_getElem? (i := 167) rfl)
theorem ct_888 : (Jvm.Cond.fieldLink "LostSheetsModel" (320 : Nat) "LostSheetsModel" "inBook" "I") ∈ lw_tbl := tl_4 _ (List.mem_of_getElem? (i := 168) rfl)
theorem ct_889 : (Jvm.Cond.fieldLink "LostSheetsModel" (79 : Nat) "LostSheetsModel" "booked" "[I") ∈ lw_tbl := tl_4 _ (List.mem_of_getElem? (i := 169) rfl)
theorem ct_890 : (Jvm.Cond.fieldLink "LostSheetsModel" (82 : Nat) "LostSheetsModel" "bookMark" "[I") ∈ lw_tbl := tl_4 _ (List.mem_of_getElem? (i := 170) rfl)
theorem ct_891 : (Jvm.Cond.fieldLink "LostSheetsModel" (327 : Nat) "LostSheetsModel" "traced" "I") ∈ lw_tbl := tl_4 _ (List.mem_of_getElem? (i := 171) rfl)
theorem ct_892 : (Jvm.Cond.fieldLink "LostSheetsModel" (85 : Nat) "LostSheetsModel" "traces" "[I") ∈ lw_tbl := tl_4 _ (List.mem_of_getElem? (i := 172) rfl)
theorem ct_893 : (Jvm.Cond.fieldLink "LostSheetsModel" (323 : Nat) "LostSheetsModel" "imaged" "Z") ∈ lw_tbl := tl_4 _ (List.mem_of_getElem? (i := 173) rfl)
theorem ct_894 : (Jvm.Cond.fieldLink "LostSheetsModel" (88 : Nat) "LostSheetsModel" "image" "[I") ∈ lw_tbl := tl_4 _ (List.mem_of_getElem? (i := 174) rfl)
theorem ct_895 : (Jvm.Cond.fieldLink "LostSheetsModel" (91 : Nat) "LostSheetsModel" "ahead" "[I") ∈ lw_tbl := tl_4 _ (List.mem_of_getElem? (i := 175) rfl)
theorem ct_896 : (Jvm.Cond.fieldLink "LostSheetsModel" (94 : Nat) "LostSheetsModel" "ways" "[I") ∈ lw_tbl := tl_4 _ (List.mem_of_getElem? (i := 176) rfl)
theorem ct_897 : (Jvm.Cond.fieldLink "LostSheetsModel" (97 : Nat) "LostSheetsModel" "tapeSort" "[I") ∈ lw_tbl := tl_4 _ (List.mem_of_getElem? (i := 177) rfl)
theorem ct_898 : (Jvm.Cond.fieldLink "LostSheetsModel" (100 : Nat) "LostSheetsModel" "tapeSize" "[I") ∈ lw_tbl := tl_4 _ (List.mem_of_getElem? (i := 178) rfl)
theorem ct_899 : (Jvm.Cond.fieldLink "LostSheetsModel" (103 : Nat) "LostSheetsModel" "items" "[J") ∈ lw_tbl := tl_4 _ (List.mem_of_getElem? (i := 179) rfl)
theorem ct_172 : (Jvm.Cond.laysFinal "LostSheets$ByHand" "LostSheets$ByHand" "seen" "LLostSheets$Rows;") ∈ lw_tbl := tl_1 _ (List.mem_of_getElem? (i := 172) rfl)
theorem ct_174 : (Jvm.Cond.laysFinal "LostSheets$ByHand" "LostSheets$ByHand" "planned" "LLostSheets$Rows;") ∈ lw_tbl := tl_1 _ (List.mem_of_getElem? (i := 174) rfl)
theorem ct_176 : (Jvm.Cond.laysFinal "LostSheets$ByHand" "LostSheets$ByHand" "booked" "LLostSheets$Rows;") ∈ lw_tbl := tl_1 _ (List.mem_of_getElem? (i := 176) rfl)
theorem ct_128 : (Jvm.Cond.instantiable "LostSheets$ByHand" (3 : Nat)) ∈ lw_tbl := tl_1 _ (List.mem_of_getElem? (i := 128) rfl)
theorem ct_73 : (Jvm.Cond.laysFinal "LostSheets$Drawer" "LostSheets$Drawer" "number" "I") ∈ lw_tbl := tl_1 _ (List.mem_of_getElem? (i := 73) rfl)
theorem ct_75 : (Jvm.Cond.lays "LostSheets$Drawer" "LostSheets$Drawer" "kind" "I") ∈ lw_tbl := tl_1 _ (List.mem_of_getElem? (i := 75) rfl)
theorem ct_77 : (Jvm.Cond.lays "LostSheets$Drawer" "LostSheets$Drawer" "v" "I") ∈ lw_tbl := tl_1 _ (List.mem_of_getElem? (i := 77) rfl)
theorem ct_79 : (Jvm.Cond.lays "LostSheets$Drawer" "LostSheets$Drawer" "at" "I") ∈ lw_tbl := tl_1 _ (List.mem_of_getElem? (i := 79) rfl)
theorem ct_81 : (Jvm.Cond.lays "LostSheets$Drawer" "LostSheets$Drawer" "rows" "I") ∈ lw_tbl := tl_1 _ (List.mem_of_getElem? (i := 81) rfl)
theorem ct_83 : (Jvm.Cond.lays "LostSheets$Drawer" "LostSheets$Drawer" "drew" "I") ∈ lw_tbl := tl_1 _ (List.mem_of_getElem? (i := 83) rfl)
theorem ct_85 : (Jvm.Cond.lays "LostSheets$Drawer" "LostSheets$Drawer" "done" "Z") ∈ lw_tbl := tl_1 _ (List.mem_of_getElem? (i := 85) rfl)
theorem ct_87 : (Jvm.Cond.laysFinal "LostSheets$Drawer" "LostSheets$Drawer" "sheetWays" "[I") ∈ lw_tbl := tl_1 _ (List.mem_of_getElem? (i := 87) rfl)
theorem ct_89 : (Jvm.Cond.laysFinal "LostSheets$Drawer" "LostSheets$Drawer" "sheetMarks" "[I") ∈ lw_tbl := tl_1 _ (List.mem_of_getElem? (i := 89) rfl)
theorem ct_91 : (Jvm.Cond.laysFinal "LostSheets$Drawer" "LostSheets$Drawer" "toldRow" "[I") ∈ lw_tbl := tl_1 _ (List.mem_of_getElem? (i := 91) rfl)
theorem ct_35 : (Jvm.Cond.instantiable "LostSheets$Drawer" (10 : Nat)) ∈ lw_tbl := tl_1 _ (List.mem_of_getElem? (i := 35) rfl)
theorem ct_108 : (Jvm.Cond.laysFinal "LostSheets$Land" "LostSheets$Land" "marks" "[I") ∈ lw_tbl := tl_1 _ (List.mem_of_getElem? (i := 108) rfl)
theorem ct_110 : (Jvm.Cond.lays "LostSheets$Land" "LostSheets$Land" "drawn" "I") ∈ lw_tbl := tl_1 _ (List.mem_of_getElem? (i := 110) rfl)
theorem ct_112 : (Jvm.Cond.lays "LostSheets$Land" "LostSheets$Land" "hour" "I") ∈ lw_tbl := tl_1 _ (List.mem_of_getElem? (i := 112) rfl)
theorem ct_114 : (Jvm.Cond.lays "LostSheets$Land" "LostSheets$Land" "office" "LLostSheets$Office;") ∈ lw_tbl := tl_1 _ (List.mem_of_getElem? (i := 114) rfl)
theorem ct_116 : (Jvm.Cond.laysFinal "LostSheets$Land" "LostSheets$Land" "drawers" "[LLostSheets$Drawer;") ∈ lw_tbl := tl_1 _ (List.mem_of_getElem? (i := 116) rfl)
theorem ct_118 : (Jvm.Cond.lays "LostSheets$Land" "LostSheets$Land" "drawerCount" "I") ∈ lw_tbl := tl_1 _ (List.mem_of_getElem? (i := 118) rfl)
theorem ct_120 : (Jvm.Cond.laysFinal "LostSheets$Land" "LostSheets$Land" "waysAhead" "[I") ∈ lw_tbl := tl_1 _ (List.mem_of_getElem? (i := 120) rfl)
theorem ct_122 : (Jvm.Cond.laysFinal "LostSheets$Land" "LostSheets$Land" "answers" "[I") ∈ lw_tbl := tl_1 _ (List.mem_of_getElem? (i := 122) rfl)
theorem ct_124 : (Jvm.Cond.laysFinal "LostSheets$Land" "LostSheets$Land" "atMark" "[I") ∈ lw_tbl := tl_1 _ (List.mem_of_getElem? (i := 124) rfl)
theorem ct_28 : (Jvm.Cond.instantiable "LostSheets$Land" (9 : Nat)) ∈ lw_tbl := tl_1 _ (List.mem_of_getElem? (i := 28) rfl)
theorem ct_233 : (Jvm.Cond.lays "LostSheets$Office" "LostSheets$Office" "know" "I") ∈ lw_tbl := tl_1 _ (List.mem_of_getElem? (i := 233) rfl)
theorem ct_235 : (Jvm.Cond.laysFinal "LostSheets$Office" "LostSheets$Office" "steps" "[I") ∈ lw_tbl := tl_1 _ (List.mem_of_getElem? (i := 235) rfl)
theorem ct_237 : (Jvm.Cond.laysFinal "LostSheets$Office" "LostSheets$Office" "numbers" "[I") ∈ lw_tbl := tl_1 _ (List.mem_of_getElem? (i := 237) rfl)
theorem ct_239 : (Jvm.Cond.lays "LostSheets$Office" "LostSheets$Office" "size" "I") ∈ lw_tbl := tl_1 _ (List.mem_of_getElem? (i := 239) rfl)
theorem ct_222 : (Jvm.Cond.instantiable "LostSheets$Office" (4 : Nat)) ∈ lw_tbl := tl_1 _ (List.mem_of_getElem? (i := 222) rfl)
theorem ct_155 : (Jvm.Cond.laysFinal "LostSheets$Rows" "LostSheets$Rows" "most" "I") ∈ lw_tbl := tl_1 _ (List.mem_of_getElem? (i := 155) rfl)
theorem ct_157 : (Jvm.Cond.laysFinal "LostSheets$Rows" "LostSheets$Rows" "first" "[I") ∈ lw_tbl := tl_1 _ (List.mem_of_getElem? (i := 157) rfl)
theorem ct_159 : (Jvm.Cond.laysFinal "LostSheets$Rows" "LostSheets$Rows" "second" "[I") ∈ lw_tbl := tl_1 _ (List.mem_of_getElem? (i := 159) rfl)
theorem ct_161 : (Jvm.Cond.laysFinal "LostSheets$Rows" "LostSheets$Rows" "third" "[I") ∈ lw_tbl := tl_1 _ (List.mem_of_getElem? (i := 161) rfl)
theorem ct_163 : (Jvm.Cond.lays "LostSheets$Rows" "LostSheets$Rows" "size" "I") ∈ lw_tbl := tl_1 _ (List.mem_of_getElem? (i := 163) rfl)
theorem ct_134 : (Jvm.Cond.instantiable "LostSheets$Rows" (5 : Nat)) ∈ lw_tbl := tl_1 _ (List.mem_of_getElem? (i := 134) rfl)
theorem ct_253 : (Jvm.Cond.lays "LostSheets$Tape" "LostSheets$Tape" "sort" "I") ∈ lw_tbl := tl_2 _ (List.mem_of_getElem? (i := 13) rfl)
theorem ct_255 : (Jvm.Cond.lays "LostSheets$Tape" "LostSheets$Tape" "length" "I") ∈ lw_tbl := tl_2 _ (List.mem_of_getElem? (i := 15) rfl)
theorem ct_257 : (Jvm.Cond.laysFinal "LostSheets$Tape" "LostSheets$Tape" "items" "[J") ∈ lw_tbl := tl_2 _ (List.mem_of_getElem? (i := 17) rfl)
theorem ct_242 : (Jvm.Cond.instantiable "LostSheets$Tape" (3 : Nat)) ∈ lw_tbl := tl_2 _ (List.mem_of_getElem? (i := 2) rfl)
theorem ct_191 : (Jvm.Cond.laysFinal "LostSheets$Text" "LostSheets$Text" "signs" "[B") ∈ lw_tbl := tl_1 _ (List.mem_of_getElem? (i := 191) rfl)
theorem ct_193 : (Jvm.Cond.lays "LostSheets$Text" "LostSheets$Text" "size" "I") ∈ lw_tbl := tl_1 _ (List.mem_of_getElem? (i := 193) rfl)
theorem ct_195 : (Jvm.Cond.lays "LostSheets$Text" "LostSheets$Text" "place" "I") ∈ lw_tbl := tl_1 _ (List.mem_of_getElem? (i := 195) rfl)
theorem ct_197 : (Jvm.Cond.lays "LostSheets$Text" "LostSheets$Text" "number" "I") ∈ lw_tbl := tl_1 _ (List.mem_of_getElem? (i := 197) rfl)
theorem ct_199 : (Jvm.Cond.lays "LostSheets$Text" "LostSheets$Text" "into" "LLostSheets$Office;") ∈ lw_tbl := tl_1 _ (List.mem_of_getElem? (i := 199) rfl)
theorem ct_180 : (Jvm.Cond.instantiable "LostSheets$Text" (5 : Nat)) ∈ lw_tbl := tl_1 _ (List.mem_of_getElem? (i := 180) rfl)
theorem ct_215 : (Jvm.Cond.laysFinal "LostSheets$Trace" "LostSheets$Trace" "kept" "[I") ∈ lw_tbl := tl_1 _ (List.mem_of_getElem? (i := 215) rfl)
theorem ct_217 : (Jvm.Cond.lays "LostSheets$Trace" "LostSheets$Trace" "ran" "I") ∈ lw_tbl := tl_1 _ (List.mem_of_getElem? (i := 217) rfl)
theorem ct_206 : (Jvm.Cond.instantiable "LostSheets$Trace" (2 : Nat)) ∈ lw_tbl := tl_1 _ (List.mem_of_getElem? (i := 206) rfl)
theorem ct_272 : (Jvm.Cond.laysFinal "LostSheets" "LostSheets" "now" "LLostSheets$Land;") ∈ lw_tbl := tl_2 _ (List.mem_of_getElem? (i := 32) rfl)
theorem ct_274 : (Jvm.Cond.laysFinal "LostSheets" "LostSheets" "imageLand" "LLostSheets$Land;") ∈ lw_tbl := tl_2 _ (List.mem_of_getElem? (i := 34) rfl)
theorem ct_276 : (Jvm.Cond.laysFinal "LostSheets" "LostSheets" "trial" "LLostSheets$Land;") ∈ lw_tbl := tl_2 _ (List.mem_of_getElem? (i := 36) rfl)
theorem ct_278 : (Jvm.Cond.laysFinal "LostSheets" "LostSheets" "byHand" "LLostSheets$ByHand;") ∈ lw_tbl := tl_2 _ (List.mem_of_getElem? (i := 38) rfl)
theorem ct_280 : (Jvm.Cond.laysFinal "LostSheets" "LostSheets" "imageByHand" "LLostSheets$ByHand;") ∈ lw_tbl := tl_2 _ (List.mem_of_getElem? (i := 40) rfl)
theorem ct_282 : (Jvm.Cond.lays "LostSheets" "LostSheets" "imageTaken" "Z") ∈ lw_tbl := tl_2 _ (List.mem_of_getElem? (i := 42) rfl)
theorem ct_284 : (Jvm.Cond.laysFinal "LostSheets" "LostSheets" "text" "LLostSheets$Text;") ∈ lw_tbl := tl_2 _ (List.mem_of_getElem? (i := 44) rfl)
theorem ct_286 : (Jvm.Cond.laysFinal "LostSheets" "LostSheets" "offices" "[LLostSheets$Office;") ∈ lw_tbl := tl_2 _ (List.mem_of_getElem? (i := 46) rfl)
theorem ct_288 : (Jvm.Cond.lays "LostSheets" "LostSheets" "officeCount" "I") ∈ lw_tbl := tl_2 _ (List.mem_of_getElem? (i := 48) rfl)
theorem ct_290 : (Jvm.Cond.laysFinal "LostSheets" "LostSheets" "bodies" "LLostSheets$Trace;") ∈ lw_tbl := tl_2 _ (List.mem_of_getElem? (i := 50) rfl)
theorem ct_292 : (Jvm.Cond.laysFinal "LostSheets" "LostSheets" "tapes" "[LLostSheets$Tape;") ∈ lw_tbl := tl_2 _ (List.mem_of_getElem? (i := 52) rfl)
theorem ct_20 : (Jvm.Cond.instantiable "LostSheets" (11 : Nat)) ∈ lw_tbl := tl_1 _ (List.mem_of_getElem? (i := 20) rfl)
theorem ct_900 : (Jvm.Cond.lays "LostSheetsModel" "LostSheetsModel" "drawers" "I") ∈ lw_tbl := tl_4 _ (List.mem_of_getElem? (i := 180) rfl)
theorem ct_902 : (Jvm.Cond.laysFinal "LostSheetsModel" "LostSheetsModel" "kind" "[I") ∈ lw_tbl := tl_4 _ (List.mem_of_getElem? (i := 182) rfl)
theorem ct_904 : (Jvm.Cond.laysFinal "LostSheetsModel" "LostSheetsModel" "v" "[I") ∈ lw_tbl := tl_4 _ (List.mem_of_getElem? (i := 184) rfl)
theorem ct_906 : (Jvm.Cond.laysFinal "LostSheetsModel" "LostSheetsModel" "cell" "[I") ∈ lw_tbl := tl_4 _ (List.mem_of_getElem? (i := 186) rfl)
theorem ct_908 : (Jvm.Cond.laysFinal "LostSheetsModel" "LostSheetsModel" "sheeted" "[I") ∈ lw_tbl := tl_4 _ (List.mem_of_getElem? (i := 188) rfl)
theorem ct_910 : (Jvm.Cond.laysFinal "LostSheetsModel" "LostSheetsModel" "done" "[I") ∈ lw_tbl := tl_4 _ (List.mem_of_getElem? (i := 190) rfl)
theorem ct_912 : (Jvm.Cond.laysFinal "LostSheetsModel" "LostSheetsModel" "drew" "[I") ∈ lw_tbl := tl_4 _ (List.mem_of_getElem? (i := 192) rfl)
theorem ct_914 : (Jvm.Cond.laysFinal "LostSheetsModel" "LostSheetsModel" "sheets" "[I") ∈ lw_tbl := tl_4 _ (List.mem_of_getElem? (i := 194) rfl)
theorem ct_916 : (Jvm.Cond.laysFinal "LostSheetsModel" "LostSheetsModel" "rows" "[I") ∈ lw_tbl := tl_4 _ (List.mem_of_getElem? (i := 196) rfl)
theorem ct_918 : (Jvm.Cond.laysFinal "LostSheetsModel" "LostSheetsModel" "marks" "[I") ∈ lw_tbl := tl_4 _ (List.mem_of_getElem? (i := 198) rfl)
theorem ct_920 : (Jvm.Cond.lays "LostSheetsModel" "LostSheetsModel" "drawn" "I") ∈ lw_tbl := tl_4 _ (List.mem_of_getElem? (i := 200) rfl)
theorem ct_922 : (Jvm.Cond.lays "LostSheetsModel" "LostSheetsModel" "hour" "I") ∈ lw_tbl := tl_4 _ (List.mem_of_getElem? (i := 202) rfl)
theorem ct_924 : (Jvm.Cond.lays "LostSheetsModel" "LostSheetsModel" "texted" "I") ∈ lw_tbl := tl_4 _ (List.mem_of_getElem? (i := 204) rfl)
theorem ct_926 : (Jvm.Cond.laysFinal "LostSheetsModel" "LostSheetsModel" "text" "[I") ∈ lw_tbl := tl_4 _ (List.mem_of_getElem? (i := 206) rfl)
theorem ct_928 : (Jvm.Cond.lays "LostSheetsModel" "LostSheetsModel" "at" "I") ∈ lw_tbl := tl_4 _ (List.mem_of_getElem? (i := 208) rfl)
theorem ct_930 : (Jvm.Cond.lays "LostSheetsModel" "LostSheetsModel" "value" "I") ∈ lw_tbl := tl_4 _ (List.mem_of_getElem? (i := 210) rfl)
theorem ct_932 : (Jvm.Cond.lays "LostSheetsModel" "LostSheetsModel" "digits" "I") ∈ lw_tbl := tl_4 _ (List.mem_of_getElem? (i := 212) rfl)
theorem ct_934 : (Jvm.Cond.lays "LostSheetsModel" "LostSheetsModel" "open" "I") ∈ lw_tbl := tl_4 _ (List.mem_of_getElem? (i := 214) rfl)
theorem ct_936 : (Jvm.Cond.lays "LostSheetsModel" "LostSheetsModel" "offices" "I") ∈ lw_tbl := tl_4 _ (List.mem_of_getElem? (i := 216) rfl)
theorem ct_938 : (Jvm.Cond.lays "LostSheetsModel" "LostSheetsModel" "holds" "I") ∈ lw_tbl := tl_4 _ (List.mem_of_getElem? (i := 218) rfl)
theorem ct_940 : (Jvm.Cond.laysFinal "LostSheetsModel" "LostSheetsModel" "clauses" "[I") ∈ lw_tbl := tl_4 _ (List.mem_of_getElem? (i := 220) rfl)
theorem ct_942 : (Jvm.Cond.laysFinal "LostSheetsModel" "LostSheetsModel" "word" "[I") ∈ lw_tbl := tl_4 _ (List.mem_of_getElem? (i := 222) rfl)
theorem ct_944 : (Jvm.Cond.laysFinal "LostSheetsModel" "LostSheetsModel" "number" "[I") ∈ lw_tbl := tl_4 _ (List.mem_of_getElem? (i := 224) rfl)
theorem ct_946 : (Jvm.Cond.laysFinal "LostSheetsModel" "LostSheetsModel" "begins" "[I") ∈ lw_tbl := tl_4 _ (List.mem_of_getElem? (i := 226) rfl)
theorem ct_948 : (Jvm.Cond.laysFinal "LostSheetsModel" "LostSheetsModel" "length" "[I") ∈ lw_tbl := tl_4 _ (List.mem_of_getElem? (i := 228) rfl)
theorem ct_950 : (Jvm.Cond.laysFinal "LostSheetsModel" "LostSheetsModel" "code" "[I") ∈ lw_tbl := tl_4 _ (List.mem_of_getElem? (i := 230) rfl)
theorem ct_952 : (Jvm.Cond.lays "LostSheetsModel" "LostSheetsModel" "coded" "I") ∈ lw_tbl := tl_4 _ (List.mem_of_getElem? (i := 232) rfl)
theorem ct_954 : (Jvm.Cond.laysFinal "LostSheetsModel" "LostSheetsModel" "stack" "[Z") ∈ lw_tbl := tl_4 _ (List.mem_of_getElem? (i := 234) rfl)
theorem ct_956 : (Jvm.Cond.lays "LostSheetsModel" "LostSheetsModel" "seen" "I") ∈ lw_tbl := tl_4 _ (List.mem_of_getElem? (i := 236) rfl)
theorem ct_958 : (Jvm.Cond.laysFinal "LostSheetsModel" "LostSheetsModel" "seenOf" "[I") ∈ lw_tbl := tl_4 _ (List.mem_of_getElem? (i := 238) rfl)
theorem ct_960 : (Jvm.Cond.laysFinal "LostSheetsModel" "LostSheetsModel" "seenIn" "[I") ∈ lw_tbl := tl_5 _ (List.mem_of_getElem? (i := 0) rfl)
theorem ct_962 : (Jvm.Cond.laysFinal "LostSheetsModel" "LostSheetsModel" "seenMark" "[I") ∈ lw_tbl := tl_5 _ (List.mem_of_getElem? (i := 2) rfl)
theorem ct_964 : (Jvm.Cond.lays "LostSheetsModel" "LostSheetsModel" "inPlan" "I") ∈ lw_tbl := tl_5 _ (List.mem_of_getElem? (i := 4) rfl)
theorem ct_966 : (Jvm.Cond.laysFinal "LostSheetsModel" "LostSheetsModel" "goes" "[I") ∈ lw_tbl := tl_5 _ (List.mem_of_getElem? (i := 6) rfl)
theorem ct_968 : (Jvm.Cond.laysFinal "LostSheetsModel" "LostSheetsModel" "whose" "[I") ∈ lw_tbl := tl_5 _ (List.mem_of_getElem? (i := 8) rfl)
theorem ct_970 : (Jvm.Cond.lays "LostSheetsModel" "LostSheetsModel" "inBook" "I") ∈ lw_tbl := tl_5 _ (List.mem_of_getElem? (i := 10) rfl)
theorem ct_972 : (Jvm.Cond.laysFinal "LostSheetsModel" "LostSheetsModel" "booked" "[I") ∈ lw_tbl := tl_5 _ (List.mem_of_getElem? (i := 12) rfl)
theorem ct_974 : (Jvm.Cond.laysFinal "LostSheetsModel" "LostSheetsModel" "bookMark" "[I") ∈ lw_tbl := tl_5 _ (List.mem_of_getElem? (i := 14) rfl)
theorem ct_976 : (Jvm.Cond.lays "LostSheetsModel" "LostSheetsModel" "traced" "I") ∈ lw_tbl := tl_5 _ (List.mem_of_getElem? (i := 16) rfl)
theorem ct_978 : (Jvm.Cond.laysFinal "LostSheetsModel" "LostSheetsModel" "traces" "[I") ∈ lw_tbl := tl_5 _ (List.mem_of_getElem? (i := 18) rfl)
theorem ct_980 : (Jvm.Cond.lays "LostSheetsModel" "LostSheetsModel" "imaged" "Z") ∈ lw_tbl := tl_5 _ (List.mem_of_getElem? (i := 20) rfl)
theorem ct_982 : (Jvm.Cond.laysFinal "LostSheetsModel" "LostSheetsModel" "image" "[I") ∈ lw_tbl := tl_5 _ (List.mem_of_getElem? (i := 22) rfl)
theorem ct_984 : (Jvm.Cond.laysFinal "LostSheetsModel" "LostSheetsModel" "ahead" "[I") ∈ lw_tbl := tl_5 _ (List.mem_of_getElem? (i := 24) rfl)
theorem ct_986 : (Jvm.Cond.laysFinal "LostSheetsModel" "LostSheetsModel" "ways" "[I") ∈ lw_tbl := tl_5 _ (List.mem_of_getElem? (i := 26) rfl)
theorem ct_988 : (Jvm.Cond.laysFinal "LostSheetsModel" "LostSheetsModel" "tapeSort" "[I") ∈ lw_tbl := tl_5 _ (List.mem_of_getElem? (i := 28) rfl)
theorem ct_990 : (Jvm.Cond.laysFinal "LostSheetsModel" "LostSheetsModel" "tapeSize" "[I") ∈ lw_tbl := tl_5 _ (List.mem_of_getElem? (i := 30) rfl)
theorem ct_992 : (Jvm.Cond.laysFinal "LostSheetsModel" "LostSheetsModel" "items" "[J") ∈ lw_tbl := tl_5 _ (List.mem_of_getElem? (i := 32) rfl)
theorem ct_848 : (Jvm.Cond.instantiable "LostSheetsModel" (47 : Nat)) ∈ lw_tbl := tl_4 _ (List.mem_of_getElem? (i := 128) rfl)
theorem ct_19 : (Jvm.Cond.classLink "LostSheetsLaw" (7 : Nat) "LostSheets") ∈ lw_tbl := tl_1 _ (List.mem_of_getElem? (i := 19) rfl)
theorem ct_847 : (Jvm.Cond.classLink "LostSheetsLaw" (10 : Nat) "LostSheetsModel") ∈ lw_tbl := tl_4 _ (List.mem_of_getElem? (i := 127) rfl)
theorem ct_27 : (Jvm.Cond.classLink "LostSheets" (9 : Nat) "LostSheets$Land") ∈ lw_tbl := tl_1 _ (List.mem_of_getElem? (i := 27) rfl)
theorem ct_127 : (Jvm.Cond.classLink "LostSheets" (24 : Nat) "LostSheets$ByHand") ∈ lw_tbl := tl_1 _ (List.mem_of_getElem? (i := 127) rfl)
theorem ct_179 : (Jvm.Cond.classLink "LostSheets" (38 : Nat) "LostSheets$Text") ∈ lw_tbl := tl_1 _ (List.mem_of_getElem? (i := 179) rfl)
theorem ct_203 : (Jvm.Cond.classLink "LostSheets" (45 : Nat) "LostSheets$Office") ∈ lw_tbl := tl_1 _ (List.mem_of_getElem? (i := 203) rfl)
theorem ct_205 : (Jvm.Cond.classLink "LostSheets" (55 : Nat) "LostSheets$Trace") ∈ lw_tbl := tl_1 _ (List.mem_of_getElem? (i := 205) rfl)
theorem ct_220 : (Jvm.Cond.classLink "LostSheets" (62 : Nat) "LostSheets$Tape") ∈ lw_tbl := tl_1 _ (List.mem_of_getElem? (i := 220) rfl)
theorem ct_33 : (Jvm.Cond.classLink "LostSheets$Land" (26 : Nat) "LostSheets$Drawer") ∈ lw_tbl := tl_1 _ (List.mem_of_getElem? (i := 33) rfl)
theorem ct_133 : (Jvm.Cond.classLink "LostSheets$ByHand" (9 : Nat) "LostSheets$Rows") ∈ lw_tbl := tl_1 _ (List.mem_of_getElem? (i := 133) rfl)
theorem ct_1373 : (Jvm.Cond.fieldLink "java/lang/String" (9 : Nat) "java/lang/String" "value" "[B") ∈ lw_tbl := tl_6 _ (List.mem_of_getElem? (i := 173) rfl)
theorem ct_1374 : (Jvm.Cond.fieldLink "java/lang/String" (15 : Nat) "java/lang/String" "coder" "B") ∈ lw_tbl := tl_6 _ (List.mem_of_getElem? (i := 174) rfl)
theorem ct_524 : (Jvm.Cond.fieldLink "java/lang/String" (38 : Nat) "java/lang/String" "COMPACT_STRINGS" "Z") ∈ lw_tbl := tl_3 _ (List.mem_of_getElem? (i := 44) rfl)
theorem ct_540 : (Jvm.Cond.fieldLink "java/lang/String" (1053 : Nat) "jdk/internal/util/Preconditions" "SIOOBE_FORMATTER" "Ljava/util/function/BiFunction;") ∈ lw_tbl := tl_3 _ (List.mem_of_getElem? (i := 60) rfl)
theorem ct_787 : (Jvm.Cond.fieldLink "LostSheets$Trace" (19 : Nat) "LostSheets$Trace" "BODIES" "[I") ∈ lw_tbl := tl_4 _ (List.mem_of_getElem? (i := 67) rfl)
theorem ct_792 : (Jvm.Cond.fieldLink "LostSheets" (313 : Nat) "LostSheets" "ABOVE" "[I") ∈ lw_tbl := tl_4 _ (List.mem_of_getElem? (i := 72) rfl)
theorem ct_509 : (Jvm.Cond.stringRef "LostSheets$Text" (55 : Nat) "turn ") ∈ lw_tbl := tl_3 _ (List.mem_of_getElem? (i := 29) rfl)
theorem ct_510 : (Jvm.Cond.stringRef "LostSheets$Text" (57 : Nat) "back ") ∈ lw_tbl := tl_3 _ (List.mem_of_getElem? (i := 30) rfl)
theorem ct_511 : (Jvm.Cond.stringRef "LostSheets$Text" (59 : Nat) "know ") ∈ lw_tbl := tl_3 _ (List.mem_of_getElem? (i := 31) rfl)
theorem ct_588 : (Jvm.Cond.stringRef "LostSheets$Text" (93 : Nat) "pkvmsh") ∈ lw_tbl := tl_3 _ (List.mem_of_getElem? (i := 108) rfl)
theorem ct_592 : (Jvm.Cond.stringRef "LostSheets$Text" (99 : Nat) "<=>") ∈ lw_tbl := tl_3 _ (List.mem_of_getElem? (i := 112) rfl)
theorem ct_622 : (Jvm.Cond.constant "LostSheets" (322 : Nat) (65535 : Int32)) ∈ lw_tbl := tl_3 _ (List.mem_of_getElem? (i := 142) rfl)
theorem ct_695 : (Jvm.Cond.constantLong "LostSheets" (228 : Nat) (-9223372036854775808 : Int64)) ∈ lw_tbl := tl_3 _ (List.mem_of_getElem? (i := 215) rfl)
theorem ct_696 : (Jvm.Cond.constantLong "LostSheets" (233 : Nat) (16 : Int64)) ∈ lw_tbl := tl_3 _ (List.mem_of_getElem? (i := 216) rfl)
theorem ct_653 : (Jvm.Cond.constant "java/lang/Integer" (265 : Nat) (1431655765 : Int32)) ∈ lw_tbl := tl_3 _ (List.mem_of_getElem? (i := 173) rfl)
theorem ct_654 : (Jvm.Cond.constant "java/lang/Integer" (266 : Nat) (858993459 : Int32)) ∈ lw_tbl := tl_3 _ (List.mem_of_getElem? (i := 174) rfl)
theorem ct_655 : (Jvm.Cond.constant "java/lang/Integer" (267 : Nat) (252645135 : Int32)) ∈ lw_tbl := tl_3 _ (List.mem_of_getElem? (i := 175) rfl)
theorem ct_1110 : (Jvm.Cond.stringRef "LostSheetsModel" (204 : Nat) "turn ") ∈ lw_tbl := tl_5 _ (List.mem_of_getElem? (i := 150) rfl)
theorem ct_1121 : (Jvm.Cond.stringRef "LostSheetsModel" (210 : Nat) "back ") ∈ lw_tbl := tl_5 _ (List.mem_of_getElem? (i := 161) rfl)
theorem ct_1122 : (Jvm.Cond.stringRef "LostSheetsModel" (212 : Nat) "know ") ∈ lw_tbl := tl_5 _ (List.mem_of_getElem? (i := 162) rfl)
theorem ct_1155 : (Jvm.Cond.stringRef "LostSheetsModel" (173 : Nat) "pkvmsh") ∈ lw_tbl := tl_5 _ (List.mem_of_getElem? (i := 195) rfl)
theorem ct_1211 : (Jvm.Cond.stringRef "LostSheetsModel" (178 : Nat) "<=>") ∈ lw_tbl := tl_6 _ (List.mem_of_getElem? (i := 11) rfl)
theorem ct_1228 : (Jvm.Cond.constant "LostSheetsModel" (257 : Nat) (65535 : Int32)) ∈ lw_tbl := tl_6 _ (List.mem_of_getElem? (i := 28) rfl)
theorem ct_1271 : (Jvm.Cond.constantLong "LostSheetsModel" (306 : Nat) (-9223372036854775808 : Int64)) ∈ lw_tbl := tl_6 _ (List.mem_of_getElem? (i := 71) rfl)
theorem ct_1272 : (Jvm.Cond.constantLong "LostSheetsModel" (308 : Nat) (16 : Int64)) ∈ lw_tbl := tl_6 _ (List.mem_of_getElem? (i := 72) rfl)
theorem ct_1372 : (Jvm.Cond.constantLong "LostSheetsLaw" (135 : Nat) (4294967295 : Int64)) ∈ lw_tbl := tl_6 _ (List.mem_of_getElem? (i := 172) rfl)
theorem ct_394 : (Jvm.Cond.native ({ cls := "java/lang/System", name := "arraycopy", desc := "(Ljava/lang/Object;ILjava/lang/Object;II)V" } : Jvm.MethodName)) ∈ lw_tbl := tl_2 _ (List.mem_of_getElem? (i := 154) rfl)
theorem ct_393 : (Jvm.Cond.static ({ cls := "java/lang/System", name := "arraycopy", desc := "(Ljava/lang/Object;ILjava/lang/Object;II)V" } : Jvm.MethodName)) ∈ lw_tbl := tl_2 _ (List.mem_of_getElem? (i := 153) rfl)
theorem ct_12 : (Jvm.Cond.initialized "java/lang/System") ∈ lw_tbl := tl_1 _ (List.mem_of_getElem? (i := 12) rfl)
theorem ct_25 : (Jvm.Cond.instanceMethod ({ cls := "java/lang/Object", name := "<init>", desc := "()V" } : Jvm.MethodName)) ∈ lw_tbl := tl_1 _ (List.mem_of_getElem? (i := 25) rfl)
theorem ct_26 : (Jvm.Cond.code ({ cls := "java/lang/Object", name := "<init>", desc := "()V" } : Jvm.MethodName) object_method_1_code (1 : Nat) (Option.none : Option FieldType)) ∈ lw_tbl := tl_1 _ (List.mem_of_getElem? (i := 26) rfl)
theorem ct_34 : (Jvm.Cond.arrayOver (FieldType.object "LostSheets$Drawer")) ∈ lw_tbl := tl_1 _ (List.mem_of_getElem? (i := 34) rfl)
theorem ct_94 : (Jvm.Cond.arrayClass FieldType.int) ∈ lw_tbl := tl_1 _ (List.mem_of_getElem? (i := 94) rfl)
theorem ct_202 : (Jvm.Cond.arrayClass FieldType.byte) ∈ lw_tbl := tl_1 _ (List.mem_of_getElem? (i := 202) rfl)
theorem ct_204 : (Jvm.Cond.arrayOver (FieldType.object "LostSheets$Office")) ∈ lw_tbl := tl_1 _ (List.mem_of_getElem? (i := 204) rfl)
theorem ct_221 : (Jvm.Cond.arrayOver (FieldType.object "LostSheets$Tape")) ∈ lw_tbl := tl_1 _ (List.mem_of_getElem? (i := 221) rfl)
theorem ct_260 : (Jvm.Cond.arrayClass FieldType.long) ∈ lw_tbl := tl_2 _ (List.mem_of_getElem? (i := 20) rfl)
theorem ct_525 : (Jvm.Cond.laysStatic "java/lang/String" "COMPACT_STRINGS" "Z") ∈ lw_tbl := tl_3 _ (List.mem_of_getElem? (i := 45) rfl)
theorem ct_541 : (Jvm.Cond.laysStatic "jdk/internal/util/Preconditions" "SIOOBE_FORMATTER" "Ljava/util/function/BiFunction;") ∈ lw_tbl := tl_3 _ (List.mem_of_getElem? (i := 61) rfl)
theorem ct_788 : (Jvm.Cond.laysStatic "LostSheets$Trace" "BODIES" "[I") ∈ lw_tbl := tl_4 _ (List.mem_of_getElem? (i := 68) rfl)
theorem ct_793 : (Jvm.Cond.laysStatic "LostSheets" "ABOVE" "[I") ∈ lw_tbl := tl_4 _ (List.mem_of_getElem? (i := 73) rfl)
theorem ct_995 : (Jvm.Cond.arrayClass FieldType.boolean) ∈ lw_tbl := tl_5 _ (List.mem_of_getElem? (i := 35) rfl)
def am_tok (t : MethodName × (ByteArray × am_M)) : Prop := (∀ q ∈ t.2.2.2.2.2.2, decode t.2.1 q.1 = .ok q.2 ∧ am_il q.2.1 q.2.2 = true) ∧ Cond.code t.1 t.2.1 t.2.2.2.2.1 t.2.2.2.1 ∈ lw_tbl ∧ t.1.cls = am_cn t.2.2.1 ∧ plainFor t.1 = true ∧ Cond.initialized t.1.cls ∈ lw_tbl ∧ (t.2.2.2.2.2.1 = true → t.1.name = "<init>") ∧ t.2.2.2.2.1 ≤ 12 ∧ t.2.2.1 < 16
theorem tk_k_init : am_tok (⟨"LostSheets", "<init>", "()V"⟩, prog_1_method_1_code, k_init) := ⟨List.forall_mem_append.mpr ⟨am_dk dk_k_init_0, am_dk dk_k_init_1⟩, ct_23, rfl, by decide +kernel, ct_1, fun _ => rfl, by decide +kernel, by decide +kernel⟩
theorem tk_la_init : am_tok (⟨"LostSheets$Land", "<init>", "()V"⟩, prog_4_method_1_code, la_init) := ⟨List.forall_mem_append.mpr ⟨am_dk dk_la_init_0, am_dk dk_la_init_1⟩, ct_31, rfl, by decide +kernel, ct_2, fun _ => rfl, by decide +kernel, by decide +kernel⟩
theorem tk_dr_init : am_tok (⟨"LostSheets$Drawer", "<init>", "(I)V"⟩, prog_3_method_1_code, dr_init) := ⟨am_dk dk_dr_init_0, ct_38, rfl, by decide +kernel, ct_3, fun _ => rfl, by decide +kernel, by decide +kernel⟩
theorem tk_bh_init : am_tok (⟨"LostSheets$ByHand", "<init>", "()V"⟩, prog_2_method_1_code, bh_init) := ⟨am_dk dk_bh_init_0, ct_131, rfl, by decide +kernel, ct_4, fun _ => rfl, by decide +kernel, by decide +kernel⟩
theorem tk_ro_init : am_tok (⟨"LostSheets$Rows", "<init>", "(I)V"⟩, prog_6_method_1_code, ro_init) := ⟨am_dk dk_ro_init_0, ct_137, rfl, by decide +kernel, ct_5, fun _ => rfl, by decide +kernel, by decide +kernel⟩
theorem tk_jm_max : am_tok (⟨"java/lang/Math", "max", "(II)I"⟩, prog_14_method_65_code, jm_max) := ⟨am_dk dk_jm_max_0, ct_141, rfl, by decide +kernel, ct_6, fun h => absurd h (by decide +kernel), by decide +kernel, by decide +kernel⟩
theorem tk_tx_init : am_tok (⟨"LostSheets$Text", "<init>", "()V"⟩, prog_8_method_1_code, tx_init) := ⟨am_dk dk_tx_init_0, ct_183, rfl, by decide +kernel, ct_7, fun _ => rfl, by decide +kernel, by decide +kernel⟩
theorem tk_tr_init : am_tok (⟨"LostSheets$Trace", "<init>", "()V"⟩, prog_9_method_1_code, tr_init) := ⟨am_dk dk_tr_init_0, ct_209, rfl, by decide +kernel, ct_8, fun _ => rfl, by decide +kernel, by decide +kernel⟩
theorem tk_of_init : am_tok (⟨"LostSheets$Office", "<init>", "()V"⟩, prog_5_method_1_code, of_init) := ⟨am_dk dk_of_init_0, ct_225, rfl, by decide +kernel, ct_9, fun _ => rfl, by decide +kernel, by decide +kernel⟩
theorem tk_tp_init : am_tok (⟨"LostSheets$Tape", "<init>", "()V"⟩, prog_7_method_1_code, tp_init) := ⟨am_dk dk_tp_init_0, ct_245, rfl, by decide +kernel, ct_10, fun _ => rfl, by decide +kernel, by decide +kernel⟩
theorem tk_k_drawer : am_tok (⟨"LostSheets", "drawer", "(III)I"⟩, prog_1_method_2_code, k_drawer) := ⟨am_dk dk_k_drawer_0, ct_298, rfl, by decide +kernel, ct_1, fun h => absurd h (by decide +kernel), by decide +kernel, by decide +kernel⟩
theorem tk_k_isCell : am_tok (⟨"LostSheets", "isCell", "(I)Z"⟩, prog_1_method_34_code, k_isCell) := ⟨am_dk dk_k_isCell_0, ct_301, rfl, by decide +kernel, ct_1, fun h => absurd h (by decide +kernel), by decide +kernel, by decide +kernel⟩
theorem tk_k_isDigit : am_tok (⟨"LostSheets", "isDigit", "(I)Z"⟩, prog_1_method_36_code, k_isDigit) := ⟨am_dk dk_k_isDigit_0, ct_304, rfl, by decide +kernel, ct_1, fun h => absurd h (by decide +kernel), by decide +kernel, by decide +kernel⟩
theorem tk_la_addDrawer : am_tok (⟨"LostSheets$Land", "addDrawer", "(III)Z"⟩, prog_4_method_4_code, la_addDrawer) := ⟨am_dk dk_la_addDrawer_0, ct_308, rfl, by decide +kernel, ct_2, fun h => absurd h (by decide +kernel), by decide +kernel, by decide +kernel⟩
theorem tk_dr_begins : am_tok (⟨"LostSheets$Drawer", "begins", "(III)V"⟩, prog_3_method_2_code, dr_begins) := ⟨am_dk dk_dr_begins_0, ct_312, rfl, by decide +kernel, ct_3, fun h => absurd h (by decide +kernel), by decide +kernel, by decide +kernel⟩
theorem tk_k_of : am_tok (⟨"LostSheets", "of", "(II)I"⟩, prog_1_method_3_code, k_of) := ⟨List.forall_mem_append.mpr ⟨am_dk dk_k_of_0, am_dk dk_k_of_1⟩, ct_316, rfl, by decide +kernel, ct_1, fun h => absurd h (by decide +kernel), by decide +kernel, by decide +kernel⟩
theorem tk_la_drawerAt : am_tok (⟨"LostSheets$Land", "drawerAt", "(I)LLostSheets$Drawer;"⟩, prog_4_method_3_code, la_drawerAt) := ⟨am_dk dk_la_drawerAt_0, ct_320, rfl, by decide +kernel, ct_2, fun h => absurd h (by decide +kernel), by decide +kernel, by decide +kernel⟩
theorem tk_la_feelOf : am_tok (⟨"LostSheets$Land", "feelOf", "(LLostSheets$Drawer;)I"⟩, prog_4_method_19_code, la_feelOf) := ⟨List.forall_mem_append.mpr ⟨am_dk dk_la_feelOf_0, am_dk dk_la_feelOf_1⟩, ct_324, rfl, by decide +kernel, ct_2, fun h => absurd h (by decide +kernel), by decide +kernel, by decide +kernel⟩
theorem tk_la_answersOf : am_tok (⟨"LostSheets$Land", "answersOf", "(LLostSheets$Drawer;)[I"⟩, prog_4_method_17_code, la_answersOf) := ⟨am_dk dk_la_answersOf_0, ct_328, rfl, by decide +kernel, ct_2, fun h => absurd h (by decide +kernel), by decide +kernel, by decide +kernel⟩
theorem tk_la_markAt : am_tok (⟨"LostSheets$Land", "markAt", "(I)I"⟩, prog_4_method_5_code, la_markAt) := ⟨am_dk dk_la_markAt_0, ct_332, rfl, by decide +kernel, ct_2, fun h => absurd h (by decide +kernel), by decide +kernel, by decide +kernel⟩
theorem tk_of_turnsBy : am_tok (⟨"LostSheets$Office", "turnsBy", "([I)I"⟩, prog_5_method_4_code, of_turnsBy) := ⟨List.forall_mem_append.mpr ⟨am_dk dk_of_turnsBy_0, am_dk dk_of_turnsBy_1⟩, ct_336, rfl, by decide +kernel, ct_9, fun h => absurd h (by decide +kernel), by decide +kernel, by decide +kernel⟩
theorem tk_of_holds : am_tok (⟨"LostSheets$Office", "holds", "([III)I"⟩, prog_5_method_5_code, of_holds) := ⟨am_dk dk_of_holds_0, ct_339, rfl, by decide +kernel, ct_9, fun h => absurd h (by decide +kernel), by decide +kernel, by decide +kernel⟩
theorem tk_la_othersWith : am_tok (⟨"LostSheets$Land", "othersWith", "(LLostSheets$Drawer;)I"⟩, prog_4_method_18_code, la_othersWith) := ⟨am_dk dk_la_othersWith_0, ct_343, rfl, by decide +kernel, ct_2, fun h => absurd h (by decide +kernel), by decide +kernel, by decide +kernel⟩
theorem tk_jm_floorMod : am_tok (⟨"java/lang/Math", "floorMod", "(II)I"⟩, prog_14_method_50_code, jm_floorMod) := ⟨am_dk dk_jm_floorMod_0, ct_346, rfl, by decide +kernel, ct_6, fun h => absurd h (by decide +kernel), by decide +kernel, by decide +kernel⟩
theorem tk_la_wayOf : am_tok (⟨"LostSheets$Land", "wayOf", "(LLostSheets$Drawer;)I"⟩, prog_4_method_20_code, la_wayOf) := ⟨am_dk dk_la_wayOf_0, ct_350, rfl, by decide +kernel, ct_2, fun h => absurd h (by decide +kernel), by decide +kernel, by decide +kernel⟩
theorem tk_la_cameOf : am_tok (⟨"LostSheets$Land", "cameOf", "(LLostSheets$Drawer;)I"⟩, prog_4_method_27_code, la_cameOf) := ⟨am_dk dk_la_cameOf_0, ct_355, rfl, by decide +kernel, ct_2, fun h => absurd h (by decide +kernel), by decide +kernel, by decide +kernel⟩
theorem tk_la_endBySheet : am_tok (⟨"LostSheets$Land", "endBySheet", "(LLostSheets$Drawer;I)I"⟩, prog_4_method_26_code, la_endBySheet) := ⟨am_dk dk_la_endBySheet_0, ct_359, rfl, by decide +kernel, ct_2, fun h => absurd h (by decide +kernel), by decide +kernel, by decide +kernel⟩
theorem tk_la_stepFrom : am_tok (⟨"LostSheets$Land", "stepFrom", "(II)I"⟩, prog_4_method_25_code, la_stepFrom) := ⟨am_dk dk_la_stepFrom_0, ct_362, rfl, by decide +kernel, ct_2, fun h => absurd h (by decide +kernel), by decide +kernel, by decide +kernel⟩
theorem tk_la_hereOf : am_tok (⟨"LostSheets$Land", "hereOf", "(LLostSheets$Drawer;)I"⟩, prog_4_method_28_code, la_hereOf) := ⟨am_dk dk_la_hereOf_0, ct_366, rfl, by decide +kernel, ct_2, fun h => absurd h (by decide +kernel), by decide +kernel, by decide +kernel⟩
theorem tk_la_lookOf : am_tok (⟨"LostSheets$Land", "lookOf", "(LLostSheets$Drawer;)I"⟩, prog_4_method_29_code, la_lookOf) := ⟨am_dk dk_la_lookOf_0, ct_370, rfl, by decide +kernel, ct_2, fun h => absurd h (by decide +kernel), by decide +kernel, by decide +kernel⟩
theorem tk_la_mostAtOneMark : am_tok (⟨"LostSheets$Land", "mostAtOneMark", "(II)I"⟩, prog_4_method_30_code, la_mostAtOneMark) := ⟨am_dk dk_la_mostAtOneMark_0, ct_375, rfl, by decide +kernel, ct_2, fun h => absurd h (by decide +kernel), by decide +kernel, by decide +kernel⟩
theorem tk_k_isMark : am_tok (⟨"LostSheets", "isMark", "(I)Z"⟩, prog_1_method_35_code, k_isMark) := ⟨am_dk dk_k_isMark_0, ct_378, rfl, by decide +kernel, ct_1, fun h => absurd h (by decide +kernel), by decide +kernel, by decide +kernel⟩
theorem tk_k_placesOf : am_tok (⟨"LostSheets", "placesOf", "(LLostSheets$Drawer;)I"⟩, prog_1_method_47_code, k_placesOf) := ⟨am_dk dk_k_placesOf_0, ct_383, rfl, by decide +kernel, ct_1, fun h => absurd h (by decide +kernel), by decide +kernel, by decide +kernel⟩
theorem tk_k_tryAt : am_tok (⟨"LostSheets", "tryAt", "(II)V"⟩, prog_1_method_42_code, k_tryAt) := ⟨am_dk dk_k_tryAt_0, ct_387, rfl, by decide +kernel, ct_1, fun h => absurd h (by decide +kernel), by decide +kernel, by decide +kernel⟩
theorem tk_la_copyFrom : am_tok (⟨"LostSheets$Land", "copyFrom", "(LLostSheets$Land;)V"⟩, prog_4_method_2_code, la_copyFrom) := ⟨am_dk dk_la_copyFrom_0, ct_391, rfl, by decide +kernel, ct_2, fun h => absurd h (by decide +kernel), by decide +kernel, by decide +kernel⟩
theorem tk_dr_copyFrom : am_tok (⟨"LostSheets$Drawer", "copyFrom", "(LLostSheets$Drawer;)V"⟩, prog_3_method_3_code, dr_copyFrom) := ⟨am_dk dk_dr_copyFrom_0, ct_398, rfl, by decide +kernel, ct_3, fun h => absurd h (by decide +kernel), by decide +kernel, by decide +kernel⟩
theorem tk_la_putAt : am_tok (⟨"LostSheets$Land", "putAt", "(II)V"⟩, prog_4_method_8_code, la_putAt) := ⟨am_dk dk_la_putAt_0, ct_403, rfl, by decide +kernel, ct_2, fun h => absurd h (by decide +kernel), by decide +kernel, by decide +kernel⟩
theorem tk_k_seenIsSo : am_tok (⟨"LostSheets", "seenIsSo", "()Z"⟩, prog_1_method_50_code, k_seenIsSo) := ⟨am_dk dk_k_seenIsSo_0, ct_409, rfl, by decide +kernel, ct_1, fun h => absurd h (by decide +kernel), by decide +kernel, by decide +kernel⟩
theorem tk_bh_lastHourSeen : am_tok (⟨"LostSheets$ByHand", "lastHourSeen", "()I"⟩, prog_2_method_3_code, bh_lastHourSeen) := ⟨am_dk dk_bh_lastHourSeen_0, ct_413, rfl, by decide +kernel, ct_4, fun h => absurd h (by decide +kernel), by decide +kernel, by decide +kernel⟩
theorem tk_k_seenIsSoIn : am_tok (⟨"LostSheets", "seenIsSoIn", "(I)Z"⟩, prog_1_method_51_code, k_seenIsSoIn) := ⟨am_dk dk_k_seenIsSoIn_0, ct_418, rfl, by decide +kernel, ct_1, fun h => absurd h (by decide +kernel), by decide +kernel, by decide +kernel⟩
theorem tk_la_whereIs : am_tok (⟨"LostSheets$Land", "whereIs", "(I)I"⟩, prog_4_method_7_code, la_whereIs) := ⟨am_dk dk_la_whereIs_0, ct_422, rfl, by decide +kernel, ct_2, fun h => absurd h (by decide +kernel), by decide +kernel, by decide +kernel⟩
theorem tk_la_hoursGo : am_tok (⟨"LostSheets$Land", "hoursGo", "(I)V"⟩, prog_4_method_23_code, la_hoursGo) := ⟨am_dk dk_la_hoursGo_0, ct_427, rfl, by decide +kernel, ct_2, fun h => absurd h (by decide +kernel), by decide +kernel, by decide +kernel⟩
theorem tk_la_anyGoes : am_tok (⟨"LostSheets$Land", "anyGoes", "()Z"⟩, prog_4_method_24_code, la_anyGoes) := ⟨am_dk dk_la_anyGoes_0, ct_431, rfl, by decide +kernel, ct_2, fun h => absurd h (by decide +kernel), by decide +kernel, by decide +kernel⟩
theorem tk_dr_goes : am_tok (⟨"LostSheets$Drawer", "goes", "()Z"⟩, prog_3_method_4_code, dr_goes) := ⟨am_dk dk_dr_goes_0, ct_435, rfl, by decide +kernel, ct_3, fun h => absurd h (by decide +kernel), by decide +kernel, by decide +kernel⟩
theorem tk_la_hourGoes : am_tok (⟨"LostSheets$Land", "hourGoes", "()V"⟩, prog_4_method_21_code, la_hourGoes) := ⟨List.forall_mem_append.mpr ⟨am_dk dk_la_hourGoes_0, am_dk dk_la_hourGoes_1⟩, ct_439, rfl, by decide +kernel, ct_2, fun h => absurd h (by decide +kernel), by decide +kernel, by decide +kernel⟩
theorem tk_la_know : am_tok (⟨"LostSheets$Land", "know", "()I"⟩, prog_4_method_16_code, la_know) := ⟨am_dk dk_la_know_0, ct_443, rfl, by decide +kernel, ct_2, fun h => absurd h (by decide +kernel), by decide +kernel, by decide +kernel⟩
theorem tk_la_stepsAndDraws : am_tok (⟨"LostSheets$Land", "stepsAndDraws", "(LLostSheets$Drawer;II)V"⟩, prog_4_method_22_code, la_stepsAndDraws) := ⟨am_dk dk_la_stepsAndDraws_0, ct_447, rfl, by decide +kernel, ct_2, fun h => absurd h (by decide +kernel), by decide +kernel, by decide +kernel⟩
theorem tk_dr_writes : am_tok (⟨"LostSheets$Drawer", "writes", "(II)V"⟩, prog_3_method_5_code, dr_writes) := ⟨am_dk dk_dr_writes_0, ct_451, rfl, by decide +kernel, ct_3, fun h => absurd h (by decide +kernel), by decide +kernel, by decide +kernel⟩
theorem tk_dr_rowsWith : am_tok (⟨"LostSheets$Drawer", "rowsWith", "(I)I"⟩, prog_3_method_6_code, dr_rowsWith) := ⟨am_dk dk_dr_rowsWith_0, ct_455, rfl, by decide +kernel, ct_3, fun h => absurd h (by decide +kernel), by decide +kernel, by decide +kernel⟩
theorem tk_k_sheet : am_tok (⟨"LostSheets", "sheet", "(II)I"⟩, prog_1_method_4_code, k_sheet) := ⟨am_dk dk_k_sheet_0, ct_459, rfl, by decide +kernel, ct_1, fun h => absurd h (by decide +kernel), by decide +kernel, by decide +kernel⟩
theorem tk_k_put : am_tok (⟨"LostSheets", "put", "(II)I"⟩, prog_1_method_5_code, k_put) := ⟨am_dk dk_k_put_0, ct_463, rfl, by decide +kernel, ct_1, fun h => absurd h (by decide +kernel), by decide +kernel, by decide +kernel⟩
theorem tk_k_anew : am_tok (⟨"LostSheets", "anew", "(I)I"⟩, prog_1_method_6_code, k_anew) := ⟨am_dk dk_k_anew_0, ct_467, rfl, by decide +kernel, ct_1, fun h => absurd h (by decide +kernel), by decide +kernel, by decide +kernel⟩
theorem tk_k_mark : am_tok (⟨"LostSheets", "mark", "(II)I"⟩, prog_1_method_7_code, k_mark) := ⟨am_dk dk_k_mark_0, ct_471, rfl, by decide +kernel, ct_1, fun h => absurd h (by decide +kernel), by decide +kernel, by decide +kernel⟩
theorem tk_la_setMark : am_tok (⟨"LostSheets$Land", "setMark", "(II)V"⟩, prog_4_method_6_code, la_setMark) := ⟨am_dk dk_la_setMark_0, ct_476, rfl, by decide +kernel, ct_2, fun h => absurd h (by decide +kernel), by decide +kernel, by decide +kernel⟩
theorem tk_k_row : am_tok (⟨"LostSheets", "row", "(III)I"⟩, prog_1_method_8_code, k_row) := ⟨am_dk dk_k_row_0, ct_480, rfl, by decide +kernel, ct_1, fun h => absurd h (by decide +kernel), by decide +kernel, by decide +kernel⟩
theorem tk_k_feed : am_tok (⟨"LostSheets", "feed", "(I)I"⟩, prog_1_method_9_code, k_feed) := ⟨am_dk dk_k_feed_0, ct_484, rfl, by decide +kernel, ct_1, fun h => absurd h (by decide +kernel), by decide +kernel, by decide +kernel⟩
theorem tk_tx_append : am_tok (⟨"LostSheets$Text", "append", "(I)Z"⟩, prog_8_method_2_code, tx_append) := ⟨am_dk dk_tx_append_0, ct_488, rfl, by decide +kernel, ct_7, fun h => absurd h (by decide +kernel), by decide +kernel, by decide +kernel⟩
theorem tk_k_office : am_tok (⟨"LostSheets", "office", "()I"⟩, prog_1_method_10_code, k_office) := ⟨am_dk dk_k_office_0, ct_492, rfl, by decide +kernel, ct_1, fun h => absurd h (by decide +kernel), by decide +kernel, by decide +kernel⟩
theorem tk_tx_readInto : am_tok (⟨"LostSheets$Text", "readInto", "(LLostSheets$Office;)I"⟩, prog_8_method_3_code, tx_readInto) := ⟨am_dk dk_tx_readInto_0, ct_496, rfl, by decide +kernel, ct_7, fun h => absurd h (by decide +kernel), by decide +kernel, by decide +kernel⟩
theorem tk_of_clear : am_tok (⟨"LostSheets$Office", "clear", "()V"⟩, prog_5_method_2_code, of_clear) := ⟨am_dk dk_of_clear_0, ct_500, rfl, by decide +kernel, ct_9, fun h => absurd h (by decide +kernel), by decide +kernel, by decide +kernel⟩
theorem tk_tx_clause : am_tok (⟨"LostSheets$Text", "clause", "()Z"⟩, prog_8_method_8_code, tx_clause) := ⟨am_dk dk_tx_clause_0, ct_504, rfl, by decide +kernel, ct_7, fun h => absurd h (by decide +kernel), by decide +kernel, by decide +kernel⟩
theorem tk_tx_ahead : am_tok (⟨"LostSheets$Text", "ahead", "()I"⟩, prog_8_method_4_code, tx_ahead) := ⟨am_dk dk_tx_ahead_0, ct_508, rfl, by decide +kernel, ct_7, fun h => absurd h (by decide +kernel), by decide +kernel, by decide +kernel⟩
theorem tk_tx_takesAll : am_tok (⟨"LostSheets$Text", "takesAll", "(Ljava/lang/String;)Z"⟩, prog_8_method_6_code, tx_takesAll) := ⟨am_dk dk_tx_takesAll_0, ct_515, rfl, by decide +kernel, ct_7, fun h => absurd h (by decide +kernel), by decide +kernel, by decide +kernel⟩
theorem tk_js_length : am_tok (⟨"java/lang/String", "length", "()I"⟩, prog_15_method_54_code, js_length) := ⟨am_dk dk_js_length_0, ct_519, rfl, by decide +kernel, ct_13, fun h => absurd h (by decide +kernel), by decide +kernel, by decide +kernel⟩
theorem tk_js_coder : am_tok (⟨"java/lang/String", "coder", "()B"⟩, prog_15_method_152_code, js_coder) := ⟨am_dk dk_js_coder_0, ct_523, rfl, by decide +kernel, ct_13, fun h => absurd h (by decide +kernel), by decide +kernel, by decide +kernel⟩
theorem tk_js_charAt : am_tok (⟨"java/lang/String", "charAt", "(I)C"⟩, prog_15_method_56_code, js_charAt) := ⟨am_dk dk_js_charAt_0, ct_529, rfl, by decide +kernel, ct_13, fun h => absurd h (by decide +kernel), by decide +kernel, by decide +kernel⟩
theorem tk_js_isLatin1 : am_tok (⟨"java/lang/String", "isLatin1", "()Z"⟩, prog_15_method_154_code, js_isLatin1) := ⟨am_dk dk_js_isLatin1_0, ct_533, rfl, by decide +kernel, ct_13, fun h => absurd h (by decide +kernel), by decide +kernel, by decide +kernel⟩
theorem tk_jl_charAt : am_tok (⟨"java/lang/StringLatin1", "charAt", "([BI)C"⟩, prog_16_method_2_code, jl_charAt) := ⟨am_dk dk_jl_charAt_0, ct_536, rfl, by decide +kernel, ct_14, fun h => absurd h (by decide +kernel), by decide +kernel, by decide +kernel⟩
theorem tk_js_checkIndex : am_tok (⟨"java/lang/String", "checkIndex", "(II)V"⟩, prog_15_method_155_code, js_checkIndex) := ⟨am_dk dk_js_checkIndex_0, ct_539, rfl, by decide +kernel, ct_13, fun h => absurd h (by decide +kernel), by decide +kernel, by decide +kernel⟩
theorem tk_jp_checkIndex : am_tok (⟨"jdk/internal/util/Preconditions", "checkIndex", "(IILjava/util/function/BiFunction;)I"⟩, prog_19_method_11_code, jp_checkIndex) := ⟨am_dk dk_jp_checkIndex_0, ct_544, rfl, by decide +kernel, ct_15, fun h => absurd h (by decide +kernel), by decide +kernel, by decide +kernel⟩
theorem tk_tx_takes : am_tok (⟨"LostSheets$Text", "takes", "(I)Z"⟩, prog_8_method_5_code, tx_takes) := ⟨am_dk dk_tx_takes_0, ct_567, rfl, by decide +kernel, ct_7, fun h => absurd h (by decide +kernel), by decide +kernel, by decide +kernel⟩
theorem tk_tx_oneOrTwoDigits : am_tok (⟨"LostSheets$Text", "oneOrTwoDigits", "()Z"⟩, prog_8_method_7_code, tx_oneOrTwoDigits) := ⟨am_dk dk_tx_oneOrTwoDigits_0, ct_571, rfl, by decide +kernel, ct_7, fun h => absurd h (by decide +kernel), by decide +kernel, by decide +kernel⟩
theorem tk_tx_anyOf : am_tok (⟨"LostSheets$Text", "anyOf", "(I)Z"⟩, prog_8_method_9_code, tx_anyOf) := ⟨am_dk dk_tx_anyOf_0, ct_575, rfl, by decide +kernel, ct_7, fun h => absurd h (by decide +kernel), by decide +kernel, by decide +kernel⟩
theorem tk_tx_allOf : am_tok (⟨"LostSheets$Text", "allOf", "(I)Z"⟩, prog_8_method_10_code, tx_allOf) := ⟨am_dk dk_tx_allOf_0, ct_579, rfl, by decide +kernel, ct_7, fun h => absurd h (by decide +kernel), by decide +kernel, by decide +kernel⟩
theorem tk_tx_one : am_tok (⟨"LostSheets$Text", "one", "(I)Z"⟩, prog_8_method_11_code, tx_one) := ⟨am_dk dk_tx_one_0, ct_583, rfl, by decide +kernel, ct_7, fun h => absurd h (by decide +kernel), by decide +kernel, by decide +kernel⟩
theorem tk_tx_test : am_tok (⟨"LostSheets$Text", "test", "()Z"⟩, prog_8_method_14_code, tx_test) := ⟨am_dk dk_tx_test_0, ct_587, rfl, by decide +kernel, ct_7, fun h => absurd h (by decide +kernel), by decide +kernel, by decide +kernel⟩
theorem tk_tx_placeIn : am_tok (⟨"LostSheets$Text", "placeIn", "(Ljava/lang/String;I)I"⟩, prog_8_method_15_code, tx_placeIn) := ⟨am_dk dk_tx_placeIn_0, ct_591, rfl, by decide +kernel, ct_7, fun h => absurd h (by decide +kernel), by decide +kernel, by decide +kernel⟩
theorem tk_of_append : am_tok (⟨"LostSheets$Office", "append", "(II)V"⟩, prog_5_method_3_code, of_append) := ⟨am_dk dk_of_append_0, ct_596, rfl, by decide +kernel, ct_9, fun h => absurd h (by decide +kernel), by decide +kernel, by decide +kernel⟩
theorem tk_tx_not : am_tok (⟨"LostSheets$Text", "not", "(I)Z"⟩, prog_8_method_12_code, tx_not) := ⟨am_dk dk_tx_not_0, ct_600, rfl, by decide +kernel, ct_7, fun h => absurd h (by decide +kernel), by decide +kernel, by decide +kernel⟩
theorem tk_tx_inBrackets : am_tok (⟨"LostSheets$Text", "inBrackets", "(I)Z"⟩, prog_8_method_13_code, tx_inBrackets) := ⟨am_dk dk_tx_inBrackets_0, ct_604, rfl, by decide +kernel, ct_7, fun h => absurd h (by decide +kernel), by decide +kernel, by decide +kernel⟩
theorem tk_k_told : am_tok (⟨"LostSheets", "told", "(I)I"⟩, prog_1_method_11_code, k_told) := ⟨am_dk dk_k_told_0, ct_608, rfl, by decide +kernel, ct_1, fun h => absurd h (by decide +kernel), by decide +kernel, by decide +kernel⟩
theorem tk_k_marksOf : am_tok (⟨"LostSheets", "marksOf", "(I)I"⟩, prog_1_method_46_code, k_marksOf) := ⟨am_dk dk_k_marksOf_0, ct_612, rfl, by decide +kernel, ct_1, fun h => absurd h (by decide +kernel), by decide +kernel, by decide +kernel⟩
theorem tk_la_doneBits : am_tok (⟨"LostSheets$Land", "doneBits", "()I"⟩, prog_4_method_13_code, la_doneBits) := ⟨am_dk dk_la_doneBits_0, ct_617, rfl, by decide +kernel, ct_2, fun h => absurd h (by decide +kernel), by decide +kernel, by decide +kernel⟩
theorem tk_k_whole : am_tok (⟨"LostSheets", "whole", "()I"⟩, prog_1_method_43_code, k_whole) := ⟨am_dk dk_k_whole_0, ct_621, rfl, by decide +kernel, ct_1, fun h => absurd h (by decide +kernel), by decide +kernel, by decide +kernel⟩
theorem tk_k_pass : am_tok (⟨"LostSheets", "pass", "(I)I"⟩, prog_1_method_12_code, k_pass) := ⟨am_dk dk_k_pass_0, ct_626, rfl, by decide +kernel, ct_1, fun h => absurd h (by decide +kernel), by decide +kernel, by decide +kernel⟩
theorem tk_la_capDrew : am_tok (⟨"LostSheets$Land", "capDrew", "()V"⟩, prog_4_method_15_code, la_capDrew) := ⟨am_dk dk_la_capDrew_0, ct_630, rfl, by decide +kernel, ct_2, fun h => absurd h (by decide +kernel), by decide +kernel, by decide +kernel⟩
theorem tk_jm_min : am_tok (⟨"java/lang/Math", "min", "(II)I"⟩, prog_14_method_69_code, jm_min) := ⟨am_dk dk_jm_min_0, ct_633, rfl, by decide +kernel, ct_6, fun h => absurd h (by decide +kernel), by decide +kernel, by decide +kernel⟩
theorem tk_k_on : am_tok (⟨"LostSheets", "on", "(II)I"⟩, prog_1_method_13_code, k_on) := ⟨am_dk dk_k_on_0, ct_637, rfl, by decide +kernel, ct_1, fun h => absurd h (by decide +kernel), by decide +kernel, by decide +kernel⟩
theorem tk_k_drawerBehindTen : am_tok (⟨"LostSheets", "drawerBehindTen", "(I)LLostSheets$Drawer;"⟩, prog_1_method_38_code, k_drawerBehindTen) := ⟨am_dk dk_k_drawerBehindTen_0, ct_641, rfl, by decide +kernel, ct_1, fun h => absurd h (by decide +kernel), by decide +kernel, by decide +kernel⟩
theorem tk_k_best : am_tok (⟨"LostSheets", "best", "(II)I"⟩, prog_1_method_14_code, k_best) := ⟨am_dk dk_k_best_0, ct_645, rfl, by decide +kernel, ct_1, fun h => absurd h (by decide +kernel), by decide +kernel, by decide +kernel⟩
theorem tk_k_crew : am_tok (⟨"LostSheets", "crew", "(I)I"⟩, prog_1_method_45_code, k_crew) := ⟨am_dk dk_k_crew_0, ct_649, rfl, by decide +kernel, ct_1, fun h => absurd h (by decide +kernel), by decide +kernel, by decide +kernel⟩
theorem tk_ji_bitCount : am_tok (⟨"java/lang/Integer", "bitCount", "(I)I"⟩, prog_13_method_49_code, ji_bitCount) := ⟨am_dk dk_ji_bitCount_0, ct_652, rfl, by decide +kernel, ct_18, fun h => absurd h (by decide +kernel), by decide +kernel, by decide +kernel⟩
theorem tk_la_othersAreDone : am_tok (⟨"LostSheets$Land", "othersAreDone", "(I)V"⟩, prog_4_method_12_code, la_othersAreDone) := ⟨am_dk dk_la_othersAreDone_0, ct_659, rfl, by decide +kernel, ct_2, fun h => absurd h (by decide +kernel), by decide +kernel, by decide +kernel⟩
theorem tk_k_landing : am_tok (⟨"LostSheets", "landing", "(II)I"⟩, prog_1_method_44_code, k_landing) := ⟨am_dk dk_k_landing_0, ct_663, rfl, by decide +kernel, ct_1, fun h => absurd h (by decide +kernel), by decide +kernel, by decide +kernel⟩
theorem tk_k_see : am_tok (⟨"LostSheets", "see", "(III)I"⟩, prog_1_method_15_code, k_see) := ⟨am_dk dk_k_see_0, ct_667, rfl, by decide +kernel, ct_1, fun h => absurd h (by decide +kernel), by decide +kernel, by decide +kernel⟩
theorem tk_ro_clear : am_tok (⟨"LostSheets$Rows", "clear", "()V"⟩, prog_6_method_2_code, ro_clear) := ⟨am_dk dk_ro_clear_0, ct_671, rfl, by decide +kernel, ct_5, fun h => absurd h (by decide +kernel), by decide +kernel, by decide +kernel⟩
theorem tk_ro_append : am_tok (⟨"LostSheets$Rows", "append", "(III)Z"⟩, prog_6_method_3_code, ro_append) := ⟨am_dk dk_ro_append_0, ct_675, rfl, by decide +kernel, ct_5, fun h => absurd h (by decide +kernel), by decide +kernel, by decide +kernel⟩
theorem tk_k_can : am_tok (⟨"LostSheets", "can", "(II)I"⟩, prog_1_method_16_code, k_can) := ⟨am_dk dk_k_can_0, ct_679, rfl, by decide +kernel, ct_1, fun h => absurd h (by decide +kernel), by decide +kernel, by decide +kernel⟩
theorem tk_k_possibleNumbers : am_tok (⟨"LostSheets", "possibleNumbers", "(I)I"⟩, prog_1_method_48_code, k_possibleNumbers) := ⟨am_dk dk_k_possibleNumbers_0, ct_683, rfl, by decide +kernel, ct_1, fun h => absurd h (by decide +kernel), by decide +kernel, by decide +kernel⟩
theorem tk_la_setNumber : am_tok (⟨"LostSheets$Land", "setNumber", "(II)V"⟩, prog_4_method_9_code, la_setNumber) := ⟨am_dk dk_la_setNumber_0, ct_687, rfl, by decide +kernel, ct_2, fun h => absurd h (by decide +kernel), by decide +kernel, by decide +kernel⟩
theorem tk_k_leastOf : am_tok (⟨"LostSheets", "leastOf", "(I)I"⟩, prog_1_method_49_code, k_leastOf) := ⟨am_dk dk_k_leastOf_0, ct_690, rfl, by decide +kernel, ct_1, fun h => absurd h (by decide +kernel), by decide +kernel, by decide +kernel⟩
theorem tk_k_odds : am_tok (⟨"LostSheets", "odds", "(III)J"⟩, prog_1_method_17_code, k_odds) := ⟨am_dk dk_k_odds_0, ct_694, rfl, by decide +kernel, ct_1, fun h => absurd h (by decide +kernel), by decide +kernel, by decide +kernel⟩
theorem tk_k_partOfFraction : am_tok (⟨"LostSheets", "partOfFraction", "(JJI)J"⟩, prog_1_method_53_code, k_partOfFraction) := ⟨am_dk dk_k_partOfFraction_0, ct_699, rfl, by decide +kernel, ct_1, fun h => absurd h (by decide +kernel), by decide +kernel, by decide +kernel⟩
theorem tk_k_greatestDivisor : am_tok (⟨"LostSheets", "greatestDivisor", "(JJ)J"⟩, prog_1_method_54_code, k_greatestDivisor) := ⟨am_dk dk_k_greatestDivisor_0, ct_702, rfl, by decide +kernel, ct_1, fun h => absurd h (by decide +kernel), by decide +kernel, by decide +kernel⟩
theorem tk_k_mean : am_tok (⟨"LostSheets", "mean", "(II)J"⟩, prog_1_method_18_code, k_mean) := ⟨am_dk dk_k_mean_0, ct_706, rfl, by decide +kernel, ct_1, fun h => absurd h (by decide +kernel), by decide +kernel, by decide +kernel⟩
theorem tk_la_drewOfAll : am_tok (⟨"LostSheets$Land", "drewOfAll", "()I"⟩, prog_4_method_14_code, la_drewOfAll) := ⟨am_dk dk_la_drewOfAll_0, ct_710, rfl, by decide +kernel, ct_2, fun h => absurd h (by decide +kernel), by decide +kernel, by decide +kernel⟩
theorem tk_k_plan : am_tok (⟨"LostSheets", "plan", "(II)I"⟩, prog_1_method_19_code, k_plan) := ⟨am_dk dk_k_plan_0, ct_714, rfl, by decide +kernel, ct_1, fun h => absurd h (by decide +kernel), by decide +kernel, by decide +kernel⟩
theorem tk_k_isPlanRow : am_tok (⟨"LostSheets", "isPlanRow", "(II)Z"⟩, prog_1_method_37_code, k_isPlanRow) := ⟨am_dk dk_k_isPlanRow_0, ct_718, rfl, by decide +kernel, ct_1, fun h => absurd h (by decide +kernel), by decide +kernel, by decide +kernel⟩
theorem tk_k_ends : am_tok (⟨"LostSheets", "ends", "(I)I"⟩, prog_1_method_20_code, k_ends) := ⟨am_dk dk_k_ends_0, ct_722, rfl, by decide +kernel, ct_1, fun h => absurd h (by decide +kernel), by decide +kernel, by decide +kernel⟩
theorem tk_k_tryPlan : am_tok (⟨"LostSheets", "tryPlan", "()V"⟩, prog_1_method_52_code, k_tryPlan) := ⟨am_dk dk_k_tryPlan_0, ct_726, rfl, by decide +kernel, ct_1, fun h => absurd h (by decide +kernel), by decide +kernel, by decide +kernel⟩
theorem tk_la_emptySheet : am_tok (⟨"LostSheets$Land", "emptySheet", "(I)V"⟩, prog_4_method_10_code, la_emptySheet) := ⟨am_dk dk_la_emptySheet_0, ct_730, rfl, by decide +kernel, ct_2, fun h => absurd h (by decide +kernel), by decide +kernel, by decide +kernel⟩
theorem tk_la_notDone : am_tok (⟨"LostSheets$Land", "notDone", "(I)V"⟩, prog_4_method_11_code, la_notDone) := ⟨am_dk dk_la_notDone_0, ct_734, rfl, by decide +kernel, ct_2, fun h => absurd h (by decide +kernel), by decide +kernel, by decide +kernel⟩
theorem tk_k_book : am_tok (⟨"LostSheets", "book", "(II)I"⟩, prog_1_method_21_code, k_book) := ⟨am_dk dk_k_book_0, ct_738, rfl, by decide +kernel, ct_1, fun h => absurd h (by decide +kernel), by decide +kernel, by decide +kernel⟩
theorem tk_k_looked : am_tok (⟨"LostSheets", "looked", "()I"⟩, prog_1_method_22_code, k_looked) := ⟨am_dk dk_k_looked_0, ct_742, rfl, by decide +kernel, ct_1, fun h => absurd h (by decide +kernel), by decide +kernel, by decide +kernel⟩
theorem tk_k_judge : am_tok (⟨"LostSheets", "judge", "(II)I"⟩, prog_1_method_23_code, k_judge) := ⟨am_dk dk_k_judge_0, ct_746, rfl, by decide +kernel, ct_1, fun h => absurd h (by decide +kernel), by decide +kernel, by decide +kernel⟩
theorem tk_k_tapeAt : am_tok (⟨"LostSheets", "tapeAt", "(I)LLostSheets$Tape;"⟩, prog_1_method_39_code, k_tapeAt) := ⟨am_dk dk_k_tapeAt_0, ct_750, rfl, by decide +kernel, ct_1, fun h => absurd h (by decide +kernel), by decide +kernel, by decide +kernel⟩
theorem tk_tp_has : am_tok (⟨"LostSheets$Tape", "has", "(I)Z"⟩, prog_7_method_3_code, tp_has) := ⟨am_dk dk_tp_has_0, ct_754, rfl, by decide +kernel, ct_10, fun h => absurd h (by decide +kernel), by decide +kernel, by decide +kernel⟩
theorem tk_k_image : am_tok (⟨"LostSheets", "image", "()I"⟩, prog_1_method_24_code, k_image) := ⟨am_dk dk_k_image_0, ct_758, rfl, by decide +kernel, ct_1, fun h => absurd h (by decide +kernel), by decide +kernel, by decide +kernel⟩
theorem tk_bh_copyFrom : am_tok (⟨"LostSheets$ByHand", "copyFrom", "(LLostSheets$ByHand;)V"⟩, prog_2_method_2_code, bh_copyFrom) := ⟨am_dk dk_bh_copyFrom_0, ct_762, rfl, by decide +kernel, ct_4, fun h => absurd h (by decide +kernel), by decide +kernel, by decide +kernel⟩
theorem tk_ro_copyFrom : am_tok (⟨"LostSheets$Rows", "copyFrom", "(LLostSheets$Rows;)V"⟩, prog_6_method_4_code, ro_copyFrom) := ⟨am_dk dk_ro_copyFrom_0, ct_766, rfl, by decide +kernel, ct_5, fun h => absurd h (by decide +kernel), by decide +kernel, by decide +kernel⟩
theorem tk_k_undo : am_tok (⟨"LostSheets", "undo", "()I"⟩, prog_1_method_25_code, k_undo) := ⟨am_dk dk_k_undo_0, ct_771, rfl, by decide +kernel, ct_1, fun h => absurd h (by decide +kernel), by decide +kernel, by decide +kernel⟩
theorem tk_k_act : am_tok (⟨"LostSheets", "act", "(III)I"⟩, prog_1_method_26_code, k_act) := ⟨am_dk dk_k_act_0, ct_775, rfl, by decide +kernel, ct_1, fun h => absurd h (by decide +kernel), by decide +kernel, by decide +kernel⟩
theorem tk_tr_ofAct : am_tok (⟨"LostSheets$Trace", "ofAct", "(LLostSheets$Drawer;II)I"⟩, prog_9_method_4_code, tr_ofAct) := ⟨am_dk dk_tr_ofAct_0, ct_779, rfl, by decide +kernel, ct_8, fun h => absurd h (by decide +kernel), by decide +kernel, by decide +kernel⟩
theorem tk_tr_run : am_tok (⟨"LostSheets$Trace", "run", "(LLostSheets$Drawer;IIII)I"⟩, prog_9_method_5_code, tr_run) := ⟨am_dk dk_tr_run_0, ct_783, rfl, by decide +kernel, ct_8, fun h => absurd h (by decide +kernel), by decide +kernel, by decide +kernel⟩
theorem tk_tr_bodyOf : am_tok (⟨"LostSheets$Trace", "bodyOf", "(II)I"⟩, prog_9_method_2_code, tr_bodyOf) := ⟨am_dk dk_tr_bodyOf_0, ct_786, rfl, by decide +kernel, ct_8, fun h => absurd h (by decide +kernel), by decide +kernel, by decide +kernel⟩
theorem tk_k_aboveOf : am_tok (⟨"LostSheets", "aboveOf", "(I)I"⟩, prog_1_method_40_code, k_aboveOf) := ⟨am_dk dk_k_aboveOf_0, ct_791, rfl, by decide +kernel, ct_1, fun h => absurd h (by decide +kernel), by decide +kernel, by decide +kernel⟩
theorem tk_tr_begins : am_tok (⟨"LostSheets$Trace", "begins", "(I)V"⟩, prog_9_method_3_code, tr_begins) := ⟨am_dk dk_tr_begins_0, ct_797, rfl, by decide +kernel, ct_8, fun h => absurd h (by decide +kernel), by decide +kernel, by decide +kernel⟩
theorem tk_tr_does : am_tok (⟨"LostSheets$Trace", "does", "(ILLostSheets$Drawer;II)I"⟩, prog_9_method_6_code, tr_does) := ⟨List.forall_mem_append.mpr ⟨am_dk dk_tr_does_0, List.forall_mem_append.mpr ⟨am_dk dk_tr_does_1, am_dk dk_tr_does_2⟩⟩, ct_801, rfl, by decide +kernel, ct_8, fun h => absurd h (by decide +kernel), by decide +kernel, by decide +kernel⟩
theorem tk_k_trace : am_tok (⟨"LostSheets", "trace", "(I)I"⟩, prog_1_method_27_code, k_trace) := ⟨am_dk dk_k_trace_0, ct_805, rfl, by decide +kernel, ct_1, fun h => absurd h (by decide +kernel), by decide +kernel, by decide +kernel⟩
theorem tk_k_taken : am_tok (⟨"LostSheets", "taken", "(II)I"⟩, prog_1_method_28_code, k_taken) := ⟨am_dk dk_k_taken_0, ct_809, rfl, by decide +kernel, ct_1, fun h => absurd h (by decide +kernel), by decide +kernel, by decide +kernel⟩
theorem tk_k_isUnder : am_tok (⟨"LostSheets", "isUnder", "(II)Z"⟩, prog_1_method_41_code, k_isUnder) := ⟨am_dk dk_k_isUnder_0, ct_812, rfl, by decide +kernel, ct_1, fun h => absurd h (by decide +kernel), by decide +kernel, by decide +kernel⟩
theorem tk_k_count : am_tok (⟨"LostSheets", "count", "(I)I"⟩, prog_1_method_29_code, k_count) := ⟨am_dk dk_k_count_0, ct_817, rfl, by decide +kernel, ct_1, fun h => absurd h (by decide +kernel), by decide +kernel, by decide +kernel⟩
theorem tk_k_tape : am_tok (⟨"LostSheets", "tape", "(III)I"⟩, prog_1_method_30_code, k_tape) := ⟨am_dk dk_k_tape_0, ct_821, rfl, by decide +kernel, ct_1, fun h => absurd h (by decide +kernel), by decide +kernel, by decide +kernel⟩
theorem tk_tp_becomes : am_tok (⟨"LostSheets$Tape", "becomes", "(II)V"⟩, prog_7_method_2_code, tp_becomes) := ⟨am_dk dk_tp_becomes_0, ct_825, rfl, by decide +kernel, ct_10, fun h => absurd h (by decide +kernel), by decide +kernel, by decide +kernel⟩
theorem tk_k_item : am_tok (⟨"LostSheets", "item", "(IIJ)I"⟩, prog_1_method_31_code, k_item) := ⟨am_dk dk_k_item_0, ct_829, rfl, by decide +kernel, ct_1, fun h => absurd h (by decide +kernel), by decide +kernel, by decide +kernel⟩
theorem tk_tp_asItem : am_tok (⟨"LostSheets$Tape", "asItem", "(J)J"⟩, prog_7_method_5_code, tp_asItem) := ⟨am_dk dk_tp_asItem_0, ct_833, rfl, by decide +kernel, ct_10, fun h => absurd h (by decide +kernel), by decide +kernel, by decide +kernel⟩
theorem tk_k_read : am_tok (⟨"LostSheets", "read", "(II)J"⟩, prog_1_method_32_code, k_read) := ⟨am_dk dk_k_read_0, ct_837, rfl, by decide +kernel, ct_1, fun h => absurd h (by decide +kernel), by decide +kernel, by decide +kernel⟩
theorem tk_k_shift : am_tok (⟨"LostSheets", "shift", "(IIIII)I"⟩, prog_1_method_33_code, k_shift) := ⟨am_dk dk_k_shift_0, ct_841, rfl, by decide +kernel, ct_1, fun h => absurd h (by decide +kernel), by decide +kernel, by decide +kernel⟩
theorem tk_tp_hasRun : am_tok (⟨"LostSheets$Tape", "hasRun", "(II)Z"⟩, prog_7_method_4_code, tp_hasRun) := ⟨am_dk dk_tp_hasRun_0, ct_845, rfl, by decide +kernel, ct_10, fun h => absurd h (by decide +kernel), by decide +kernel, by decide +kernel⟩
theorem tk_m_init : am_tok (⟨"LostSheetsModel", "<init>", "()V"⟩, prog_11_method_1_code, m_init) := ⟨List.forall_mem_append.mpr ⟨am_dk dk_m_init_0, List.forall_mem_append.mpr ⟨am_dk dk_m_init_1, am_dk dk_m_init_2⟩⟩, ct_851, rfl, by decide +kernel, ct_11, fun _ => rfl, by decide +kernel, by decide +kernel⟩
theorem tk_m_drawer : am_tok (⟨"LostSheetsModel", "drawer", "(III)I"⟩, prog_11_method_5_code, m_drawer) := ⟨List.forall_mem_append.mpr ⟨am_dk dk_m_drawer_0, am_dk dk_m_drawer_1⟩, ct_999, rfl, by decide +kernel, ct_11, fun h => absurd h (by decide +kernel), by decide +kernel, by decide +kernel⟩
theorem tk_m_within : am_tok (⟨"LostSheetsModel", "within", "(III)Z"⟩, prog_11_method_2_code, m_within) := ⟨am_dk dk_m_within_0, ct_1002, rfl, by decide +kernel, ct_11, fun h => absurd h (by decide +kernel), by decide +kernel, by decide +kernel⟩
theorem tk_m_isCell : am_tok (⟨"LostSheetsModel", "isCell", "(I)Z"⟩, prog_11_method_4_code, m_isCell) := ⟨am_dk dk_m_isCell_0, ct_1005, rfl, by decide +kernel, ct_11, fun h => absurd h (by decide +kernel), by decide +kernel, by decide +kernel⟩
theorem tk_m_of : am_tok (⟨"LostSheetsModel", "of", "(II)I"⟩, prog_11_method_6_code, m_of) := ⟨List.forall_mem_append.mpr ⟨am_dk dk_m_of_0, am_dk dk_m_of_1⟩, ct_1009, rfl, by decide +kernel, ct_11, fun h => absurd h (by decide +kernel), by decide +kernel, by decide +kernel⟩
theorem tk_m_isOne : am_tok (⟨"LostSheetsModel", "isOne", "(I)Z"⟩, prog_11_method_3_code, m_isOne) := ⟨am_dk dk_m_isOne_0, ct_1013, rfl, by decide +kernel, ct_11, fun h => absurd h (by decide +kernel), by decide +kernel, by decide +kernel⟩
theorem tk_m_feel : am_tok (⟨"LostSheetsModel", "feel", "(I)I"⟩, prog_11_method_30_code, m_feel) := ⟨List.forall_mem_append.mpr ⟨am_dk dk_m_feel_0, am_dk dk_m_feel_1⟩, ct_1017, rfl, by decide +kernel, ct_11, fun h => absurd h (by decide +kernel), by decide +kernel, by decide +kernel⟩
theorem tk_m_sum : am_tok (⟨"LostSheetsModel", "sum", "(I)I"⟩, prog_11_method_27_code, m_sum) := ⟨List.forall_mem_append.mpr ⟨am_dk dk_m_sum_0, am_dk dk_m_sum_1⟩, ct_1021, rfl, by decide +kernel, ct_11, fun h => absurd h (by decide +kernel), by decide +kernel, by decide +kernel⟩
theorem tk_m_isTrue : am_tok (⟨"LostSheetsModel", "isTrue", "(II)Z"⟩, prog_11_method_26_code, m_isTrue) := ⟨List.forall_mem_append.mpr ⟨am_dk dk_m_isTrue_0, List.forall_mem_append.mpr ⟨am_dk dk_m_isTrue_1, am_dk dk_m_isTrue_2⟩⟩, ct_1025, rfl, by decide +kernel, ct_11, fun h => absurd h (by decide +kernel), by decide +kernel, by decide +kernel⟩
theorem tk_m_letterOf : am_tok (⟨"LostSheetsModel", "letterOf", "(II)I"⟩, prog_11_method_25_code, m_letterOf) := ⟨am_dk dk_m_letterOf_0, ct_1029, rfl, by decide +kernel, ct_11, fun h => absurd h (by decide +kernel), by decide +kernel, by decide +kernel⟩
theorem tk_m_others : am_tok (⟨"LostSheetsModel", "others", "(I)I"⟩, prog_11_method_29_code, m_others) := ⟨am_dk dk_m_others_0, ct_1033, rfl, by decide +kernel, ct_11, fun h => absurd h (by decide +kernel), by decide +kernel, by decide +kernel⟩
theorem tk_m_wayOf : am_tok (⟨"LostSheetsModel", "wayOf", "(I)I"⟩, prog_11_method_31_code, m_wayOf) := ⟨am_dk dk_m_wayOf_0, ct_1037, rfl, by decide +kernel, ct_11, fun h => absurd h (by decide +kernel), by decide +kernel, by decide +kernel⟩
theorem tk_m_came : am_tok (⟨"LostSheetsModel", "came", "(IZ)I"⟩, prog_11_method_41_code, m_came) := ⟨List.forall_mem_append.mpr ⟨am_dk dk_m_came_0, am_dk dk_m_came_1⟩, ct_1041, rfl, by decide +kernel, ct_11, fun h => absurd h (by decide +kernel), by decide +kernel, by decide +kernel⟩
theorem tk_m_step : am_tok (⟨"LostSheetsModel", "step", "(II)I"⟩, prog_11_method_32_code, m_step) := ⟨am_dk dk_m_step_0, ct_1044, rfl, by decide +kernel, ct_11, fun h => absurd h (by decide +kernel), by decide +kernel, by decide +kernel⟩
theorem tk_m_look : am_tok (⟨"LostSheetsModel", "look", "(I)I"⟩, prog_11_method_42_code, m_look) := ⟨List.forall_mem_append.mpr ⟨am_dk dk_m_look_0, am_dk dk_m_look_1⟩, ct_1048, rfl, by decide +kernel, ct_11, fun h => absurd h (by decide +kernel), by decide +kernel, by decide +kernel⟩
theorem tk_m_places : am_tok (⟨"LostSheetsModel", "places", "(I)I"⟩, prog_11_method_50_code, m_places) := ⟨am_dk dk_m_places_0, ct_1053, rfl, by decide +kernel, ct_11, fun h => absurd h (by decide +kernel), by decide +kernel, by decide +kernel⟩
theorem tk_m_isSeen : am_tok (⟨"LostSheetsModel", "isSeen", "()Z"⟩, prog_11_method_48_code, m_isSeen) := ⟨am_dk dk_m_isSeen_0, ct_1057, rfl, by decide +kernel, ct_11, fun h => absurd h (by decide +kernel), by decide +kernel, by decide +kernel⟩
theorem tk_m_keep : am_tok (⟨"LostSheetsModel", "keep", "([I)V"⟩, prog_11_method_61_code, m_keep) := ⟨List.forall_mem_append.mpr ⟨am_dk dk_m_keep_0, List.forall_mem_append.mpr ⟨am_dk dk_m_keep_1, List.forall_mem_append.mpr ⟨am_dk dk_m_keep_2, am_dk dk_m_keep_3⟩⟩⟩, ct_1061, rfl, by decide +kernel, ct_11, fun h => absurd h (by decide +kernel), by decide +kernel, by decide +kernel⟩
theorem tk_m_goesHour : am_tok (⟨"LostSheetsModel", "goesHour", "()V"⟩, prog_11_method_34_code, m_goesHour) := ⟨List.forall_mem_append.mpr ⟨am_dk dk_m_goesHour_0, am_dk dk_m_goesHour_1⟩, ct_1065, rfl, by decide +kernel, ct_11, fun h => absurd h (by decide +kernel), by decide +kernel, by decide +kernel⟩
theorem tk_m_know : am_tok (⟨"LostSheetsModel", "know", "()I"⟩, prog_11_method_28_code, m_know) := ⟨am_dk dk_m_know_0, ct_1069, rfl, by decide +kernel, ct_11, fun h => absurd h (by decide +kernel), by decide +kernel, by decide +kernel⟩
theorem tk_m_goesBy : am_tok (⟨"LostSheetsModel", "goesBy", "(III)V"⟩, prog_11_method_33_code, m_goesBy) := ⟨List.forall_mem_append.mpr ⟨am_dk dk_m_goesBy_0, am_dk dk_m_goesBy_1⟩, ct_1073, rfl, by decide +kernel, ct_11, fun h => absurd h (by decide +kernel), by decide +kernel, by decide +kernel⟩
theorem tk_m_again : am_tok (⟨"LostSheetsModel", "again", "([I)V"⟩, prog_11_method_62_code, m_again) := ⟨List.forall_mem_append.mpr ⟨am_dk dk_m_again_0, List.forall_mem_append.mpr ⟨am_dk dk_m_again_1, List.forall_mem_append.mpr ⟨am_dk dk_m_again_2, am_dk dk_m_again_3⟩⟩⟩, ct_1077, rfl, by decide +kernel, ct_11, fun h => absurd h (by decide +kernel), by decide +kernel, by decide +kernel⟩
theorem tk_m_sheet : am_tok (⟨"LostSheetsModel", "sheet", "(II)I"⟩, prog_11_method_7_code, m_sheet) := ⟨am_dk dk_m_sheet_0, ct_1081, rfl, by decide +kernel, ct_11, fun h => absurd h (by decide +kernel), by decide +kernel, by decide +kernel⟩
theorem tk_m_put : am_tok (⟨"LostSheetsModel", "put", "(II)I"⟩, prog_11_method_8_code, m_put) := ⟨am_dk dk_m_put_0, ct_1085, rfl, by decide +kernel, ct_11, fun h => absurd h (by decide +kernel), by decide +kernel, by decide +kernel⟩
theorem tk_m_anew : am_tok (⟨"LostSheetsModel", "anew", "(I)I"⟩, prog_11_method_9_code, m_anew) := ⟨am_dk dk_m_anew_0, ct_1089, rfl, by decide +kernel, ct_11, fun h => absurd h (by decide +kernel), by decide +kernel, by decide +kernel⟩
theorem tk_m_mark : am_tok (⟨"LostSheetsModel", "mark", "(II)I"⟩, prog_11_method_10_code, m_mark) := ⟨am_dk dk_m_mark_0, ct_1093, rfl, by decide +kernel, ct_11, fun h => absurd h (by decide +kernel), by decide +kernel, by decide +kernel⟩
theorem tk_m_row : am_tok (⟨"LostSheetsModel", "row", "(III)I"⟩, prog_11_method_11_code, m_row) := ⟨am_dk dk_m_row_0, ct_1097, rfl, by decide +kernel, ct_11, fun h => absurd h (by decide +kernel), by decide +kernel, by decide +kernel⟩
theorem tk_m_feed : am_tok (⟨"LostSheetsModel", "feed", "(I)I"⟩, prog_11_method_12_code, m_feed) := ⟨am_dk dk_m_feed_0, ct_1101, rfl, by decide +kernel, ct_11, fun h => absurd h (by decide +kernel), by decide +kernel, by decide +kernel⟩
theorem tk_m_office : am_tok (⟨"LostSheetsModel", "office", "()I"⟩, prog_11_method_24_code, m_office) := ⟨List.forall_mem_append.mpr ⟨am_dk dk_m_office_0, am_dk dk_m_office_1⟩, ct_1105, rfl, by decide +kernel, ct_11, fun h => absurd h (by decide +kernel), by decide +kernel, by decide +kernel⟩
theorem tk_m_isClause : am_tok (⟨"LostSheetsModel", "isClause", "(I)Z"⟩, prog_11_method_23_code, m_isClause) := ⟨List.forall_mem_append.mpr ⟨am_dk dk_m_isClause_0, am_dk dk_m_isClause_1⟩, ct_1109, rfl, by decide +kernel, ct_11, fun h => absurd h (by decide +kernel), by decide +kernel, by decide +kernel⟩
theorem tk_m_isAll : am_tok (⟨"LostSheetsModel", "isAll", "(Ljava/lang/String;)Z"⟩, prog_11_method_16_code, m_isAll) := ⟨am_dk dk_m_isAll_0, ct_1114, rfl, by decide +kernel, ct_11, fun h => absurd h (by decide +kernel), by decide +kernel, by decide +kernel⟩
theorem tk_m_is : am_tok (⟨"LostSheetsModel", "is", "(I)Z"⟩, prog_11_method_13_code, m_is) := ⟨am_dk dk_m_is_0, ct_1120, rfl, by decide +kernel, ct_11, fun h => absurd h (by decide +kernel), by decide +kernel, by decide +kernel⟩
theorem tk_m_isNumber : am_tok (⟨"LostSheetsModel", "isNumber", "()Z"⟩, prog_11_method_15_code, m_isNumber) := ⟨am_dk dk_m_isNumber_0, ct_1126, rfl, by decide +kernel, ct_11, fun h => absurd h (by decide +kernel), by decide +kernel, by decide +kernel⟩
theorem tk_m_isDigit : am_tok (⟨"LostSheetsModel", "isDigit", "()Z"⟩, prog_11_method_14_code, m_isDigit) := ⟨am_dk dk_m_isDigit_0, ct_1130, rfl, by decide +kernel, ct_11, fun h => absurd h (by decide +kernel), by decide +kernel, by decide +kernel⟩
theorem tk_m_isE : am_tok (⟨"LostSheetsModel", "isE", "()Z"⟩, prog_11_method_22_code, m_isE) := ⟨am_dk dk_m_isE_0, ct_1134, rfl, by decide +kernel, ct_11, fun h => absurd h (by decide +kernel), by decide +kernel, by decide +kernel⟩
theorem tk_m_isT : am_tok (⟨"LostSheetsModel", "isT", "()Z"⟩, prog_11_method_21_code, m_isT) := ⟨am_dk dk_m_isT_0, ct_1138, rfl, by decide +kernel, ct_11, fun h => absurd h (by decide +kernel), by decide +kernel, by decide +kernel⟩
theorem tk_m_isF : am_tok (⟨"LostSheetsModel", "isF", "()Z"⟩, prog_11_method_20_code, m_isF) := ⟨am_dk dk_m_isF_0, ct_1142, rfl, by decide +kernel, ct_11, fun h => absurd h (by decide +kernel), by decide +kernel, by decide +kernel⟩
theorem tk_m_isOpened : am_tok (⟨"LostSheetsModel", "isOpened", "(I)Z"⟩, prog_11_method_19_code, m_isOpened) := ⟨am_dk dk_m_isOpened_0, ct_1146, rfl, by decide +kernel, ct_11, fun h => absurd h (by decide +kernel), by decide +kernel, by decide +kernel⟩
theorem tk_m_codes : am_tok (⟨"LostSheetsModel", "codes", "(I)Z"⟩, prog_11_method_17_code, m_codes) := ⟨am_dk dk_m_codes_0, ct_1150, rfl, by decide +kernel, ct_11, fun h => absurd h (by decide +kernel), by decide +kernel, by decide +kernel⟩
theorem tk_m_isTest : am_tok (⟨"LostSheetsModel", "isTest", "()Z"⟩, prog_11_method_18_code, m_isTest) := ⟨List.forall_mem_append.mpr ⟨am_dk dk_m_isTest_0, am_dk dk_m_isTest_1⟩, ct_1154, rfl, by decide +kernel, ct_11, fun h => absurd h (by decide +kernel), by decide +kernel, by decide +kernel⟩
theorem tk_js_indexOf : am_tok (⟨"java/lang/String", "indexOf", "(I)I"⟩, prog_15_method_79_code, js_indexOf) := ⟨am_dk dk_js_indexOf_0, ct_1159, rfl, by decide +kernel, ct_13, fun h => absurd h (by decide +kernel), by decide +kernel, by decide +kernel⟩
theorem tk_js_indexOf2 : am_tok (⟨"java/lang/String", "indexOf", "(II)I"⟩, prog_15_method_80_code, js_indexOf2) := ⟨am_dk dk_js_indexOf2_0, ct_1163, rfl, by decide +kernel, ct_13, fun h => absurd h (by decide +kernel), by decide +kernel, by decide +kernel⟩
theorem tk_jl_indexOf : am_tok (⟨"java/lang/StringLatin1", "indexOf", "([BIII)I"⟩, prog_16_method_22_code, jl_indexOf) := ⟨am_dk dk_jl_indexOf_0, ct_1167, rfl, by decide +kernel, ct_14, fun h => absurd h (by decide +kernel), by decide +kernel, by decide +kernel⟩
theorem tk_jl_canEncode : am_tok (⟨"java/lang/StringLatin1", "canEncode", "(I)Z"⟩, prog_16_method_4_code, jl_canEncode) := ⟨am_dk dk_jl_canEncode_0, ct_1170, rfl, by decide +kernel, ct_14, fun h => absurd h (by decide +kernel), by decide +kernel, by decide +kernel⟩
theorem tk_jl_indexOfChar : am_tok (⟨"java/lang/StringLatin1", "indexOfChar", "([BIII)I"⟩, prog_16_method_23_code, jl_indexOfChar) := ⟨am_dk dk_jl_indexOfChar_0, ct_1175, rfl, by decide +kernel, ct_14, fun h => absurd h (by decide +kernel), by decide +kernel, by decide +kernel⟩
theorem tk_js_checkBoundsBeginEnd : am_tok (⟨"java/lang/String", "checkBoundsBeginEnd", "(III)V"⟩, prog_15_method_158_code, js_checkBoundsBeginEnd) := ⟨am_dk dk_js_checkBoundsBeginEnd_0, ct_1190, rfl, by decide +kernel, ct_13, fun h => absurd h (by decide +kernel), by decide +kernel, by decide +kernel⟩
theorem tk_jp_checkFromToIndex : am_tok (⟨"jdk/internal/util/Preconditions", "checkFromToIndex", "(IIILjava/util/function/BiFunction;)I"⟩, prog_19_method_12_code, jp_checkFromToIndex) := ⟨am_dk dk_jp_checkFromToIndex_0, ct_1193, rfl, by decide +kernel, ct_15, fun h => absurd h (by decide +kernel), by decide +kernel, by decide +kernel⟩
theorem tk_m_told : am_tok (⟨"LostSheetsModel", "told", "(I)I"⟩, prog_11_method_38_code, m_told) := ⟨am_dk dk_m_told_0, ct_1215, rfl, by decide +kernel, ct_11, fun h => absurd h (by decide +kernel), by decide +kernel, by decide +kernel⟩
theorem tk_m_marksOf : am_tok (⟨"LostSheetsModel", "marksOf", "(I)I"⟩, prog_11_method_49_code, m_marksOf) := ⟨am_dk dk_m_marksOf_0, ct_1219, rfl, by decide +kernel, ct_11, fun h => absurd h (by decide +kernel), by decide +kernel, by decide +kernel⟩
theorem tk_m_allDone : am_tok (⟨"LostSheetsModel", "allDone", "()I"⟩, prog_11_method_36_code, m_allDone) := ⟨am_dk dk_m_allDone_0, ct_1223, rfl, by decide +kernel, ct_11, fun h => absurd h (by decide +kernel), by decide +kernel, by decide +kernel⟩
theorem tk_m_whole : am_tok (⟨"LostSheetsModel", "whole", "()I"⟩, prog_11_method_37_code, m_whole) := ⟨am_dk dk_m_whole_0, ct_1227, rfl, by decide +kernel, ct_11, fun h => absurd h (by decide +kernel), by decide +kernel, by decide +kernel⟩
theorem tk_m_pass : am_tok (⟨"LostSheetsModel", "pass", "(I)I"⟩, prog_11_method_39_code, m_pass) := ⟨am_dk dk_m_pass_0, ct_1232, rfl, by decide +kernel, ct_11, fun h => absurd h (by decide +kernel), by decide +kernel, by decide +kernel⟩
theorem tk_m_on : am_tok (⟨"LostSheetsModel", "on", "(II)I"⟩, prog_11_method_40_code, m_on) := ⟨am_dk dk_m_on_0, ct_1237, rfl, by decide +kernel, ct_11, fun h => absurd h (by decide +kernel), by decide +kernel, by decide +kernel⟩
theorem tk_m_goesOn : am_tok (⟨"LostSheetsModel", "goesOn", "(I)V"⟩, prog_11_method_35_code, m_goesOn) := ⟨am_dk dk_m_goesOn_0, ct_1241, rfl, by decide +kernel, ct_11, fun h => absurd h (by decide +kernel), by decide +kernel, by decide +kernel⟩
theorem tk_m_best : am_tok (⟨"LostSheetsModel", "best", "(II)I"⟩, prog_11_method_46_code, m_best) := ⟨am_dk dk_m_best_0, ct_1245, rfl, by decide +kernel, ct_11, fun h => absurd h (by decide +kernel), by decide +kernel, by decide +kernel⟩
theorem tk_m_crew : am_tok (⟨"LostSheetsModel", "crew", "(I)I"⟩, prog_11_method_45_code, m_crew) := ⟨List.forall_mem_append.mpr ⟨am_dk dk_m_crew_0, am_dk dk_m_crew_1⟩, ct_1249, rfl, by decide +kernel, ct_11, fun h => absurd h (by decide +kernel), by decide +kernel, by decide +kernel⟩
theorem tk_m_drawnBehind : am_tok (⟨"LostSheetsModel", "drawnBehind", "(I)I"⟩, prog_11_method_43_code, m_drawnBehind) := ⟨am_dk dk_m_drawnBehind_0, ct_1253, rfl, by decide +kernel, ct_11, fun h => absurd h (by decide +kernel), by decide +kernel, by decide +kernel⟩
theorem tk_m_landing : am_tok (⟨"LostSheetsModel", "landing", "(II)I"⟩, prog_11_method_44_code, m_landing) := ⟨am_dk dk_m_landing_0, ct_1258, rfl, by decide +kernel, ct_11, fun h => absurd h (by decide +kernel), by decide +kernel, by decide +kernel⟩
theorem tk_m_see : am_tok (⟨"LostSheetsModel", "see", "(III)I"⟩, prog_11_method_47_code, m_see) := ⟨am_dk dk_m_see_0, ct_1262, rfl, by decide +kernel, ct_11, fun h => absurd h (by decide +kernel), by decide +kernel, by decide +kernel⟩
theorem tk_m_can : am_tok (⟨"LostSheetsModel", "can", "(II)I"⟩, prog_11_method_51_code, m_can) := ⟨am_dk dk_m_can_0, ct_1266, rfl, by decide +kernel, ct_11, fun h => absurd h (by decide +kernel), by decide +kernel, by decide +kernel⟩
theorem tk_m_odds : am_tok (⟨"LostSheetsModel", "odds", "(III)J"⟩, prog_11_method_53_code, m_odds) := ⟨List.forall_mem_append.mpr ⟨am_dk dk_m_odds_0, am_dk dk_m_odds_1⟩, ct_1270, rfl, by decide +kernel, ct_11, fun h => absurd h (by decide +kernel), by decide +kernel, by decide +kernel⟩
theorem tk_m_part : am_tok (⟨"LostSheetsModel", "part", "(JJI)J"⟩, prog_11_method_52_code, m_part) := ⟨am_dk dk_m_part_0, ct_1275, rfl, by decide +kernel, ct_11, fun h => absurd h (by decide +kernel), by decide +kernel, by decide +kernel⟩
theorem tk_jm_abs : am_tok (⟨"java/lang/Math", "abs", "(J)J"⟩, prog_14_method_61_code, jm_abs) := ⟨am_dk dk_jm_abs_0, ct_1278, rfl, by decide +kernel, ct_6, fun h => absurd h (by decide +kernel), by decide +kernel, by decide +kernel⟩
theorem tk_m_mean : am_tok (⟨"LostSheetsModel", "mean", "(II)J"⟩, prog_11_method_55_code, m_mean) := ⟨am_dk dk_m_mean_0, ct_1282, rfl, by decide +kernel, ct_11, fun h => absurd h (by decide +kernel), by decide +kernel, by decide +kernel⟩
theorem tk_m_allDrew : am_tok (⟨"LostSheetsModel", "allDrew", "()I"⟩, prog_11_method_54_code, m_allDrew) := ⟨am_dk dk_m_allDrew_0, ct_1286, rfl, by decide +kernel, ct_11, fun h => absurd h (by decide +kernel), by decide +kernel, by decide +kernel⟩
theorem tk_m_plan : am_tok (⟨"LostSheetsModel", "plan", "(II)I"⟩, prog_11_method_56_code, m_plan) := ⟨am_dk dk_m_plan_0, ct_1290, rfl, by decide +kernel, ct_11, fun h => absurd h (by decide +kernel), by decide +kernel, by decide +kernel⟩
theorem tk_m_ends : am_tok (⟨"LostSheetsModel", "ends", "(I)I"⟩, prog_11_method_57_code, m_ends) := ⟨List.forall_mem_append.mpr ⟨am_dk dk_m_ends_0, am_dk dk_m_ends_1⟩, ct_1294, rfl, by decide +kernel, ct_11, fun h => absurd h (by decide +kernel), by decide +kernel, by decide +kernel⟩
theorem tk_m_book : am_tok (⟨"LostSheetsModel", "book", "(II)I"⟩, prog_11_method_58_code, m_book) := ⟨am_dk dk_m_book_0, ct_1298, rfl, by decide +kernel, ct_11, fun h => absurd h (by decide +kernel), by decide +kernel, by decide +kernel⟩
theorem tk_m_looked : am_tok (⟨"LostSheetsModel", "looked", "()I"⟩, prog_11_method_59_code, m_looked) := ⟨am_dk dk_m_looked_0, ct_1302, rfl, by decide +kernel, ct_11, fun h => absurd h (by decide +kernel), by decide +kernel, by decide +kernel⟩
theorem tk_m_judge : am_tok (⟨"LostSheetsModel", "judge", "(II)I"⟩, prog_11_method_60_code, m_judge) := ⟨List.forall_mem_append.mpr ⟨am_dk dk_m_judge_0, am_dk dk_m_judge_1⟩, ct_1306, rfl, by decide +kernel, ct_11, fun h => absurd h (by decide +kernel), by decide +kernel, by decide +kernel⟩
theorem tk_m_image : am_tok (⟨"LostSheetsModel", "image", "()I"⟩, prog_11_method_63_code, m_image) := ⟨am_dk dk_m_image_0, ct_1310, rfl, by decide +kernel, ct_11, fun h => absurd h (by decide +kernel), by decide +kernel, by decide +kernel⟩
theorem tk_m_undo : am_tok (⟨"LostSheetsModel", "undo", "()I"⟩, prog_11_method_64_code, m_undo) := ⟨am_dk dk_m_undo_0, ct_1314, rfl, by decide +kernel, ct_11, fun h => absurd h (by decide +kernel), by decide +kernel, by decide +kernel⟩
theorem tk_m_act : am_tok (⟨"LostSheetsModel", "act", "(III)I"⟩, prog_11_method_70_code, m_act) := ⟨am_dk dk_m_act_0, ct_1318, rfl, by decide +kernel, ct_11, fun h => absurd h (by decide +kernel), by decide +kernel, by decide +kernel⟩
theorem tk_m_weeps : am_tok (⟨"LostSheetsModel", "weeps", "(III)I"⟩, prog_11_method_67_code, m_weeps) := ⟨am_dk dk_m_weeps_0, ct_1322, rfl, by decide +kernel, ct_11, fun h => absurd h (by decide +kernel), by decide +kernel, by decide +kernel⟩
theorem tk_m_ran : am_tok (⟨"LostSheetsModel", "ran", "(I)V"⟩, prog_11_method_65_code, m_ran) := ⟨am_dk dk_m_ran_0, ct_1326, rfl, by decide +kernel, ct_11, fun h => absurd h (by decide +kernel), by decide +kernel, by decide +kernel⟩
theorem tk_m_above : am_tok (⟨"LostSheetsModel", "above", "(I)I"⟩, prog_11_method_66_code, m_above) := ⟨am_dk dk_m_above_0, ct_1329, rfl, by decide +kernel, ct_11, fun h => absurd h (by decide +kernel), by decide +kernel, by decide +kernel⟩
theorem tk_m_draws : am_tok (⟨"LostSheetsModel", "draws", "(III)I"⟩, prog_11_method_68_code, m_draws) := ⟨List.forall_mem_append.mpr ⟨am_dk dk_m_draws_0, am_dk dk_m_draws_1⟩, ct_1333, rfl, by decide +kernel, ct_11, fun h => absurd h (by decide +kernel), by decide +kernel, by decide +kernel⟩
theorem tk_m_tells : am_tok (⟨"LostSheetsModel", "tells", "(III)I"⟩, prog_11_method_69_code, m_tells) := ⟨am_dk dk_m_tells_0, ct_1337, rfl, by decide +kernel, ct_11, fun h => absurd h (by decide +kernel), by decide +kernel, by decide +kernel⟩
theorem tk_m_trace : am_tok (⟨"LostSheetsModel", "trace", "(I)I"⟩, prog_11_method_71_code, m_trace) := ⟨am_dk dk_m_trace_0, ct_1341, rfl, by decide +kernel, ct_11, fun h => absurd h (by decide +kernel), by decide +kernel, by decide +kernel⟩
theorem tk_m_taken : am_tok (⟨"LostSheetsModel", "taken", "(II)I"⟩, prog_11_method_72_code, m_taken) := ⟨am_dk dk_m_taken_0, ct_1345, rfl, by decide +kernel, ct_11, fun h => absurd h (by decide +kernel), by decide +kernel, by decide +kernel⟩
theorem tk_m_count : am_tok (⟨"LostSheetsModel", "count", "(I)I"⟩, prog_11_method_73_code, m_count) := ⟨am_dk dk_m_count_0, ct_1349, rfl, by decide +kernel, ct_11, fun h => absurd h (by decide +kernel), by decide +kernel, by decide +kernel⟩
theorem tk_m_tape : am_tok (⟨"LostSheetsModel", "tape", "(III)I"⟩, prog_11_method_75_code, m_tape) := ⟨am_dk dk_m_tape_0, ct_1353, rfl, by decide +kernel, ct_11, fun h => absurd h (by decide +kernel), by decide +kernel, by decide +kernel⟩
theorem tk_m_isTape : am_tok (⟨"LostSheetsModel", "isTape", "(I)Z"⟩, prog_11_method_74_code, m_isTape) := ⟨am_dk dk_m_isTape_0, ct_1356, rfl, by decide +kernel, ct_11, fun h => absurd h (by decide +kernel), by decide +kernel, by decide +kernel⟩
theorem tk_m_item : am_tok (⟨"LostSheetsModel", "item", "(IIJ)I"⟩, prog_11_method_77_code, m_item) := ⟨am_dk dk_m_item_0, ct_1360, rfl, by decide +kernel, ct_11, fun h => absurd h (by decide +kernel), by decide +kernel, by decide +kernel⟩
theorem tk_m_kept : am_tok (⟨"LostSheetsModel", "kept", "(IJ)J"⟩, prog_11_method_76_code, m_kept) := ⟨am_dk dk_m_kept_0, ct_1363, rfl, by decide +kernel, ct_11, fun h => absurd h (by decide +kernel), by decide +kernel, by decide +kernel⟩
theorem tk_m_read : am_tok (⟨"LostSheetsModel", "read", "(II)J"⟩, prog_11_method_78_code, m_read) := ⟨am_dk dk_m_read_0, ct_1367, rfl, by decide +kernel, ct_11, fun h => absurd h (by decide +kernel), by decide +kernel, by decide +kernel⟩
theorem tk_m_shift : am_tok (⟨"LostSheetsModel", "shift", "(IIIII)I"⟩, prog_11_method_79_code, m_shift) := ⟨List.forall_mem_append.mpr ⟨am_dk dk_m_shift_0, List.forall_mem_append.mpr ⟨am_dk dk_m_shift_1, am_dk dk_m_shift_2⟩⟩, ct_1371, rfl, by decide +kernel, ct_11, fun h => absurd h (by decide +kernel), by decide +kernel, by decide +kernel⟩
theorem am_msO_0 : ∀ t ∈ am_ms_0, am_tok t := List.forall_mem_cons.mpr ⟨tk_k_init, List.forall_mem_cons.mpr ⟨tk_la_init, List.forall_mem_cons.mpr ⟨tk_dr_init, List.forall_mem_cons.mpr ⟨tk_bh_init, List.forall_mem_cons.mpr ⟨tk_ro_init, List.forall_mem_cons.mpr ⟨tk_jm_max, List.forall_mem_cons.mpr ⟨tk_tx_init, List.forall_mem_cons.mpr ⟨tk_tr_init, List.forall_mem_cons.mpr ⟨tk_of_init, List.forall_mem_cons.mpr ⟨tk_tp_init, List.forall_mem_cons.mpr ⟨tk_k_drawer, List.forall_mem_cons.mpr ⟨tk_k_isCell, List.forall_mem_cons.mpr ⟨tk_k_isDigit, List.forall_mem_cons.mpr ⟨tk_la_addDrawer, List.forall_mem_cons.mpr ⟨tk_dr_begins, List.forall_mem_cons.mpr ⟨tk_k_of, List.forall_mem_cons.mpr ⟨tk_la_drawerAt, List.forall_mem_cons.mpr ⟨tk_la_feelOf, List.forall_mem_cons.mpr ⟨tk_la_answersOf, List.forall_mem_cons.mpr ⟨tk_la_markAt, List.forall_mem_cons.mpr ⟨tk_of_turnsBy, List.forall_mem_cons.mpr ⟨tk_of_holds, List.forall_mem_cons.mpr ⟨tk_la_othersWith, List.forall_mem_cons.mpr ⟨tk_jm_floorMod, List.forall_mem_cons.mpr ⟨tk_la_wayOf, List.forall_mem_cons.mpr ⟨tk_la_cameOf, List.forall_mem_cons.mpr ⟨tk_la_endBySheet, List.forall_mem_cons.mpr ⟨tk_la_stepFrom, List.forall_mem_cons.mpr ⟨tk_la_hereOf, List.forall_mem_cons.mpr ⟨tk_la_lookOf, List.forall_mem_cons.mpr ⟨tk_la_mostAtOneMark, List.forall_mem_cons.mpr ⟨tk_k_isMark, fun _ h => absurd h List.not_mem_nil⟩⟩⟩⟩⟩⟩⟩⟩⟩⟩⟩⟩⟩⟩⟩⟩⟩⟩⟩⟩⟩⟩⟩⟩⟩⟩⟩⟩⟩⟩⟩⟩
theorem am_msO_1 : ∀ t ∈ am_ms_1, am_tok t := List.forall_mem_cons.mpr ⟨tk_k_placesOf, List.forall_mem_cons.mpr ⟨tk_k_tryAt, List.forall_mem_cons.mpr ⟨tk_la_copyFrom, List.forall_mem_cons.mpr ⟨tk_dr_copyFrom, List.forall_mem_cons.mpr ⟨tk_la_putAt, List.forall_mem_cons.mpr ⟨tk_k_seenIsSo, List.forall_mem_cons.mpr ⟨tk_bh_lastHourSeen, List.forall_mem_cons.mpr ⟨tk_k_seenIsSoIn, List.forall_mem_cons.mpr ⟨tk_la_whereIs, List.forall_mem_cons.mpr ⟨tk_la_hoursGo, List.forall_mem_cons.mpr ⟨tk_la_anyGoes, List.forall_mem_cons.mpr ⟨tk_dr_goes, List.forall_mem_cons.mpr ⟨tk_la_hourGoes, List.forall_mem_cons.mpr ⟨tk_la_know, List.forall_mem_cons.mpr ⟨tk_la_stepsAndDraws, List.forall_mem_cons.mpr ⟨tk_dr_writes, List.forall_mem_cons.mpr ⟨tk_dr_rowsWith, List.forall_mem_cons.mpr ⟨tk_k_sheet, List.forall_mem_cons.mpr ⟨tk_k_put, List.forall_mem_cons.mpr ⟨tk_k_anew, List.forall_mem_cons.mpr ⟨tk_k_mark, List.forall_mem_cons.mpr ⟨tk_la_setMark, List.forall_mem_cons.mpr ⟨tk_k_row, List.forall_mem_cons.mpr ⟨tk_k_feed, List.forall_mem_cons.mpr ⟨tk_tx_append, List.forall_mem_cons.mpr ⟨tk_k_office, List.forall_mem_cons.mpr ⟨tk_tx_readInto, List.forall_mem_cons.mpr ⟨tk_of_clear, List.forall_mem_cons.mpr ⟨tk_tx_clause, List.forall_mem_cons.mpr ⟨tk_tx_ahead, List.forall_mem_cons.mpr ⟨tk_tx_takesAll, List.forall_mem_cons.mpr ⟨tk_js_length, fun _ h => absurd h List.not_mem_nil⟩⟩⟩⟩⟩⟩⟩⟩⟩⟩⟩⟩⟩⟩⟩⟩⟩⟩⟩⟩⟩⟩⟩⟩⟩⟩⟩⟩⟩⟩⟩⟩
theorem am_msO_2 : ∀ t ∈ am_ms_2, am_tok t := List.forall_mem_cons.mpr ⟨tk_js_coder, List.forall_mem_cons.mpr ⟨tk_js_charAt, List.forall_mem_cons.mpr ⟨tk_js_isLatin1, List.forall_mem_cons.mpr ⟨tk_jl_charAt, List.forall_mem_cons.mpr ⟨tk_js_checkIndex, List.forall_mem_cons.mpr ⟨tk_jp_checkIndex, List.forall_mem_cons.mpr ⟨tk_tx_takes, List.forall_mem_cons.mpr ⟨tk_tx_oneOrTwoDigits, List.forall_mem_cons.mpr ⟨tk_tx_anyOf, List.forall_mem_cons.mpr ⟨tk_tx_allOf, List.forall_mem_cons.mpr ⟨tk_tx_one, List.forall_mem_cons.mpr ⟨tk_tx_test, List.forall_mem_cons.mpr ⟨tk_tx_placeIn, List.forall_mem_cons.mpr ⟨tk_of_append, List.forall_mem_cons.mpr ⟨tk_tx_not, List.forall_mem_cons.mpr ⟨tk_tx_inBrackets, List.forall_mem_cons.mpr ⟨tk_k_told, List.forall_mem_cons.mpr ⟨tk_k_marksOf, List.forall_mem_cons.mpr ⟨tk_la_doneBits, List.forall_mem_cons.mpr ⟨tk_k_whole, List.forall_mem_cons.mpr ⟨tk_k_pass, List.forall_mem_cons.mpr ⟨tk_la_capDrew, List.forall_mem_cons.mpr ⟨tk_jm_min, List.forall_mem_cons.mpr ⟨tk_k_on, List.forall_mem_cons.mpr ⟨tk_k_drawerBehindTen, List.forall_mem_cons.mpr ⟨tk_k_best, List.forall_mem_cons.mpr ⟨tk_k_crew, List.forall_mem_cons.mpr ⟨tk_ji_bitCount, List.forall_mem_cons.mpr ⟨tk_la_othersAreDone, List.forall_mem_cons.mpr ⟨tk_k_landing, List.forall_mem_cons.mpr ⟨tk_k_see, List.forall_mem_cons.mpr ⟨tk_ro_clear, fun _ h => absurd h List.not_mem_nil⟩⟩⟩⟩⟩⟩⟩⟩⟩⟩⟩⟩⟩⟩⟩⟩⟩⟩⟩⟩⟩⟩⟩⟩⟩⟩⟩⟩⟩⟩⟩⟩
theorem am_msO_3 : ∀ t ∈ am_ms_3, am_tok t := List.forall_mem_cons.mpr ⟨tk_ro_append, List.forall_mem_cons.mpr ⟨tk_k_can, List.forall_mem_cons.mpr ⟨tk_k_possibleNumbers, List.forall_mem_cons.mpr ⟨tk_la_setNumber, List.forall_mem_cons.mpr ⟨tk_k_leastOf, List.forall_mem_cons.mpr ⟨tk_k_odds, List.forall_mem_cons.mpr ⟨tk_k_partOfFraction, List.forall_mem_cons.mpr ⟨tk_k_greatestDivisor, List.forall_mem_cons.mpr ⟨tk_k_mean, List.forall_mem_cons.mpr ⟨tk_la_drewOfAll, List.forall_mem_cons.mpr ⟨tk_k_plan, List.forall_mem_cons.mpr ⟨tk_k_isPlanRow, List.forall_mem_cons.mpr ⟨tk_k_ends, List.forall_mem_cons.mpr ⟨tk_k_tryPlan, List.forall_mem_cons.mpr ⟨tk_la_emptySheet, List.forall_mem_cons.mpr ⟨tk_la_notDone, List.forall_mem_cons.mpr ⟨tk_k_book, List.forall_mem_cons.mpr ⟨tk_k_looked, List.forall_mem_cons.mpr ⟨tk_k_judge, List.forall_mem_cons.mpr ⟨tk_k_tapeAt, List.forall_mem_cons.mpr ⟨tk_tp_has, List.forall_mem_cons.mpr ⟨tk_k_image, List.forall_mem_cons.mpr ⟨tk_bh_copyFrom, List.forall_mem_cons.mpr ⟨tk_ro_copyFrom, List.forall_mem_cons.mpr ⟨tk_k_undo, List.forall_mem_cons.mpr ⟨tk_k_act, List.forall_mem_cons.mpr ⟨tk_tr_ofAct, List.forall_mem_cons.mpr ⟨tk_tr_run, List.forall_mem_cons.mpr ⟨tk_tr_bodyOf, List.forall_mem_cons.mpr ⟨tk_k_aboveOf, List.forall_mem_cons.mpr ⟨tk_tr_begins, List.forall_mem_cons.mpr ⟨tk_tr_does, fun _ h => absurd h List.not_mem_nil⟩⟩⟩⟩⟩⟩⟩⟩⟩⟩⟩⟩⟩⟩⟩⟩⟩⟩⟩⟩⟩⟩⟩⟩⟩⟩⟩⟩⟩⟩⟩⟩
theorem am_msO_4 : ∀ t ∈ am_ms_4, am_tok t := List.forall_mem_cons.mpr ⟨tk_k_trace, List.forall_mem_cons.mpr ⟨tk_k_taken, List.forall_mem_cons.mpr ⟨tk_k_isUnder, List.forall_mem_cons.mpr ⟨tk_k_count, List.forall_mem_cons.mpr ⟨tk_k_tape, List.forall_mem_cons.mpr ⟨tk_tp_becomes, List.forall_mem_cons.mpr ⟨tk_k_item, List.forall_mem_cons.mpr ⟨tk_tp_asItem, List.forall_mem_cons.mpr ⟨tk_k_read, List.forall_mem_cons.mpr ⟨tk_k_shift, List.forall_mem_cons.mpr ⟨tk_tp_hasRun, List.forall_mem_cons.mpr ⟨tk_m_init, List.forall_mem_cons.mpr ⟨tk_m_drawer, List.forall_mem_cons.mpr ⟨tk_m_within, List.forall_mem_cons.mpr ⟨tk_m_isCell, List.forall_mem_cons.mpr ⟨tk_m_of, List.forall_mem_cons.mpr ⟨tk_m_isOne, List.forall_mem_cons.mpr ⟨tk_m_feel, List.forall_mem_cons.mpr ⟨tk_m_sum, List.forall_mem_cons.mpr ⟨tk_m_isTrue, List.forall_mem_cons.mpr ⟨tk_m_letterOf, List.forall_mem_cons.mpr ⟨tk_m_others, List.forall_mem_cons.mpr ⟨tk_m_wayOf, List.forall_mem_cons.mpr ⟨tk_m_came, List.forall_mem_cons.mpr ⟨tk_m_step, List.forall_mem_cons.mpr ⟨tk_m_look, List.forall_mem_cons.mpr ⟨tk_m_places, List.forall_mem_cons.mpr ⟨tk_m_isSeen, List.forall_mem_cons.mpr ⟨tk_m_keep, List.forall_mem_cons.mpr ⟨tk_m_goesHour, List.forall_mem_cons.mpr ⟨tk_m_know, List.forall_mem_cons.mpr ⟨tk_m_goesBy, fun _ h => absurd h List.not_mem_nil⟩⟩⟩⟩⟩⟩⟩⟩⟩⟩⟩⟩⟩⟩⟩⟩⟩⟩⟩⟩⟩⟩⟩⟩⟩⟩⟩⟩⟩⟩⟩⟩
theorem am_msO_5 : ∀ t ∈ am_ms_5, am_tok t := List.forall_mem_cons.mpr ⟨tk_m_again, List.forall_mem_cons.mpr ⟨tk_m_sheet, List.forall_mem_cons.mpr ⟨tk_m_put, List.forall_mem_cons.mpr ⟨tk_m_anew, List.forall_mem_cons.mpr ⟨tk_m_mark, List.forall_mem_cons.mpr ⟨tk_m_row, List.forall_mem_cons.mpr ⟨tk_m_feed, List.forall_mem_cons.mpr ⟨tk_m_office, List.forall_mem_cons.mpr ⟨tk_m_isClause, List.forall_mem_cons.mpr ⟨tk_m_isAll, List.forall_mem_cons.mpr ⟨tk_m_is, List.forall_mem_cons.mpr ⟨tk_m_isNumber, List.forall_mem_cons.mpr ⟨tk_m_isDigit, List.forall_mem_cons.mpr ⟨tk_m_isE, List.forall_mem_cons.mpr ⟨tk_m_isT, List.forall_mem_cons.mpr ⟨tk_m_isF, List.forall_mem_cons.mpr ⟨tk_m_isOpened, List.forall_mem_cons.mpr ⟨tk_m_codes, List.forall_mem_cons.mpr ⟨tk_m_isTest, List.forall_mem_cons.mpr ⟨tk_js_indexOf, List.forall_mem_cons.mpr ⟨tk_js_indexOf2, List.forall_mem_cons.mpr ⟨tk_jl_indexOf, List.forall_mem_cons.mpr ⟨tk_jl_canEncode, List.forall_mem_cons.mpr ⟨tk_jl_indexOfChar, List.forall_mem_cons.mpr ⟨tk_js_checkBoundsBeginEnd, List.forall_mem_cons.mpr ⟨tk_jp_checkFromToIndex, List.forall_mem_cons.mpr ⟨tk_m_told, List.forall_mem_cons.mpr ⟨tk_m_marksOf, List.forall_mem_cons.mpr ⟨tk_m_allDone, List.forall_mem_cons.mpr ⟨tk_m_whole, List.forall_mem_cons.mpr ⟨tk_m_pass, List.forall_mem_cons.mpr ⟨tk_m_on, fun _ h => absurd h List.not_mem_nil⟩⟩⟩⟩⟩⟩⟩⟩⟩⟩⟩⟩⟩⟩⟩⟩⟩⟩⟩⟩⟩⟩⟩⟩⟩⟩⟩⟩⟩⟩⟩⟩
theorem am_msO_6 : ∀ t ∈ am_ms_6, am_tok t := List.forall_mem_cons.mpr ⟨tk_m_goesOn, List.forall_mem_cons.mpr ⟨tk_m_best, List.forall_mem_cons.mpr ⟨tk_m_crew, List.forall_mem_cons.mpr ⟨tk_m_drawnBehind, List.forall_mem_cons.mpr ⟨tk_m_landing, List.forall_mem_cons.mpr ⟨tk_m_see, List.forall_mem_cons.mpr ⟨tk_m_can, List.forall_mem_cons.mpr ⟨tk_m_odds, List.forall_mem_cons.mpr ⟨tk_m_part, List.forall_mem_cons.mpr ⟨tk_jm_abs, List.forall_mem_cons.mpr ⟨tk_m_mean, List.forall_mem_cons.mpr ⟨tk_m_allDrew, List.forall_mem_cons.mpr ⟨tk_m_plan, List.forall_mem_cons.mpr ⟨tk_m_ends, List.forall_mem_cons.mpr ⟨tk_m_book, List.forall_mem_cons.mpr ⟨tk_m_looked, List.forall_mem_cons.mpr ⟨tk_m_judge, List.forall_mem_cons.mpr ⟨tk_m_image, List.forall_mem_cons.mpr ⟨tk_m_undo, List.forall_mem_cons.mpr ⟨tk_m_act, List.forall_mem_cons.mpr ⟨tk_m_weeps, List.forall_mem_cons.mpr ⟨tk_m_ran, List.forall_mem_cons.mpr ⟨tk_m_above, List.forall_mem_cons.mpr ⟨tk_m_draws, List.forall_mem_cons.mpr ⟨tk_m_tells, List.forall_mem_cons.mpr ⟨tk_m_trace, List.forall_mem_cons.mpr ⟨tk_m_taken, List.forall_mem_cons.mpr ⟨tk_m_count, List.forall_mem_cons.mpr ⟨tk_m_tape, List.forall_mem_cons.mpr ⟨tk_m_isTape, List.forall_mem_cons.mpr ⟨tk_m_item, List.forall_mem_cons.mpr ⟨tk_m_kept, fun _ h => absurd h List.not_mem_nil⟩⟩⟩⟩⟩⟩⟩⟩⟩⟩⟩⟩⟩⟩⟩⟩⟩⟩⟩⟩⟩⟩⟩⟩⟩⟩⟩⟩⟩⟩⟩⟩
theorem am_msO_7 : ∀ t ∈ am_ms_7, am_tok t := List.forall_mem_cons.mpr ⟨tk_m_read, List.forall_mem_cons.mpr ⟨tk_m_shift, fun _ h => absurd h List.not_mem_nil⟩⟩
theorem am_msO : ∀ t ∈ am_ms, am_tok t := by
  show ∀ t ∈ am_ms_0 ++ (am_ms_1 ++ (am_ms_2 ++ (am_ms_3 ++ (am_ms_4 ++ (am_ms_5 ++ (am_ms_6 ++ (am_ms_7))))))), am_tok t
  exact List.forall_mem_append.mpr ⟨am_msO_0, List.forall_mem_append.mpr ⟨am_msO_1, List.forall_mem_append.mpr ⟨am_msO_2, List.forall_mem_append.mpr ⟨am_msO_3, List.forall_mem_append.mpr ⟨am_msO_4, List.forall_mem_append.mpr ⟨am_msO_5, List.forall_mem_append.mpr ⟨am_msO_6, am_msO_7⟩⟩⟩⟩⟩⟩⟩
def am_mkP (o idx k : Nat) (y : MethodName) (ret : Option FieldType) : Prop := match k with
  | 0 => Cond.methodLink (am_cn o) idx y ∈ lw_tbl ∧ Cond.instanceMethod y ∈ lw_tbl ∧ Cond.selects y.cls y y ∈ lw_tbl
  | 1 => Cond.methodLink (am_cn o) idx y ∈ lw_tbl ∧ Cond.static y ∈ lw_tbl
  | 2 => Cond.methodLink (am_cn o) idx y ∈ lw_tbl ∧ Cond.instanceMethod y ∈ lw_tbl ∧ y.name = "<init>" ∧ ret = none
  | 3 => Cond.methodLinkNest (am_cn o) idx y "LostSheets" ∈ lw_tbl ∧ Cond.instanceMethod y ∈ lw_tbl ∧ Cond.selects y.cls y y ∈ lw_tbl
  | 4 => Cond.methodLinkNest (am_cn o) idx y "LostSheets" ∈ lw_tbl ∧ Cond.static y ∈ lw_tbl
  | 5 => Cond.methodLinkNest (am_cn o) idx y "LostSheets" ∈ lw_tbl ∧ Cond.instanceMethod y ∈ lw_tbl ∧ y.name = "<init>" ∧ ret = none
  | _ => False
def am_mok (o : Nat) (e : Nat × (Nat × (Nat × Nat))) : Prop := (e.2.1 = 6 ∧ Cond.methodLink (am_cn o) e.1 Lib.objectInit ∈ lw_tbl) ∨ (e.2.1 = 7 ∧ Cond.methodLink (am_cn o) e.1 arraycopyName ∈ lw_tbl) ∨ (e.2.1 < 6 ∧ ∃ t, am_ms[e.2.2.1]? = some t ∧ (t.1.cls ≠ "java/lang/invoke/MethodHandle" ∧ t.1.cls ≠ "java/lang/invoke/VarHandle" ∧ (parseMethodDescriptor t.1.desc).map (fun d => d.parameters.length) = some e.2.2.2) ∧ am_mkP o e.1 e.2.1 t.1 t.2.2.2.1)
theorem ky_0 : am_ms[0]? = some (⟨"LostSheets", "<init>", "()V"⟩, prog_1_method_1_code, k_init) := rfl
theorem ky_1 : am_ms[1]? = some (⟨"LostSheets$Land", "<init>", "()V"⟩, prog_4_method_1_code, la_init) := rfl
theorem ky_2 : am_ms[2]? = some (⟨"LostSheets$Drawer", "<init>", "(I)V"⟩, prog_3_method_1_code, dr_init) := rfl
theorem ky_3 : am_ms[3]? = some (⟨"LostSheets$ByHand", "<init>", "()V"⟩, prog_2_method_1_code, bh_init) := rfl
theorem ky_4 : am_ms[4]? = some (⟨"LostSheets$Rows", "<init>", "(I)V"⟩, prog_6_method_1_code, ro_init) := rfl
theorem ky_5 : am_ms[5]? = some (⟨"java/lang/Math", "max", "(II)I"⟩, prog_14_method_65_code, jm_max) := rfl
theorem ky_6 : am_ms[6]? = some (⟨"LostSheets$Text", "<init>", "()V"⟩, prog_8_method_1_code, tx_init) := rfl
theorem ky_7 : am_ms[7]? = some (⟨"LostSheets$Trace", "<init>", "()V"⟩, prog_9_method_1_code, tr_init) := rfl
theorem ky_8 : am_ms[8]? = some (⟨"LostSheets$Office", "<init>", "()V"⟩, prog_5_method_1_code, of_init) := rfl
theorem ky_9 : am_ms[9]? = some (⟨"LostSheets$Tape", "<init>", "()V"⟩, prog_7_method_1_code, tp_init) := rfl
theorem ky_10 : am_ms[10]? = some (⟨"LostSheets", "drawer", "(III)I"⟩, prog_1_method_2_code, k_drawer) := rfl
theorem ky_11 : am_ms[11]? = some (⟨"LostSheets", "isCell", "(I)Z"⟩, prog_1_method_34_code, k_isCell) := rfl
theorem ky_12 : am_ms[12]? = some (⟨"LostSheets", "isDigit", "(I)Z"⟩, prog_1_method_36_code, k_isDigit) := rfl
theorem ky_13 : am_ms[13]? = some (⟨"LostSheets$Land", "addDrawer", "(III)Z"⟩, prog_4_method_4_code, la_addDrawer) := rfl
theorem ky_14 : am_ms[14]? = some (⟨"LostSheets$Drawer", "begins", "(III)V"⟩, prog_3_method_2_code, dr_begins) := rfl
theorem ky_15 : am_ms[15]? = some (⟨"LostSheets", "of", "(II)I"⟩, prog_1_method_3_code, k_of) := rfl
theorem ky_16 : am_ms[16]? = some (⟨"LostSheets$Land", "drawerAt", "(I)LLostSheets$Drawer;"⟩, prog_4_method_3_code, la_drawerAt) := rfl
theorem ky_17 : am_ms[17]? = some (⟨"LostSheets$Land", "feelOf", "(LLostSheets$Drawer;)I"⟩, prog_4_method_19_code, la_feelOf) := rfl
theorem ky_18 : am_ms[18]? = some (⟨"LostSheets$Land", "answersOf", "(LLostSheets$Drawer;)[I"⟩, prog_4_method_17_code, la_answersOf) := rfl
theorem ky_19 : am_ms[19]? = some (⟨"LostSheets$Land", "markAt", "(I)I"⟩, prog_4_method_5_code, la_markAt) := rfl
theorem ky_20 : am_ms[20]? = some (⟨"LostSheets$Office", "turnsBy", "([I)I"⟩, prog_5_method_4_code, of_turnsBy) := rfl
theorem ky_21 : am_ms[21]? = some (⟨"LostSheets$Office", "holds", "([III)I"⟩, prog_5_method_5_code, of_holds) := rfl
theorem ky_22 : am_ms[22]? = some (⟨"LostSheets$Land", "othersWith", "(LLostSheets$Drawer;)I"⟩, prog_4_method_18_code, la_othersWith) := rfl
theorem ky_23 : am_ms[23]? = some (⟨"java/lang/Math", "floorMod", "(II)I"⟩, prog_14_method_50_code, jm_floorMod) := rfl
theorem ky_24 : am_ms[24]? = some (⟨"LostSheets$Land", "wayOf", "(LLostSheets$Drawer;)I"⟩, prog_4_method_20_code, la_wayOf) := rfl
theorem ky_25 : am_ms[25]? = some (⟨"LostSheets$Land", "cameOf", "(LLostSheets$Drawer;)I"⟩, prog_4_method_27_code, la_cameOf) := rfl
theorem ky_26 : am_ms[26]? = some (⟨"LostSheets$Land", "endBySheet", "(LLostSheets$Drawer;I)I"⟩, prog_4_method_26_code, la_endBySheet) := rfl
theorem ky_27 : am_ms[27]? = some (⟨"LostSheets$Land", "stepFrom", "(II)I"⟩, prog_4_method_25_code, la_stepFrom) := rfl
theorem ky_28 : am_ms[28]? = some (⟨"LostSheets$Land", "hereOf", "(LLostSheets$Drawer;)I"⟩, prog_4_method_28_code, la_hereOf) := rfl
theorem ky_29 : am_ms[29]? = some (⟨"LostSheets$Land", "lookOf", "(LLostSheets$Drawer;)I"⟩, prog_4_method_29_code, la_lookOf) := rfl
theorem ky_30 : am_ms[30]? = some (⟨"LostSheets$Land", "mostAtOneMark", "(II)I"⟩, prog_4_method_30_code, la_mostAtOneMark) := rfl
theorem ky_31 : am_ms[31]? = some (⟨"LostSheets", "isMark", "(I)Z"⟩, prog_1_method_35_code, k_isMark) := rfl
theorem ky_32 : am_ms[32]? = some (⟨"LostSheets", "placesOf", "(LLostSheets$Drawer;)I"⟩, prog_1_method_47_code, k_placesOf) := rfl
theorem ky_33 : am_ms[33]? = some (⟨"LostSheets", "tryAt", "(II)V"⟩, prog_1_method_42_code, k_tryAt) := rfl
theorem ky_34 : am_ms[34]? = some (⟨"LostSheets$Land", "copyFrom", "(LLostSheets$Land;)V"⟩, prog_4_method_2_code, la_copyFrom) := rfl
theorem ky_35 : am_ms[35]? = some (⟨"LostSheets$Drawer", "copyFrom", "(LLostSheets$Drawer;)V"⟩, prog_3_method_3_code, dr_copyFrom) := rfl
theorem ky_36 : am_ms[36]? = some (⟨"LostSheets$Land", "putAt", "(II)V"⟩, prog_4_method_8_code, la_putAt) := rfl
theorem ky_37 : am_ms[37]? = some (⟨"LostSheets", "seenIsSo", "()Z"⟩, prog_1_method_50_code, k_seenIsSo) := rfl
theorem ky_38 : am_ms[38]? = some (⟨"LostSheets$ByHand", "lastHourSeen", "()I"⟩, prog_2_method_3_code, bh_lastHourSeen) := rfl
theorem ky_39 : am_ms[39]? = some (⟨"LostSheets", "seenIsSoIn", "(I)Z"⟩, prog_1_method_51_code, k_seenIsSoIn) := rfl
theorem ky_40 : am_ms[40]? = some (⟨"LostSheets$Land", "whereIs", "(I)I"⟩, prog_4_method_7_code, la_whereIs) := rfl
theorem ky_41 : am_ms[41]? = some (⟨"LostSheets$Land", "hoursGo", "(I)V"⟩, prog_4_method_23_code, la_hoursGo) := rfl
theorem ky_42 : am_ms[42]? = some (⟨"LostSheets$Land", "anyGoes", "()Z"⟩, prog_4_method_24_code, la_anyGoes) := rfl
theorem ky_43 : am_ms[43]? = some (⟨"LostSheets$Drawer", "goes", "()Z"⟩, prog_3_method_4_code, dr_goes) := rfl
theorem ky_44 : am_ms[44]? = some (⟨"LostSheets$Land", "hourGoes", "()V"⟩, prog_4_method_21_code, la_hourGoes) := rfl
theorem ky_45 : am_ms[45]? = some (⟨"LostSheets$Land", "know", "()I"⟩, prog_4_method_16_code, la_know) := rfl
theorem ky_46 : am_ms[46]? = some (⟨"LostSheets$Land", "stepsAndDraws", "(LLostSheets$Drawer;II)V"⟩, prog_4_method_22_code, la_stepsAndDraws) := rfl
theorem ky_47 : am_ms[47]? = some (⟨"LostSheets$Drawer", "writes", "(II)V"⟩, prog_3_method_5_code, dr_writes) := rfl
theorem ky_48 : am_ms[48]? = some (⟨"LostSheets$Drawer", "rowsWith", "(I)I"⟩, prog_3_method_6_code, dr_rowsWith) := rfl
theorem ky_49 : am_ms[49]? = some (⟨"LostSheets", "sheet", "(II)I"⟩, prog_1_method_4_code, k_sheet) := rfl
theorem ky_50 : am_ms[50]? = some (⟨"LostSheets", "put", "(II)I"⟩, prog_1_method_5_code, k_put) := rfl
theorem ky_51 : am_ms[51]? = some (⟨"LostSheets", "anew", "(I)I"⟩, prog_1_method_6_code, k_anew) := rfl
theorem ky_52 : am_ms[52]? = some (⟨"LostSheets", "mark", "(II)I"⟩, prog_1_method_7_code, k_mark) := rfl
theorem ky_53 : am_ms[53]? = some (⟨"LostSheets$Land", "setMark", "(II)V"⟩, prog_4_method_6_code, la_setMark) := rfl
theorem ky_54 : am_ms[54]? = some (⟨"LostSheets", "row", "(III)I"⟩, prog_1_method_8_code, k_row) := rfl
theorem ky_55 : am_ms[55]? = some (⟨"LostSheets", "feed", "(I)I"⟩, prog_1_method_9_code, k_feed) := rfl
theorem ky_56 : am_ms[56]? = some (⟨"LostSheets$Text", "append", "(I)Z"⟩, prog_8_method_2_code, tx_append) := rfl
theorem ky_57 : am_ms[57]? = some (⟨"LostSheets", "office", "()I"⟩, prog_1_method_10_code, k_office) := rfl
theorem ky_58 : am_ms[58]? = some (⟨"LostSheets$Text", "readInto", "(LLostSheets$Office;)I"⟩, prog_8_method_3_code, tx_readInto) := rfl
theorem ky_59 : am_ms[59]? = some (⟨"LostSheets$Office", "clear", "()V"⟩, prog_5_method_2_code, of_clear) := rfl
theorem ky_60 : am_ms[60]? = some (⟨"LostSheets$Text", "clause", "()Z"⟩, prog_8_method_8_code, tx_clause) := rfl
theorem ky_61 : am_ms[61]? = some (⟨"LostSheets$Text", "ahead", "()I"⟩, prog_8_method_4_code, tx_ahead) := rfl
theorem ky_62 : am_ms[62]? = some (⟨"LostSheets$Text", "takesAll", "(Ljava/lang/String;)Z"⟩, prog_8_method_6_code, tx_takesAll) := rfl
theorem ky_63 : am_ms[63]? = some (⟨"java/lang/String", "length", "()I"⟩, prog_15_method_54_code, js_length) := rfl
theorem ky_64 : am_ms[64]? = some (⟨"java/lang/String", "coder", "()B"⟩, prog_15_method_152_code, js_coder) := rfl
theorem ky_65 : am_ms[65]? = some (⟨"java/lang/String", "charAt", "(I)C"⟩, prog_15_method_56_code, js_charAt) := rfl
theorem ky_66 : am_ms[66]? = some (⟨"java/lang/String", "isLatin1", "()Z"⟩, prog_15_method_154_code, js_isLatin1) := rfl
theorem ky_67 : am_ms[67]? = some (⟨"java/lang/StringLatin1", "charAt", "([BI)C"⟩, prog_16_method_2_code, jl_charAt) := rfl
theorem ky_68 : am_ms[68]? = some (⟨"java/lang/String", "checkIndex", "(II)V"⟩, prog_15_method_155_code, js_checkIndex) := rfl
theorem ky_69 : am_ms[69]? = some (⟨"jdk/internal/util/Preconditions", "checkIndex", "(IILjava/util/function/BiFunction;)I"⟩, prog_19_method_11_code, jp_checkIndex) := rfl
theorem ky_70 : am_ms[70]? = some (⟨"LostSheets$Text", "takes", "(I)Z"⟩, prog_8_method_5_code, tx_takes) := rfl
theorem ky_71 : am_ms[71]? = some (⟨"LostSheets$Text", "oneOrTwoDigits", "()Z"⟩, prog_8_method_7_code, tx_oneOrTwoDigits) := rfl
theorem ky_72 : am_ms[72]? = some (⟨"LostSheets$Text", "anyOf", "(I)Z"⟩, prog_8_method_9_code, tx_anyOf) := rfl
theorem ky_73 : am_ms[73]? = some (⟨"LostSheets$Text", "allOf", "(I)Z"⟩, prog_8_method_10_code, tx_allOf) := rfl
theorem ky_74 : am_ms[74]? = some (⟨"LostSheets$Text", "one", "(I)Z"⟩, prog_8_method_11_code, tx_one) := rfl
theorem ky_75 : am_ms[75]? = some (⟨"LostSheets$Text", "test", "()Z"⟩, prog_8_method_14_code, tx_test) := rfl
theorem ky_76 : am_ms[76]? = some (⟨"LostSheets$Text", "placeIn", "(Ljava/lang/String;I)I"⟩, prog_8_method_15_code, tx_placeIn) := rfl
theorem ky_77 : am_ms[77]? = some (⟨"LostSheets$Office", "append", "(II)V"⟩, prog_5_method_3_code, of_append) := rfl
theorem ky_78 : am_ms[78]? = some (⟨"LostSheets$Text", "not", "(I)Z"⟩, prog_8_method_12_code, tx_not) := rfl
theorem ky_79 : am_ms[79]? = some (⟨"LostSheets$Text", "inBrackets", "(I)Z"⟩, prog_8_method_13_code, tx_inBrackets) := rfl
theorem ky_80 : am_ms[80]? = some (⟨"LostSheets", "told", "(I)I"⟩, prog_1_method_11_code, k_told) := rfl
theorem ky_81 : am_ms[81]? = some (⟨"LostSheets", "marksOf", "(I)I"⟩, prog_1_method_46_code, k_marksOf) := rfl
theorem ky_82 : am_ms[82]? = some (⟨"LostSheets$Land", "doneBits", "()I"⟩, prog_4_method_13_code, la_doneBits) := rfl
theorem ky_83 : am_ms[83]? = some (⟨"LostSheets", "whole", "()I"⟩, prog_1_method_43_code, k_whole) := rfl
theorem ky_84 : am_ms[84]? = some (⟨"LostSheets", "pass", "(I)I"⟩, prog_1_method_12_code, k_pass) := rfl
theorem ky_85 : am_ms[85]? = some (⟨"LostSheets$Land", "capDrew", "()V"⟩, prog_4_method_15_code, la_capDrew) := rfl
theorem ky_86 : am_ms[86]? = some (⟨"java/lang/Math", "min", "(II)I"⟩, prog_14_method_69_code, jm_min) := rfl
theorem ky_87 : am_ms[87]? = some (⟨"LostSheets", "on", "(II)I"⟩, prog_1_method_13_code, k_on) := rfl
theorem ky_88 : am_ms[88]? = some (⟨"LostSheets", "drawerBehindTen", "(I)LLostSheets$Drawer;"⟩, prog_1_method_38_code, k_drawerBehindTen) := rfl
theorem ky_89 : am_ms[89]? = some (⟨"LostSheets", "best", "(II)I"⟩, prog_1_method_14_code, k_best) := rfl
theorem ky_90 : am_ms[90]? = some (⟨"LostSheets", "crew", "(I)I"⟩, prog_1_method_45_code, k_crew) := rfl
theorem ky_91 : am_ms[91]? = some (⟨"java/lang/Integer", "bitCount", "(I)I"⟩, prog_13_method_49_code, ji_bitCount) := rfl
theorem ky_92 : am_ms[92]? = some (⟨"LostSheets$Land", "othersAreDone", "(I)V"⟩, prog_4_method_12_code, la_othersAreDone) := rfl
theorem ky_93 : am_ms[93]? = some (⟨"LostSheets", "landing", "(II)I"⟩, prog_1_method_44_code, k_landing) := rfl
theorem ky_94 : am_ms[94]? = some (⟨"LostSheets", "see", "(III)I"⟩, prog_1_method_15_code, k_see) := rfl
theorem ky_95 : am_ms[95]? = some (⟨"LostSheets$Rows", "clear", "()V"⟩, prog_6_method_2_code, ro_clear) := rfl
theorem ky_96 : am_ms[96]? = some (⟨"LostSheets$Rows", "append", "(III)Z"⟩, prog_6_method_3_code, ro_append) := rfl
theorem ky_97 : am_ms[97]? = some (⟨"LostSheets", "can", "(II)I"⟩, prog_1_method_16_code, k_can) := rfl
theorem ky_98 : am_ms[98]? = some (⟨"LostSheets", "possibleNumbers", "(I)I"⟩, prog_1_method_48_code, k_possibleNumbers) := rfl
theorem ky_99 : am_ms[99]? = some (⟨"LostSheets$Land", "setNumber", "(II)V"⟩, prog_4_method_9_code, la_setNumber) := rfl
theorem ky_100 : am_ms[100]? = some (⟨"LostSheets", "leastOf", "(I)I"⟩, prog_1_method_49_code, k_leastOf) := rfl
theorem ky_101 : am_ms[101]? = some (⟨"LostSheets", "odds", "(III)J"⟩, prog_1_method_17_code, k_odds) := rfl
theorem ky_102 : am_ms[102]? = some (⟨"LostSheets", "partOfFraction", "(JJI)J"⟩, prog_1_method_53_code, k_partOfFraction) := rfl
theorem ky_103 : am_ms[103]? = some (⟨"LostSheets", "greatestDivisor", "(JJ)J"⟩, prog_1_method_54_code, k_greatestDivisor) := rfl
theorem ky_104 : am_ms[104]? = some (⟨"LostSheets", "mean", "(II)J"⟩, prog_1_method_18_code, k_mean) := rfl
theorem ky_105 : am_ms[105]? = some (⟨"LostSheets$Land", "drewOfAll", "()I"⟩, prog_4_method_14_code, la_drewOfAll) := rfl
theorem ky_106 : am_ms[106]? = some (⟨"LostSheets", "plan", "(II)I"⟩, prog_1_method_19_code, k_plan) := rfl
theorem ky_107 : am_ms[107]? = some (⟨"LostSheets", "isPlanRow", "(II)Z"⟩, prog_1_method_37_code, k_isPlanRow) := rfl
theorem ky_108 : am_ms[108]? = some (⟨"LostSheets", "ends", "(I)I"⟩, prog_1_method_20_code, k_ends) := rfl
theorem ky_109 : am_ms[109]? = some (⟨"LostSheets", "tryPlan", "()V"⟩, prog_1_method_52_code, k_tryPlan) := rfl
theorem ky_110 : am_ms[110]? = some (⟨"LostSheets$Land", "emptySheet", "(I)V"⟩, prog_4_method_10_code, la_emptySheet) := rfl
theorem ky_111 : am_ms[111]? = some (⟨"LostSheets$Land", "notDone", "(I)V"⟩, prog_4_method_11_code, la_notDone) := rfl
theorem ky_112 : am_ms[112]? = some (⟨"LostSheets", "book", "(II)I"⟩, prog_1_method_21_code, k_book) := rfl
theorem ky_113 : am_ms[113]? = some (⟨"LostSheets", "looked", "()I"⟩, prog_1_method_22_code, k_looked) := rfl
theorem ky_114 : am_ms[114]? = some (⟨"LostSheets", "judge", "(II)I"⟩, prog_1_method_23_code, k_judge) := rfl
theorem ky_115 : am_ms[115]? = some (⟨"LostSheets", "tapeAt", "(I)LLostSheets$Tape;"⟩, prog_1_method_39_code, k_tapeAt) := rfl
theorem ky_116 : am_ms[116]? = some (⟨"LostSheets$Tape", "has", "(I)Z"⟩, prog_7_method_3_code, tp_has) := rfl
theorem ky_117 : am_ms[117]? = some (⟨"LostSheets", "image", "()I"⟩, prog_1_method_24_code, k_image) := rfl
theorem ky_118 : am_ms[118]? = some (⟨"LostSheets$ByHand", "copyFrom", "(LLostSheets$ByHand;)V"⟩, prog_2_method_2_code, bh_copyFrom) := rfl
theorem ky_119 : am_ms[119]? = some (⟨"LostSheets$Rows", "copyFrom", "(LLostSheets$Rows;)V"⟩, prog_6_method_4_code, ro_copyFrom) := rfl
theorem ky_120 : am_ms[120]? = some (⟨"LostSheets", "undo", "()I"⟩, prog_1_method_25_code, k_undo) := rfl
theorem ky_121 : am_ms[121]? = some (⟨"LostSheets", "act", "(III)I"⟩, prog_1_method_26_code, k_act) := rfl
theorem ky_122 : am_ms[122]? = some (⟨"LostSheets$Trace", "ofAct", "(LLostSheets$Drawer;II)I"⟩, prog_9_method_4_code, tr_ofAct) := rfl
theorem ky_123 : am_ms[123]? = some (⟨"LostSheets$Trace", "run", "(LLostSheets$Drawer;IIII)I"⟩, prog_9_method_5_code, tr_run) := rfl
theorem ky_124 : am_ms[124]? = some (⟨"LostSheets$Trace", "bodyOf", "(II)I"⟩, prog_9_method_2_code, tr_bodyOf) := rfl
theorem ky_125 : am_ms[125]? = some (⟨"LostSheets", "aboveOf", "(I)I"⟩, prog_1_method_40_code, k_aboveOf) := rfl
theorem ky_126 : am_ms[126]? = some (⟨"LostSheets$Trace", "begins", "(I)V"⟩, prog_9_method_3_code, tr_begins) := rfl
theorem ky_127 : am_ms[127]? = some (⟨"LostSheets$Trace", "does", "(ILLostSheets$Drawer;II)I"⟩, prog_9_method_6_code, tr_does) := rfl
theorem ky_128 : am_ms[128]? = some (⟨"LostSheets", "trace", "(I)I"⟩, prog_1_method_27_code, k_trace) := rfl
theorem ky_129 : am_ms[129]? = some (⟨"LostSheets", "taken", "(II)I"⟩, prog_1_method_28_code, k_taken) := rfl
theorem ky_130 : am_ms[130]? = some (⟨"LostSheets", "isUnder", "(II)Z"⟩, prog_1_method_41_code, k_isUnder) := rfl
theorem ky_131 : am_ms[131]? = some (⟨"LostSheets", "count", "(I)I"⟩, prog_1_method_29_code, k_count) := rfl
theorem ky_132 : am_ms[132]? = some (⟨"LostSheets", "tape", "(III)I"⟩, prog_1_method_30_code, k_tape) := rfl
theorem ky_133 : am_ms[133]? = some (⟨"LostSheets$Tape", "becomes", "(II)V"⟩, prog_7_method_2_code, tp_becomes) := rfl
theorem ky_134 : am_ms[134]? = some (⟨"LostSheets", "item", "(IIJ)I"⟩, prog_1_method_31_code, k_item) := rfl
theorem ky_135 : am_ms[135]? = some (⟨"LostSheets$Tape", "asItem", "(J)J"⟩, prog_7_method_5_code, tp_asItem) := rfl
theorem ky_136 : am_ms[136]? = some (⟨"LostSheets", "read", "(II)J"⟩, prog_1_method_32_code, k_read) := rfl
theorem ky_137 : am_ms[137]? = some (⟨"LostSheets", "shift", "(IIIII)I"⟩, prog_1_method_33_code, k_shift) := rfl
theorem ky_138 : am_ms[138]? = some (⟨"LostSheets$Tape", "hasRun", "(II)Z"⟩, prog_7_method_4_code, tp_hasRun) := rfl
theorem ky_139 : am_ms[139]? = some (⟨"LostSheetsModel", "<init>", "()V"⟩, prog_11_method_1_code, m_init) := rfl
theorem ky_140 : am_ms[140]? = some (⟨"LostSheetsModel", "drawer", "(III)I"⟩, prog_11_method_5_code, m_drawer) := rfl
theorem ky_141 : am_ms[141]? = some (⟨"LostSheetsModel", "within", "(III)Z"⟩, prog_11_method_2_code, m_within) := rfl
theorem ky_142 : am_ms[142]? = some (⟨"LostSheetsModel", "isCell", "(I)Z"⟩, prog_11_method_4_code, m_isCell) := rfl
theorem ky_143 : am_ms[143]? = some (⟨"LostSheetsModel", "of", "(II)I"⟩, prog_11_method_6_code, m_of) := rfl
theorem ky_144 : am_ms[144]? = some (⟨"LostSheetsModel", "isOne", "(I)Z"⟩, prog_11_method_3_code, m_isOne) := rfl
theorem ky_145 : am_ms[145]? = some (⟨"LostSheetsModel", "feel", "(I)I"⟩, prog_11_method_30_code, m_feel) := rfl
theorem ky_146 : am_ms[146]? = some (⟨"LostSheetsModel", "sum", "(I)I"⟩, prog_11_method_27_code, m_sum) := rfl
theorem ky_147 : am_ms[147]? = some (⟨"LostSheetsModel", "isTrue", "(II)Z"⟩, prog_11_method_26_code, m_isTrue) := rfl
theorem ky_148 : am_ms[148]? = some (⟨"LostSheetsModel", "letterOf", "(II)I"⟩, prog_11_method_25_code, m_letterOf) := rfl
theorem ky_149 : am_ms[149]? = some (⟨"LostSheetsModel", "others", "(I)I"⟩, prog_11_method_29_code, m_others) := rfl
theorem ky_150 : am_ms[150]? = some (⟨"LostSheetsModel", "wayOf", "(I)I"⟩, prog_11_method_31_code, m_wayOf) := rfl
theorem ky_151 : am_ms[151]? = some (⟨"LostSheetsModel", "came", "(IZ)I"⟩, prog_11_method_41_code, m_came) := rfl
theorem ky_152 : am_ms[152]? = some (⟨"LostSheetsModel", "step", "(II)I"⟩, prog_11_method_32_code, m_step) := rfl
theorem ky_153 : am_ms[153]? = some (⟨"LostSheetsModel", "look", "(I)I"⟩, prog_11_method_42_code, m_look) := rfl
theorem ky_154 : am_ms[154]? = some (⟨"LostSheetsModel", "places", "(I)I"⟩, prog_11_method_50_code, m_places) := rfl
theorem ky_155 : am_ms[155]? = some (⟨"LostSheetsModel", "isSeen", "()Z"⟩, prog_11_method_48_code, m_isSeen) := rfl
theorem ky_156 : am_ms[156]? = some (⟨"LostSheetsModel", "keep", "([I)V"⟩, prog_11_method_61_code, m_keep) := rfl
theorem ky_157 : am_ms[157]? = some (⟨"LostSheetsModel", "goesHour", "()V"⟩, prog_11_method_34_code, m_goesHour) := rfl
theorem ky_158 : am_ms[158]? = some (⟨"LostSheetsModel", "know", "()I"⟩, prog_11_method_28_code, m_know) := rfl
theorem ky_159 : am_ms[159]? = some (⟨"LostSheetsModel", "goesBy", "(III)V"⟩, prog_11_method_33_code, m_goesBy) := rfl
theorem ky_160 : am_ms[160]? = some (⟨"LostSheetsModel", "again", "([I)V"⟩, prog_11_method_62_code, m_again) := rfl
theorem ky_161 : am_ms[161]? = some (⟨"LostSheetsModel", "sheet", "(II)I"⟩, prog_11_method_7_code, m_sheet) := rfl
theorem ky_162 : am_ms[162]? = some (⟨"LostSheetsModel", "put", "(II)I"⟩, prog_11_method_8_code, m_put) := rfl
theorem ky_163 : am_ms[163]? = some (⟨"LostSheetsModel", "anew", "(I)I"⟩, prog_11_method_9_code, m_anew) := rfl
theorem ky_164 : am_ms[164]? = some (⟨"LostSheetsModel", "mark", "(II)I"⟩, prog_11_method_10_code, m_mark) := rfl
theorem ky_165 : am_ms[165]? = some (⟨"LostSheetsModel", "row", "(III)I"⟩, prog_11_method_11_code, m_row) := rfl
theorem ky_166 : am_ms[166]? = some (⟨"LostSheetsModel", "feed", "(I)I"⟩, prog_11_method_12_code, m_feed) := rfl
theorem ky_167 : am_ms[167]? = some (⟨"LostSheetsModel", "office", "()I"⟩, prog_11_method_24_code, m_office) := rfl
theorem ky_168 : am_ms[168]? = some (⟨"LostSheetsModel", "isClause", "(I)Z"⟩, prog_11_method_23_code, m_isClause) := rfl
theorem ky_169 : am_ms[169]? = some (⟨"LostSheetsModel", "isAll", "(Ljava/lang/String;)Z"⟩, prog_11_method_16_code, m_isAll) := rfl
theorem ky_170 : am_ms[170]? = some (⟨"LostSheetsModel", "is", "(I)Z"⟩, prog_11_method_13_code, m_is) := rfl
theorem ky_171 : am_ms[171]? = some (⟨"LostSheetsModel", "isNumber", "()Z"⟩, prog_11_method_15_code, m_isNumber) := rfl
theorem ky_172 : am_ms[172]? = some (⟨"LostSheetsModel", "isDigit", "()Z"⟩, prog_11_method_14_code, m_isDigit) := rfl
theorem ky_173 : am_ms[173]? = some (⟨"LostSheetsModel", "isE", "()Z"⟩, prog_11_method_22_code, m_isE) := rfl
theorem ky_174 : am_ms[174]? = some (⟨"LostSheetsModel", "isT", "()Z"⟩, prog_11_method_21_code, m_isT) := rfl
theorem ky_175 : am_ms[175]? = some (⟨"LostSheetsModel", "isF", "()Z"⟩, prog_11_method_20_code, m_isF) := rfl
theorem ky_176 : am_ms[176]? = some (⟨"LostSheetsModel", "isOpened", "(I)Z"⟩, prog_11_method_19_code, m_isOpened) := rfl
theorem ky_177 : am_ms[177]? = some (⟨"LostSheetsModel", "codes", "(I)Z"⟩, prog_11_method_17_code, m_codes) := rfl
theorem ky_178 : am_ms[178]? = some (⟨"LostSheetsModel", "isTest", "()Z"⟩, prog_11_method_18_code, m_isTest) := rfl
theorem ky_179 : am_ms[179]? = some (⟨"java/lang/String", "indexOf", "(I)I"⟩, prog_15_method_79_code, js_indexOf) := rfl
theorem ky_180 : am_ms[180]? = some (⟨"java/lang/String", "indexOf", "(II)I"⟩, prog_15_method_80_code, js_indexOf2) := rfl
theorem ky_181 : am_ms[181]? = some (⟨"java/lang/StringLatin1", "indexOf", "([BIII)I"⟩, prog_16_method_22_code, jl_indexOf) := rfl
theorem ky_182 : am_ms[182]? = some (⟨"java/lang/StringLatin1", "canEncode", "(I)Z"⟩, prog_16_method_4_code, jl_canEncode) := rfl
theorem ky_183 : am_ms[183]? = some (⟨"java/lang/StringLatin1", "indexOfChar", "([BIII)I"⟩, prog_16_method_23_code, jl_indexOfChar) := rfl
theorem ky_184 : am_ms[184]? = some (⟨"java/lang/String", "checkBoundsBeginEnd", "(III)V"⟩, prog_15_method_158_code, js_checkBoundsBeginEnd) := rfl
theorem ky_185 : am_ms[185]? = some (⟨"jdk/internal/util/Preconditions", "checkFromToIndex", "(IIILjava/util/function/BiFunction;)I"⟩, prog_19_method_12_code, jp_checkFromToIndex) := rfl
theorem ky_186 : am_ms[186]? = some (⟨"LostSheetsModel", "told", "(I)I"⟩, prog_11_method_38_code, m_told) := rfl
theorem ky_187 : am_ms[187]? = some (⟨"LostSheetsModel", "marksOf", "(I)I"⟩, prog_11_method_49_code, m_marksOf) := rfl
theorem ky_188 : am_ms[188]? = some (⟨"LostSheetsModel", "allDone", "()I"⟩, prog_11_method_36_code, m_allDone) := rfl
theorem ky_189 : am_ms[189]? = some (⟨"LostSheetsModel", "whole", "()I"⟩, prog_11_method_37_code, m_whole) := rfl
theorem ky_190 : am_ms[190]? = some (⟨"LostSheetsModel", "pass", "(I)I"⟩, prog_11_method_39_code, m_pass) := rfl
theorem ky_191 : am_ms[191]? = some (⟨"LostSheetsModel", "on", "(II)I"⟩, prog_11_method_40_code, m_on) := rfl
theorem ky_192 : am_ms[192]? = some (⟨"LostSheetsModel", "goesOn", "(I)V"⟩, prog_11_method_35_code, m_goesOn) := rfl
theorem ky_193 : am_ms[193]? = some (⟨"LostSheetsModel", "best", "(II)I"⟩, prog_11_method_46_code, m_best) := rfl
theorem ky_194 : am_ms[194]? = some (⟨"LostSheetsModel", "crew", "(I)I"⟩, prog_11_method_45_code, m_crew) := rfl
theorem ky_195 : am_ms[195]? = some (⟨"LostSheetsModel", "drawnBehind", "(I)I"⟩, prog_11_method_43_code, m_drawnBehind) := rfl
theorem ky_196 : am_ms[196]? = some (⟨"LostSheetsModel", "landing", "(II)I"⟩, prog_11_method_44_code, m_landing) := rfl
theorem ky_197 : am_ms[197]? = some (⟨"LostSheetsModel", "see", "(III)I"⟩, prog_11_method_47_code, m_see) := rfl
theorem ky_198 : am_ms[198]? = some (⟨"LostSheetsModel", "can", "(II)I"⟩, prog_11_method_51_code, m_can) := rfl
theorem ky_199 : am_ms[199]? = some (⟨"LostSheetsModel", "odds", "(III)J"⟩, prog_11_method_53_code, m_odds) := rfl
theorem ky_200 : am_ms[200]? = some (⟨"LostSheetsModel", "part", "(JJI)J"⟩, prog_11_method_52_code, m_part) := rfl
theorem ky_201 : am_ms[201]? = some (⟨"java/lang/Math", "abs", "(J)J"⟩, prog_14_method_61_code, jm_abs) := rfl
theorem ky_202 : am_ms[202]? = some (⟨"LostSheetsModel", "mean", "(II)J"⟩, prog_11_method_55_code, m_mean) := rfl
theorem ky_203 : am_ms[203]? = some (⟨"LostSheetsModel", "allDrew", "()I"⟩, prog_11_method_54_code, m_allDrew) := rfl
theorem ky_204 : am_ms[204]? = some (⟨"LostSheetsModel", "plan", "(II)I"⟩, prog_11_method_56_code, m_plan) := rfl
theorem ky_205 : am_ms[205]? = some (⟨"LostSheetsModel", "ends", "(I)I"⟩, prog_11_method_57_code, m_ends) := rfl
theorem ky_206 : am_ms[206]? = some (⟨"LostSheetsModel", "book", "(II)I"⟩, prog_11_method_58_code, m_book) := rfl
theorem ky_207 : am_ms[207]? = some (⟨"LostSheetsModel", "looked", "()I"⟩, prog_11_method_59_code, m_looked) := rfl
theorem ky_208 : am_ms[208]? = some (⟨"LostSheetsModel", "judge", "(II)I"⟩, prog_11_method_60_code, m_judge) := rfl
theorem ky_209 : am_ms[209]? = some (⟨"LostSheetsModel", "image", "()I"⟩, prog_11_method_63_code, m_image) := rfl
theorem ky_210 : am_ms[210]? = some (⟨"LostSheetsModel", "undo", "()I"⟩, prog_11_method_64_code, m_undo) := rfl
theorem ky_211 : am_ms[211]? = some (⟨"LostSheetsModel", "act", "(III)I"⟩, prog_11_method_70_code, m_act) := rfl
theorem ky_212 : am_ms[212]? = some (⟨"LostSheetsModel", "weeps", "(III)I"⟩, prog_11_method_67_code, m_weeps) := rfl
theorem ky_213 : am_ms[213]? = some (⟨"LostSheetsModel", "ran", "(I)V"⟩, prog_11_method_65_code, m_ran) := rfl
theorem ky_214 : am_ms[214]? = some (⟨"LostSheetsModel", "above", "(I)I"⟩, prog_11_method_66_code, m_above) := rfl
theorem ky_215 : am_ms[215]? = some (⟨"LostSheetsModel", "draws", "(III)I"⟩, prog_11_method_68_code, m_draws) := rfl
theorem ky_216 : am_ms[216]? = some (⟨"LostSheetsModel", "tells", "(III)I"⟩, prog_11_method_69_code, m_tells) := rfl
theorem ky_217 : am_ms[217]? = some (⟨"LostSheetsModel", "trace", "(I)I"⟩, prog_11_method_71_code, m_trace) := rfl
theorem ky_218 : am_ms[218]? = some (⟨"LostSheetsModel", "taken", "(II)I"⟩, prog_11_method_72_code, m_taken) := rfl
theorem ky_219 : am_ms[219]? = some (⟨"LostSheetsModel", "count", "(I)I"⟩, prog_11_method_73_code, m_count) := rfl
theorem ky_220 : am_ms[220]? = some (⟨"LostSheetsModel", "tape", "(III)I"⟩, prog_11_method_75_code, m_tape) := rfl
theorem ky_221 : am_ms[221]? = some (⟨"LostSheetsModel", "isTape", "(I)Z"⟩, prog_11_method_74_code, m_isTape) := rfl
theorem ky_222 : am_ms[222]? = some (⟨"LostSheetsModel", "item", "(IIJ)I"⟩, prog_11_method_77_code, m_item) := rfl
theorem ky_223 : am_ms[223]? = some (⟨"LostSheetsModel", "kept", "(IJ)J"⟩, prog_11_method_76_code, m_kept) := rfl
theorem ky_224 : am_ms[224]? = some (⟨"LostSheetsModel", "read", "(II)J"⟩, prog_11_method_78_code, m_read) := rfl
theorem ky_225 : am_ms[225]? = some (⟨"LostSheetsModel", "shift", "(IIIII)I"⟩, prog_11_method_79_code, m_shift) := rfl
theorem km_0_3 : am_mok 0 (3, 6, 0, 0) := Or.inl ⟨rfl, ct_132⟩
theorem kn_4 : ("LostSheets$Rows" ≠ "java/lang/invoke/MethodHandle" ∧ "LostSheets$Rows" ≠ "java/lang/invoke/VarHandle" ∧ (parseMethodDescriptor "(I)V").map (fun d => d.parameters.length) = some 1) := by decide +kernel
theorem km_0_11 : am_mok 0 (11, 2, 4, 1) := Or.inr (Or.inr ⟨by decide, _, ky_4, kn_4, ⟨ct_135, ct_136, rfl, rfl⟩⟩)
theorem kn_5 : ("java/lang/Math" ≠ "java/lang/invoke/MethodHandle" ∧ "java/lang/Math" ≠ "java/lang/invoke/VarHandle" ∧ (parseMethodDescriptor "(II)I").map (fun d => d.parameters.length) = some 2) := by decide +kernel
theorem km_0_41 : am_mok 0 (41, 1, 5, 2) := Or.inr (Or.inr ⟨by decide, _, ky_5, kn_5, ⟨ct_414, ct_140⟩⟩)
theorem kn_119 : ("LostSheets$Rows" ≠ "java/lang/invoke/MethodHandle" ∧ "LostSheets$Rows" ≠ "java/lang/invoke/VarHandle" ∧ (parseMethodDescriptor "(LLostSheets$Rows;)V").map (fun d => d.parameters.length) = some 1) := by decide +kernel
theorem km_0_26 : am_mok 0 (26, 0, 119, 1) := Or.inr (Or.inr ⟨by decide, _, ky_119, kn_119, ⟨ct_763, ct_764, ct_765⟩⟩)
theorem am_mt_ok_0 : ∀ e ∈ am_mt 0, am_mok 0 e := List.forall_mem_cons.mpr ⟨km_0_3, List.forall_mem_cons.mpr ⟨km_0_11, List.forall_mem_cons.mpr ⟨km_0_41, List.forall_mem_cons.mpr ⟨km_0_26, fun _ h => absurd h List.not_mem_nil⟩⟩⟩⟩
theorem km_1_3 : am_mok 1 (3, 6, 0, 0) := Or.inl ⟨rfl, ct_39⟩
theorem km_1_44 : am_mok 1 (44, 7, 0, 0) := Or.inr (Or.inl ⟨rfl, ct_399⟩)
theorem am_mt_ok_1 : ∀ e ∈ am_mt 1, am_mok 1 e := List.forall_mem_cons.mpr ⟨km_1_3, List.forall_mem_cons.mpr ⟨km_1_44, fun _ h => absurd h List.not_mem_nil⟩⟩
theorem km_2_3 : am_mok 2 (3, 6, 0, 0) := Or.inl ⟨rfl, ct_32⟩
theorem kn_2 : ("LostSheets$Drawer" ≠ "java/lang/invoke/MethodHandle" ∧ "LostSheets$Drawer" ≠ "java/lang/invoke/VarHandle" ∧ (parseMethodDescriptor "(I)V").map (fun d => d.parameters.length) = some 1) := by decide +kernel
theorem km_2_46 : am_mok 2 (46, 2, 2, 1) := Or.inr (Or.inr ⟨by decide, _, ky_2, kn_2, ⟨ct_36, ct_37, rfl, rfl⟩⟩)
theorem kn_14 : ("LostSheets$Drawer" ≠ "java/lang/invoke/MethodHandle" ∧ "LostSheets$Drawer" ≠ "java/lang/invoke/VarHandle" ∧ (parseMethodDescriptor "(III)V").map (fun d => d.parameters.length) = some 3) := by decide +kernel
theorem km_2_59 : am_mok 2 (59, 0, 14, 3) := Or.inr (Or.inr ⟨by decide, _, ky_14, kn_14, ⟨ct_309, ct_310, ct_311⟩⟩)
theorem kn_18 : ("LostSheets$Land" ≠ "java/lang/invoke/MethodHandle" ∧ "LostSheets$Land" ≠ "java/lang/invoke/VarHandle" ∧ (parseMethodDescriptor "(LLostSheets$Drawer;)[I").map (fun d => d.parameters.length) = some 1) := by decide +kernel
theorem km_2_109 : am_mok 2 (109, 0, 18, 1) := Or.inr (Or.inr ⟨by decide, _, ky_18, kn_18, ⟨ct_325, ct_327, cts_0⟩⟩)
theorem kn_19 : ("LostSheets$Land" ≠ "java/lang/invoke/MethodHandle" ∧ "LostSheets$Land" ≠ "java/lang/invoke/VarHandle" ∧ (parseMethodDescriptor "(I)I").map (fun d => d.parameters.length) = some 1) := by decide +kernel
theorem km_2_105 : am_mok 2 (105, 0, 19, 1) := Or.inr (Or.inr ⟨by decide, _, ky_19, kn_19, ⟨ct_329, ct_330, ct_331⟩⟩)
theorem kn_20 : ("LostSheets$Office" ≠ "java/lang/invoke/MethodHandle" ∧ "LostSheets$Office" ≠ "java/lang/invoke/VarHandle" ∧ (parseMethodDescriptor "([I)I").map (fun d => d.parameters.length) = some 1) := by decide +kernel
theorem km_2_113 : am_mok 2 (113, 0, 20, 1) := Or.inr (Or.inr ⟨by decide, _, ky_20, kn_20, ⟨ct_333, ct_334, ct_335⟩⟩)
theorem kn_22 : ("LostSheets$Land" ≠ "java/lang/invoke/MethodHandle" ∧ "LostSheets$Land" ≠ "java/lang/invoke/VarHandle" ∧ (parseMethodDescriptor "(LLostSheets$Drawer;)I").map (fun d => d.parameters.length) = some 1) := by decide +kernel
theorem km_2_117 : am_mok 2 (117, 0, 22, 1) := Or.inr (Or.inr ⟨by decide, _, ky_22, kn_22, ⟨ct_340, ct_342, cts_1⟩⟩)
theorem kn_23 : ("java/lang/Math" ≠ "java/lang/invoke/MethodHandle" ∧ "java/lang/Math" ≠ "java/lang/invoke/VarHandle" ∧ (parseMethodDescriptor "(II)I").map (fun d => d.parameters.length) = some 2) := by decide +kernel
theorem km_2_124 : am_mok 2 (124, 1, 23, 2) := Or.inr (Or.inr ⟨by decide, _, ky_23, kn_23, ⟨ct_344, ct_345⟩⟩)
theorem kn_17 : ("LostSheets$Land" ≠ "java/lang/invoke/MethodHandle" ∧ "LostSheets$Land" ≠ "java/lang/invoke/VarHandle" ∧ (parseMethodDescriptor "(LLostSheets$Drawer;)I").map (fun d => d.parameters.length) = some 1) := by decide +kernel
theorem km_2_127 : am_mok 2 (127, 0, 17, 1) := Or.inr (Or.inr ⟨by decide, _, ky_17, kn_17, ⟨ct_351, ct_322, ct_323⟩⟩)
theorem kn_26 : ("LostSheets$Land" ≠ "java/lang/invoke/MethodHandle" ∧ "LostSheets$Land" ≠ "java/lang/invoke/VarHandle" ∧ (parseMethodDescriptor "(LLostSheets$Drawer;I)I").map (fun d => d.parameters.length) = some 2) := by decide +kernel
theorem km_2_163 : am_mok 2 (163, 0, 26, 2) := Or.inr (Or.inr ⟨by decide, _, ky_26, kn_26, ⟨ct_356, ct_358, cts_2⟩⟩)
theorem kn_27 : ("LostSheets$Land" ≠ "java/lang/invoke/MethodHandle" ∧ "LostSheets$Land" ≠ "java/lang/invoke/VarHandle" ∧ (parseMethodDescriptor "(II)I").map (fun d => d.parameters.length) = some 2) := by decide +kernel
theorem km_2_141 : am_mok 2 (141, 1, 27, 2) := Or.inr (Or.inr ⟨by decide, _, ky_27, kn_27, ⟨ct_360, ct_361⟩⟩)
theorem kn_28 : ("LostSheets$Land" ≠ "java/lang/invoke/MethodHandle" ∧ "LostSheets$Land" ≠ "java/lang/invoke/VarHandle" ∧ (parseMethodDescriptor "(LLostSheets$Drawer;)I").map (fun d => d.parameters.length) = some 1) := by decide +kernel
theorem km_2_167 : am_mok 2 (167, 0, 28, 1) := Or.inr (Or.inr ⟨by decide, _, ky_28, kn_28, ⟨ct_371, ct_364, ct_365⟩⟩)
theorem kn_30 : ("LostSheets$Land" ≠ "java/lang/invoke/MethodHandle" ∧ "LostSheets$Land" ≠ "java/lang/invoke/VarHandle" ∧ (parseMethodDescriptor "(II)I").map (fun d => d.parameters.length) = some 2) := by decide +kernel
theorem km_2_170 : am_mok 2 (170, 0, 30, 2) := Or.inr (Or.inr ⟨by decide, _, ky_30, kn_30, ⟨ct_372, ct_374, cts_3⟩⟩)
theorem kn_31 : ("LostSheets" ≠ "java/lang/invoke/MethodHandle" ∧ "LostSheets" ≠ "java/lang/invoke/VarHandle" ∧ (parseMethodDescriptor "(I)Z").map (fun d => d.parameters.length) = some 1) := by decide +kernel
theorem km_2_67 : am_mok 2 (67, 4, 31, 1) := Or.inr (Or.inr ⟨by decide, _, ky_31, kn_31, ⟨ct_376, ct_377⟩⟩)
theorem km_2_173 : am_mok 2 (173, 1, 5, 2) := Or.inr (Or.inr ⟨by decide, _, ky_5, kn_5, ⟨ct_379, ct_140⟩⟩)
theorem km_2_49 : am_mok 2 (49, 7, 0, 0) := Or.inr (Or.inl ⟨rfl, ct_392⟩)
theorem kn_35 : ("LostSheets$Drawer" ≠ "java/lang/invoke/MethodHandle" ∧ "LostSheets$Drawer" ≠ "java/lang/invoke/VarHandle" ∧ (parseMethodDescriptor "(LLostSheets$Drawer;)V").map (fun d => d.parameters.length) = some 1) := by decide +kernel
theorem km_2_55 : am_mok 2 (55, 0, 35, 1) := Or.inr (Or.inr ⟨by decide, _, ky_35, kn_35, ⟨ct_395, ct_396, ct_397⟩⟩)
theorem kn_16 : ("LostSheets$Land" ≠ "java/lang/invoke/MethodHandle" ∧ "LostSheets$Land" ≠ "java/lang/invoke/VarHandle" ∧ (parseMethodDescriptor "(I)LLostSheets$Drawer;").map (fun d => d.parameters.length) = some 1) := by decide +kernel
theorem km_2_70 : am_mok 2 (70, 0, 16, 1) := Or.inr (Or.inr ⟨by decide, _, ky_16, kn_16, ⟨ct_404, ct_318, ct_319⟩⟩)
theorem kn_11 : ("LostSheets" ≠ "java/lang/invoke/MethodHandle" ∧ "LostSheets" ≠ "java/lang/invoke/VarHandle" ∧ (parseMethodDescriptor "(I)Z").map (fun d => d.parameters.length) = some 1) := by decide +kernel
theorem km_2_63 : am_mok 2 (63, 4, 11, 1) := Or.inr (Or.inr ⟨by decide, _, ky_11, kn_11, ⟨ct_405, ct_300⟩⟩)
theorem kn_42 : ("LostSheets$Land" ≠ "java/lang/invoke/MethodHandle" ∧ "LostSheets$Land" ≠ "java/lang/invoke/VarHandle" ∧ (parseMethodDescriptor "()Z").map (fun d => d.parameters.length) = some 0) := by decide +kernel
theorem km_2_151 : am_mok 2 (151, 0, 42, 0) := Or.inr (Or.inr ⟨by decide, _, ky_42, kn_42, ⟨ct_428, ct_430, cts_8⟩⟩)
theorem kn_43 : ("LostSheets$Drawer" ≠ "java/lang/invoke/MethodHandle" ∧ "LostSheets$Drawer" ≠ "java/lang/invoke/VarHandle" ∧ (parseMethodDescriptor "()Z").map (fun d => d.parameters.length) = some 0) := by decide +kernel
theorem km_2_130 : am_mok 2 (130, 0, 43, 0) := Or.inr (Or.inr ⟨by decide, _, ky_43, kn_43, ⟨ct_432, ct_433, ct_434⟩⟩)
theorem kn_44 : ("LostSheets$Land" ≠ "java/lang/invoke/MethodHandle" ∧ "LostSheets$Land" ≠ "java/lang/invoke/VarHandle" ∧ (parseMethodDescriptor "()V").map (fun d => d.parameters.length) = some 0) := by decide +kernel
theorem km_2_154 : am_mok 2 (154, 0, 44, 0) := Or.inr (Or.inr ⟨by decide, _, ky_44, kn_44, ⟨ct_436, ct_437, ct_438⟩⟩)
theorem kn_45 : ("LostSheets$Land" ≠ "java/lang/invoke/MethodHandle" ∧ "LostSheets$Land" ≠ "java/lang/invoke/VarHandle" ∧ (parseMethodDescriptor "()I").map (fun d => d.parameters.length) = some 0) := by decide +kernel
theorem km_2_134 : am_mok 2 (134, 0, 45, 0) := Or.inr (Or.inr ⟨by decide, _, ky_45, kn_45, ⟨ct_440, ct_441, ct_442⟩⟩)
theorem kn_46 : ("LostSheets$Land" ≠ "java/lang/invoke/MethodHandle" ∧ "LostSheets$Land" ≠ "java/lang/invoke/VarHandle" ∧ (parseMethodDescriptor "(LLostSheets$Drawer;II)V").map (fun d => d.parameters.length) = some 3) := by decide +kernel
theorem km_2_137 : am_mok 2 (137, 0, 46, 3) := Or.inr (Or.inr ⟨by decide, _, ky_46, kn_46, ⟨ct_444, ct_446, cts_9⟩⟩)
theorem kn_47 : ("LostSheets$Drawer" ≠ "java/lang/invoke/MethodHandle" ∧ "LostSheets$Drawer" ≠ "java/lang/invoke/VarHandle" ∧ (parseMethodDescriptor "(II)V").map (fun d => d.parameters.length) = some 2) := by decide +kernel
theorem km_2_144 : am_mok 2 (144, 0, 47, 2) := Or.inr (Or.inr ⟨by decide, _, ky_47, kn_47, ⟨ct_448, ct_449, ct_450⟩⟩)
theorem kn_48 : ("LostSheets$Drawer" ≠ "java/lang/invoke/MethodHandle" ∧ "LostSheets$Drawer" ≠ "java/lang/invoke/VarHandle" ∧ (parseMethodDescriptor "(I)I").map (fun d => d.parameters.length) = some 1) := by decide +kernel
theorem km_2_148 : am_mok 2 (148, 0, 48, 1) := Or.inr (Or.inr ⟨by decide, _, ky_48, kn_48, ⟨ct_452, ct_453, ct_454⟩⟩)
theorem kn_86 : ("java/lang/Math" ≠ "java/lang/invoke/MethodHandle" ∧ "java/lang/Math" ≠ "java/lang/invoke/VarHandle" ∧ (parseMethodDescriptor "(II)I").map (fun d => d.parameters.length) = some 2) := by decide +kernel
theorem km_2_90 : am_mok 2 (90, 1, 86, 2) := Or.inr (Or.inr ⟨by decide, _, ky_86, kn_86, ⟨ct_631, ct_632⟩⟩)
theorem am_mt_ok_2 : ∀ e ∈ am_mt 2, am_mok 2 e := List.forall_mem_cons.mpr ⟨km_2_3, List.forall_mem_cons.mpr ⟨km_2_46, List.forall_mem_cons.mpr ⟨km_2_59, List.forall_mem_cons.mpr ⟨km_2_109, List.forall_mem_cons.mpr ⟨km_2_105, List.forall_mem_cons.mpr ⟨km_2_113, List.forall_mem_cons.mpr ⟨km_2_117, List.forall_mem_cons.mpr ⟨km_2_124, List.forall_mem_cons.mpr ⟨km_2_127, List.forall_mem_cons.mpr ⟨km_2_163, List.forall_mem_cons.mpr ⟨km_2_141, List.forall_mem_cons.mpr ⟨km_2_167, List.forall_mem_cons.mpr ⟨km_2_170, List.forall_mem_cons.mpr ⟨km_2_67, List.forall_mem_cons.mpr ⟨km_2_173, List.forall_mem_cons.mpr ⟨km_2_49, List.forall_mem_cons.mpr ⟨km_2_55, List.forall_mem_cons.mpr ⟨km_2_70, List.forall_mem_cons.mpr ⟨km_2_63, List.forall_mem_cons.mpr ⟨km_2_151, List.forall_mem_cons.mpr ⟨km_2_130, List.forall_mem_cons.mpr ⟨km_2_154, List.forall_mem_cons.mpr ⟨km_2_134, List.forall_mem_cons.mpr ⟨km_2_137, List.forall_mem_cons.mpr ⟨km_2_144, List.forall_mem_cons.mpr ⟨km_2_148, List.forall_mem_cons.mpr ⟨km_2_90, fun _ h => absurd h List.not_mem_nil⟩⟩⟩⟩⟩⟩⟩⟩⟩⟩⟩⟩⟩⟩⟩⟩⟩⟩⟩⟩⟩⟩⟩⟩⟩⟩⟩
theorem km_3_3 : am_mok 3 (3, 6, 0, 0) := Or.inl ⟨rfl, ct_226⟩
theorem kn_21 : ("LostSheets$Office" ≠ "java/lang/invoke/MethodHandle" ∧ "LostSheets$Office" ≠ "java/lang/invoke/VarHandle" ∧ (parseMethodDescriptor "([III)I").map (fun d => d.parameters.length) = some 3) := by decide +kernel
theorem km_3_25 : am_mok 3 (25, 1, 21, 3) := Or.inr (Or.inr ⟨by decide, _, ky_21, kn_21, ⟨ct_337, ct_338⟩⟩)
theorem am_mt_ok_3 : ∀ e ∈ am_mt 3, am_mok 3 e := List.forall_mem_cons.mpr ⟨km_3_3, List.forall_mem_cons.mpr ⟨km_3_25, fun _ h => absurd h List.not_mem_nil⟩⟩
theorem km_4_1 : am_mok 4 (1, 6, 0, 0) := Or.inl ⟨rfl, ct_138⟩
theorem km_4_13 : am_mok 4 (13, 1, 5, 2) := Or.inr (Or.inr ⟨by decide, _, ky_5, kn_5, ⟨ct_139, ct_140⟩⟩)
theorem kn_96 : ("LostSheets$Rows" ≠ "java/lang/invoke/MethodHandle" ∧ "LostSheets$Rows" ≠ "java/lang/invoke/VarHandle" ∧ (parseMethodDescriptor "(III)Z").map (fun d => d.parameters.length) = some 3) := by decide +kernel
theorem km_4_32 : am_mok 4 (32, 0, 96, 3) := Or.inr (Or.inr ⟨by decide, _, ky_96, kn_96, ⟨ct_767, ct_673, ct_674⟩⟩)
theorem am_mt_ok_4 : ∀ e ∈ am_mt 4, am_mok 4 e := List.forall_mem_cons.mpr ⟨km_4_1, List.forall_mem_cons.mpr ⟨km_4_13, List.forall_mem_cons.mpr ⟨km_4_32, fun _ h => absurd h List.not_mem_nil⟩⟩⟩
theorem km_5_3 : am_mok 5 (3, 6, 0, 0) := Or.inl ⟨rfl, ct_246⟩
theorem am_mt_ok_5 : ∀ e ∈ am_mt 5, am_mok 5 e := List.forall_mem_cons.mpr ⟨km_5_3, fun _ h => absurd h List.not_mem_nil⟩
theorem km_6_3 : am_mok 6 (3, 6, 0, 0) := Or.inl ⟨rfl, ct_184⟩
theorem kn_59 : ("LostSheets$Office" ≠ "java/lang/invoke/MethodHandle" ∧ "LostSheets$Office" ≠ "java/lang/invoke/VarHandle" ∧ (parseMethodDescriptor "()V").map (fun d => d.parameters.length) = some 0) := by decide +kernel
theorem km_6_29 : am_mok 6 (29, 0, 59, 0) := Or.inr (Or.inr ⟨by decide, _, ky_59, kn_59, ⟨ct_497, ct_498, ct_499⟩⟩)
theorem kn_60 : ("LostSheets$Text" ≠ "java/lang/invoke/MethodHandle" ∧ "LostSheets$Text" ≠ "java/lang/invoke/VarHandle" ∧ (parseMethodDescriptor "()Z").map (fun d => d.parameters.length) = some 0) := by decide +kernel
theorem km_6_34 : am_mok 6 (34, 0, 60, 0) := Or.inr (Or.inr ⟨by decide, _, ky_60, kn_60, ⟨ct_501, ct_503, cts_10⟩⟩)
theorem kn_61 : ("LostSheets$Text" ≠ "java/lang/invoke/MethodHandle" ∧ "LostSheets$Text" ≠ "java/lang/invoke/VarHandle" ∧ (parseMethodDescriptor "()I").map (fun d => d.parameters.length) = some 0) := by decide +kernel
theorem km_6_42 : am_mok 6 (42, 0, 61, 0) := Or.inr (Or.inr ⟨by decide, _, ky_61, kn_61, ⟨ct_505, ct_507, cts_11⟩⟩)
theorem kn_62 : ("LostSheets$Text" ≠ "java/lang/invoke/MethodHandle" ∧ "LostSheets$Text" ≠ "java/lang/invoke/VarHandle" ∧ (parseMethodDescriptor "(Ljava/lang/String;)Z").map (fun d => d.parameters.length) = some 1) := by decide +kernel
theorem km_6_61 : am_mok 6 (61, 0, 62, 1) := Or.inr (Or.inr ⟨by decide, _, ky_62, kn_62, ⟨ct_512, ct_514, cts_12⟩⟩)
theorem kn_63 : ("java/lang/String" ≠ "java/lang/invoke/MethodHandle" ∧ "java/lang/String" ≠ "java/lang/invoke/VarHandle" ∧ (parseMethodDescriptor "()I").map (fun d => d.parameters.length) = some 0) := by decide +kernel
theorem km_6_46 : am_mok 6 (46, 0, 63, 0) := Or.inr (Or.inr ⟨by decide, _, ky_63, kn_63, ⟨ct_516, ct_517, ct_518⟩⟩)
theorem kn_65 : ("java/lang/String" ≠ "java/lang/invoke/MethodHandle" ∧ "java/lang/String" ≠ "java/lang/invoke/VarHandle" ∧ (parseMethodDescriptor "(I)C").map (fun d => d.parameters.length) = some 1) := by decide +kernel
theorem km_6_51 : am_mok 6 (51, 0, 65, 1) := Or.inr (Or.inr ⟨by decide, _, ky_65, kn_65, ⟨ct_526, ct_527, ct_528⟩⟩)
theorem kn_70 : ("LostSheets$Text" ≠ "java/lang/invoke/MethodHandle" ∧ "LostSheets$Text" ≠ "java/lang/invoke/VarHandle" ∧ (parseMethodDescriptor "(I)Z").map (fun d => d.parameters.length) = some 1) := by decide +kernel
theorem km_6_38 : am_mok 6 (38, 0, 70, 1) := Or.inr (Or.inr ⟨by decide, _, ky_70, kn_70, ⟨ct_564, ct_566, cts_13⟩⟩)
theorem kn_71 : ("LostSheets$Text" ≠ "java/lang/invoke/MethodHandle" ∧ "LostSheets$Text" ≠ "java/lang/invoke/VarHandle" ∧ (parseMethodDescriptor "()Z").map (fun d => d.parameters.length) = some 0) := by decide +kernel
theorem km_6_65 : am_mok 6 (65, 0, 71, 0) := Or.inr (Or.inr ⟨by decide, _, ky_71, kn_71, ⟨ct_568, ct_570, cts_14⟩⟩)
theorem kn_72 : ("LostSheets$Text" ≠ "java/lang/invoke/MethodHandle" ∧ "LostSheets$Text" ≠ "java/lang/invoke/VarHandle" ∧ (parseMethodDescriptor "(I)Z").map (fun d => d.parameters.length) = some 1) := by decide +kernel
theorem km_6_71 : am_mok 6 (71, 0, 72, 1) := Or.inr (Or.inr ⟨by decide, _, ky_72, kn_72, ⟨ct_572, ct_574, cts_15⟩⟩)
theorem kn_73 : ("LostSheets$Text" ≠ "java/lang/invoke/MethodHandle" ∧ "LostSheets$Text" ≠ "java/lang/invoke/VarHandle" ∧ (parseMethodDescriptor "(I)Z").map (fun d => d.parameters.length) = some 1) := by decide +kernel
theorem km_6_78 : am_mok 6 (78, 0, 73, 1) := Or.inr (Or.inr ⟨by decide, _, ky_73, kn_73, ⟨ct_576, ct_578, cts_16⟩⟩)
theorem kn_74 : ("LostSheets$Text" ≠ "java/lang/invoke/MethodHandle" ∧ "LostSheets$Text" ≠ "java/lang/invoke/VarHandle" ∧ (parseMethodDescriptor "(I)Z").map (fun d => d.parameters.length) = some 1) := by decide +kernel
theorem km_6_81 : am_mok 6 (81, 0, 74, 1) := Or.inr (Or.inr ⟨by decide, _, ky_74, kn_74, ⟨ct_580, ct_582, cts_17⟩⟩)
theorem kn_75 : ("LostSheets$Text" ≠ "java/lang/invoke/MethodHandle" ∧ "LostSheets$Text" ≠ "java/lang/invoke/VarHandle" ∧ (parseMethodDescriptor "()Z").map (fun d => d.parameters.length) = some 0) := by decide +kernel
theorem km_6_84 : am_mok 6 (84, 0, 75, 0) := Or.inr (Or.inr ⟨by decide, _, ky_75, kn_75, ⟨ct_584, ct_586, cts_18⟩⟩)
theorem kn_76 : ("LostSheets$Text" ≠ "java/lang/invoke/MethodHandle" ∧ "LostSheets$Text" ≠ "java/lang/invoke/VarHandle" ∧ (parseMethodDescriptor "(Ljava/lang/String;I)I").map (fun d => d.parameters.length) = some 2) := by decide +kernel
theorem km_6_95 : am_mok 6 (95, 1, 76, 2) := Or.inr (Or.inr ⟨by decide, _, ky_76, kn_76, ⟨ct_589, ct_590⟩⟩)
theorem kn_77 : ("LostSheets$Office" ≠ "java/lang/invoke/MethodHandle" ∧ "LostSheets$Office" ≠ "java/lang/invoke/VarHandle" ∧ (parseMethodDescriptor "(II)V").map (fun d => d.parameters.length) = some 2) := by decide +kernel
theorem km_6_74 : am_mok 6 (74, 0, 77, 2) := Or.inr (Or.inr ⟨by decide, _, ky_77, kn_77, ⟨ct_593, ct_594, ct_595⟩⟩)
theorem kn_78 : ("LostSheets$Text" ≠ "java/lang/invoke/MethodHandle" ∧ "LostSheets$Text" ≠ "java/lang/invoke/VarHandle" ∧ (parseMethodDescriptor "(I)Z").map (fun d => d.parameters.length) = some 1) := by decide +kernel
theorem km_6_87 : am_mok 6 (87, 0, 78, 1) := Or.inr (Or.inr ⟨by decide, _, ky_78, kn_78, ⟨ct_597, ct_599, cts_19⟩⟩)
theorem kn_79 : ("LostSheets$Text" ≠ "java/lang/invoke/MethodHandle" ∧ "LostSheets$Text" ≠ "java/lang/invoke/VarHandle" ∧ (parseMethodDescriptor "(I)Z").map (fun d => d.parameters.length) = some 1) := by decide +kernel
theorem km_6_90 : am_mok 6 (90, 0, 79, 1) := Or.inr (Or.inr ⟨by decide, _, ky_79, kn_79, ⟨ct_601, ct_603, cts_20⟩⟩)
theorem am_mt_ok_6 : ∀ e ∈ am_mt 6, am_mok 6 e := List.forall_mem_cons.mpr ⟨km_6_3, List.forall_mem_cons.mpr ⟨km_6_29, List.forall_mem_cons.mpr ⟨km_6_34, List.forall_mem_cons.mpr ⟨km_6_42, List.forall_mem_cons.mpr ⟨km_6_61, List.forall_mem_cons.mpr ⟨km_6_46, List.forall_mem_cons.mpr ⟨km_6_51, List.forall_mem_cons.mpr ⟨km_6_38, List.forall_mem_cons.mpr ⟨km_6_65, List.forall_mem_cons.mpr ⟨km_6_71, List.forall_mem_cons.mpr ⟨km_6_78, List.forall_mem_cons.mpr ⟨km_6_81, List.forall_mem_cons.mpr ⟨km_6_84, List.forall_mem_cons.mpr ⟨km_6_95, List.forall_mem_cons.mpr ⟨km_6_74, List.forall_mem_cons.mpr ⟨km_6_87, List.forall_mem_cons.mpr ⟨km_6_90, fun _ h => absurd h List.not_mem_nil⟩⟩⟩⟩⟩⟩⟩⟩⟩⟩⟩⟩⟩⟩⟩⟩⟩
theorem km_7_3 : am_mok 7 (3, 6, 0, 0) := Or.inl ⟨rfl, ct_210⟩
theorem kn_123 : ("LostSheets$Trace" ≠ "java/lang/invoke/MethodHandle" ∧ "LostSheets$Trace" ≠ "java/lang/invoke/VarHandle" ∧ (parseMethodDescriptor "(LLostSheets$Drawer;IIII)I").map (fun d => d.parameters.length) = some 5) := by decide +kernel
theorem km_7_31 : am_mok 7 (31, 0, 123, 5) := Or.inr (Or.inr ⟨by decide, _, ky_123, kn_123, ⟨ct_780, ct_782, cts_30⟩⟩)
theorem kn_124 : ("LostSheets$Trace" ≠ "java/lang/invoke/MethodHandle" ∧ "LostSheets$Trace" ≠ "java/lang/invoke/VarHandle" ∧ (parseMethodDescriptor "(II)I").map (fun d => d.parameters.length) = some 2) := by decide +kernel
theorem km_7_35 : am_mok 7 (35, 1, 124, 2) := Or.inr (Or.inr ⟨by decide, _, ky_124, kn_124, ⟨ct_784, ct_785⟩⟩)
theorem kn_125 : ("LostSheets" ≠ "java/lang/invoke/MethodHandle" ∧ "LostSheets" ≠ "java/lang/invoke/VarHandle" ∧ (parseMethodDescriptor "(I)I").map (fun d => d.parameters.length) = some 1) := by decide +kernel
theorem km_7_22 : am_mok 7 (22, 4, 125, 1) := Or.inr (Or.inr ⟨by decide, _, ky_125, kn_125, ⟨ct_789, ct_790⟩⟩)
theorem kn_126 : ("LostSheets$Trace" ≠ "java/lang/invoke/MethodHandle" ∧ "LostSheets$Trace" ≠ "java/lang/invoke/VarHandle" ∧ (parseMethodDescriptor "(I)V").map (fun d => d.parameters.length) = some 1) := by decide +kernel
theorem km_7_39 : am_mok 7 (39, 0, 126, 1) := Or.inr (Or.inr ⟨by decide, _, ky_126, kn_126, ⟨ct_794, ct_796, cts_31⟩⟩)
theorem kn_127 : ("LostSheets$Trace" ≠ "java/lang/invoke/MethodHandle" ∧ "LostSheets$Trace" ≠ "java/lang/invoke/VarHandle" ∧ (parseMethodDescriptor "(ILLostSheets$Drawer;II)I").map (fun d => d.parameters.length) = some 4) := by decide +kernel
theorem km_7_43 : am_mok 7 (43, 0, 127, 4) := Or.inr (Or.inr ⟨by decide, _, ky_127, kn_127, ⟨ct_798, ct_800, cts_32⟩⟩)
theorem am_mt_ok_7 : ∀ e ∈ am_mt 7, am_mok 7 e := List.forall_mem_cons.mpr ⟨km_7_3, List.forall_mem_cons.mpr ⟨km_7_31, List.forall_mem_cons.mpr ⟨km_7_35, List.forall_mem_cons.mpr ⟨km_7_22, List.forall_mem_cons.mpr ⟨km_7_39, List.forall_mem_cons.mpr ⟨km_7_43, fun _ h => absurd h List.not_mem_nil⟩⟩⟩⟩⟩⟩
theorem km_8_3 : am_mok 8 (3, 6, 0, 0) := Or.inl ⟨rfl, ct_24⟩
theorem kn_1 : ("LostSheets$Land" ≠ "java/lang/invoke/MethodHandle" ∧ "LostSheets$Land" ≠ "java/lang/invoke/VarHandle" ∧ (parseMethodDescriptor "()V").map (fun d => d.parameters.length) = some 0) := by decide +kernel
theorem km_8_11 : am_mok 8 (11, 2, 1, 0) := Or.inr (Or.inr ⟨by decide, _, ky_1, kn_1, ⟨ct_29, ct_30, rfl, rfl⟩⟩)
theorem kn_3 : ("LostSheets$ByHand" ≠ "java/lang/invoke/MethodHandle" ∧ "LostSheets$ByHand" ≠ "java/lang/invoke/VarHandle" ∧ (parseMethodDescriptor "()V").map (fun d => d.parameters.length) = some 0) := by decide +kernel
theorem km_8_26 : am_mok 8 (26, 5, 3, 0) := Or.inr (Or.inr ⟨by decide, _, ky_3, kn_3, ⟨ct_129, ct_130, rfl, rfl⟩⟩)
theorem kn_6 : ("LostSheets$Text" ≠ "java/lang/invoke/MethodHandle" ∧ "LostSheets$Text" ≠ "java/lang/invoke/VarHandle" ∧ (parseMethodDescriptor "()V").map (fun d => d.parameters.length) = some 0) := by decide +kernel
theorem km_8_40 : am_mok 8 (40, 5, 6, 0) := Or.inr (Or.inr ⟨by decide, _, ky_6, kn_6, ⟨ct_181, ct_182, rfl, rfl⟩⟩)
theorem kn_7 : ("LostSheets$Trace" ≠ "java/lang/invoke/MethodHandle" ∧ "LostSheets$Trace" ≠ "java/lang/invoke/VarHandle" ∧ (parseMethodDescriptor "()V").map (fun d => d.parameters.length) = some 0) := by decide +kernel
theorem km_8_57 : am_mok 8 (57, 5, 7, 0) := Or.inr (Or.inr ⟨by decide, _, ky_7, kn_7, ⟨ct_207, ct_208, rfl, rfl⟩⟩)
theorem kn_8 : ("LostSheets$Office" ≠ "java/lang/invoke/MethodHandle" ∧ "LostSheets$Office" ≠ "java/lang/invoke/VarHandle" ∧ (parseMethodDescriptor "()V").map (fun d => d.parameters.length) = some 0) := by decide +kernel
theorem km_8_68 : am_mok 8 (68, 5, 8, 0) := Or.inr (Or.inr ⟨by decide, _, ky_8, kn_8, ⟨ct_223, ct_224, rfl, rfl⟩⟩)
theorem kn_9 : ("LostSheets$Tape" ≠ "java/lang/invoke/MethodHandle" ∧ "LostSheets$Tape" ≠ "java/lang/invoke/VarHandle" ∧ (parseMethodDescriptor "()V").map (fun d => d.parameters.length) = some 0) := by decide +kernel
theorem km_8_69 : am_mok 8 (69, 5, 9, 0) := Or.inr (Or.inr ⟨by decide, _, ky_9, kn_9, ⟨ct_243, ct_244, rfl, rfl⟩⟩)
theorem km_8_70 : am_mok 8 (70, 1, 11, 1) := Or.inr (Or.inr ⟨by decide, _, ky_11, kn_11, ⟨ct_299, ct_300⟩⟩)
theorem kn_12 : ("LostSheets" ≠ "java/lang/invoke/MethodHandle" ∧ "LostSheets" ≠ "java/lang/invoke/VarHandle" ∧ (parseMethodDescriptor "(I)Z").map (fun d => d.parameters.length) = some 1) := by decide +kernel
theorem km_8_74 : am_mok 8 (74, 1, 12, 1) := Or.inr (Or.inr ⟨by decide, _, ky_12, kn_12, ⟨ct_302, ct_303⟩⟩)
theorem kn_13 : ("LostSheets$Land" ≠ "java/lang/invoke/MethodHandle" ∧ "LostSheets$Land" ≠ "java/lang/invoke/VarHandle" ∧ (parseMethodDescriptor "(III)Z").map (fun d => d.parameters.length) = some 3) := by decide +kernel
theorem km_8_77 : am_mok 8 (77, 0, 13, 3) := Or.inr (Or.inr ⟨by decide, _, ky_13, kn_13, ⟨ct_305, ct_306, ct_307⟩⟩)
theorem km_8_84 : am_mok 8 (84, 0, 16, 1) := Or.inr (Or.inr ⟨by decide, _, ky_16, kn_16, ⟨ct_317, ct_318, ct_319⟩⟩)
theorem km_8_108 : am_mok 8 (108, 0, 17, 1) := Or.inr (Or.inr ⟨by decide, _, ky_17, kn_17, ⟨ct_321, ct_322, ct_323⟩⟩)
theorem kn_24 : ("LostSheets$Land" ≠ "java/lang/invoke/MethodHandle" ∧ "LostSheets$Land" ≠ "java/lang/invoke/VarHandle" ∧ (parseMethodDescriptor "(LLostSheets$Drawer;)I").map (fun d => d.parameters.length) = some 1) := by decide +kernel
theorem km_8_112 : am_mok 8 (112, 0, 24, 1) := Or.inr (Or.inr ⟨by decide, _, ky_24, kn_24, ⟨ct_347, ct_348, ct_349⟩⟩)
theorem kn_25 : ("LostSheets$Land" ≠ "java/lang/invoke/MethodHandle" ∧ "LostSheets$Land" ≠ "java/lang/invoke/VarHandle" ∧ (parseMethodDescriptor "(LLostSheets$Drawer;)I").map (fun d => d.parameters.length) = some 1) := by decide +kernel
theorem km_8_115 : am_mok 8 (115, 0, 25, 1) := Or.inr (Or.inr ⟨by decide, _, ky_25, kn_25, ⟨ct_352, ct_353, ct_354⟩⟩)
theorem km_8_118 : am_mok 8 (118, 0, 28, 1) := Or.inr (Or.inr ⟨by decide, _, ky_28, kn_28, ⟨ct_363, ct_364, ct_365⟩⟩)
theorem kn_29 : ("LostSheets$Land" ≠ "java/lang/invoke/MethodHandle" ∧ "LostSheets$Land" ≠ "java/lang/invoke/VarHandle" ∧ (parseMethodDescriptor "(LLostSheets$Drawer;)I").map (fun d => d.parameters.length) = some 1) := by decide +kernel
theorem km_8_121 : am_mok 8 (121, 0, 29, 1) := Or.inr (Or.inr ⟨by decide, _, ky_29, kn_29, ⟨ct_367, ct_368, ct_369⟩⟩)
theorem kn_32 : ("LostSheets" ≠ "java/lang/invoke/MethodHandle" ∧ "LostSheets" ≠ "java/lang/invoke/VarHandle" ∧ (parseMethodDescriptor "(LLostSheets$Drawer;)I").map (fun d => d.parameters.length) = some 1) := by decide +kernel
theorem km_8_124 : am_mok 8 (124, 0, 32, 1) := Or.inr (Or.inr ⟨by decide, _, ky_32, kn_32, ⟨ct_380, ct_382, cts_4⟩⟩)
theorem kn_33 : ("LostSheets" ≠ "java/lang/invoke/MethodHandle" ∧ "LostSheets" ≠ "java/lang/invoke/VarHandle" ∧ (parseMethodDescriptor "(II)V").map (fun d => d.parameters.length) = some 2) := by decide +kernel
theorem km_8_230 : am_mok 8 (230, 0, 33, 2) := Or.inr (Or.inr ⟨by decide, _, ky_33, kn_33, ⟨ct_384, ct_386, cts_5⟩⟩)
theorem kn_34 : ("LostSheets$Land" ≠ "java/lang/invoke/MethodHandle" ∧ "LostSheets$Land" ≠ "java/lang/invoke/VarHandle" ∧ (parseMethodDescriptor "(LLostSheets$Land;)V").map (fun d => d.parameters.length) = some 1) := by decide +kernel
theorem km_8_191 : am_mok 8 (191, 0, 34, 1) := Or.inr (Or.inr ⟨by decide, _, ky_34, kn_34, ⟨ct_388, ct_389, ct_390⟩⟩)
theorem kn_36 : ("LostSheets$Land" ≠ "java/lang/invoke/MethodHandle" ∧ "LostSheets$Land" ≠ "java/lang/invoke/VarHandle" ∧ (parseMethodDescriptor "(II)V").map (fun d => d.parameters.length) = some 2) := by decide +kernel
theorem km_8_319 : am_mok 8 (319, 0, 36, 2) := Or.inr (Or.inr ⟨by decide, _, ky_36, kn_36, ⟨ct_400, ct_401, ct_402⟩⟩)
theorem kn_37 : ("LostSheets" ≠ "java/lang/invoke/MethodHandle" ∧ "LostSheets" ≠ "java/lang/invoke/VarHandle" ∧ (parseMethodDescriptor "()Z").map (fun d => d.parameters.length) = some 0) := by decide +kernel
theorem km_8_326 : am_mok 8 (326, 0, 37, 0) := Or.inr (Or.inr ⟨by decide, _, ky_37, kn_37, ⟨ct_406, ct_408, cts_6⟩⟩)
theorem kn_38 : ("LostSheets$ByHand" ≠ "java/lang/invoke/MethodHandle" ∧ "LostSheets$ByHand" ≠ "java/lang/invoke/VarHandle" ∧ (parseMethodDescriptor "()I").map (fun d => d.parameters.length) = some 0) := by decide +kernel
theorem km_8_336 : am_mok 8 (336, 0, 38, 0) := Or.inr (Or.inr ⟨by decide, _, ky_38, kn_38, ⟨ct_410, ct_411, ct_412⟩⟩)
theorem kn_39 : ("LostSheets" ≠ "java/lang/invoke/MethodHandle" ∧ "LostSheets" ≠ "java/lang/invoke/VarHandle" ∧ (parseMethodDescriptor "(I)Z").map (fun d => d.parameters.length) = some 1) := by decide +kernel
theorem km_8_339 : am_mok 8 (339, 0, 39, 1) := Or.inr (Or.inr ⟨by decide, _, ky_39, kn_39, ⟨ct_415, ct_417, cts_7⟩⟩)
theorem kn_40 : ("LostSheets$Land" ≠ "java/lang/invoke/MethodHandle" ∧ "LostSheets$Land" ≠ "java/lang/invoke/VarHandle" ∧ (parseMethodDescriptor "(I)I").map (fun d => d.parameters.length) = some 1) := by decide +kernel
theorem km_8_195 : am_mok 8 (195, 0, 40, 1) := Or.inr (Or.inr ⟨by decide, _, ky_40, kn_40, ⟨ct_419, ct_420, ct_421⟩⟩)
theorem km_8_137 : am_mok 8 (137, 0, 19, 1) := Or.inr (Or.inr ⟨by decide, _, ky_19, kn_19, ⟨ct_423, ct_330, ct_331⟩⟩)
theorem kn_41 : ("LostSheets$Land" ≠ "java/lang/invoke/MethodHandle" ∧ "LostSheets$Land" ≠ "java/lang/invoke/VarHandle" ∧ (parseMethodDescriptor "(I)V").map (fun d => d.parameters.length) = some 1) := by decide +kernel
theorem km_8_181 : am_mok 8 (181, 0, 41, 1) := Or.inr (Or.inr ⟨by decide, _, ky_41, kn_41, ⟨ct_424, ct_425, ct_426⟩⟩)
theorem km_8_134 : am_mok 8 (134, 1, 31, 1) := Or.inr (Or.inr ⟨by decide, _, ky_31, kn_31, ⟨ct_472, ct_377⟩⟩)
theorem kn_53 : ("LostSheets$Land" ≠ "java/lang/invoke/MethodHandle" ∧ "LostSheets$Land" ≠ "java/lang/invoke/VarHandle" ∧ (parseMethodDescriptor "(II)V").map (fun d => d.parameters.length) = some 2) := by decide +kernel
theorem km_8_141 : am_mok 8 (141, 0, 53, 2) := Or.inr (Or.inr ⟨by decide, _, ky_53, kn_53, ⟨ct_473, ct_474, ct_475⟩⟩)
theorem kn_56 : ("LostSheets$Text" ≠ "java/lang/invoke/MethodHandle" ∧ "LostSheets$Text" ≠ "java/lang/invoke/VarHandle" ∧ (parseMethodDescriptor "(I)Z").map (fun d => d.parameters.length) = some 1) := by decide +kernel
theorem km_8_148 : am_mok 8 (148, 0, 56, 1) := Or.inr (Or.inr ⟨by decide, _, ky_56, kn_56, ⟨ct_485, ct_486, ct_487⟩⟩)
theorem kn_58 : ("LostSheets$Text" ≠ "java/lang/invoke/MethodHandle" ∧ "LostSheets$Text" ≠ "java/lang/invoke/VarHandle" ∧ (parseMethodDescriptor "(LLostSheets$Office;)I").map (fun d => d.parameters.length) = some 1) := by decide +kernel
theorem km_8_154 : am_mok 8 (154, 0, 58, 1) := Or.inr (Or.inr ⟨by decide, _, ky_58, kn_58, ⟨ct_493, ct_494, ct_495⟩⟩)
theorem kn_81 : ("LostSheets" ≠ "java/lang/invoke/MethodHandle" ∧ "LostSheets" ≠ "java/lang/invoke/VarHandle" ∧ (parseMethodDescriptor "(I)I").map (fun d => d.parameters.length) = some 1) := by decide +kernel
theorem km_8_162 : am_mok 8 (162, 0, 81, 1) := Or.inr (Or.inr ⟨by decide, _, ky_81, kn_81, ⟨ct_609, ct_611, cts_21⟩⟩)
theorem km_8_168 : am_mok 8 (168, 0, 45, 0) := Or.inr (Or.inr ⟨by decide, _, ky_45, kn_45, ⟨ct_613, ct_441, ct_442⟩⟩)
theorem kn_82 : ("LostSheets$Land" ≠ "java/lang/invoke/MethodHandle" ∧ "LostSheets$Land" ≠ "java/lang/invoke/VarHandle" ∧ (parseMethodDescriptor "()I").map (fun d => d.parameters.length) = some 0) := by decide +kernel
theorem km_8_175 : am_mok 8 (175, 0, 82, 0) := Or.inr (Or.inr ⟨by decide, _, ky_82, kn_82, ⟨ct_614, ct_615, ct_616⟩⟩)
theorem kn_83 : ("LostSheets" ≠ "java/lang/invoke/MethodHandle" ∧ "LostSheets" ≠ "java/lang/invoke/VarHandle" ∧ (parseMethodDescriptor "()I").map (fun d => d.parameters.length) = some 0) := by decide +kernel
theorem km_8_178 : am_mok 8 (178, 0, 83, 0) := Or.inr (Or.inr ⟨by decide, _, ky_83, kn_83, ⟨ct_618, ct_620, cts_22⟩⟩)
theorem kn_85 : ("LostSheets$Land" ≠ "java/lang/invoke/MethodHandle" ∧ "LostSheets$Land" ≠ "java/lang/invoke/VarHandle" ∧ (parseMethodDescriptor "()V").map (fun d => d.parameters.length) = some 0) := by decide +kernel
theorem km_8_185 : am_mok 8 (185, 0, 85, 0) := Or.inr (Or.inr ⟨by decide, _, ky_85, kn_85, ⟨ct_627, ct_628, ct_629⟩⟩)
theorem kn_88 : ("LostSheets" ≠ "java/lang/invoke/MethodHandle" ∧ "LostSheets" ≠ "java/lang/invoke/VarHandle" ∧ (parseMethodDescriptor "(I)LLostSheets$Drawer;").map (fun d => d.parameters.length) = some 1) := by decide +kernel
theorem km_8_188 : am_mok 8 (188, 0, 88, 1) := Or.inr (Or.inr ⟨by decide, _, ky_88, kn_88, ⟨ct_638, ct_640, cts_23⟩⟩)
theorem kn_90 : ("LostSheets" ≠ "java/lang/invoke/MethodHandle" ∧ "LostSheets" ≠ "java/lang/invoke/VarHandle" ∧ (parseMethodDescriptor "(I)I").map (fun d => d.parameters.length) = some 1) := by decide +kernel
theorem km_8_198 : am_mok 8 (198, 0, 90, 1) := Or.inr (Or.inr ⟨by decide, _, ky_90, kn_90, ⟨ct_646, ct_648, cts_24⟩⟩)
theorem kn_91 : ("java/lang/Integer" ≠ "java/lang/invoke/MethodHandle" ∧ "java/lang/Integer" ≠ "java/lang/invoke/VarHandle" ∧ (parseMethodDescriptor "(I)I").map (fun d => d.parameters.length) = some 1) := by decide +kernel
theorem km_8_220 : am_mok 8 (220, 1, 91, 1) := Or.inr (Or.inr ⟨by decide, _, ky_91, kn_91, ⟨ct_650, ct_651⟩⟩)
theorem kn_92 : ("LostSheets$Land" ≠ "java/lang/invoke/MethodHandle" ∧ "LostSheets$Land" ≠ "java/lang/invoke/VarHandle" ∧ (parseMethodDescriptor "(I)V").map (fun d => d.parameters.length) = some 1) := by decide +kernel
theorem km_8_323 : am_mok 8 (323, 0, 92, 1) := Or.inr (Or.inr ⟨by decide, _, ky_92, kn_92, ⟨ct_656, ct_657, ct_658⟩⟩)
theorem kn_93 : ("LostSheets" ≠ "java/lang/invoke/MethodHandle" ∧ "LostSheets" ≠ "java/lang/invoke/VarHandle" ∧ (parseMethodDescriptor "(II)I").map (fun d => d.parameters.length) = some 2) := by decide +kernel
theorem km_8_201 : am_mok 8 (201, 0, 93, 2) := Or.inr (Or.inr ⟨by decide, _, ky_93, kn_93, ⟨ct_660, ct_662, cts_25⟩⟩)
theorem kn_95 : ("LostSheets$Rows" ≠ "java/lang/invoke/MethodHandle" ∧ "LostSheets$Rows" ≠ "java/lang/invoke/VarHandle" ∧ (parseMethodDescriptor "()V").map (fun d => d.parameters.length) = some 0) := by decide +kernel
theorem km_8_209 : am_mok 8 (209, 0, 95, 0) := Or.inr (Or.inr ⟨by decide, _, ky_95, kn_95, ⟨ct_668, ct_669, ct_670⟩⟩)
theorem km_8_214 : am_mok 8 (214, 0, 96, 3) := Or.inr (Or.inr ⟨by decide, _, ky_96, kn_96, ⟨ct_672, ct_673, ct_674⟩⟩)
theorem kn_98 : ("LostSheets" ≠ "java/lang/invoke/MethodHandle" ∧ "LostSheets" ≠ "java/lang/invoke/VarHandle" ∧ (parseMethodDescriptor "(I)I").map (fun d => d.parameters.length) = some 1) := by decide +kernel
theorem km_8_217 : am_mok 8 (217, 0, 98, 1) := Or.inr (Or.inr ⟨by decide, _, ky_98, kn_98, ⟨ct_680, ct_682, cts_26⟩⟩)
theorem kn_99 : ("LostSheets$Land" ≠ "java/lang/invoke/MethodHandle" ∧ "LostSheets$Land" ≠ "java/lang/invoke/VarHandle" ∧ (parseMethodDescriptor "(II)V").map (fun d => d.parameters.length) = some 2) := by decide +kernel
theorem km_8_333 : am_mok 8 (333, 0, 99, 2) := Or.inr (Or.inr ⟨by decide, _, ky_99, kn_99, ⟨ct_684, ct_685, ct_686⟩⟩)
theorem kn_100 : ("LostSheets" ≠ "java/lang/invoke/MethodHandle" ∧ "LostSheets" ≠ "java/lang/invoke/VarHandle" ∧ (parseMethodDescriptor "(I)I").map (fun d => d.parameters.length) = some 1) := by decide +kernel
theorem km_8_225 : am_mok 8 (225, 1, 100, 1) := Or.inr (Or.inr ⟨by decide, _, ky_100, kn_100, ⟨ct_688, ct_689⟩⟩)
theorem kn_102 : ("LostSheets" ≠ "java/lang/invoke/MethodHandle" ∧ "LostSheets" ≠ "java/lang/invoke/VarHandle" ∧ (parseMethodDescriptor "(JJI)J").map (fun d => d.parameters.length) = some 3) := by decide +kernel
theorem km_8_235 : am_mok 8 (235, 1, 102, 3) := Or.inr (Or.inr ⟨by decide, _, ky_102, kn_102, ⟨ct_697, ct_698⟩⟩)
theorem kn_103 : ("LostSheets" ≠ "java/lang/invoke/MethodHandle" ∧ "LostSheets" ≠ "java/lang/invoke/VarHandle" ∧ (parseMethodDescriptor "(JJ)J").map (fun d => d.parameters.length) = some 2) := by decide +kernel
theorem km_8_351 : am_mok 8 (351, 1, 103, 2) := Or.inr (Or.inr ⟨by decide, _, ky_103, kn_103, ⟨ct_700, ct_701⟩⟩)
theorem kn_105 : ("LostSheets$Land" ≠ "java/lang/invoke/MethodHandle" ∧ "LostSheets$Land" ≠ "java/lang/invoke/VarHandle" ∧ (parseMethodDescriptor "()I").map (fun d => d.parameters.length) = some 0) := by decide +kernel
theorem km_8_239 : am_mok 8 (239, 0, 105, 0) := Or.inr (Or.inr ⟨by decide, _, ky_105, kn_105, ⟨ct_707, ct_708, ct_709⟩⟩)
theorem kn_107 : ("LostSheets" ≠ "java/lang/invoke/MethodHandle" ∧ "LostSheets" ≠ "java/lang/invoke/VarHandle" ∧ (parseMethodDescriptor "(II)Z").map (fun d => d.parameters.length) = some 2) := by decide +kernel
theorem km_8_245 : am_mok 8 (245, 0, 107, 2) := Or.inr (Or.inr ⟨by decide, _, ky_107, kn_107, ⟨ct_715, ct_717, cts_27⟩⟩)
theorem kn_109 : ("LostSheets" ≠ "java/lang/invoke/MethodHandle" ∧ "LostSheets" ≠ "java/lang/invoke/VarHandle" ∧ (parseMethodDescriptor "()V").map (fun d => d.parameters.length) = some 0) := by decide +kernel
theorem km_8_249 : am_mok 8 (249, 0, 109, 0) := Or.inr (Or.inr ⟨by decide, _, ky_109, kn_109, ⟨ct_723, ct_725, cts_28⟩⟩)
theorem kn_110 : ("LostSheets$Land" ≠ "java/lang/invoke/MethodHandle" ∧ "LostSheets$Land" ≠ "java/lang/invoke/VarHandle" ∧ (parseMethodDescriptor "(I)V").map (fun d => d.parameters.length) = some 1) := by decide +kernel
theorem km_8_345 : am_mok 8 (345, 0, 110, 1) := Or.inr (Or.inr ⟨by decide, _, ky_110, kn_110, ⟨ct_727, ct_728, ct_729⟩⟩)
theorem kn_111 : ("LostSheets$Land" ≠ "java/lang/invoke/MethodHandle" ∧ "LostSheets$Land" ≠ "java/lang/invoke/VarHandle" ∧ (parseMethodDescriptor "(I)V").map (fun d => d.parameters.length) = some 1) := by decide +kernel
theorem km_8_348 : am_mok 8 (348, 0, 111, 1) := Or.inr (Or.inr ⟨by decide, _, ky_111, kn_111, ⟨ct_731, ct_732, ct_733⟩⟩)
theorem kn_115 : ("LostSheets" ≠ "java/lang/invoke/MethodHandle" ∧ "LostSheets" ≠ "java/lang/invoke/VarHandle" ∧ (parseMethodDescriptor "(I)LLostSheets$Tape;").map (fun d => d.parameters.length) = some 1) := by decide +kernel
theorem km_8_264 : am_mok 8 (264, 0, 115, 1) := Or.inr (Or.inr ⟨by decide, _, ky_115, kn_115, ⟨ct_747, ct_749, cts_29⟩⟩)
theorem kn_116 : ("LostSheets$Tape" ≠ "java/lang/invoke/MethodHandle" ∧ "LostSheets$Tape" ≠ "java/lang/invoke/VarHandle" ∧ (parseMethodDescriptor "(I)Z").map (fun d => d.parameters.length) = some 1) := by decide +kernel
theorem km_8_274 : am_mok 8 (274, 0, 116, 1) := Or.inr (Or.inr ⟨by decide, _, ky_116, kn_116, ⟨ct_751, ct_752, ct_753⟩⟩)
theorem kn_118 : ("LostSheets$ByHand" ≠ "java/lang/invoke/MethodHandle" ∧ "LostSheets$ByHand" ≠ "java/lang/invoke/VarHandle" ∧ (parseMethodDescriptor "(LLostSheets$ByHand;)V").map (fun d => d.parameters.length) = some 1) := by decide +kernel
theorem km_8_281 : am_mok 8 (281, 0, 118, 1) := Or.inr (Or.inr ⟨by decide, _, ky_118, kn_118, ⟨ct_759, ct_760, ct_761⟩⟩)
theorem kn_122 : ("LostSheets$Trace" ≠ "java/lang/invoke/MethodHandle" ∧ "LostSheets$Trace" ≠ "java/lang/invoke/VarHandle" ∧ (parseMethodDescriptor "(LLostSheets$Drawer;II)I").map (fun d => d.parameters.length) = some 3) := by decide +kernel
theorem km_8_284 : am_mok 8 (284, 0, 122, 3) := Or.inr (Or.inr ⟨by decide, _, ky_122, kn_122, ⟨ct_776, ct_777, ct_778⟩⟩)
theorem kn_130 : ("LostSheets" ≠ "java/lang/invoke/MethodHandle" ∧ "LostSheets" ≠ "java/lang/invoke/VarHandle" ∧ (parseMethodDescriptor "(II)Z").map (fun d => d.parameters.length) = some 2) := by decide +kernel
theorem km_8_294 : am_mok 8 (294, 1, 130, 2) := Or.inr (Or.inr ⟨by decide, _, ky_130, kn_130, ⟨ct_810, ct_811⟩⟩)
theorem km_8_316 : am_mok 8 (316, 1, 125, 1) := Or.inr (Or.inr ⟨by decide, _, ky_125, kn_125, ⟨ct_813, ct_790⟩⟩)
theorem kn_133 : ("LostSheets$Tape" ≠ "java/lang/invoke/MethodHandle" ∧ "LostSheets$Tape" ≠ "java/lang/invoke/VarHandle" ∧ (parseMethodDescriptor "(II)V").map (fun d => d.parameters.length) = some 2) := by decide +kernel
theorem km_8_297 : am_mok 8 (297, 0, 133, 2) := Or.inr (Or.inr ⟨by decide, _, ky_133, kn_133, ⟨ct_822, ct_823, ct_824⟩⟩)
theorem kn_135 : ("LostSheets$Tape" ≠ "java/lang/invoke/MethodHandle" ∧ "LostSheets$Tape" ≠ "java/lang/invoke/VarHandle" ∧ (parseMethodDescriptor "(J)J").map (fun d => d.parameters.length) = some 1) := by decide +kernel
theorem km_8_300 : am_mok 8 (300, 0, 135, 1) := Or.inr (Or.inr ⟨by decide, _, ky_135, kn_135, ⟨ct_830, ct_831, ct_832⟩⟩)
theorem kn_138 : ("LostSheets$Tape" ≠ "java/lang/invoke/MethodHandle" ∧ "LostSheets$Tape" ≠ "java/lang/invoke/VarHandle" ∧ (parseMethodDescriptor "(II)Z").map (fun d => d.parameters.length) = some 2) := by decide +kernel
theorem km_8_304 : am_mok 8 (304, 0, 138, 2) := Or.inr (Or.inr ⟨by decide, _, ky_138, kn_138, ⟨ct_842, ct_843, ct_844⟩⟩)
theorem km_8_307 : am_mok 8 (307, 7, 0, 0) := Or.inr (Or.inl ⟨rfl, ct_846⟩)
theorem am_mt_ok_8 : ∀ e ∈ am_mt 8, am_mok 8 e := List.forall_mem_cons.mpr ⟨km_8_3, List.forall_mem_cons.mpr ⟨km_8_11, List.forall_mem_cons.mpr ⟨km_8_26, List.forall_mem_cons.mpr ⟨km_8_40, List.forall_mem_cons.mpr ⟨km_8_57, List.forall_mem_cons.mpr ⟨km_8_68, List.forall_mem_cons.mpr ⟨km_8_69, List.forall_mem_cons.mpr ⟨km_8_70, List.forall_mem_cons.mpr ⟨km_8_74, List.forall_mem_cons.mpr ⟨km_8_77, List.forall_mem_cons.mpr ⟨km_8_84, List.forall_mem_cons.mpr ⟨km_8_108, List.forall_mem_cons.mpr ⟨km_8_112, List.forall_mem_cons.mpr ⟨km_8_115, List.forall_mem_cons.mpr ⟨km_8_118, List.forall_mem_cons.mpr ⟨km_8_121, List.forall_mem_cons.mpr ⟨km_8_124, List.forall_mem_cons.mpr ⟨km_8_230, List.forall_mem_cons.mpr ⟨km_8_191, List.forall_mem_cons.mpr ⟨km_8_319, List.forall_mem_cons.mpr ⟨km_8_326, List.forall_mem_cons.mpr ⟨km_8_336, List.forall_mem_cons.mpr ⟨km_8_339, List.forall_mem_cons.mpr ⟨km_8_195, List.forall_mem_cons.mpr ⟨km_8_137, List.forall_mem_cons.mpr ⟨km_8_181, List.forall_mem_cons.mpr ⟨km_8_134, List.forall_mem_cons.mpr ⟨km_8_141, List.forall_mem_cons.mpr ⟨km_8_148, List.forall_mem_cons.mpr ⟨km_8_154, List.forall_mem_cons.mpr ⟨km_8_162, List.forall_mem_cons.mpr ⟨km_8_168, List.forall_mem_cons.mpr ⟨km_8_175, List.forall_mem_cons.mpr ⟨km_8_178, List.forall_mem_cons.mpr ⟨km_8_185, List.forall_mem_cons.mpr ⟨km_8_188, List.forall_mem_cons.mpr ⟨km_8_198, List.forall_mem_cons.mpr ⟨km_8_220, List.forall_mem_cons.mpr ⟨km_8_323, List.forall_mem_cons.mpr ⟨km_8_201, List.forall_mem_cons.mpr ⟨km_8_209, List.forall_mem_cons.mpr ⟨km_8_214, List.forall_mem_cons.mpr ⟨km_8_217, List.forall_mem_cons.mpr ⟨km_8_333, List.forall_mem_cons.mpr ⟨km_8_225, List.forall_mem_cons.mpr ⟨km_8_235, List.forall_mem_cons.mpr ⟨km_8_351, List.forall_mem_cons.mpr ⟨km_8_239, List.forall_mem_cons.mpr ⟨km_8_245, List.forall_mem_cons.mpr ⟨km_8_249, List.forall_mem_cons.mpr ⟨km_8_345, List.forall_mem_cons.mpr ⟨km_8_348, List.forall_mem_cons.mpr ⟨km_8_264, List.forall_mem_cons.mpr ⟨km_8_274, List.forall_mem_cons.mpr ⟨km_8_281, List.forall_mem_cons.mpr ⟨km_8_284, List.forall_mem_cons.mpr ⟨km_8_294, List.forall_mem_cons.mpr ⟨km_8_316, List.forall_mem_cons.mpr ⟨km_8_297, List.forall_mem_cons.mpr ⟨km_8_300, List.forall_mem_cons.mpr ⟨km_8_304, List.forall_mem_cons.mpr ⟨km_8_307, fun _ h => absurd h List.not_mem_nil⟩⟩⟩⟩⟩⟩⟩⟩⟩⟩⟩⟩⟩⟩⟩⟩⟩⟩⟩⟩⟩⟩⟩⟩⟩⟩⟩⟩⟩⟩⟩⟩⟩⟩⟩⟩⟩⟩⟩⟩⟩⟩⟩⟩⟩⟩⟩⟩⟩⟩⟩⟩⟩⟩⟩⟩⟩⟩⟩⟩⟩⟩
theorem km_9_3 : am_mok 9 (3, 6, 0, 0) := Or.inl ⟨rfl, ct_852⟩
theorem kn_141 : ("LostSheetsModel" ≠ "java/lang/invoke/MethodHandle" ∧ "LostSheetsModel" ≠ "java/lang/invoke/VarHandle" ∧ (parseMethodDescriptor "(III)Z").map (fun d => d.parameters.length) = some 3) := by decide +kernel
theorem km_9_114 : am_mok 9 (114, 1, 141, 3) := Or.inr (Or.inr ⟨by decide, _, ky_141, kn_141, ⟨ct_1000, ct_1001⟩⟩)
theorem kn_142 : ("LostSheetsModel" ≠ "java/lang/invoke/MethodHandle" ∧ "LostSheetsModel" ≠ "java/lang/invoke/VarHandle" ∧ (parseMethodDescriptor "(I)Z").map (fun d => d.parameters.length) = some 1) := by decide +kernel
theorem km_9_118 : am_mok 9 (118, 1, 142, 1) := Or.inr (Or.inr ⟨by decide, _, ky_142, kn_142, ⟨ct_1003, ct_1004⟩⟩)
theorem kn_144 : ("LostSheetsModel" ≠ "java/lang/invoke/MethodHandle" ∧ "LostSheetsModel" ≠ "java/lang/invoke/VarHandle" ∧ (parseMethodDescriptor "(I)Z").map (fun d => d.parameters.length) = some 1) := by decide +kernel
theorem km_9_122 : am_mok 9 (122, 0, 144, 1) := Or.inr (Or.inr ⟨by decide, _, ky_144, kn_144, ⟨ct_1010, ct_1012, cts_33⟩⟩)
theorem kn_145 : ("LostSheetsModel" ≠ "java/lang/invoke/MethodHandle" ∧ "LostSheetsModel" ≠ "java/lang/invoke/VarHandle" ∧ (parseMethodDescriptor "(I)I").map (fun d => d.parameters.length) = some 1) := by decide +kernel
theorem km_9_125 : am_mok 9 (125, 0, 145, 1) := Or.inr (Or.inr ⟨by decide, _, ky_145, kn_145, ⟨ct_1014, ct_1016, cts_34⟩⟩)
theorem kn_146 : ("LostSheetsModel" ≠ "java/lang/invoke/MethodHandle" ∧ "LostSheetsModel" ≠ "java/lang/invoke/VarHandle" ∧ (parseMethodDescriptor "(I)I").map (fun d => d.parameters.length) = some 1) := by decide +kernel
theorem km_9_231 : am_mok 9 (231, 0, 146, 1) := Or.inr (Or.inr ⟨by decide, _, ky_146, kn_146, ⟨ct_1018, ct_1020, cts_35⟩⟩)
theorem kn_147 : ("LostSheetsModel" ≠ "java/lang/invoke/MethodHandle" ∧ "LostSheetsModel" ≠ "java/lang/invoke/VarHandle" ∧ (parseMethodDescriptor "(II)Z").map (fun d => d.parameters.length) = some 2) := by decide +kernel
theorem km_9_227 : am_mok 9 (227, 0, 147, 2) := Or.inr (Or.inr ⟨by decide, _, ky_147, kn_147, ⟨ct_1022, ct_1024, cts_36⟩⟩)
theorem kn_148 : ("LostSheetsModel" ≠ "java/lang/invoke/MethodHandle" ∧ "LostSheetsModel" ≠ "java/lang/invoke/VarHandle" ∧ (parseMethodDescriptor "(II)I").map (fun d => d.parameters.length) = some 2) := by decide +kernel
theorem km_9_223 : am_mok 9 (223, 0, 148, 2) := Or.inr (Or.inr ⟨by decide, _, ky_148, kn_148, ⟨ct_1026, ct_1028, cts_37⟩⟩)
theorem kn_149 : ("LostSheetsModel" ≠ "java/lang/invoke/MethodHandle" ∧ "LostSheetsModel" ≠ "java/lang/invoke/VarHandle" ∧ (parseMethodDescriptor "(I)I").map (fun d => d.parameters.length) = some 1) := by decide +kernel
theorem km_9_234 : am_mok 9 (234, 0, 149, 1) := Or.inr (Or.inr ⟨by decide, _, ky_149, kn_149, ⟨ct_1030, ct_1032, cts_38⟩⟩)
theorem kn_150 : ("LostSheetsModel" ≠ "java/lang/invoke/MethodHandle" ∧ "LostSheetsModel" ≠ "java/lang/invoke/VarHandle" ∧ (parseMethodDescriptor "(I)I").map (fun d => d.parameters.length) = some 1) := by decide +kernel
theorem km_9_129 : am_mok 9 (129, 0, 150, 1) := Or.inr (Or.inr ⟨by decide, _, ky_150, kn_150, ⟨ct_1034, ct_1036, cts_39⟩⟩)
theorem kn_151 : ("LostSheetsModel" ≠ "java/lang/invoke/MethodHandle" ∧ "LostSheetsModel" ≠ "java/lang/invoke/VarHandle" ∧ (parseMethodDescriptor "(IZ)I").map (fun d => d.parameters.length) = some 2) := by decide +kernel
theorem km_9_132 : am_mok 9 (132, 0, 151, 2) := Or.inr (Or.inr ⟨by decide, _, ky_151, kn_151, ⟨ct_1038, ct_1040, cts_40⟩⟩)
theorem kn_152 : ("LostSheetsModel" ≠ "java/lang/invoke/MethodHandle" ∧ "LostSheetsModel" ≠ "java/lang/invoke/VarHandle" ∧ (parseMethodDescriptor "(II)I").map (fun d => d.parameters.length) = some 2) := by decide +kernel
theorem km_9_237 : am_mok 9 (237, 1, 152, 2) := Or.inr (Or.inr ⟨by decide, _, ky_152, kn_152, ⟨ct_1042, ct_1043⟩⟩)
theorem kn_153 : ("LostSheetsModel" ≠ "java/lang/invoke/MethodHandle" ∧ "LostSheetsModel" ≠ "java/lang/invoke/VarHandle" ∧ (parseMethodDescriptor "(I)I").map (fun d => d.parameters.length) = some 1) := by decide +kernel
theorem km_9_136 : am_mok 9 (136, 0, 153, 1) := Or.inr (Or.inr ⟨by decide, _, ky_153, kn_153, ⟨ct_1045, ct_1047, cts_41⟩⟩)
theorem km_9_279 : am_mok 9 (279, 1, 5, 2) := Or.inr (Or.inr ⟨by decide, _, ky_5, kn_5, ⟨ct_1049, ct_140⟩⟩)
theorem kn_154 : ("LostSheetsModel" ≠ "java/lang/invoke/MethodHandle" ∧ "LostSheetsModel" ≠ "java/lang/invoke/VarHandle" ∧ (parseMethodDescriptor "(I)I").map (fun d => d.parameters.length) = some 1) := by decide +kernel
theorem km_9_139 : am_mok 9 (139, 0, 154, 1) := Or.inr (Or.inr ⟨by decide, _, ky_154, kn_154, ⟨ct_1050, ct_1052, cts_42⟩⟩)
theorem kn_155 : ("LostSheetsModel" ≠ "java/lang/invoke/MethodHandle" ∧ "LostSheetsModel" ≠ "java/lang/invoke/VarHandle" ∧ (parseMethodDescriptor "()Z").map (fun d => d.parameters.length) = some 0) := by decide +kernel
theorem km_9_299 : am_mok 9 (299, 0, 155, 0) := Or.inr (Or.inr ⟨by decide, _, ky_155, kn_155, ⟨ct_1054, ct_1056, cts_43⟩⟩)
theorem kn_156 : ("LostSheetsModel" ≠ "java/lang/invoke/MethodHandle" ∧ "LostSheetsModel" ≠ "java/lang/invoke/VarHandle" ∧ (parseMethodDescriptor "([I)V").map (fun d => d.parameters.length) = some 1) := by decide +kernel
theorem km_9_253 : am_mok 9 (253, 0, 156, 1) := Or.inr (Or.inr ⟨by decide, _, ky_156, kn_156, ⟨ct_1058, ct_1060, cts_44⟩⟩)
theorem kn_157 : ("LostSheetsModel" ≠ "java/lang/invoke/MethodHandle" ∧ "LostSheetsModel" ≠ "java/lang/invoke/VarHandle" ∧ (parseMethodDescriptor "()V").map (fun d => d.parameters.length) = some 0) := by decide +kernel
theorem km_9_250 : am_mok 9 (250, 0, 157, 0) := Or.inr (Or.inr ⟨by decide, _, ky_157, kn_157, ⟨ct_1062, ct_1064, cts_45⟩⟩)
theorem kn_158 : ("LostSheetsModel" ≠ "java/lang/invoke/MethodHandle" ∧ "LostSheetsModel" ≠ "java/lang/invoke/VarHandle" ∧ (parseMethodDescriptor "()I").map (fun d => d.parameters.length) = some 0) := by decide +kernel
theorem km_9_243 : am_mok 9 (243, 0, 158, 0) := Or.inr (Or.inr ⟨by decide, _, ky_158, kn_158, ⟨ct_1066, ct_1068, cts_46⟩⟩)
theorem kn_159 : ("LostSheetsModel" ≠ "java/lang/invoke/MethodHandle" ∧ "LostSheetsModel" ≠ "java/lang/invoke/VarHandle" ∧ (parseMethodDescriptor "(III)V").map (fun d => d.parameters.length) = some 3) := by decide +kernel
theorem km_9_246 : am_mok 9 (246, 0, 159, 3) := Or.inr (Or.inr ⟨by decide, _, ky_159, kn_159, ⟨ct_1070, ct_1072, cts_47⟩⟩)
theorem kn_160 : ("LostSheetsModel" ≠ "java/lang/invoke/MethodHandle" ∧ "LostSheetsModel" ≠ "java/lang/invoke/VarHandle" ∧ (parseMethodDescriptor "([I)V").map (fun d => d.parameters.length) = some 1) := by decide +kernel
theorem km_9_258 : am_mok 9 (258, 0, 160, 1) := Or.inr (Or.inr ⟨by decide, _, ky_160, kn_160, ⟨ct_1074, ct_1076, cts_48⟩⟩)
theorem kn_168 : ("LostSheetsModel" ≠ "java/lang/invoke/MethodHandle" ∧ "LostSheetsModel" ≠ "java/lang/invoke/VarHandle" ∧ (parseMethodDescriptor "(I)Z").map (fun d => d.parameters.length) = some 1) := by decide +kernel
theorem km_9_217 : am_mok 9 (217, 0, 168, 1) := Or.inr (Or.inr ⟨by decide, _, ky_168, kn_168, ⟨ct_1106, ct_1108, cts_49⟩⟩)
theorem kn_169 : ("LostSheetsModel" ≠ "java/lang/invoke/MethodHandle" ∧ "LostSheetsModel" ≠ "java/lang/invoke/VarHandle" ∧ (parseMethodDescriptor "(Ljava/lang/String;)Z").map (fun d => d.parameters.length) = some 1) := by decide +kernel
theorem km_9_206 : am_mok 9 (206, 0, 169, 1) := Or.inr (Or.inr ⟨by decide, _, ky_169, kn_169, ⟨ct_1111, ct_1113, cts_50⟩⟩)
theorem km_9_158 : am_mok 9 (158, 0, 63, 0) := Or.inr (Or.inr ⟨by decide, _, ky_63, kn_63, ⟨ct_1115, ct_517, ct_518⟩⟩)
theorem km_9_163 : am_mok 9 (163, 0, 65, 1) := Or.inr (Or.inr ⟨by decide, _, ky_65, kn_65, ⟨ct_1116, ct_527, ct_528⟩⟩)
theorem kn_170 : ("LostSheetsModel" ≠ "java/lang/invoke/MethodHandle" ∧ "LostSheetsModel" ≠ "java/lang/invoke/VarHandle" ∧ (parseMethodDescriptor "(I)Z").map (fun d => d.parameters.length) = some 1) := by decide +kernel
theorem km_9_167 : am_mok 9 (167, 0, 170, 1) := Or.inr (Or.inr ⟨by decide, _, ky_170, kn_170, ⟨ct_1117, ct_1119, cts_51⟩⟩)
theorem kn_171 : ("LostSheetsModel" ≠ "java/lang/invoke/MethodHandle" ∧ "LostSheetsModel" ≠ "java/lang/invoke/VarHandle" ∧ (parseMethodDescriptor "()Z").map (fun d => d.parameters.length) = some 0) := by decide +kernel
theorem km_9_180 : am_mok 9 (180, 0, 171, 0) := Or.inr (Or.inr ⟨by decide, _, ky_171, kn_171, ⟨ct_1123, ct_1125, cts_52⟩⟩)
theorem kn_172 : ("LostSheetsModel" ≠ "java/lang/invoke/MethodHandle" ∧ "LostSheetsModel" ≠ "java/lang/invoke/VarHandle" ∧ (parseMethodDescriptor "()Z").map (fun d => d.parameters.length) = some 0) := by decide +kernel
theorem km_9_154 : am_mok 9 (154, 0, 172, 0) := Or.inr (Or.inr ⟨by decide, _, ky_172, kn_172, ⟨ct_1127, ct_1129, cts_53⟩⟩)
theorem kn_173 : ("LostSheetsModel" ≠ "java/lang/invoke/MethodHandle" ∧ "LostSheetsModel" ≠ "java/lang/invoke/VarHandle" ∧ (parseMethodDescriptor "()Z").map (fun d => d.parameters.length) = some 0) := by decide +kernel
theorem km_9_195 : am_mok 9 (195, 0, 173, 0) := Or.inr (Or.inr ⟨by decide, _, ky_173, kn_173, ⟨ct_1131, ct_1133, cts_54⟩⟩)
theorem kn_174 : ("LostSheetsModel" ≠ "java/lang/invoke/MethodHandle" ∧ "LostSheetsModel" ≠ "java/lang/invoke/VarHandle" ∧ (parseMethodDescriptor "()Z").map (fun d => d.parameters.length) = some 0) := by decide +kernel
theorem km_9_201 : am_mok 9 (201, 0, 174, 0) := Or.inr (Or.inr ⟨by decide, _, ky_174, kn_174, ⟨ct_1135, ct_1137, cts_55⟩⟩)
theorem kn_175 : ("LostSheetsModel" ≠ "java/lang/invoke/MethodHandle" ∧ "LostSheetsModel" ≠ "java/lang/invoke/VarHandle" ∧ (parseMethodDescriptor "()Z").map (fun d => d.parameters.length) = some 0) := by decide +kernel
theorem km_9_192 : am_mok 9 (192, 0, 175, 0) := Or.inr (Or.inr ⟨by decide, _, ky_175, kn_175, ⟨ct_1139, ct_1141, cts_56⟩⟩)
theorem kn_176 : ("LostSheetsModel" ≠ "java/lang/invoke/MethodHandle" ∧ "LostSheetsModel" ≠ "java/lang/invoke/VarHandle" ∧ (parseMethodDescriptor "(I)Z").map (fun d => d.parameters.length) = some 1) := by decide +kernel
theorem km_9_189 : am_mok 9 (189, 0, 176, 1) := Or.inr (Or.inr ⟨by decide, _, ky_176, kn_176, ⟨ct_1143, ct_1145, cts_57⟩⟩)
theorem kn_177 : ("LostSheetsModel" ≠ "java/lang/invoke/MethodHandle" ∧ "LostSheetsModel" ≠ "java/lang/invoke/VarHandle" ∧ (parseMethodDescriptor "(I)Z").map (fun d => d.parameters.length) = some 1) := by decide +kernel
theorem km_9_183 : am_mok 9 (183, 0, 177, 1) := Or.inr (Or.inr ⟨by decide, _, ky_177, kn_177, ⟨ct_1147, ct_1149, cts_58⟩⟩)
theorem kn_178 : ("LostSheetsModel" ≠ "java/lang/invoke/MethodHandle" ∧ "LostSheetsModel" ≠ "java/lang/invoke/VarHandle" ∧ (parseMethodDescriptor "()Z").map (fun d => d.parameters.length) = some 0) := by decide +kernel
theorem km_9_198 : am_mok 9 (198, 0, 178, 0) := Or.inr (Or.inr ⟨by decide, _, ky_178, kn_178, ⟨ct_1151, ct_1153, cts_59⟩⟩)
theorem kn_179 : ("java/lang/String" ≠ "java/lang/invoke/MethodHandle" ∧ "java/lang/String" ≠ "java/lang/invoke/VarHandle" ∧ (parseMethodDescriptor "(I)I").map (fun d => d.parameters.length) = some 1) := by decide +kernel
theorem km_9_175 : am_mok 9 (175, 0, 179, 1) := Or.inr (Or.inr ⟨by decide, _, ky_179, kn_179, ⟨ct_1156, ct_1157, ct_1158⟩⟩)
theorem kn_187 : ("LostSheetsModel" ≠ "java/lang/invoke/MethodHandle" ∧ "LostSheetsModel" ≠ "java/lang/invoke/VarHandle" ∧ (parseMethodDescriptor "(I)I").map (fun d => d.parameters.length) = some 1) := by decide +kernel
theorem km_9_261 : am_mok 9 (261, 0, 187, 1) := Or.inr (Or.inr ⟨by decide, _, ky_187, kn_187, ⟨ct_1216, ct_1218, cts_60⟩⟩)
theorem kn_188 : ("LostSheetsModel" ≠ "java/lang/invoke/MethodHandle" ∧ "LostSheetsModel" ≠ "java/lang/invoke/VarHandle" ∧ (parseMethodDescriptor "()I").map (fun d => d.parameters.length) = some 0) := by decide +kernel
theorem km_9_264 : am_mok 9 (264, 0, 188, 0) := Or.inr (Or.inr ⟨by decide, _, ky_188, kn_188, ⟨ct_1220, ct_1222, cts_61⟩⟩)
theorem kn_189 : ("LostSheetsModel" ≠ "java/lang/invoke/MethodHandle" ∧ "LostSheetsModel" ≠ "java/lang/invoke/VarHandle" ∧ (parseMethodDescriptor "()I").map (fun d => d.parameters.length) = some 0) := by decide +kernel
theorem km_9_267 : am_mok 9 (267, 0, 189, 0) := Or.inr (Or.inr ⟨by decide, _, ky_189, kn_189, ⟨ct_1224, ct_1226, cts_62⟩⟩)
theorem km_9_270 : am_mok 9 (270, 1, 86, 2) := Or.inr (Or.inr ⟨by decide, _, ky_86, kn_86, ⟨ct_1233, ct_632⟩⟩)
theorem kn_192 : ("LostSheetsModel" ≠ "java/lang/invoke/MethodHandle" ∧ "LostSheetsModel" ≠ "java/lang/invoke/VarHandle" ∧ (parseMethodDescriptor "(I)V").map (fun d => d.parameters.length) = some 1) := by decide +kernel
theorem km_9_275 : am_mok 9 (275, 0, 192, 1) := Or.inr (Or.inr ⟨by decide, _, ky_192, kn_192, ⟨ct_1238, ct_1240, cts_63⟩⟩)
theorem kn_194 : ("LostSheetsModel" ≠ "java/lang/invoke/MethodHandle" ∧ "LostSheetsModel" ≠ "java/lang/invoke/VarHandle" ∧ (parseMethodDescriptor "(I)I").map (fun d => d.parameters.length) = some 1) := by decide +kernel
theorem km_9_290 : am_mok 9 (290, 0, 194, 1) := Or.inr (Or.inr ⟨by decide, _, ky_194, kn_194, ⟨ct_1246, ct_1248, cts_64⟩⟩)
theorem kn_195 : ("LostSheetsModel" ≠ "java/lang/invoke/MethodHandle" ∧ "LostSheetsModel" ≠ "java/lang/invoke/VarHandle" ∧ (parseMethodDescriptor "(I)I").map (fun d => d.parameters.length) = some 1) := by decide +kernel
theorem km_9_287 : am_mok 9 (287, 0, 195, 1) := Or.inr (Or.inr ⟨by decide, _, ky_195, kn_195, ⟨ct_1250, ct_1252, cts_65⟩⟩)
theorem km_9_282 : am_mok 9 (282, 1, 91, 1) := Or.inr (Or.inr ⟨by decide, _, ky_91, kn_91, ⟨ct_1254, ct_651⟩⟩)
theorem kn_196 : ("LostSheetsModel" ≠ "java/lang/invoke/MethodHandle" ∧ "LostSheetsModel" ≠ "java/lang/invoke/VarHandle" ∧ (parseMethodDescriptor "(II)I").map (fun d => d.parameters.length) = some 2) := by decide +kernel
theorem km_9_293 : am_mok 9 (293, 0, 196, 2) := Or.inr (Or.inr ⟨by decide, _, ky_196, kn_196, ⟨ct_1255, ct_1257, cts_66⟩⟩)
theorem kn_200 : ("LostSheetsModel" ≠ "java/lang/invoke/MethodHandle" ∧ "LostSheetsModel" ≠ "java/lang/invoke/VarHandle" ∧ (parseMethodDescriptor "(JJI)J").map (fun d => d.parameters.length) = some 3) := by decide +kernel
theorem km_9_310 : am_mok 9 (310, 1, 200, 3) := Or.inr (Or.inr ⟨by decide, _, ky_200, kn_200, ⟨ct_1273, ct_1274⟩⟩)
theorem kn_201 : ("java/lang/Math" ≠ "java/lang/invoke/MethodHandle" ∧ "java/lang/Math" ≠ "java/lang/invoke/VarHandle" ∧ (parseMethodDescriptor "(J)J").map (fun d => d.parameters.length) = some 1) := by decide +kernel
theorem km_9_302 : am_mok 9 (302, 1, 201, 1) := Or.inr (Or.inr ⟨by decide, _, ky_201, kn_201, ⟨ct_1276, ct_1277⟩⟩)
theorem kn_203 : ("LostSheetsModel" ≠ "java/lang/invoke/MethodHandle" ∧ "LostSheetsModel" ≠ "java/lang/invoke/VarHandle" ∧ (parseMethodDescriptor "()I").map (fun d => d.parameters.length) = some 0) := by decide +kernel
theorem km_9_314 : am_mok 9 (314, 0, 203, 0) := Or.inr (Or.inr ⟨by decide, _, ky_203, kn_203, ⟨ct_1283, ct_1285, cts_67⟩⟩)
theorem kn_212 : ("LostSheetsModel" ≠ "java/lang/invoke/MethodHandle" ∧ "LostSheetsModel" ≠ "java/lang/invoke/VarHandle" ∧ (parseMethodDescriptor "(III)I").map (fun d => d.parameters.length) = some 3) := by decide +kernel
theorem km_9_333 : am_mok 9 (333, 0, 212, 3) := Or.inr (Or.inr ⟨by decide, _, ky_212, kn_212, ⟨ct_1319, ct_1321, cts_68⟩⟩)
theorem kn_213 : ("LostSheetsModel" ≠ "java/lang/invoke/MethodHandle" ∧ "LostSheetsModel" ≠ "java/lang/invoke/VarHandle" ∧ (parseMethodDescriptor "(I)V").map (fun d => d.parameters.length) = some 1) := by decide +kernel
theorem km_9_330 : am_mok 9 (330, 0, 213, 1) := Or.inr (Or.inr ⟨by decide, _, ky_213, kn_213, ⟨ct_1323, ct_1325, cts_69⟩⟩)
theorem kn_214 : ("LostSheetsModel" ≠ "java/lang/invoke/MethodHandle" ∧ "LostSheetsModel" ≠ "java/lang/invoke/VarHandle" ∧ (parseMethodDescriptor "(I)I").map (fun d => d.parameters.length) = some 1) := by decide +kernel
theorem km_9_337 : am_mok 9 (337, 1, 214, 1) := Or.inr (Or.inr ⟨by decide, _, ky_214, kn_214, ⟨ct_1327, ct_1328⟩⟩)
theorem kn_215 : ("LostSheetsModel" ≠ "java/lang/invoke/MethodHandle" ∧ "LostSheetsModel" ≠ "java/lang/invoke/VarHandle" ∧ (parseMethodDescriptor "(III)I").map (fun d => d.parameters.length) = some 3) := by decide +kernel
theorem km_9_340 : am_mok 9 (340, 0, 215, 3) := Or.inr (Or.inr ⟨by decide, _, ky_215, kn_215, ⟨ct_1330, ct_1332, cts_70⟩⟩)
theorem kn_216 : ("LostSheetsModel" ≠ "java/lang/invoke/MethodHandle" ∧ "LostSheetsModel" ≠ "java/lang/invoke/VarHandle" ∧ (parseMethodDescriptor "(III)I").map (fun d => d.parameters.length) = some 3) := by decide +kernel
theorem km_9_343 : am_mok 9 (343, 0, 216, 3) := Or.inr (Or.inr ⟨by decide, _, ky_216, kn_216, ⟨ct_1334, ct_1336, cts_71⟩⟩)
theorem kn_221 : ("LostSheetsModel" ≠ "java/lang/invoke/MethodHandle" ∧ "LostSheetsModel" ≠ "java/lang/invoke/VarHandle" ∧ (parseMethodDescriptor "(I)Z").map (fun d => d.parameters.length) = some 1) := by decide +kernel
theorem km_9_346 : am_mok 9 (346, 1, 221, 1) := Or.inr (Or.inr ⟨by decide, _, ky_221, kn_221, ⟨ct_1354, ct_1355⟩⟩)
theorem kn_223 : ("LostSheetsModel" ≠ "java/lang/invoke/MethodHandle" ∧ "LostSheetsModel" ≠ "java/lang/invoke/VarHandle" ∧ (parseMethodDescriptor "(IJ)J").map (fun d => d.parameters.length) = some 2) := by decide +kernel
theorem km_9_349 : am_mok 9 (349, 1, 223, 2) := Or.inr (Or.inr ⟨by decide, _, ky_223, kn_223, ⟨ct_1361, ct_1362⟩⟩)
theorem am_mt_ok_9 : ∀ e ∈ am_mt 9, am_mok 9 e := List.forall_mem_cons.mpr ⟨km_9_3, List.forall_mem_cons.mpr ⟨km_9_114, List.forall_mem_cons.mpr ⟨km_9_118, List.forall_mem_cons.mpr ⟨km_9_122, List.forall_mem_cons.mpr ⟨km_9_125, List.forall_mem_cons.mpr ⟨km_9_231, List.forall_mem_cons.mpr ⟨km_9_227, List.forall_mem_cons.mpr ⟨km_9_223, List.forall_mem_cons.mpr ⟨km_9_234, List.forall_mem_cons.mpr ⟨km_9_129, List.forall_mem_cons.mpr ⟨km_9_132, List.forall_mem_cons.mpr ⟨km_9_237, List.forall_mem_cons.mpr ⟨km_9_136, List.forall_mem_cons.mpr ⟨km_9_279, List.forall_mem_cons.mpr ⟨km_9_139, List.forall_mem_cons.mpr ⟨km_9_299, List.forall_mem_cons.mpr ⟨km_9_253, List.forall_mem_cons.mpr ⟨km_9_250, List.forall_mem_cons.mpr ⟨km_9_243, List.forall_mem_cons.mpr ⟨km_9_246, List.forall_mem_cons.mpr ⟨km_9_258, List.forall_mem_cons.mpr ⟨km_9_217, List.forall_mem_cons.mpr ⟨km_9_206, List.forall_mem_cons.mpr ⟨km_9_158, List.forall_mem_cons.mpr ⟨km_9_163, List.forall_mem_cons.mpr ⟨km_9_167, List.forall_mem_cons.mpr ⟨km_9_180, List.forall_mem_cons.mpr ⟨km_9_154, List.forall_mem_cons.mpr ⟨km_9_195, List.forall_mem_cons.mpr ⟨km_9_201, List.forall_mem_cons.mpr ⟨km_9_192, List.forall_mem_cons.mpr ⟨km_9_189, List.forall_mem_cons.mpr ⟨km_9_183, List.forall_mem_cons.mpr ⟨km_9_198, List.forall_mem_cons.mpr ⟨km_9_175, List.forall_mem_cons.mpr ⟨km_9_261, List.forall_mem_cons.mpr ⟨km_9_264, List.forall_mem_cons.mpr ⟨km_9_267, List.forall_mem_cons.mpr ⟨km_9_270, List.forall_mem_cons.mpr ⟨km_9_275, List.forall_mem_cons.mpr ⟨km_9_290, List.forall_mem_cons.mpr ⟨km_9_287, List.forall_mem_cons.mpr ⟨km_9_282, List.forall_mem_cons.mpr ⟨km_9_293, List.forall_mem_cons.mpr ⟨km_9_310, List.forall_mem_cons.mpr ⟨km_9_302, List.forall_mem_cons.mpr ⟨km_9_314, List.forall_mem_cons.mpr ⟨km_9_333, List.forall_mem_cons.mpr ⟨km_9_330, List.forall_mem_cons.mpr ⟨km_9_337, List.forall_mem_cons.mpr ⟨km_9_340, List.forall_mem_cons.mpr ⟨km_9_343, List.forall_mem_cons.mpr ⟨km_9_346, List.forall_mem_cons.mpr ⟨km_9_349, fun _ h => absurd h List.not_mem_nil⟩⟩⟩⟩⟩⟩⟩⟩⟩⟩⟩⟩⟩⟩⟩⟩⟩⟩⟩⟩⟩⟩⟩⟩⟩⟩⟩⟩⟩⟩⟩⟩⟩⟩⟩⟩⟩⟩⟩⟩⟩⟩⟩⟩⟩⟩⟩⟩⟩⟩⟩⟩⟩⟩
theorem kn_64 : ("java/lang/String" ≠ "java/lang/invoke/MethodHandle" ∧ "java/lang/String" ≠ "java/lang/invoke/VarHandle" ∧ (parseMethodDescriptor "()B").map (fun d => d.parameters.length) = some 0) := by decide +kernel
theorem km_10_335 : am_mok 10 (335, 0, 64, 0) := Or.inr (Or.inr ⟨by decide, _, ky_64, kn_64, ⟨ct_520, ct_521, ct_522⟩⟩)
theorem kn_66 : ("java/lang/String" ≠ "java/lang/invoke/MethodHandle" ∧ "java/lang/String" ≠ "java/lang/invoke/VarHandle" ∧ (parseMethodDescriptor "()Z").map (fun d => d.parameters.length) = some 0) := by decide +kernel
theorem km_10_492 : am_mok 10 (492, 0, 66, 0) := Or.inr (Or.inr ⟨by decide, _, ky_66, kn_66, ⟨ct_530, ct_531, ct_532⟩⟩)
theorem kn_67 : ("java/lang/StringLatin1" ≠ "java/lang/invoke/MethodHandle" ∧ "java/lang/StringLatin1" ≠ "java/lang/invoke/VarHandle" ∧ (parseMethodDescriptor "([BI)C").map (fun d => d.parameters.length) = some 2) := by decide +kernel
theorem km_10_495 : am_mok 10 (495, 1, 67, 2) := Or.inr (Or.inr ⟨by decide, _, ky_67, kn_67, ⟨ct_534, ct_535⟩⟩)
theorem kn_69 : ("jdk/internal/util/Preconditions" ≠ "java/lang/invoke/MethodHandle" ∧ "jdk/internal/util/Preconditions" ≠ "java/lang/invoke/VarHandle" ∧ (parseMethodDescriptor "(IILjava/util/function/BiFunction;)I").map (fun d => d.parameters.length) = some 3) := by decide +kernel
theorem km_10_1059 : am_mok 10 (1059, 1, 69, 3) := Or.inr (Or.inr ⟨by decide, _, ky_69, kn_69, ⟨ct_542, ct_543⟩⟩)
theorem kn_180 : ("java/lang/String" ≠ "java/lang/invoke/MethodHandle" ∧ "java/lang/String" ≠ "java/lang/invoke/VarHandle" ∧ (parseMethodDescriptor "(II)I").map (fun d => d.parameters.length) = some 2) := by decide +kernel
theorem km_10_633 : am_mok 10 (633, 0, 180, 2) := Or.inr (Or.inr ⟨by decide, _, ky_180, kn_180, ⟨ct_1160, ct_1161, ct_1162⟩⟩)
theorem km_10_505 : am_mok 10 (505, 0, 63, 0) := Or.inr (Or.inr ⟨by decide, _, ky_63, kn_63, ⟨ct_1164, ct_517, ct_518⟩⟩)
theorem kn_181 : ("java/lang/StringLatin1" ≠ "java/lang/invoke/MethodHandle" ∧ "java/lang/StringLatin1" ≠ "java/lang/invoke/VarHandle" ∧ (parseMethodDescriptor "([BIII)I").map (fun d => d.parameters.length) = some 4) := by decide +kernel
theorem km_10_637 : am_mok 10 (637, 1, 181, 4) := Or.inr (Or.inr ⟨by decide, _, ky_181, kn_181, ⟨ct_1165, ct_1166⟩⟩)
theorem kn_185 : ("jdk/internal/util/Preconditions" ≠ "java/lang/invoke/MethodHandle" ∧ "jdk/internal/util/Preconditions" ≠ "java/lang/invoke/VarHandle" ∧ (parseMethodDescriptor "(IIILjava/util/function/BiFunction;)I").map (fun d => d.parameters.length) = some 4) := by decide +kernel
theorem km_10_1062 : am_mok 10 (1062, 1, 185, 4) := Or.inr (Or.inr ⟨by decide, _, ky_185, kn_185, ⟨ct_1191, ct_1192⟩⟩)
theorem am_mt_ok_10 : ∀ e ∈ am_mt 10, am_mok 10 e := List.forall_mem_cons.mpr ⟨km_10_335, List.forall_mem_cons.mpr ⟨km_10_492, List.forall_mem_cons.mpr ⟨km_10_495, List.forall_mem_cons.mpr ⟨km_10_1059, List.forall_mem_cons.mpr ⟨km_10_633, List.forall_mem_cons.mpr ⟨km_10_505, List.forall_mem_cons.mpr ⟨km_10_637, List.forall_mem_cons.mpr ⟨km_10_1062, fun _ h => absurd h List.not_mem_nil⟩⟩⟩⟩⟩⟩⟩⟩
theorem kn_68 : ("java/lang/String" ≠ "java/lang/invoke/MethodHandle" ∧ "java/lang/String" ≠ "java/lang/invoke/VarHandle" ∧ (parseMethodDescriptor "(II)V").map (fun d => d.parameters.length) = some 2) := by decide +kernel
theorem km_11_9 : am_mok 11 (9, 1, 68, 2) := Or.inr (Or.inr ⟨by decide, _, ky_68, kn_68, ⟨ct_537, ct_538⟩⟩)
theorem kn_182 : ("java/lang/StringLatin1" ≠ "java/lang/invoke/MethodHandle" ∧ "java/lang/StringLatin1" ≠ "java/lang/invoke/VarHandle" ∧ (parseMethodDescriptor "(I)Z").map (fun d => d.parameters.length) = some 1) := by decide +kernel
theorem km_11_88 : am_mok 11 (88, 1, 182, 1) := Or.inr (Or.inr ⟨by decide, _, ky_182, kn_182, ⟨ct_1168, ct_1169⟩⟩)
theorem km_11_92 : am_mok 11 (92, 1, 5, 2) := Or.inr (Or.inr ⟨by decide, _, ky_5, kn_5, ⟨ct_1171, ct_140⟩⟩)
theorem km_11_38 : am_mok 11 (38, 1, 86, 2) := Or.inr (Or.inr ⟨by decide, _, ky_86, kn_86, ⟨ct_1172, ct_632⟩⟩)
theorem kn_183 : ("java/lang/StringLatin1" ≠ "java/lang/invoke/MethodHandle" ∧ "java/lang/StringLatin1" ≠ "java/lang/invoke/VarHandle" ∧ (parseMethodDescriptor "([BIII)I").map (fun d => d.parameters.length) = some 4) := by decide +kernel
theorem km_11_95 : am_mok 11 (95, 1, 183, 4) := Or.inr (Or.inr ⟨by decide, _, ky_183, kn_183, ⟨ct_1173, ct_1174⟩⟩)
theorem am_mt_ok_11 : ∀ e ∈ am_mt 11, am_mok 11 e := List.forall_mem_cons.mpr ⟨km_11_9, List.forall_mem_cons.mpr ⟨km_11_88, List.forall_mem_cons.mpr ⟨km_11_92, List.forall_mem_cons.mpr ⟨km_11_38, List.forall_mem_cons.mpr ⟨km_11_95, fun _ h => absurd h List.not_mem_nil⟩⟩⟩⟩⟩
theorem kn_0 : ("LostSheets" ≠ "java/lang/invoke/MethodHandle" ∧ "LostSheets" ≠ "java/lang/invoke/VarHandle" ∧ (parseMethodDescriptor "()V").map (fun d => d.parameters.length) = some 0) := by decide +kernel
theorem km_15_9 : am_mok 15 (9, 2, 0, 0) := Or.inr (Or.inr ⟨by decide, _, ky_0, kn_0, ⟨ct_21, ct_22, rfl, rfl⟩⟩)
theorem kn_10 : ("LostSheets" ≠ "java/lang/invoke/MethodHandle" ∧ "LostSheets" ≠ "java/lang/invoke/VarHandle" ∧ (parseMethodDescriptor "(III)I").map (fun d => d.parameters.length) = some 3) := by decide +kernel
theorem km_15_13 : am_mok 15 (13, 0, 10, 3) := Or.inr (Or.inr ⟨by decide, _, ky_10, kn_10, ⟨ct_295, ct_296, ct_297⟩⟩)
theorem kn_15 : ("LostSheets" ≠ "java/lang/invoke/MethodHandle" ∧ "LostSheets" ≠ "java/lang/invoke/VarHandle" ∧ (parseMethodDescriptor "(II)I").map (fun d => d.parameters.length) = some 2) := by decide +kernel
theorem km_15_18 : am_mok 15 (18, 0, 15, 2) := Or.inr (Or.inr ⟨by decide, _, ky_15, kn_15, ⟨ct_313, ct_314, ct_315⟩⟩)
theorem kn_49 : ("LostSheets" ≠ "java/lang/invoke/MethodHandle" ∧ "LostSheets" ≠ "java/lang/invoke/VarHandle" ∧ (parseMethodDescriptor "(II)I").map (fun d => d.parameters.length) = some 2) := by decide +kernel
theorem km_15_23 : am_mok 15 (23, 0, 49, 2) := Or.inr (Or.inr ⟨by decide, _, ky_49, kn_49, ⟨ct_456, ct_457, ct_458⟩⟩)
theorem kn_50 : ("LostSheets" ≠ "java/lang/invoke/MethodHandle" ∧ "LostSheets" ≠ "java/lang/invoke/VarHandle" ∧ (parseMethodDescriptor "(II)I").map (fun d => d.parameters.length) = some 2) := by decide +kernel
theorem km_15_27 : am_mok 15 (27, 0, 50, 2) := Or.inr (Or.inr ⟨by decide, _, ky_50, kn_50, ⟨ct_460, ct_461, ct_462⟩⟩)
theorem kn_51 : ("LostSheets" ≠ "java/lang/invoke/MethodHandle" ∧ "LostSheets" ≠ "java/lang/invoke/VarHandle" ∧ (parseMethodDescriptor "(I)I").map (fun d => d.parameters.length) = some 1) := by decide +kernel
theorem km_15_31 : am_mok 15 (31, 0, 51, 1) := Or.inr (Or.inr ⟨by decide, _, ky_51, kn_51, ⟨ct_464, ct_465, ct_466⟩⟩)
theorem kn_52 : ("LostSheets" ≠ "java/lang/invoke/MethodHandle" ∧ "LostSheets" ≠ "java/lang/invoke/VarHandle" ∧ (parseMethodDescriptor "(II)I").map (fun d => d.parameters.length) = some 2) := by decide +kernel
theorem km_15_36 : am_mok 15 (36, 0, 52, 2) := Or.inr (Or.inr ⟨by decide, _, ky_52, kn_52, ⟨ct_468, ct_469, ct_470⟩⟩)
theorem kn_54 : ("LostSheets" ≠ "java/lang/invoke/MethodHandle" ∧ "LostSheets" ≠ "java/lang/invoke/VarHandle" ∧ (parseMethodDescriptor "(III)I").map (fun d => d.parameters.length) = some 3) := by decide +kernel
theorem km_15_40 : am_mok 15 (40, 0, 54, 3) := Or.inr (Or.inr ⟨by decide, _, ky_54, kn_54, ⟨ct_477, ct_478, ct_479⟩⟩)
theorem kn_55 : ("LostSheets" ≠ "java/lang/invoke/MethodHandle" ∧ "LostSheets" ≠ "java/lang/invoke/VarHandle" ∧ (parseMethodDescriptor "(I)I").map (fun d => d.parameters.length) = some 1) := by decide +kernel
theorem km_15_44 : am_mok 15 (44, 0, 55, 1) := Or.inr (Or.inr ⟨by decide, _, ky_55, kn_55, ⟨ct_481, ct_482, ct_483⟩⟩)
theorem kn_57 : ("LostSheets" ≠ "java/lang/invoke/MethodHandle" ∧ "LostSheets" ≠ "java/lang/invoke/VarHandle" ∧ (parseMethodDescriptor "()I").map (fun d => d.parameters.length) = some 0) := by decide +kernel
theorem km_15_48 : am_mok 15 (48, 0, 57, 0) := Or.inr (Or.inr ⟨by decide, _, ky_57, kn_57, ⟨ct_489, ct_490, ct_491⟩⟩)
theorem kn_80 : ("LostSheets" ≠ "java/lang/invoke/MethodHandle" ∧ "LostSheets" ≠ "java/lang/invoke/VarHandle" ∧ (parseMethodDescriptor "(I)I").map (fun d => d.parameters.length) = some 1) := by decide +kernel
theorem km_15_53 : am_mok 15 (53, 0, 80, 1) := Or.inr (Or.inr ⟨by decide, _, ky_80, kn_80, ⟨ct_605, ct_606, ct_607⟩⟩)
theorem kn_84 : ("LostSheets" ≠ "java/lang/invoke/MethodHandle" ∧ "LostSheets" ≠ "java/lang/invoke/VarHandle" ∧ (parseMethodDescriptor "(I)I").map (fun d => d.parameters.length) = some 1) := by decide +kernel
theorem km_15_57 : am_mok 15 (57, 0, 84, 1) := Or.inr (Or.inr ⟨by decide, _, ky_84, kn_84, ⟨ct_623, ct_624, ct_625⟩⟩)
theorem kn_87 : ("LostSheets" ≠ "java/lang/invoke/MethodHandle" ∧ "LostSheets" ≠ "java/lang/invoke/VarHandle" ∧ (parseMethodDescriptor "(II)I").map (fun d => d.parameters.length) = some 2) := by decide +kernel
theorem km_15_61 : am_mok 15 (61, 0, 87, 2) := Or.inr (Or.inr ⟨by decide, _, ky_87, kn_87, ⟨ct_634, ct_635, ct_636⟩⟩)
theorem kn_89 : ("LostSheets" ≠ "java/lang/invoke/MethodHandle" ∧ "LostSheets" ≠ "java/lang/invoke/VarHandle" ∧ (parseMethodDescriptor "(II)I").map (fun d => d.parameters.length) = some 2) := by decide +kernel
theorem km_15_65 : am_mok 15 (65, 0, 89, 2) := Or.inr (Or.inr ⟨by decide, _, ky_89, kn_89, ⟨ct_642, ct_643, ct_644⟩⟩)
theorem kn_94 : ("LostSheets" ≠ "java/lang/invoke/MethodHandle" ∧ "LostSheets" ≠ "java/lang/invoke/VarHandle" ∧ (parseMethodDescriptor "(III)I").map (fun d => d.parameters.length) = some 3) := by decide +kernel
theorem km_15_69 : am_mok 15 (69, 0, 94, 3) := Or.inr (Or.inr ⟨by decide, _, ky_94, kn_94, ⟨ct_664, ct_665, ct_666⟩⟩)
theorem kn_97 : ("LostSheets" ≠ "java/lang/invoke/MethodHandle" ∧ "LostSheets" ≠ "java/lang/invoke/VarHandle" ∧ (parseMethodDescriptor "(II)I").map (fun d => d.parameters.length) = some 2) := by decide +kernel
theorem km_15_73 : am_mok 15 (73, 0, 97, 2) := Or.inr (Or.inr ⟨by decide, _, ky_97, kn_97, ⟨ct_676, ct_677, ct_678⟩⟩)
theorem kn_101 : ("LostSheets" ≠ "java/lang/invoke/MethodHandle" ∧ "LostSheets" ≠ "java/lang/invoke/VarHandle" ∧ (parseMethodDescriptor "(III)J").map (fun d => d.parameters.length) = some 3) := by decide +kernel
theorem km_15_77 : am_mok 15 (77, 0, 101, 3) := Or.inr (Or.inr ⟨by decide, _, ky_101, kn_101, ⟨ct_691, ct_692, ct_693⟩⟩)
theorem kn_104 : ("LostSheets" ≠ "java/lang/invoke/MethodHandle" ∧ "LostSheets" ≠ "java/lang/invoke/VarHandle" ∧ (parseMethodDescriptor "(II)J").map (fun d => d.parameters.length) = some 2) := by decide +kernel
theorem km_15_82 : am_mok 15 (82, 0, 104, 2) := Or.inr (Or.inr ⟨by decide, _, ky_104, kn_104, ⟨ct_703, ct_704, ct_705⟩⟩)
theorem kn_106 : ("LostSheets" ≠ "java/lang/invoke/MethodHandle" ∧ "LostSheets" ≠ "java/lang/invoke/VarHandle" ∧ (parseMethodDescriptor "(II)I").map (fun d => d.parameters.length) = some 2) := by decide +kernel
theorem km_15_87 : am_mok 15 (87, 0, 106, 2) := Or.inr (Or.inr ⟨by decide, _, ky_106, kn_106, ⟨ct_711, ct_712, ct_713⟩⟩)
theorem kn_108 : ("LostSheets" ≠ "java/lang/invoke/MethodHandle" ∧ "LostSheets" ≠ "java/lang/invoke/VarHandle" ∧ (parseMethodDescriptor "(I)I").map (fun d => d.parameters.length) = some 1) := by decide +kernel
theorem km_15_91 : am_mok 15 (91, 0, 108, 1) := Or.inr (Or.inr ⟨by decide, _, ky_108, kn_108, ⟨ct_719, ct_720, ct_721⟩⟩)
theorem kn_112 : ("LostSheets" ≠ "java/lang/invoke/MethodHandle" ∧ "LostSheets" ≠ "java/lang/invoke/VarHandle" ∧ (parseMethodDescriptor "(II)I").map (fun d => d.parameters.length) = some 2) := by decide +kernel
theorem km_15_95 : am_mok 15 (95, 0, 112, 2) := Or.inr (Or.inr ⟨by decide, _, ky_112, kn_112, ⟨ct_735, ct_736, ct_737⟩⟩)
theorem kn_113 : ("LostSheets" ≠ "java/lang/invoke/MethodHandle" ∧ "LostSheets" ≠ "java/lang/invoke/VarHandle" ∧ (parseMethodDescriptor "()I").map (fun d => d.parameters.length) = some 0) := by decide +kernel
theorem km_15_99 : am_mok 15 (99, 0, 113, 0) := Or.inr (Or.inr ⟨by decide, _, ky_113, kn_113, ⟨ct_739, ct_740, ct_741⟩⟩)
theorem kn_114 : ("LostSheets" ≠ "java/lang/invoke/MethodHandle" ∧ "LostSheets" ≠ "java/lang/invoke/VarHandle" ∧ (parseMethodDescriptor "(II)I").map (fun d => d.parameters.length) = some 2) := by decide +kernel
theorem km_15_103 : am_mok 15 (103, 0, 114, 2) := Or.inr (Or.inr ⟨by decide, _, ky_114, kn_114, ⟨ct_743, ct_744, ct_745⟩⟩)
theorem kn_117 : ("LostSheets" ≠ "java/lang/invoke/MethodHandle" ∧ "LostSheets" ≠ "java/lang/invoke/VarHandle" ∧ (parseMethodDescriptor "()I").map (fun d => d.parameters.length) = some 0) := by decide +kernel
theorem km_15_107 : am_mok 15 (107, 0, 117, 0) := Or.inr (Or.inr ⟨by decide, _, ky_117, kn_117, ⟨ct_755, ct_756, ct_757⟩⟩)
theorem kn_120 : ("LostSheets" ≠ "java/lang/invoke/MethodHandle" ∧ "LostSheets" ≠ "java/lang/invoke/VarHandle" ∧ (parseMethodDescriptor "()I").map (fun d => d.parameters.length) = some 0) := by decide +kernel
theorem km_15_111 : am_mok 15 (111, 0, 120, 0) := Or.inr (Or.inr ⟨by decide, _, ky_120, kn_120, ⟨ct_768, ct_769, ct_770⟩⟩)
theorem kn_121 : ("LostSheets" ≠ "java/lang/invoke/MethodHandle" ∧ "LostSheets" ≠ "java/lang/invoke/VarHandle" ∧ (parseMethodDescriptor "(III)I").map (fun d => d.parameters.length) = some 3) := by decide +kernel
theorem km_15_115 : am_mok 15 (115, 0, 121, 3) := Or.inr (Or.inr ⟨by decide, _, ky_121, kn_121, ⟨ct_772, ct_773, ct_774⟩⟩)
theorem kn_128 : ("LostSheets" ≠ "java/lang/invoke/MethodHandle" ∧ "LostSheets" ≠ "java/lang/invoke/VarHandle" ∧ (parseMethodDescriptor "(I)I").map (fun d => d.parameters.length) = some 1) := by decide +kernel
theorem km_15_119 : am_mok 15 (119, 0, 128, 1) := Or.inr (Or.inr ⟨by decide, _, ky_128, kn_128, ⟨ct_802, ct_803, ct_804⟩⟩)
theorem kn_129 : ("LostSheets" ≠ "java/lang/invoke/MethodHandle" ∧ "LostSheets" ≠ "java/lang/invoke/VarHandle" ∧ (parseMethodDescriptor "(II)I").map (fun d => d.parameters.length) = some 2) := by decide +kernel
theorem km_15_123 : am_mok 15 (123, 0, 129, 2) := Or.inr (Or.inr ⟨by decide, _, ky_129, kn_129, ⟨ct_806, ct_807, ct_808⟩⟩)
theorem kn_131 : ("LostSheets" ≠ "java/lang/invoke/MethodHandle" ∧ "LostSheets" ≠ "java/lang/invoke/VarHandle" ∧ (parseMethodDescriptor "(I)I").map (fun d => d.parameters.length) = some 1) := by decide +kernel
theorem km_15_127 : am_mok 15 (127, 0, 131, 1) := Or.inr (Or.inr ⟨by decide, _, ky_131, kn_131, ⟨ct_814, ct_815, ct_816⟩⟩)
theorem kn_132 : ("LostSheets" ≠ "java/lang/invoke/MethodHandle" ∧ "LostSheets" ≠ "java/lang/invoke/VarHandle" ∧ (parseMethodDescriptor "(III)I").map (fun d => d.parameters.length) = some 3) := by decide +kernel
theorem km_15_131 : am_mok 15 (131, 0, 132, 3) := Or.inr (Or.inr ⟨by decide, _, ky_132, kn_132, ⟨ct_818, ct_819, ct_820⟩⟩)
theorem kn_134 : ("LostSheets" ≠ "java/lang/invoke/MethodHandle" ∧ "LostSheets" ≠ "java/lang/invoke/VarHandle" ∧ (parseMethodDescriptor "(IIJ)I").map (fun d => d.parameters.length) = some 3) := by decide +kernel
theorem km_15_137 : am_mok 15 (137, 0, 134, 3) := Or.inr (Or.inr ⟨by decide, _, ky_134, kn_134, ⟨ct_826, ct_827, ct_828⟩⟩)
theorem kn_136 : ("LostSheets" ≠ "java/lang/invoke/MethodHandle" ∧ "LostSheets" ≠ "java/lang/invoke/VarHandle" ∧ (parseMethodDescriptor "(II)J").map (fun d => d.parameters.length) = some 2) := by decide +kernel
theorem km_15_142 : am_mok 15 (142, 0, 136, 2) := Or.inr (Or.inr ⟨by decide, _, ky_136, kn_136, ⟨ct_834, ct_835, ct_836⟩⟩)
theorem kn_137 : ("LostSheets" ≠ "java/lang/invoke/MethodHandle" ∧ "LostSheets" ≠ "java/lang/invoke/VarHandle" ∧ (parseMethodDescriptor "(IIIII)I").map (fun d => d.parameters.length) = some 5) := by decide +kernel
theorem km_15_146 : am_mok 15 (146, 0, 137, 5) := Or.inr (Or.inr ⟨by decide, _, ky_137, kn_137, ⟨ct_838, ct_839, ct_840⟩⟩)
theorem kn_139 : ("LostSheetsModel" ≠ "java/lang/invoke/MethodHandle" ∧ "LostSheetsModel" ≠ "java/lang/invoke/VarHandle" ∧ (parseMethodDescriptor "()V").map (fun d => d.parameters.length) = some 0) := by decide +kernel
theorem km_15_12 : am_mok 15 (12, 2, 139, 0) := Or.inr (Or.inr ⟨by decide, _, ky_139, kn_139, ⟨ct_849, ct_850, rfl, rfl⟩⟩)
theorem kn_140 : ("LostSheetsModel" ≠ "java/lang/invoke/MethodHandle" ∧ "LostSheetsModel" ≠ "java/lang/invoke/VarHandle" ∧ (parseMethodDescriptor "(III)I").map (fun d => d.parameters.length) = some 3) := by decide +kernel
theorem km_15_17 : am_mok 15 (17, 0, 140, 3) := Or.inr (Or.inr ⟨by decide, _, ky_140, kn_140, ⟨ct_996, ct_997, ct_998⟩⟩)
theorem kn_143 : ("LostSheetsModel" ≠ "java/lang/invoke/MethodHandle" ∧ "LostSheetsModel" ≠ "java/lang/invoke/VarHandle" ∧ (parseMethodDescriptor "(II)I").map (fun d => d.parameters.length) = some 2) := by decide +kernel
theorem km_15_22 : am_mok 15 (22, 0, 143, 2) := Or.inr (Or.inr ⟨by decide, _, ky_143, kn_143, ⟨ct_1006, ct_1007, ct_1008⟩⟩)
theorem kn_161 : ("LostSheetsModel" ≠ "java/lang/invoke/MethodHandle" ∧ "LostSheetsModel" ≠ "java/lang/invoke/VarHandle" ∧ (parseMethodDescriptor "(II)I").map (fun d => d.parameters.length) = some 2) := by decide +kernel
theorem km_15_26 : am_mok 15 (26, 0, 161, 2) := Or.inr (Or.inr ⟨by decide, _, ky_161, kn_161, ⟨ct_1078, ct_1079, ct_1080⟩⟩)
theorem kn_162 : ("LostSheetsModel" ≠ "java/lang/invoke/MethodHandle" ∧ "LostSheetsModel" ≠ "java/lang/invoke/VarHandle" ∧ (parseMethodDescriptor "(II)I").map (fun d => d.parameters.length) = some 2) := by decide +kernel
theorem km_15_30 : am_mok 15 (30, 0, 162, 2) := Or.inr (Or.inr ⟨by decide, _, ky_162, kn_162, ⟨ct_1082, ct_1083, ct_1084⟩⟩)
theorem kn_163 : ("LostSheetsModel" ≠ "java/lang/invoke/MethodHandle" ∧ "LostSheetsModel" ≠ "java/lang/invoke/VarHandle" ∧ (parseMethodDescriptor "(I)I").map (fun d => d.parameters.length) = some 1) := by decide +kernel
theorem km_15_35 : am_mok 15 (35, 0, 163, 1) := Or.inr (Or.inr ⟨by decide, _, ky_163, kn_163, ⟨ct_1086, ct_1087, ct_1088⟩⟩)
theorem kn_164 : ("LostSheetsModel" ≠ "java/lang/invoke/MethodHandle" ∧ "LostSheetsModel" ≠ "java/lang/invoke/VarHandle" ∧ (parseMethodDescriptor "(II)I").map (fun d => d.parameters.length) = some 2) := by decide +kernel
theorem km_15_39 : am_mok 15 (39, 0, 164, 2) := Or.inr (Or.inr ⟨by decide, _, ky_164, kn_164, ⟨ct_1090, ct_1091, ct_1092⟩⟩)
theorem kn_165 : ("LostSheetsModel" ≠ "java/lang/invoke/MethodHandle" ∧ "LostSheetsModel" ≠ "java/lang/invoke/VarHandle" ∧ (parseMethodDescriptor "(III)I").map (fun d => d.parameters.length) = some 3) := by decide +kernel
theorem km_15_43 : am_mok 15 (43, 0, 165, 3) := Or.inr (Or.inr ⟨by decide, _, ky_165, kn_165, ⟨ct_1094, ct_1095, ct_1096⟩⟩)
theorem kn_166 : ("LostSheetsModel" ≠ "java/lang/invoke/MethodHandle" ∧ "LostSheetsModel" ≠ "java/lang/invoke/VarHandle" ∧ (parseMethodDescriptor "(I)I").map (fun d => d.parameters.length) = some 1) := by decide +kernel
theorem km_15_47 : am_mok 15 (47, 0, 166, 1) := Or.inr (Or.inr ⟨by decide, _, ky_166, kn_166, ⟨ct_1098, ct_1099, ct_1100⟩⟩)
theorem kn_167 : ("LostSheetsModel" ≠ "java/lang/invoke/MethodHandle" ∧ "LostSheetsModel" ≠ "java/lang/invoke/VarHandle" ∧ (parseMethodDescriptor "()I").map (fun d => d.parameters.length) = some 0) := by decide +kernel
theorem km_15_52 : am_mok 15 (52, 0, 167, 0) := Or.inr (Or.inr ⟨by decide, _, ky_167, kn_167, ⟨ct_1102, ct_1103, ct_1104⟩⟩)
theorem kn_186 : ("LostSheetsModel" ≠ "java/lang/invoke/MethodHandle" ∧ "LostSheetsModel" ≠ "java/lang/invoke/VarHandle" ∧ (parseMethodDescriptor "(I)I").map (fun d => d.parameters.length) = some 1) := by decide +kernel
theorem km_15_56 : am_mok 15 (56, 0, 186, 1) := Or.inr (Or.inr ⟨by decide, _, ky_186, kn_186, ⟨ct_1212, ct_1213, ct_1214⟩⟩)
theorem kn_190 : ("LostSheetsModel" ≠ "java/lang/invoke/MethodHandle" ∧ "LostSheetsModel" ≠ "java/lang/invoke/VarHandle" ∧ (parseMethodDescriptor "(I)I").map (fun d => d.parameters.length) = some 1) := by decide +kernel
theorem km_15_60 : am_mok 15 (60, 0, 190, 1) := Or.inr (Or.inr ⟨by decide, _, ky_190, kn_190, ⟨ct_1229, ct_1230, ct_1231⟩⟩)
theorem kn_191 : ("LostSheetsModel" ≠ "java/lang/invoke/MethodHandle" ∧ "LostSheetsModel" ≠ "java/lang/invoke/VarHandle" ∧ (parseMethodDescriptor "(II)I").map (fun d => d.parameters.length) = some 2) := by decide +kernel
theorem km_15_64 : am_mok 15 (64, 0, 191, 2) := Or.inr (Or.inr ⟨by decide, _, ky_191, kn_191, ⟨ct_1234, ct_1235, ct_1236⟩⟩)
theorem kn_193 : ("LostSheetsModel" ≠ "java/lang/invoke/MethodHandle" ∧ "LostSheetsModel" ≠ "java/lang/invoke/VarHandle" ∧ (parseMethodDescriptor "(II)I").map (fun d => d.parameters.length) = some 2) := by decide +kernel
theorem km_15_68 : am_mok 15 (68, 0, 193, 2) := Or.inr (Or.inr ⟨by decide, _, ky_193, kn_193, ⟨ct_1242, ct_1243, ct_1244⟩⟩)
theorem kn_197 : ("LostSheetsModel" ≠ "java/lang/invoke/MethodHandle" ∧ "LostSheetsModel" ≠ "java/lang/invoke/VarHandle" ∧ (parseMethodDescriptor "(III)I").map (fun d => d.parameters.length) = some 3) := by decide +kernel
theorem km_15_72 : am_mok 15 (72, 0, 197, 3) := Or.inr (Or.inr ⟨by decide, _, ky_197, kn_197, ⟨ct_1259, ct_1260, ct_1261⟩⟩)
theorem kn_198 : ("LostSheetsModel" ≠ "java/lang/invoke/MethodHandle" ∧ "LostSheetsModel" ≠ "java/lang/invoke/VarHandle" ∧ (parseMethodDescriptor "(II)I").map (fun d => d.parameters.length) = some 2) := by decide +kernel
theorem km_15_76 : am_mok 15 (76, 0, 198, 2) := Or.inr (Or.inr ⟨by decide, _, ky_198, kn_198, ⟨ct_1263, ct_1264, ct_1265⟩⟩)
theorem kn_199 : ("LostSheetsModel" ≠ "java/lang/invoke/MethodHandle" ∧ "LostSheetsModel" ≠ "java/lang/invoke/VarHandle" ∧ (parseMethodDescriptor "(III)J").map (fun d => d.parameters.length) = some 3) := by decide +kernel
theorem km_15_81 : am_mok 15 (81, 0, 199, 3) := Or.inr (Or.inr ⟨by decide, _, ky_199, kn_199, ⟨ct_1267, ct_1268, ct_1269⟩⟩)
theorem kn_202 : ("LostSheetsModel" ≠ "java/lang/invoke/MethodHandle" ∧ "LostSheetsModel" ≠ "java/lang/invoke/VarHandle" ∧ (parseMethodDescriptor "(II)J").map (fun d => d.parameters.length) = some 2) := by decide +kernel
theorem km_15_86 : am_mok 15 (86, 0, 202, 2) := Or.inr (Or.inr ⟨by decide, _, ky_202, kn_202, ⟨ct_1279, ct_1280, ct_1281⟩⟩)
theorem kn_204 : ("LostSheetsModel" ≠ "java/lang/invoke/MethodHandle" ∧ "LostSheetsModel" ≠ "java/lang/invoke/VarHandle" ∧ (parseMethodDescriptor "(II)I").map (fun d => d.parameters.length) = some 2) := by decide +kernel
theorem km_15_90 : am_mok 15 (90, 0, 204, 2) := Or.inr (Or.inr ⟨by decide, _, ky_204, kn_204, ⟨ct_1287, ct_1288, ct_1289⟩⟩)
theorem kn_205 : ("LostSheetsModel" ≠ "java/lang/invoke/MethodHandle" ∧ "LostSheetsModel" ≠ "java/lang/invoke/VarHandle" ∧ (parseMethodDescriptor "(I)I").map (fun d => d.parameters.length) = some 1) := by decide +kernel
theorem km_15_94 : am_mok 15 (94, 0, 205, 1) := Or.inr (Or.inr ⟨by decide, _, ky_205, kn_205, ⟨ct_1291, ct_1292, ct_1293⟩⟩)
theorem kn_206 : ("LostSheetsModel" ≠ "java/lang/invoke/MethodHandle" ∧ "LostSheetsModel" ≠ "java/lang/invoke/VarHandle" ∧ (parseMethodDescriptor "(II)I").map (fun d => d.parameters.length) = some 2) := by decide +kernel
theorem km_15_98 : am_mok 15 (98, 0, 206, 2) := Or.inr (Or.inr ⟨by decide, _, ky_206, kn_206, ⟨ct_1295, ct_1296, ct_1297⟩⟩)
theorem kn_207 : ("LostSheetsModel" ≠ "java/lang/invoke/MethodHandle" ∧ "LostSheetsModel" ≠ "java/lang/invoke/VarHandle" ∧ (parseMethodDescriptor "()I").map (fun d => d.parameters.length) = some 0) := by decide +kernel
theorem km_15_102 : am_mok 15 (102, 0, 207, 0) := Or.inr (Or.inr ⟨by decide, _, ky_207, kn_207, ⟨ct_1299, ct_1300, ct_1301⟩⟩)
theorem kn_208 : ("LostSheetsModel" ≠ "java/lang/invoke/MethodHandle" ∧ "LostSheetsModel" ≠ "java/lang/invoke/VarHandle" ∧ (parseMethodDescriptor "(II)I").map (fun d => d.parameters.length) = some 2) := by decide +kernel
theorem km_15_106 : am_mok 15 (106, 0, 208, 2) := Or.inr (Or.inr ⟨by decide, _, ky_208, kn_208, ⟨ct_1303, ct_1304, ct_1305⟩⟩)
theorem kn_209 : ("LostSheetsModel" ≠ "java/lang/invoke/MethodHandle" ∧ "LostSheetsModel" ≠ "java/lang/invoke/VarHandle" ∧ (parseMethodDescriptor "()I").map (fun d => d.parameters.length) = some 0) := by decide +kernel
theorem km_15_110 : am_mok 15 (110, 0, 209, 0) := Or.inr (Or.inr ⟨by decide, _, ky_209, kn_209, ⟨ct_1307, ct_1308, ct_1309⟩⟩)
theorem kn_210 : ("LostSheetsModel" ≠ "java/lang/invoke/MethodHandle" ∧ "LostSheetsModel" ≠ "java/lang/invoke/VarHandle" ∧ (parseMethodDescriptor "()I").map (fun d => d.parameters.length) = some 0) := by decide +kernel
theorem km_15_114 : am_mok 15 (114, 0, 210, 0) := Or.inr (Or.inr ⟨by decide, _, ky_210, kn_210, ⟨ct_1311, ct_1312, ct_1313⟩⟩)
theorem kn_211 : ("LostSheetsModel" ≠ "java/lang/invoke/MethodHandle" ∧ "LostSheetsModel" ≠ "java/lang/invoke/VarHandle" ∧ (parseMethodDescriptor "(III)I").map (fun d => d.parameters.length) = some 3) := by decide +kernel
theorem km_15_118 : am_mok 15 (118, 0, 211, 3) := Or.inr (Or.inr ⟨by decide, _, ky_211, kn_211, ⟨ct_1315, ct_1316, ct_1317⟩⟩)
theorem kn_217 : ("LostSheetsModel" ≠ "java/lang/invoke/MethodHandle" ∧ "LostSheetsModel" ≠ "java/lang/invoke/VarHandle" ∧ (parseMethodDescriptor "(I)I").map (fun d => d.parameters.length) = some 1) := by decide +kernel
theorem km_15_122 : am_mok 15 (122, 0, 217, 1) := Or.inr (Or.inr ⟨by decide, _, ky_217, kn_217, ⟨ct_1338, ct_1339, ct_1340⟩⟩)
theorem kn_218 : ("LostSheetsModel" ≠ "java/lang/invoke/MethodHandle" ∧ "LostSheetsModel" ≠ "java/lang/invoke/VarHandle" ∧ (parseMethodDescriptor "(II)I").map (fun d => d.parameters.length) = some 2) := by decide +kernel
theorem km_15_126 : am_mok 15 (126, 0, 218, 2) := Or.inr (Or.inr ⟨by decide, _, ky_218, kn_218, ⟨ct_1342, ct_1343, ct_1344⟩⟩)
theorem kn_219 : ("LostSheetsModel" ≠ "java/lang/invoke/MethodHandle" ∧ "LostSheetsModel" ≠ "java/lang/invoke/VarHandle" ∧ (parseMethodDescriptor "(I)I").map (fun d => d.parameters.length) = some 1) := by decide +kernel
theorem km_15_130 : am_mok 15 (130, 0, 219, 1) := Or.inr (Or.inr ⟨by decide, _, ky_219, kn_219, ⟨ct_1346, ct_1347, ct_1348⟩⟩)
theorem kn_220 : ("LostSheetsModel" ≠ "java/lang/invoke/MethodHandle" ∧ "LostSheetsModel" ≠ "java/lang/invoke/VarHandle" ∧ (parseMethodDescriptor "(III)I").map (fun d => d.parameters.length) = some 3) := by decide +kernel
theorem km_15_134 : am_mok 15 (134, 0, 220, 3) := Or.inr (Or.inr ⟨by decide, _, ky_220, kn_220, ⟨ct_1350, ct_1351, ct_1352⟩⟩)
theorem kn_222 : ("LostSheetsModel" ≠ "java/lang/invoke/MethodHandle" ∧ "LostSheetsModel" ≠ "java/lang/invoke/VarHandle" ∧ (parseMethodDescriptor "(IIJ)I").map (fun d => d.parameters.length) = some 3) := by decide +kernel
theorem km_15_141 : am_mok 15 (141, 0, 222, 3) := Or.inr (Or.inr ⟨by decide, _, ky_222, kn_222, ⟨ct_1357, ct_1358, ct_1359⟩⟩)
theorem kn_224 : ("LostSheetsModel" ≠ "java/lang/invoke/MethodHandle" ∧ "LostSheetsModel" ≠ "java/lang/invoke/VarHandle" ∧ (parseMethodDescriptor "(II)J").map (fun d => d.parameters.length) = some 2) := by decide +kernel
theorem km_15_145 : am_mok 15 (145, 0, 224, 2) := Or.inr (Or.inr ⟨by decide, _, ky_224, kn_224, ⟨ct_1364, ct_1365, ct_1366⟩⟩)
theorem kn_225 : ("LostSheetsModel" ≠ "java/lang/invoke/MethodHandle" ∧ "LostSheetsModel" ≠ "java/lang/invoke/VarHandle" ∧ (parseMethodDescriptor "(IIIII)I").map (fun d => d.parameters.length) = some 5) := by decide +kernel
theorem km_15_150 : am_mok 15 (150, 0, 225, 5) := Or.inr (Or.inr ⟨by decide, _, ky_225, kn_225, ⟨ct_1368, ct_1369, ct_1370⟩⟩)
theorem am_mt_ok_15 : ∀ e ∈ am_mt 15, am_mok 15 e := List.forall_mem_cons.mpr ⟨km_15_9, List.forall_mem_cons.mpr ⟨km_15_13, List.forall_mem_cons.mpr ⟨km_15_18, List.forall_mem_cons.mpr ⟨km_15_23, List.forall_mem_cons.mpr ⟨km_15_27, List.forall_mem_cons.mpr ⟨km_15_31, List.forall_mem_cons.mpr ⟨km_15_36, List.forall_mem_cons.mpr ⟨km_15_40, List.forall_mem_cons.mpr ⟨km_15_44, List.forall_mem_cons.mpr ⟨km_15_48, List.forall_mem_cons.mpr ⟨km_15_53, List.forall_mem_cons.mpr ⟨km_15_57, List.forall_mem_cons.mpr ⟨km_15_61, List.forall_mem_cons.mpr ⟨km_15_65, List.forall_mem_cons.mpr ⟨km_15_69, List.forall_mem_cons.mpr ⟨km_15_73, List.forall_mem_cons.mpr ⟨km_15_77, List.forall_mem_cons.mpr ⟨km_15_82, List.forall_mem_cons.mpr ⟨km_15_87, List.forall_mem_cons.mpr ⟨km_15_91, List.forall_mem_cons.mpr ⟨km_15_95, List.forall_mem_cons.mpr ⟨km_15_99, List.forall_mem_cons.mpr ⟨km_15_103, List.forall_mem_cons.mpr ⟨km_15_107, List.forall_mem_cons.mpr ⟨km_15_111, List.forall_mem_cons.mpr ⟨km_15_115, List.forall_mem_cons.mpr ⟨km_15_119, List.forall_mem_cons.mpr ⟨km_15_123, List.forall_mem_cons.mpr ⟨km_15_127, List.forall_mem_cons.mpr ⟨km_15_131, List.forall_mem_cons.mpr ⟨km_15_137, List.forall_mem_cons.mpr ⟨km_15_142, List.forall_mem_cons.mpr ⟨km_15_146, List.forall_mem_cons.mpr ⟨km_15_12, List.forall_mem_cons.mpr ⟨km_15_17, List.forall_mem_cons.mpr ⟨km_15_22, List.forall_mem_cons.mpr ⟨km_15_26, List.forall_mem_cons.mpr ⟨km_15_30, List.forall_mem_cons.mpr ⟨km_15_35, List.forall_mem_cons.mpr ⟨km_15_39, List.forall_mem_cons.mpr ⟨km_15_43, List.forall_mem_cons.mpr ⟨km_15_47, List.forall_mem_cons.mpr ⟨km_15_52, List.forall_mem_cons.mpr ⟨km_15_56, List.forall_mem_cons.mpr ⟨km_15_60, List.forall_mem_cons.mpr ⟨km_15_64, List.forall_mem_cons.mpr ⟨km_15_68, List.forall_mem_cons.mpr ⟨km_15_72, List.forall_mem_cons.mpr ⟨km_15_76, List.forall_mem_cons.mpr ⟨km_15_81, List.forall_mem_cons.mpr ⟨km_15_86, List.forall_mem_cons.mpr ⟨km_15_90, List.forall_mem_cons.mpr ⟨km_15_94, List.forall_mem_cons.mpr ⟨km_15_98, List.forall_mem_cons.mpr ⟨km_15_102, List.forall_mem_cons.mpr ⟨km_15_106, List.forall_mem_cons.mpr ⟨km_15_110, List.forall_mem_cons.mpr ⟨km_15_114, List.forall_mem_cons.mpr ⟨km_15_118, List.forall_mem_cons.mpr ⟨km_15_122, List.forall_mem_cons.mpr ⟨km_15_126, List.forall_mem_cons.mpr ⟨km_15_130, List.forall_mem_cons.mpr ⟨km_15_134, List.forall_mem_cons.mpr ⟨km_15_141, List.forall_mem_cons.mpr ⟨km_15_145, List.forall_mem_cons.mpr ⟨km_15_150, fun _ h => absurd h List.not_mem_nil⟩⟩⟩⟩⟩⟩⟩⟩⟩⟩⟩⟩⟩⟩⟩⟩⟩⟩⟩⟩⟩⟩⟩⟩⟩⟩⟩⟩⟩⟩⟩⟩⟩⟩⟩⟩⟩⟩⟩⟩⟩⟩⟩⟩⟩⟩⟩⟩⟩⟩⟩⟩⟩⟩⟩⟩⟩⟩⟩⟩⟩⟩⟩⟩⟩⟩
theorem am_mt_ok : ∀ o, ∀ e ∈ am_mt o, am_mok o e := fun o => match o with
  | 0 => am_mt_ok_0
  | 1 => am_mt_ok_1
  | 2 => am_mt_ok_2
  | 3 => am_mt_ok_3
  | 4 => am_mt_ok_4
  | 5 => am_mt_ok_5
  | 6 => am_mt_ok_6
  | 7 => am_mt_ok_7
  | 8 => am_mt_ok_8
  | 9 => am_mt_ok_9
  | 10 => am_mt_ok_10
  | 11 => am_mt_ok_11
  | 15 => am_mt_ok_15
  | 12 => fun _ h => absurd h List.not_mem_nil
  | 13 => fun _ h => absurd h List.not_mem_nil
  | 14 => fun _ h => absurd h List.not_mem_nil
  | _ + 16 => fun _ h => absurd h List.not_mem_nil
def am_fP (o : Nat) (e : Nat × (Nat × Nat)) : Prop := e.2.1 < 10 ∧ e.2.2 < am_nf e.2.1 ∧ Cond.fieldLink (am_cn o) e.1 (am_cn e.2.1) (am_T e.2.1 e.2.2).2.1 (am_T e.2.1 e.2.2).2.2.1 ∈ lw_tbl ∧ (am_T e.2.1 e.2.2).1 = am_cn e.2.1
theorem kf_0_34 : am_fP 0 (34, 4, 0) := ⟨by decide, by decide, ct_143, rfl⟩
theorem kf_0_37 : am_fP 0 (37, 4, 2) := ⟨by decide, by decide, ct_148, rfl⟩
theorem kf_0_30 : am_fP 0 (30, 4, 4) := ⟨by decide, by decide, ct_153, rfl⟩
theorem kf_0_14 : am_fP 0 (14, 0, 0) := ⟨by decide, by decide, ct_166, rfl⟩
theorem kf_0_20 : am_fP 0 (20, 0, 1) := ⟨by decide, by decide, ct_168, rfl⟩
theorem kf_0_23 : am_fP 0 (23, 0, 2) := ⟨by decide, by decide, ct_170, rfl⟩
theorem am_fld_ok_0 : ∀ e ∈ am_fld 0, am_fP 0 e := List.forall_mem_cons.mpr ⟨kf_0_34, List.forall_mem_cons.mpr ⟨kf_0_37, List.forall_mem_cons.mpr ⟨kf_0_30, List.forall_mem_cons.mpr ⟨kf_0_14, List.forall_mem_cons.mpr ⟨kf_0_20, List.forall_mem_cons.mpr ⟨kf_0_23, fun _ h => absurd h List.not_mem_nil⟩⟩⟩⟩⟩⟩
theorem kf_1_41 : am_fP 1 (41, 1, 0) := ⟨by decide, by decide, ct_40, rfl⟩
theorem kf_1_9 : am_fP 1 (9, 1, 1) := ⟨by decide, by decide, ct_44, rfl⟩
theorem kf_1_15 : am_fP 1 (15, 1, 2) := ⟨by decide, by decide, ct_48, rfl⟩
theorem kf_1_18 : am_fP 1 (18, 1, 3) := ⟨by decide, by decide, ct_52, rfl⟩
theorem kf_1_21 : am_fP 1 (21, 1, 4) := ⟨by decide, by decide, ct_55, rfl⟩
theorem kf_1_24 : am_fP 1 (24, 1, 5) := ⟨by decide, by decide, ct_58, rfl⟩
theorem kf_1_27 : am_fP 1 (27, 1, 6) := ⟨by decide, by decide, ct_61, rfl⟩
theorem kf_1_31 : am_fP 1 (31, 1, 7) := ⟨by decide, by decide, ct_64, rfl⟩
theorem kf_1_35 : am_fP 1 (35, 1, 8) := ⟨by decide, by decide, ct_67, rfl⟩
theorem kf_1_38 : am_fP 1 (38, 1, 9) := ⟨by decide, by decide, ct_70, rfl⟩
theorem am_fld_ok_1 : ∀ e ∈ am_fld 1, am_fP 1 e := List.forall_mem_cons.mpr ⟨kf_1_41, List.forall_mem_cons.mpr ⟨kf_1_9, List.forall_mem_cons.mpr ⟨kf_1_15, List.forall_mem_cons.mpr ⟨kf_1_18, List.forall_mem_cons.mpr ⟨kf_1_21, List.forall_mem_cons.mpr ⟨kf_1_24, List.forall_mem_cons.mpr ⟨kf_1_27, List.forall_mem_cons.mpr ⟨kf_1_31, List.forall_mem_cons.mpr ⟨kf_1_35, List.forall_mem_cons.mpr ⟨kf_1_38, fun _ h => absurd h List.not_mem_nil⟩⟩⟩⟩⟩⟩⟩⟩⟩⟩
theorem kf_2_99 : am_fP 2 (99, 1, 0) := ⟨by decide, by decide, ct_42, rfl⟩
theorem kf_2_102 : am_fP 2 (102, 1, 1) := ⟨by decide, by decide, ct_47, rfl⟩
theorem kf_2_77 : am_fP 2 (77, 1, 2) := ⟨by decide, by decide, ct_51, rfl⟩
theorem kf_2_74 : am_fP 2 (74, 1, 3) := ⟨by decide, by decide, ct_54, rfl⟩
theorem kf_2_80 : am_fP 2 (80, 1, 4) := ⟨by decide, by decide, ct_57, rfl⟩
theorem kf_2_87 : am_fP 2 (87, 1, 5) := ⟨by decide, by decide, ct_60, rfl⟩
theorem kf_2_83 : am_fP 2 (83, 1, 6) := ⟨by decide, by decide, ct_63, rfl⟩
theorem kf_2_157 : am_fP 2 (157, 1, 7) := ⟨by decide, by decide, ct_66, rfl⟩
theorem kf_2_160 : am_fP 2 (160, 1, 8) := ⟨by decide, by decide, ct_69, rfl⟩
theorem kf_2_121 : am_fP 2 (121, 1, 9) := ⟨by decide, by decide, ct_72, rfl⟩
theorem kf_2_9 : am_fP 2 (9, 2, 0) := ⟨by decide, by decide, ct_95, rfl⟩
theorem kf_2_15 : am_fP 2 (15, 2, 1) := ⟨by decide, by decide, ct_96, rfl⟩
theorem kf_2_19 : am_fP 2 (19, 2, 2) := ⟨by decide, by decide, ct_98, rfl⟩
theorem kf_2_22 : am_fP 2 (22, 2, 3) := ⟨by decide, by decide, ct_100, rfl⟩
theorem kf_2_28 : am_fP 2 (28, 2, 4) := ⟨by decide, by decide, ct_102, rfl⟩
theorem kf_2_32 : am_fP 2 (32, 2, 5) := ⟨by decide, by decide, ct_103, rfl⟩
theorem kf_2_35 : am_fP 2 (35, 2, 6) := ⟨by decide, by decide, ct_105, rfl⟩
theorem kf_2_40 : am_fP 2 (40, 2, 7) := ⟨by decide, by decide, ct_106, rfl⟩
theorem kf_2_43 : am_fP 2 (43, 2, 8) := ⟨by decide, by decide, ct_107, rfl⟩
theorem kf_2_96 : am_fP 2 (96, 3, 0) := ⟨by decide, by decide, ct_229, rfl⟩
theorem am_fld_ok_2 : ∀ e ∈ am_fld 2, am_fP 2 e := List.forall_mem_cons.mpr ⟨kf_2_99, List.forall_mem_cons.mpr ⟨kf_2_102, List.forall_mem_cons.mpr ⟨kf_2_77, List.forall_mem_cons.mpr ⟨kf_2_74, List.forall_mem_cons.mpr ⟨kf_2_80, List.forall_mem_cons.mpr ⟨kf_2_87, List.forall_mem_cons.mpr ⟨kf_2_83, List.forall_mem_cons.mpr ⟨kf_2_157, List.forall_mem_cons.mpr ⟨kf_2_160, List.forall_mem_cons.mpr ⟨kf_2_121, List.forall_mem_cons.mpr ⟨kf_2_9, List.forall_mem_cons.mpr ⟨kf_2_15, List.forall_mem_cons.mpr ⟨kf_2_19, List.forall_mem_cons.mpr ⟨kf_2_22, List.forall_mem_cons.mpr ⟨kf_2_28, List.forall_mem_cons.mpr ⟨kf_2_32, List.forall_mem_cons.mpr ⟨kf_2_35, List.forall_mem_cons.mpr ⟨kf_2_40, List.forall_mem_cons.mpr ⟨kf_2_43, List.forall_mem_cons.mpr ⟨kf_2_96, fun _ h => absurd h List.not_mem_nil⟩⟩⟩⟩⟩⟩⟩⟩⟩⟩⟩⟩⟩⟩⟩⟩⟩⟩⟩⟩
theorem kf_3_9 : am_fP 3 (9, 3, 0) := ⟨by decide, by decide, ct_227, rfl⟩
theorem kf_3_15 : am_fP 3 (15, 3, 1) := ⟨by decide, by decide, ct_230, rfl⟩
theorem kf_3_19 : am_fP 3 (19, 3, 2) := ⟨by decide, by decide, ct_231, rfl⟩
theorem kf_3_22 : am_fP 3 (22, 3, 3) := ⟨by decide, by decide, ct_232, rfl⟩
theorem am_fld_ok_3 : ∀ e ∈ am_fld 3, am_fP 3 e := List.forall_mem_cons.mpr ⟨kf_3_9, List.forall_mem_cons.mpr ⟨kf_3_15, List.forall_mem_cons.mpr ⟨kf_3_19, List.forall_mem_cons.mpr ⟨kf_3_22, fun _ h => absurd h List.not_mem_nil⟩⟩⟩⟩
theorem kf_4_19 : am_fP 4 (19, 4, 0) := ⟨by decide, by decide, ct_142, rfl⟩
theorem kf_4_22 : am_fP 4 (22, 4, 1) := ⟨by decide, by decide, ct_145, rfl⟩
theorem kf_4_26 : am_fP 4 (26, 4, 2) := ⟨by decide, by decide, ct_147, rfl⟩
theorem kf_4_29 : am_fP 4 (29, 4, 3) := ⟨by decide, by decide, ct_150, rfl⟩
theorem kf_4_7 : am_fP 4 (7, 4, 4) := ⟨by decide, by decide, ct_152, rfl⟩
theorem am_fld_ok_4 : ∀ e ∈ am_fld 4, am_fP 4 e := List.forall_mem_cons.mpr ⟨kf_4_19, List.forall_mem_cons.mpr ⟨kf_4_22, List.forall_mem_cons.mpr ⟨kf_4_26, List.forall_mem_cons.mpr ⟨kf_4_29, List.forall_mem_cons.mpr ⟨kf_4_7, fun _ h => absurd h List.not_mem_nil⟩⟩⟩⟩⟩
theorem kf_5_9 : am_fP 5 (9, 5, 0) := ⟨by decide, by decide, ct_247, rfl⟩
theorem kf_5_15 : am_fP 5 (15, 5, 1) := ⟨by decide, by decide, ct_249, rfl⟩
theorem kf_5_18 : am_fP 5 (18, 5, 2) := ⟨by decide, by decide, ct_251, rfl⟩
theorem am_fld_ok_5 : ∀ e ∈ am_fld 5, am_fP 5 e := List.forall_mem_cons.mpr ⟨kf_5_9, List.forall_mem_cons.mpr ⟨kf_5_15, List.forall_mem_cons.mpr ⟨kf_5_18, fun _ h => absurd h List.not_mem_nil⟩⟩⟩
theorem kf_6_9 : am_fP 6 (9, 6, 0) := ⟨by decide, by decide, ct_185, rfl⟩
theorem kf_6_15 : am_fP 6 (15, 6, 1) := ⟨by decide, by decide, ct_186, rfl⟩
theorem kf_6_19 : am_fP 6 (19, 6, 2) := ⟨by decide, by decide, ct_188, rfl⟩
theorem kf_6_22 : am_fP 6 (22, 6, 3) := ⟨by decide, by decide, ct_189, rfl⟩
theorem kf_6_25 : am_fP 6 (25, 6, 4) := ⟨by decide, by decide, ct_190, rfl⟩
theorem kf_6_68 : am_fP 6 (68, 3, 0) := ⟨by decide, by decide, ct_228, rfl⟩
theorem am_fld_ok_6 : ∀ e ∈ am_fld 6, am_fP 6 e := List.forall_mem_cons.mpr ⟨kf_6_9, List.forall_mem_cons.mpr ⟨kf_6_15, List.forall_mem_cons.mpr ⟨kf_6_19, List.forall_mem_cons.mpr ⟨kf_6_22, List.forall_mem_cons.mpr ⟨kf_6_25, List.forall_mem_cons.mpr ⟨kf_6_68, fun _ h => absurd h List.not_mem_nil⟩⟩⟩⟩⟩⟩
theorem kf_7_47 : am_fP 7 (47, 1, 0) := ⟨by decide, by decide, ct_41, rfl⟩
theorem kf_7_26 : am_fP 7 (26, 1, 1) := ⟨by decide, by decide, ct_46, rfl⟩
theorem kf_7_50 : am_fP 7 (50, 1, 2) := ⟨by decide, by decide, ct_50, rfl⟩
theorem kf_7_11 : am_fP 7 (11, 7, 0) := ⟨by decide, by decide, ct_211, rfl⟩
theorem kf_7_15 : am_fP 7 (15, 7, 1) := ⟨by decide, by decide, ct_213, rfl⟩
theorem am_fld_ok_7 : ∀ e ∈ am_fld 7, am_fP 7 e := List.forall_mem_cons.mpr ⟨kf_7_47, List.forall_mem_cons.mpr ⟨kf_7_26, List.forall_mem_cons.mpr ⟨kf_7_50, List.forall_mem_cons.mpr ⟨kf_7_11, List.forall_mem_cons.mpr ⟨kf_7_15, fun _ h => absurd h List.not_mem_nil⟩⟩⟩⟩⟩
theorem kf_8_330 : am_fP 8 (330, 1, 0) := ⟨by decide, by decide, ct_43, rfl⟩
theorem kf_8_88 : am_fP 8 (88, 1, 1) := ⟨by decide, by decide, ct_45, rfl⟩
theorem kf_8_93 : am_fP 8 (93, 1, 2) := ⟨by decide, by decide, ct_49, rfl⟩
theorem kf_8_96 : am_fP 8 (96, 1, 3) := ⟨by decide, by decide, ct_53, rfl⟩
theorem kf_8_99 : am_fP 8 (99, 1, 4) := ⟨by decide, by decide, ct_56, rfl⟩
theorem kf_8_105 : am_fP 8 (105, 1, 5) := ⟨by decide, by decide, ct_59, rfl⟩
theorem kf_8_102 : am_fP 8 (102, 1, 6) := ⟨by decide, by decide, ct_62, rfl⟩
theorem kf_8_127 : am_fP 8 (127, 1, 7) := ⟨by decide, by decide, ct_65, rfl⟩
theorem kf_8_131 : am_fP 8 (131, 1, 8) := ⟨by decide, by decide, ct_68, rfl⟩
theorem kf_8_145 : am_fP 8 (145, 1, 9) := ⟨by decide, by decide, ct_71, rfl⟩
theorem kf_8_172 : am_fP 8 (172, 2, 1) := ⟨by decide, by decide, ct_97, rfl⟩
theorem kf_8_165 : am_fP 8 (165, 2, 2) := ⟨by decide, by decide, ct_99, rfl⟩
theorem kf_8_158 : am_fP 8 (158, 2, 3) := ⟨by decide, by decide, ct_101, rfl⟩
theorem kf_8_81 : am_fP 8 (81, 2, 5) := ⟨by decide, by decide, ct_104, rfl⟩
theorem kf_8_255 : am_fP 8 (255, 4, 0) := ⟨by decide, by decide, ct_144, rfl⟩
theorem kf_8_258 : am_fP 8 (258, 4, 1) := ⟨by decide, by decide, ct_146, rfl⟩
theorem kf_8_261 : am_fP 8 (261, 4, 2) := ⟨by decide, by decide, ct_149, rfl⟩
theorem kf_8_342 : am_fP 8 (342, 4, 3) := ⟨by decide, by decide, ct_151, rfl⟩
theorem kf_8_216 : am_fP 8 (216, 4, 4) := ⟨by decide, by decide, ct_154, rfl⟩
theorem kf_8_205 : am_fP 8 (205, 0, 0) := ⟨by decide, by decide, ct_167, rfl⟩
theorem kf_8_242 : am_fP 8 (242, 0, 1) := ⟨by decide, by decide, ct_169, rfl⟩
theorem kf_8_252 : am_fP 8 (252, 0, 2) := ⟨by decide, by decide, ct_171, rfl⟩
theorem kf_8_151 : am_fP 8 (151, 6, 1) := ⟨by decide, by decide, ct_187, rfl⟩
theorem kf_8_291 : am_fP 8 (291, 7, 0) := ⟨by decide, by decide, ct_212, rfl⟩
theorem kf_8_288 : am_fP 8 (288, 7, 1) := ⟨by decide, by decide, ct_214, rfl⟩
theorem kf_8_268 : am_fP 8 (268, 5, 0) := ⟨by decide, by decide, ct_248, rfl⟩
theorem kf_8_271 : am_fP 8 (271, 5, 1) := ⟨by decide, by decide, ct_250, rfl⟩
theorem kf_8_277 : am_fP 8 (277, 5, 2) := ⟨by decide, by decide, ct_252, rfl⟩
theorem kf_8_12 : am_fP 8 (12, 8, 0) := ⟨by decide, by decide, ct_261, rfl⟩
theorem kf_8_18 : am_fP 8 (18, 8, 1) := ⟨by decide, by decide, ct_262, rfl⟩
theorem kf_8_21 : am_fP 8 (21, 8, 2) := ⟨by decide, by decide, ct_263, rfl⟩
theorem kf_8_27 : am_fP 8 (27, 8, 3) := ⟨by decide, by decide, ct_264, rfl⟩
theorem kf_8_31 : am_fP 8 (31, 8, 4) := ⟨by decide, by decide, ct_265, rfl⟩
theorem kf_8_34 : am_fP 8 (34, 8, 5) := ⟨by decide, by decide, ct_266, rfl⟩
theorem kf_8_41 : am_fP 8 (41, 8, 6) := ⟨by decide, by decide, ct_267, rfl⟩
theorem kf_8_47 : am_fP 8 (47, 8, 7) := ⟨by decide, by decide, ct_268, rfl⟩
theorem kf_8_51 : am_fP 8 (51, 8, 8) := ⟨by decide, by decide, ct_269, rfl⟩
theorem kf_8_58 : am_fP 8 (58, 8, 9) := ⟨by decide, by decide, ct_270, rfl⟩
theorem kf_8_64 : am_fP 8 (64, 8, 10) := ⟨by decide, by decide, ct_271, rfl⟩
theorem am_fld_ok_8 : ∀ e ∈ am_fld 8, am_fP 8 e := List.forall_mem_cons.mpr ⟨kf_8_330, List.forall_mem_cons.mpr ⟨kf_8_88, List.forall_mem_cons.mpr ⟨kf_8_93, List.forall_mem_cons.mpr ⟨kf_8_96, List.forall_mem_cons.mpr ⟨kf_8_99, List.forall_mem_cons.mpr ⟨kf_8_105, List.forall_mem_cons.mpr ⟨kf_8_102, List.forall_mem_cons.mpr ⟨kf_8_127, List.forall_mem_cons.mpr ⟨kf_8_131, List.forall_mem_cons.mpr ⟨kf_8_145, List.forall_mem_cons.mpr ⟨kf_8_172, List.forall_mem_cons.mpr ⟨kf_8_165, List.forall_mem_cons.mpr ⟨kf_8_158, List.forall_mem_cons.mpr ⟨kf_8_81, List.forall_mem_cons.mpr ⟨kf_8_255, List.forall_mem_cons.mpr ⟨kf_8_258, List.forall_mem_cons.mpr ⟨kf_8_261, List.forall_mem_cons.mpr ⟨kf_8_342, List.forall_mem_cons.mpr ⟨kf_8_216, List.forall_mem_cons.mpr ⟨kf_8_205, List.forall_mem_cons.mpr ⟨kf_8_242, List.forall_mem_cons.mpr ⟨kf_8_252, List.forall_mem_cons.mpr ⟨kf_8_151, List.forall_mem_cons.mpr ⟨kf_8_291, List.forall_mem_cons.mpr ⟨kf_8_288, List.forall_mem_cons.mpr ⟨kf_8_268, List.forall_mem_cons.mpr ⟨kf_8_271, List.forall_mem_cons.mpr ⟨kf_8_277, List.forall_mem_cons.mpr ⟨kf_8_12, List.forall_mem_cons.mpr ⟨kf_8_18, List.forall_mem_cons.mpr ⟨kf_8_21, List.forall_mem_cons.mpr ⟨kf_8_27, List.forall_mem_cons.mpr ⟨kf_8_31, List.forall_mem_cons.mpr ⟨kf_8_34, List.forall_mem_cons.mpr ⟨kf_8_41, List.forall_mem_cons.mpr ⟨kf_8_47, List.forall_mem_cons.mpr ⟨kf_8_51, List.forall_mem_cons.mpr ⟨kf_8_58, List.forall_mem_cons.mpr ⟨kf_8_64, fun _ h => absurd h List.not_mem_nil⟩⟩⟩⟩⟩⟩⟩⟩⟩⟩⟩⟩⟩⟩⟩⟩⟩⟩⟩⟩⟩⟩⟩⟩⟩⟩⟩⟩⟩⟩⟩⟩⟩⟩⟩⟩⟩⟩⟩
theorem kf_9_111 : am_fP 9 (111, 9, 0) := ⟨by decide, by decide, ct_853, rfl⟩
theorem kf_9_9 : am_fP 9 (9, 9, 1) := ⟨by decide, by decide, ct_854, rfl⟩
theorem kf_9_15 : am_fP 9 (15, 9, 2) := ⟨by decide, by decide, ct_855, rfl⟩
theorem kf_9_18 : am_fP 9 (18, 9, 3) := ⟨by decide, by decide, ct_856, rfl⟩
theorem kf_9_21 : am_fP 9 (21, 9, 4) := ⟨by decide, by decide, ct_857, rfl⟩
theorem kf_9_24 : am_fP 9 (24, 9, 5) := ⟨by decide, by decide, ct_858, rfl⟩
theorem kf_9_27 : am_fP 9 (27, 9, 6) := ⟨by decide, by decide, ct_859, rfl⟩
theorem kf_9_30 : am_fP 9 (30, 9, 7) := ⟨by decide, by decide, ct_860, rfl⟩
theorem kf_9_33 : am_fP 9 (33, 9, 8) := ⟨by decide, by decide, ct_861, rfl⟩
theorem kf_9_36 : am_fP 9 (36, 9, 9) := ⟨by decide, by decide, ct_862, rfl⟩
theorem kf_9_240 : am_fP 9 (240, 9, 10) := ⟨by decide, by decide, ct_863, rfl⟩
theorem kf_9_220 : am_fP 9 (220, 9, 11) := ⟨by decide, by decide, ct_864, rfl⟩
theorem kf_9_142 : am_fP 9 (142, 9, 12) := ⟨by decide, by decide, ct_865, rfl⟩
theorem kf_9_39 : am_fP 9 (39, 9, 13) := ⟨by decide, by decide, ct_866, rfl⟩
theorem kf_9_145 : am_fP 9 (145, 9, 14) := ⟨by decide, by decide, ct_867, rfl⟩
theorem kf_9_148 : am_fP 9 (148, 9, 15) := ⟨by decide, by decide, ct_868, rfl⟩
theorem kf_9_151 : am_fP 9 (151, 9, 16) := ⟨by decide, by decide, ct_869, rfl⟩
theorem kf_9_186 : am_fP 9 (186, 9, 17) := ⟨by decide, by decide, ct_870, rfl⟩
theorem kf_9_214 : am_fP 9 (214, 9, 18) := ⟨by decide, by decide, ct_871, rfl⟩
theorem kf_9_107 : am_fP 9 (107, 9, 19) := ⟨by decide, by decide, ct_872, rfl⟩
theorem kf_9_42 : am_fP 9 (42, 9, 20) := ⟨by decide, by decide, ct_873, rfl⟩
theorem kf_9_45 : am_fP 9 (45, 9, 21) := ⟨by decide, by decide, ct_874, rfl⟩
theorem kf_9_48 : am_fP 9 (48, 9, 22) := ⟨by decide, by decide, ct_875, rfl⟩
theorem kf_9_51 : am_fP 9 (51, 9, 23) := ⟨by decide, by decide, ct_876, rfl⟩
theorem kf_9_54 : am_fP 9 (54, 9, 24) := ⟨by decide, by decide, ct_877, rfl⟩
theorem kf_9_57 : am_fP 9 (57, 9, 25) := ⟨by decide, by decide, ct_878, rfl⟩
theorem kf_9_170 : am_fP 9 (170, 9, 26) := ⟨by decide, by decide, ct_879, rfl⟩
theorem kf_9_60 : am_fP 9 (60, 9, 27) := ⟨by decide, by decide, ct_880, rfl⟩
theorem kf_9_296 : am_fP 9 (296, 9, 28) := ⟨by decide, by decide, ct_881, rfl⟩
theorem kf_9_64 : am_fP 9 (64, 9, 29) := ⟨by decide, by decide, ct_882, rfl⟩
theorem kf_9_67 : am_fP 9 (67, 9, 30) := ⟨by decide, by decide, ct_883, rfl⟩
theorem kf_9_70 : am_fP 9 (70, 9, 31) := ⟨by decide, by decide, ct_884, rfl⟩
theorem kf_9_317 : am_fP 9 (317, 9, 32) := ⟨by decide, by decide, ct_885, rfl⟩
theorem kf_9_73 : am_fP 9 (73, 9, 33) := ⟨by decide, by decide, ct_886, rfl⟩
theorem kf_9_76 : am_fP 9 (76, 9, 34) := ⟨by decide, by decide, ct_887, rfl⟩
theorem kf_9_320 : am_fP 9 (320, 9, 35) := ⟨by decide, by decide, ct_888, rfl⟩
theorem kf_9_79 : am_fP 9 (79, 9, 36) := ⟨by decide, by decide, ct_889, rfl⟩
theorem kf_9_82 : am_fP 9 (82, 9, 37) := ⟨by decide, by decide, ct_890, rfl⟩
theorem kf_9_327 : am_fP 9 (327, 9, 38) := ⟨by decide, by decide, ct_891, rfl⟩
theorem kf_9_85 : am_fP 9 (85, 9, 39) := ⟨by decide, by decide, ct_892, rfl⟩
theorem kf_9_323 : am_fP 9 (323, 9, 40) := ⟨by decide, by decide, ct_893, rfl⟩
theorem kf_9_88 : am_fP 9 (88, 9, 41) := ⟨by decide, by decide, ct_894, rfl⟩
theorem kf_9_91 : am_fP 9 (91, 9, 42) := ⟨by decide, by decide, ct_895, rfl⟩
theorem kf_9_94 : am_fP 9 (94, 9, 43) := ⟨by decide, by decide, ct_896, rfl⟩
theorem kf_9_97 : am_fP 9 (97, 9, 44) := ⟨by decide, by decide, ct_897, rfl⟩
theorem kf_9_100 : am_fP 9 (100, 9, 45) := ⟨by decide, by decide, ct_898, rfl⟩
theorem kf_9_103 : am_fP 9 (103, 9, 46) := ⟨by decide, by decide, ct_899, rfl⟩
theorem am_fld_ok_9 : ∀ e ∈ am_fld 9, am_fP 9 e := List.forall_mem_cons.mpr ⟨kf_9_111, List.forall_mem_cons.mpr ⟨kf_9_9, List.forall_mem_cons.mpr ⟨kf_9_15, List.forall_mem_cons.mpr ⟨kf_9_18, List.forall_mem_cons.mpr ⟨kf_9_21, List.forall_mem_cons.mpr ⟨kf_9_24, List.forall_mem_cons.mpr ⟨kf_9_27, List.forall_mem_cons.mpr ⟨kf_9_30, List.forall_mem_cons.mpr ⟨kf_9_33, List.forall_mem_cons.mpr ⟨kf_9_36, List.forall_mem_cons.mpr ⟨kf_9_240, List.forall_mem_cons.mpr ⟨kf_9_220, List.forall_mem_cons.mpr ⟨kf_9_142, List.forall_mem_cons.mpr ⟨kf_9_39, List.forall_mem_cons.mpr ⟨kf_9_145, List.forall_mem_cons.mpr ⟨kf_9_148, List.forall_mem_cons.mpr ⟨kf_9_151, List.forall_mem_cons.mpr ⟨kf_9_186, List.forall_mem_cons.mpr ⟨kf_9_214, List.forall_mem_cons.mpr ⟨kf_9_107, List.forall_mem_cons.mpr ⟨kf_9_42, List.forall_mem_cons.mpr ⟨kf_9_45, List.forall_mem_cons.mpr ⟨kf_9_48, List.forall_mem_cons.mpr ⟨kf_9_51, List.forall_mem_cons.mpr ⟨kf_9_54, List.forall_mem_cons.mpr ⟨kf_9_57, List.forall_mem_cons.mpr ⟨kf_9_170, List.forall_mem_cons.mpr ⟨kf_9_60, List.forall_mem_cons.mpr ⟨kf_9_296, List.forall_mem_cons.mpr ⟨kf_9_64, List.forall_mem_cons.mpr ⟨kf_9_67, List.forall_mem_cons.mpr ⟨kf_9_70, List.forall_mem_cons.mpr ⟨kf_9_317, List.forall_mem_cons.mpr ⟨kf_9_73, List.forall_mem_cons.mpr ⟨kf_9_76, List.forall_mem_cons.mpr ⟨kf_9_320, List.forall_mem_cons.mpr ⟨kf_9_79, List.forall_mem_cons.mpr ⟨kf_9_82, List.forall_mem_cons.mpr ⟨kf_9_327, List.forall_mem_cons.mpr ⟨kf_9_85, List.forall_mem_cons.mpr ⟨kf_9_323, List.forall_mem_cons.mpr ⟨kf_9_88, List.forall_mem_cons.mpr ⟨kf_9_91, List.forall_mem_cons.mpr ⟨kf_9_94, List.forall_mem_cons.mpr ⟨kf_9_97, List.forall_mem_cons.mpr ⟨kf_9_100, List.forall_mem_cons.mpr ⟨kf_9_103, fun _ h => absurd h List.not_mem_nil⟩⟩⟩⟩⟩⟩⟩⟩⟩⟩⟩⟩⟩⟩⟩⟩⟩⟩⟩⟩⟩⟩⟩⟩⟩⟩⟩⟩⟩⟩⟩⟩⟩⟩⟩⟩⟩⟩⟩⟩⟩⟩⟩⟩⟩⟩⟩
theorem am_fld_ok : ∀ o, ∀ e ∈ am_fld o, am_fP o e := fun o => match o with
  | 0 => am_fld_ok_0
  | 1 => am_fld_ok_1
  | 2 => am_fld_ok_2
  | 3 => am_fld_ok_3
  | 4 => am_fld_ok_4
  | 5 => am_fld_ok_5
  | 6 => am_fld_ok_6
  | 7 => am_fld_ok_7
  | 8 => am_fld_ok_8
  | 9 => am_fld_ok_9
  | _ + 10 => fun _ h => absurd h List.not_mem_nil
theorem am_cls_ok : ∀ i, i < 10 → am_cl[i]? = some (am_cn i, am_T i, am_nf i) := fun i h => match i, h with
  | 0, _ => rfl | 1, _ => rfl | 2, _ => rfl | 3, _ => rfl | 4, _ => rfl | 5, _ => rfl | 6, _ => rfl | 7, _ => rfl | 8, _ => rfl | 9, _ => rfl
  | i + 10, h => absurd h (by omega)
theorem am_nm_0 : ∀ a, a < am_nf 0 → ∀ b, b < am_nf 0 → a ≠ b → (am_T 0 a).2.1 ≠ (am_T 0 b).2.1 := by decide +kernel
theorem am_tyk_0 : ∀ k, k < am_nf 0 → parseFieldDescriptor (am_T 0 k).2.2.1 = some (am_y 0 k) := by decide +kernel
theorem am_wsk_0 : ∀ w ∈ u_ws (am_cn 0) (am_T 0) (am_nf 0), w ∈ lw_tbl := List.forall_mem_cons.mpr ⟨ct_172, List.forall_mem_cons.mpr ⟨ct_174, List.forall_mem_cons.mpr ⟨ct_176, fun _ h => absurd h List.not_mem_nil⟩⟩⟩
theorem am_ink_0 : Cond.instantiable (am_cn 0) (am_nf 0) ∈ lw_tbl ∧ Cond.initialized (am_cn 0) ∈ lw_tbl := ⟨ct_128, ct_4⟩
theorem am_dfk_0 : (am_df 0).length = am_nf 0 ∧ ∀ k, k < am_nf 0 → defaultValue (am_y 0 k) = vp_V (am_df 0) k := by decide +kernel
theorem am_nm_1 : ∀ a, a < am_nf 1 → ∀ b, b < am_nf 1 → a ≠ b → (am_T 1 a).2.1 ≠ (am_T 1 b).2.1 := by decide +kernel
theorem am_tyk_1 : ∀ k, k < am_nf 1 → parseFieldDescriptor (am_T 1 k).2.2.1 = some (am_y 1 k) := by decide +kernel
theorem am_wsk_1 : ∀ w ∈ u_ws (am_cn 1) (am_T 1) (am_nf 1), w ∈ lw_tbl := List.forall_mem_cons.mpr ⟨ct_73, List.forall_mem_cons.mpr ⟨ct_75, List.forall_mem_cons.mpr ⟨ct_77, List.forall_mem_cons.mpr ⟨ct_79, List.forall_mem_cons.mpr ⟨ct_81, List.forall_mem_cons.mpr ⟨ct_83, List.forall_mem_cons.mpr ⟨ct_85, List.forall_mem_cons.mpr ⟨ct_87, List.forall_mem_cons.mpr ⟨ct_89, List.forall_mem_cons.mpr ⟨ct_91, fun _ h => absurd h List.not_mem_nil⟩⟩⟩⟩⟩⟩⟩⟩⟩⟩
theorem am_ink_1 : Cond.instantiable (am_cn 1) (am_nf 1) ∈ lw_tbl ∧ Cond.initialized (am_cn 1) ∈ lw_tbl := ⟨ct_35, ct_3⟩
theorem am_dfk_1 : (am_df 1).length = am_nf 1 ∧ ∀ k, k < am_nf 1 → defaultValue (am_y 1 k) = vp_V (am_df 1) k := by decide +kernel
theorem am_nm_2 : ∀ a, a < am_nf 2 → ∀ b, b < am_nf 2 → a ≠ b → (am_T 2 a).2.1 ≠ (am_T 2 b).2.1 := by decide +kernel
theorem am_tyk_2 : ∀ k, k < am_nf 2 → parseFieldDescriptor (am_T 2 k).2.2.1 = some (am_y 2 k) := by decide +kernel
theorem am_wsk_2 : ∀ w ∈ u_ws (am_cn 2) (am_T 2) (am_nf 2), w ∈ lw_tbl := List.forall_mem_cons.mpr ⟨ct_108, List.forall_mem_cons.mpr ⟨ct_110, List.forall_mem_cons.mpr ⟨ct_112, List.forall_mem_cons.mpr ⟨ct_114, List.forall_mem_cons.mpr ⟨ct_116, List.forall_mem_cons.mpr ⟨ct_118, List.forall_mem_cons.mpr ⟨ct_120, List.forall_mem_cons.mpr ⟨ct_122, List.forall_mem_cons.mpr ⟨ct_124, fun _ h => absurd h List.not_mem_nil⟩⟩⟩⟩⟩⟩⟩⟩⟩
theorem am_ink_2 : Cond.instantiable (am_cn 2) (am_nf 2) ∈ lw_tbl ∧ Cond.initialized (am_cn 2) ∈ lw_tbl := ⟨ct_28, ct_2⟩
theorem am_dfk_2 : (am_df 2).length = am_nf 2 ∧ ∀ k, k < am_nf 2 → defaultValue (am_y 2 k) = vp_V (am_df 2) k := by decide +kernel
theorem am_nm_3 : ∀ a, a < am_nf 3 → ∀ b, b < am_nf 3 → a ≠ b → (am_T 3 a).2.1 ≠ (am_T 3 b).2.1 := by decide +kernel
theorem am_tyk_3 : ∀ k, k < am_nf 3 → parseFieldDescriptor (am_T 3 k).2.2.1 = some (am_y 3 k) := by decide +kernel
theorem am_wsk_3 : ∀ w ∈ u_ws (am_cn 3) (am_T 3) (am_nf 3), w ∈ lw_tbl := List.forall_mem_cons.mpr ⟨ct_233, List.forall_mem_cons.mpr ⟨ct_235, List.forall_mem_cons.mpr ⟨ct_237, List.forall_mem_cons.mpr ⟨ct_239, fun _ h => absurd h List.not_mem_nil⟩⟩⟩⟩
theorem am_ink_3 : Cond.instantiable (am_cn 3) (am_nf 3) ∈ lw_tbl ∧ Cond.initialized (am_cn 3) ∈ lw_tbl := ⟨ct_222, ct_9⟩
theorem am_dfk_3 : (am_df 3).length = am_nf 3 ∧ ∀ k, k < am_nf 3 → defaultValue (am_y 3 k) = vp_V (am_df 3) k := by decide +kernel
theorem am_nm_4 : ∀ a, a < am_nf 4 → ∀ b, b < am_nf 4 → a ≠ b → (am_T 4 a).2.1 ≠ (am_T 4 b).2.1 := by decide +kernel
theorem am_tyk_4 : ∀ k, k < am_nf 4 → parseFieldDescriptor (am_T 4 k).2.2.1 = some (am_y 4 k) := by decide +kernel
theorem am_wsk_4 : ∀ w ∈ u_ws (am_cn 4) (am_T 4) (am_nf 4), w ∈ lw_tbl := List.forall_mem_cons.mpr ⟨ct_155, List.forall_mem_cons.mpr ⟨ct_157, List.forall_mem_cons.mpr ⟨ct_159, List.forall_mem_cons.mpr ⟨ct_161, List.forall_mem_cons.mpr ⟨ct_163, fun _ h => absurd h List.not_mem_nil⟩⟩⟩⟩⟩
theorem am_ink_4 : Cond.instantiable (am_cn 4) (am_nf 4) ∈ lw_tbl ∧ Cond.initialized (am_cn 4) ∈ lw_tbl := ⟨ct_134, ct_5⟩
theorem am_dfk_4 : (am_df 4).length = am_nf 4 ∧ ∀ k, k < am_nf 4 → defaultValue (am_y 4 k) = vp_V (am_df 4) k := by decide +kernel
theorem am_nm_5 : ∀ a, a < am_nf 5 → ∀ b, b < am_nf 5 → a ≠ b → (am_T 5 a).2.1 ≠ (am_T 5 b).2.1 := by decide +kernel
theorem am_tyk_5 : ∀ k, k < am_nf 5 → parseFieldDescriptor (am_T 5 k).2.2.1 = some (am_y 5 k) := by decide +kernel
theorem am_wsk_5 : ∀ w ∈ u_ws (am_cn 5) (am_T 5) (am_nf 5), w ∈ lw_tbl := List.forall_mem_cons.mpr ⟨ct_253, List.forall_mem_cons.mpr ⟨ct_255, List.forall_mem_cons.mpr ⟨ct_257, fun _ h => absurd h List.not_mem_nil⟩⟩⟩
theorem am_ink_5 : Cond.instantiable (am_cn 5) (am_nf 5) ∈ lw_tbl ∧ Cond.initialized (am_cn 5) ∈ lw_tbl := ⟨ct_242, ct_10⟩
theorem am_dfk_5 : (am_df 5).length = am_nf 5 ∧ ∀ k, k < am_nf 5 → defaultValue (am_y 5 k) = vp_V (am_df 5) k := by decide +kernel
theorem am_nm_6 : ∀ a, a < am_nf 6 → ∀ b, b < am_nf 6 → a ≠ b → (am_T 6 a).2.1 ≠ (am_T 6 b).2.1 := by decide +kernel
theorem am_tyk_6 : ∀ k, k < am_nf 6 → parseFieldDescriptor (am_T 6 k).2.2.1 = some (am_y 6 k) := by decide +kernel
theorem am_wsk_6 : ∀ w ∈ u_ws (am_cn 6) (am_T 6) (am_nf 6), w ∈ lw_tbl := List.forall_mem_cons.mpr ⟨ct_191, List.forall_mem_cons.mpr ⟨ct_193, List.forall_mem_cons.mpr ⟨ct_195, List.forall_mem_cons.mpr ⟨ct_197, List.forall_mem_cons.mpr ⟨ct_199, fun _ h => absurd h List.not_mem_nil⟩⟩⟩⟩⟩
theorem am_ink_6 : Cond.instantiable (am_cn 6) (am_nf 6) ∈ lw_tbl ∧ Cond.initialized (am_cn 6) ∈ lw_tbl := ⟨ct_180, ct_7⟩
theorem am_dfk_6 : (am_df 6).length = am_nf 6 ∧ ∀ k, k < am_nf 6 → defaultValue (am_y 6 k) = vp_V (am_df 6) k := by decide +kernel
theorem am_nm_7 : ∀ a, a < am_nf 7 → ∀ b, b < am_nf 7 → a ≠ b → (am_T 7 a).2.1 ≠ (am_T 7 b).2.1 := by decide +kernel
theorem am_tyk_7 : ∀ k, k < am_nf 7 → parseFieldDescriptor (am_T 7 k).2.2.1 = some (am_y 7 k) := by decide +kernel
theorem am_wsk_7 : ∀ w ∈ u_ws (am_cn 7) (am_T 7) (am_nf 7), w ∈ lw_tbl := List.forall_mem_cons.mpr ⟨ct_215, List.forall_mem_cons.mpr ⟨ct_217, fun _ h => absurd h List.not_mem_nil⟩⟩
theorem am_ink_7 : Cond.instantiable (am_cn 7) (am_nf 7) ∈ lw_tbl ∧ Cond.initialized (am_cn 7) ∈ lw_tbl := ⟨ct_206, ct_8⟩
theorem am_dfk_7 : (am_df 7).length = am_nf 7 ∧ ∀ k, k < am_nf 7 → defaultValue (am_y 7 k) = vp_V (am_df 7) k := by decide +kernel
theorem am_nm_8 : ∀ a, a < am_nf 8 → ∀ b, b < am_nf 8 → a ≠ b → (am_T 8 a).2.1 ≠ (am_T 8 b).2.1 := by decide +kernel
theorem am_tyk_8 : ∀ k, k < am_nf 8 → parseFieldDescriptor (am_T 8 k).2.2.1 = some (am_y 8 k) := by decide +kernel
theorem am_wsk_8 : ∀ w ∈ u_ws (am_cn 8) (am_T 8) (am_nf 8), w ∈ lw_tbl := List.forall_mem_cons.mpr ⟨ct_272, List.forall_mem_cons.mpr ⟨ct_274, List.forall_mem_cons.mpr ⟨ct_276, List.forall_mem_cons.mpr ⟨ct_278, List.forall_mem_cons.mpr ⟨ct_280, List.forall_mem_cons.mpr ⟨ct_282, List.forall_mem_cons.mpr ⟨ct_284, List.forall_mem_cons.mpr ⟨ct_286, List.forall_mem_cons.mpr ⟨ct_288, List.forall_mem_cons.mpr ⟨ct_290, List.forall_mem_cons.mpr ⟨ct_292, fun _ h => absurd h List.not_mem_nil⟩⟩⟩⟩⟩⟩⟩⟩⟩⟩⟩
theorem am_ink_8 : Cond.instantiable (am_cn 8) (am_nf 8) ∈ lw_tbl ∧ Cond.initialized (am_cn 8) ∈ lw_tbl := ⟨ct_20, ct_1⟩
theorem am_dfk_8 : (am_df 8).length = am_nf 8 ∧ ∀ k, k < am_nf 8 → defaultValue (am_y 8 k) = vp_V (am_df 8) k := by decide +kernel
theorem am_nm_9 : ∀ a, a < am_nf 9 → ∀ b, b < am_nf 9 → a ≠ b → (am_T 9 a).2.1 ≠ (am_T 9 b).2.1 := by decide +kernel
theorem am_tyk_9 : ∀ k, k < am_nf 9 → parseFieldDescriptor (am_T 9 k).2.2.1 = some (am_y 9 k) := by decide +kernel
theorem am_wsk_9 : ∀ w ∈ u_ws (am_cn 9) (am_T 9) (am_nf 9), w ∈ lw_tbl := List.forall_mem_cons.mpr ⟨ct_900, List.forall_mem_cons.mpr ⟨ct_902, List.forall_mem_cons.mpr ⟨ct_904, List.forall_mem_cons.mpr ⟨ct_906, List.forall_mem_cons.mpr ⟨ct_908, List.forall_mem_cons.mpr ⟨ct_910, List.forall_mem_cons.mpr ⟨ct_912, List.forall_mem_cons.mpr ⟨ct_914, List.forall_mem_cons.mpr ⟨ct_916, List.forall_mem_cons.mpr ⟨ct_918, List.forall_mem_cons.mpr ⟨ct_920, List.forall_mem_cons.mpr ⟨ct_922, List.forall_mem_cons.mpr ⟨ct_924, List.forall_mem_cons.mpr ⟨ct_926, List.forall_mem_cons.mpr ⟨ct_928, List.forall_mem_cons.mpr ⟨ct_930, List.forall_mem_cons.mpr ⟨ct_932, List.forall_mem_cons.mpr ⟨ct_934, List.forall_mem_cons.mpr ⟨ct_936, List.forall_mem_cons.mpr ⟨ct_938, List.forall_mem_cons.mpr ⟨ct_940, List.forall_mem_cons.mpr ⟨ct_942, List.forall_mem_cons.mpr ⟨ct_944, List.forall_mem_cons.mpr ⟨ct_946, List.forall_mem_cons.mpr ⟨ct_948, List.forall_mem_cons.mpr ⟨ct_950, List.forall_mem_cons.mpr ⟨ct_952, List.forall_mem_cons.mpr ⟨ct_954, List.forall_mem_cons.mpr ⟨ct_956, List.forall_mem_cons.mpr ⟨ct_958, List.forall_mem_cons.mpr ⟨ct_960, List.forall_mem_cons.mpr ⟨ct_962, List.forall_mem_cons.mpr ⟨ct_964, List.forall_mem_cons.mpr ⟨ct_966, List.forall_mem_cons.mpr ⟨ct_968, List.forall_mem_cons.mpr ⟨ct_970, List.forall_mem_cons.mpr ⟨ct_972, List.forall_mem_cons.mpr ⟨ct_974, List.forall_mem_cons.mpr ⟨ct_976, List.forall_mem_cons.mpr ⟨ct_978, List.forall_mem_cons.mpr ⟨ct_980, List.forall_mem_cons.mpr ⟨ct_982, List.forall_mem_cons.mpr ⟨ct_984, List.forall_mem_cons.mpr ⟨ct_986, List.forall_mem_cons.mpr ⟨ct_988, List.forall_mem_cons.mpr ⟨ct_990, List.forall_mem_cons.mpr ⟨ct_992, fun _ h => absurd h List.not_mem_nil⟩⟩⟩⟩⟩⟩⟩⟩⟩⟩⟩⟩⟩⟩⟩⟩⟩⟩⟩⟩⟩⟩⟩⟩⟩⟩⟩⟩⟩⟩⟩⟩⟩⟩⟩⟩⟩⟩⟩⟩⟩⟩⟩⟩⟩⟩⟩
theorem am_ink_9 : Cond.instantiable (am_cn 9) (am_nf 9) ∈ lw_tbl ∧ Cond.initialized (am_cn 9) ∈ lw_tbl := ⟨ct_848, ct_11⟩
theorem am_dfk_9 : (am_df 9).length = am_nf 9 ∧ ∀ k, k < am_nf 9 → defaultValue (am_y 9 k) = vp_V (am_df 9) k := by decide +kernel
theorem am_nm_ok : ∀ i, i < 10 → ∀ a, a < am_nf i → ∀ b, b < am_nf i → a ≠ b → (am_T i a).2.1 ≠ (am_T i b).2.1 := fun i h => match i, h with
  | 0, _ => am_nm_0
  | 1, _ => am_nm_1
  | 2, _ => am_nm_2
  | 3, _ => am_nm_3
  | 4, _ => am_nm_4
  | 5, _ => am_nm_5
  | 6, _ => am_nm_6
  | 7, _ => am_nm_7
  | 8, _ => am_nm_8
  | 9, _ => am_nm_9
  | i + 10, h => absurd h (by omega)
theorem am_tyk_ok : ∀ i, i < 10 → ∀ k, k < am_nf i → parseFieldDescriptor (am_T i k).2.2.1 = some (am_y i k) := fun i h => match i, h with
  | 0, _ => am_tyk_0
  | 1, _ => am_tyk_1
  | 2, _ => am_tyk_2
  | 3, _ => am_tyk_3
  | 4, _ => am_tyk_4
  | 5, _ => am_tyk_5
  | 6, _ => am_tyk_6
  | 7, _ => am_tyk_7
  | 8, _ => am_tyk_8
  | 9, _ => am_tyk_9
  | i + 10, h => absurd h (by omega)
theorem am_wsk_ok : ∀ i, i < 10 → ∀ w ∈ u_ws (am_cn i) (am_T i) (am_nf i), w ∈ lw_tbl := fun i h => match i, h with
  | 0, _ => am_wsk_0
  | 1, _ => am_wsk_1
  | 2, _ => am_wsk_2
  | 3, _ => am_wsk_3
  | 4, _ => am_wsk_4
  | 5, _ => am_wsk_5
  | 6, _ => am_wsk_6
  | 7, _ => am_wsk_7
  | 8, _ => am_wsk_8
  | 9, _ => am_wsk_9
  | i + 10, h => absurd h (by omega)
theorem am_ink_ok : ∀ i, i < 10 → Cond.instantiable (am_cn i) (am_nf i) ∈ lw_tbl ∧ Cond.initialized (am_cn i) ∈ lw_tbl := fun i h => match i, h with
  | 0, _ => am_ink_0
  | 1, _ => am_ink_1
  | 2, _ => am_ink_2
  | 3, _ => am_ink_3
  | 4, _ => am_ink_4
  | 5, _ => am_ink_5
  | 6, _ => am_ink_6
  | 7, _ => am_ink_7
  | 8, _ => am_ink_8
  | 9, _ => am_ink_9
  | i + 10, h => absurd h (by omega)
theorem am_dfk_ok : ∀ i, i < 10 → (am_df i).length = am_nf i ∧ ∀ k, k < am_nf i → defaultValue (am_y i k) = vp_V (am_df i) k := fun i h => match i, h with
  | 0, _ => am_dfk_0
  | 1, _ => am_dfk_1
  | 2, _ => am_dfk_2
  | 3, _ => am_dfk_3
  | 4, _ => am_dfk_4
  | 5, _ => am_dfk_5
  | 6, _ => am_dfk_6
  | 7, _ => am_dfk_7
  | 8, _ => am_dfk_8
  | 9, _ => am_dfk_9
  | i + 10, h => absurd h (by omega)
def am_nP (o : Nat) (e : Nat × Nat) : Prop := e.2 < 10 ∧ Cond.classLink (am_cn o) e.1 (am_cn e.2) ∈ lw_tbl
theorem am_new_ok_15 : ∀ e ∈ am_new 15, am_nP 15 e := List.forall_mem_cons.mpr ⟨⟨by decide, ct_19⟩, List.forall_mem_cons.mpr ⟨⟨by decide, ct_847⟩, fun _ h => absurd h List.not_mem_nil⟩⟩
theorem am_new_ok_8 : ∀ e ∈ am_new 8, am_nP 8 e := List.forall_mem_cons.mpr ⟨⟨by decide, ct_27⟩, List.forall_mem_cons.mpr ⟨⟨by decide, ct_127⟩, List.forall_mem_cons.mpr ⟨⟨by decide, ct_179⟩, List.forall_mem_cons.mpr ⟨⟨by decide, ct_203⟩, List.forall_mem_cons.mpr ⟨⟨by decide, ct_205⟩, List.forall_mem_cons.mpr ⟨⟨by decide, ct_220⟩, fun _ h => absurd h List.not_mem_nil⟩⟩⟩⟩⟩⟩
theorem am_new_ok_2 : ∀ e ∈ am_new 2, am_nP 2 e := List.forall_mem_cons.mpr ⟨⟨by decide, ct_33⟩, fun _ h => absurd h List.not_mem_nil⟩
theorem am_new_ok_0 : ∀ e ∈ am_new 0, am_nP 0 e := List.forall_mem_cons.mpr ⟨⟨by decide, ct_133⟩, fun _ h => absurd h List.not_mem_nil⟩
theorem am_new_ok : ∀ o, ∀ e ∈ am_new o, am_nP o e := fun o => match o with
  | 0 => am_new_ok_0
  | 2 => am_new_ok_2
  | 8 => am_new_ok_8
  | 15 => am_new_ok_15
  | 1 => fun _ h => absurd h List.not_mem_nil
  | 3 => fun _ h => absurd h List.not_mem_nil
  | 4 => fun _ h => absurd h List.not_mem_nil
  | 5 => fun _ h => absurd h List.not_mem_nil
  | 6 => fun _ h => absurd h List.not_mem_nil
  | 7 => fun _ h => absurd h List.not_mem_nil
  | 9 => fun _ h => absurd h List.not_mem_nil
  | 10 => fun _ h => absurd h List.not_mem_nil
  | 11 => fun _ h => absurd h List.not_mem_nil
  | 12 => fun _ h => absurd h List.not_mem_nil
  | 13 => fun _ h => absurd h List.not_mem_nil
  | 14 => fun _ h => absurd h List.not_mem_nil
  | _ + 16 => fun _ h => absurd h List.not_mem_nil
def am_sP (o : Nat) (e : Nat × Nat) : Prop := (e.2 = 0 ∧ Cond.fieldLink (am_cn o) e.1 "java/lang/String" "value" "[B" ∈ lw_tbl) ∨ (e.2 = 1 ∧ Cond.fieldLink (am_cn o) e.1 "java/lang/String" "coder" "B" ∈ lw_tbl)
theorem am_sfl_ok_10 : ∀ e ∈ am_sfl 10, am_sP 10 e := List.forall_mem_cons.mpr ⟨Or.inl ⟨rfl, ct_1373⟩, List.forall_mem_cons.mpr ⟨Or.inr ⟨rfl, ct_1374⟩, fun _ h => absurd h List.not_mem_nil⟩⟩
theorem am_sfl_ok : ∀ o, ∀ e ∈ am_sfl o, am_sP o e := fun o => match o with
  | 10 => am_sfl_ok_10
  | 0 => fun _ h => absurd h List.not_mem_nil
  | 1 => fun _ h => absurd h List.not_mem_nil
  | 2 => fun _ h => absurd h List.not_mem_nil
  | 3 => fun _ h => absurd h List.not_mem_nil
  | 4 => fun _ h => absurd h List.not_mem_nil
  | 5 => fun _ h => absurd h List.not_mem_nil
  | 6 => fun _ h => absurd h List.not_mem_nil
  | 7 => fun _ h => absurd h List.not_mem_nil
  | 8 => fun _ h => absurd h List.not_mem_nil
  | 9 => fun _ h => absurd h List.not_mem_nil
  | _ + 11 => fun _ h => absurd h List.not_mem_nil
def am_sd : Nat → String × String × String := fun k => match k with
  | 0 => ("java/lang/String", "COMPACT_STRINGS", "Z")
  | 1 => ("LostSheets", "ABOVE", "[I")
  | 2 => ("LostSheets$Trace", "BODIES", "[I")
  | _ => ("jdk/internal/util/Preconditions", "SIOOBE_FORMATTER", "Ljava/util/function/BiFunction;")
def am_aP (o : Nat) (e : Nat × Nat) : Prop := e.2 < 4 ∧ Cond.fieldLink (am_cn o) e.1 (am_sd e.2).1 (am_sd e.2).2.1 (am_sd e.2).2.2 ∈ lw_tbl
theorem am_sta_ok_10 : ∀ e ∈ am_sta 10, am_aP 10 e := List.forall_mem_cons.mpr ⟨⟨by decide, ct_524⟩, List.forall_mem_cons.mpr ⟨⟨by decide, ct_540⟩, fun _ h => absurd h List.not_mem_nil⟩⟩
theorem am_sta_ok_7 : ∀ e ∈ am_sta 7, am_aP 7 e := List.forall_mem_cons.mpr ⟨⟨by decide, ct_787⟩, fun _ h => absurd h List.not_mem_nil⟩
theorem am_sta_ok_8 : ∀ e ∈ am_sta 8, am_aP 8 e := List.forall_mem_cons.mpr ⟨⟨by decide, ct_792⟩, fun _ h => absurd h List.not_mem_nil⟩
theorem am_sta_ok : ∀ o, ∀ e ∈ am_sta o, am_aP o e := fun o => match o with
  | 7 => am_sta_ok_7
  | 8 => am_sta_ok_8
  | 10 => am_sta_ok_10
  | 0 => fun _ h => absurd h List.not_mem_nil
  | 1 => fun _ h => absurd h List.not_mem_nil
  | 2 => fun _ h => absurd h List.not_mem_nil
  | 3 => fun _ h => absurd h List.not_mem_nil
  | 4 => fun _ h => absurd h List.not_mem_nil
  | 5 => fun _ h => absurd h List.not_mem_nil
  | 6 => fun _ h => absurd h List.not_mem_nil
  | 9 => fun _ h => absurd h List.not_mem_nil
  | _ + 11 => fun _ h => absurd h List.not_mem_nil
def am_sk : List (String × (Nat × String)) := [("LostSheets$Text", 55, "turn "), ("LostSheets$Text", 57, "back "), ("LostSheets$Text", 59, "know "), ("LostSheets$Text", 93, "pkvmsh"), ("LostSheets$Text", 99, "<=>"), ("LostSheetsModel", 204, "turn "), ("LostSheetsModel", 210, "back "), ("LostSheetsModel", 212, "know "), ("LostSheetsModel", 173, "pkvmsh"), ("LostSheetsModel", 178, "<=>")]
def am_cP (o : Nat) (e : Nat × Value) : Prop := (∃ v, e.2 = .int v ∧ Cond.constant (am_cn o) e.1 v ∈ lw_tbl) ∨ (∃ v, e.2 = .long v ∧ Cond.constantLong (am_cn o) e.1 v ∈ lw_tbl) ∨ (∃ j tx, e.2 = .ref (1000000 + j) ∧ j < 10 ∧ am_sk[j]? = some (am_cn o, e.1, tx) ∧ Cond.stringRef (am_cn o) e.1 tx ∈ lw_tbl)
theorem am_con_ok_6 : ∀ e ∈ am_con 6, am_cP 6 e := List.forall_mem_cons.mpr ⟨Or.inr (Or.inr ⟨0, _, rfl, by decide, rfl, ct_509⟩), List.forall_mem_cons.mpr ⟨Or.inr (Or.inr ⟨1, _, rfl, by decide, rfl, ct_510⟩), List.forall_mem_cons.mpr ⟨Or.inr (Or.inr ⟨2, _, rfl, by decide, rfl, ct_511⟩), List.forall_mem_cons.mpr ⟨Or.inr (Or.inr ⟨3, _, rfl, by decide, rfl, ct_588⟩), List.forall_mem_cons.mpr ⟨Or.inr (Or.inr ⟨4, _, rfl, by decide, rfl, ct_592⟩), fun _ h => absurd h List.not_mem_nil⟩⟩⟩⟩⟩
theorem am_con_ok_8 : ∀ e ∈ am_con 8, am_cP 8 e := List.forall_mem_cons.mpr ⟨Or.inl ⟨_, rfl, ct_622⟩, List.forall_mem_cons.mpr ⟨Or.inr (Or.inl ⟨_, rfl, ct_695⟩), List.forall_mem_cons.mpr ⟨Or.inr (Or.inl ⟨_, rfl, ct_696⟩), fun _ h => absurd h List.not_mem_nil⟩⟩⟩
theorem am_con_ok_12 : ∀ e ∈ am_con 12, am_cP 12 e := List.forall_mem_cons.mpr ⟨Or.inl ⟨_, rfl, ct_653⟩, List.forall_mem_cons.mpr ⟨Or.inl ⟨_, rfl, ct_654⟩, List.forall_mem_cons.mpr ⟨Or.inl ⟨_, rfl, ct_655⟩, fun _ h => absurd h List.not_mem_nil⟩⟩⟩
theorem am_con_ok_9 : ∀ e ∈ am_con 9, am_cP 9 e := List.forall_mem_cons.mpr ⟨Or.inr (Or.inr ⟨5, _, rfl, by decide, rfl, ct_1110⟩), List.forall_mem_cons.mpr ⟨Or.inr (Or.inr ⟨6, _, rfl, by decide, rfl, ct_1121⟩), List.forall_mem_cons.mpr ⟨Or.inr (Or.inr ⟨7, _, rfl, by decide, rfl, ct_1122⟩), List.forall_mem_cons.mpr ⟨Or.inr (Or.inr ⟨8, _, rfl, by decide, rfl, ct_1155⟩), List.forall_mem_cons.mpr ⟨Or.inr (Or.inr ⟨9, _, rfl, by decide, rfl, ct_1211⟩), List.forall_mem_cons.mpr ⟨Or.inl ⟨_, rfl, ct_1228⟩, List.forall_mem_cons.mpr ⟨Or.inr (Or.inl ⟨_, rfl, ct_1271⟩), List.forall_mem_cons.mpr ⟨Or.inr (Or.inl ⟨_, rfl, ct_1272⟩), fun _ h => absurd h List.not_mem_nil⟩⟩⟩⟩⟩⟩⟩⟩
theorem am_con_ok_15 : ∀ e ∈ am_con 15, am_cP 15 e := List.forall_mem_cons.mpr ⟨Or.inr (Or.inl ⟨_, rfl, ct_1372⟩), fun _ h => absurd h List.not_mem_nil⟩
theorem am_con_ok : ∀ o, ∀ e ∈ am_con o, am_cP o e := fun o => match o with
  | 6 => am_con_ok_6
  | 8 => am_con_ok_8
  | 9 => am_con_ok_9
  | 12 => am_con_ok_12
  | 15 => am_con_ok_15
  | 0 => fun _ h => absurd h List.not_mem_nil
  | 1 => fun _ h => absurd h List.not_mem_nil
  | 2 => fun _ h => absurd h List.not_mem_nil
  | 3 => fun _ h => absurd h List.not_mem_nil
  | 4 => fun _ h => absurd h List.not_mem_nil
  | 5 => fun _ h => absurd h List.not_mem_nil
  | 7 => fun _ h => absurd h List.not_mem_nil
  | 10 => fun _ h => absurd h List.not_mem_nil
  | 11 => fun _ h => absurd h List.not_mem_nil
  | 13 => fun _ h => absurd h List.not_mem_nil
  | 14 => fun _ h => absurd h List.not_mem_nil
  | _ + 16 => fun _ h => absurd h List.not_mem_nil
theorem am_oth_1 : Cond.native arraycopyName ∈ lw_tbl := ct_394
theorem am_oth_2 : Cond.static arraycopyName ∈ lw_tbl := ct_393
theorem am_oth_3 : Cond.initialized "java/lang/System" ∈ lw_tbl := ct_12
theorem am_oth_4 : Cond.instanceMethod Lib.objectInit ∈ lw_tbl := ct_25
theorem am_oth_5 : Cond.code Lib.objectInit ⟨#[0xb1]⟩ 1 none ∈ lw_tbl := ct_26
theorem am_arr_34 : (Jvm.Cond.arrayOver (FieldType.object "LostSheets$Drawer")) ∈ lw_tbl := ct_34
theorem am_arr_94 : (Jvm.Cond.arrayClass FieldType.int) ∈ lw_tbl := ct_94
theorem am_arr_202 : (Jvm.Cond.arrayClass FieldType.byte) ∈ lw_tbl := ct_202
theorem am_arr_204 : (Jvm.Cond.arrayOver (FieldType.object "LostSheets$Office")) ∈ lw_tbl := ct_204
theorem am_arr_221 : (Jvm.Cond.arrayOver (FieldType.object "LostSheets$Tape")) ∈ lw_tbl := ct_221
theorem am_arr_260 : (Jvm.Cond.arrayClass FieldType.long) ∈ lw_tbl := ct_260
theorem am_lst_COMPACT_STRINGS : (Jvm.Cond.laysStatic "java/lang/String" "COMPACT_STRINGS" "Z") ∈ lw_tbl := ct_525
theorem am_lst_SIOOBE_FORMATTER : (Jvm.Cond.laysStatic "jdk/internal/util/Preconditions" "SIOOBE_FORMATTER" "Ljava/util/function/BiFunction;") ∈ lw_tbl := ct_541
theorem am_lst_BODIES : (Jvm.Cond.laysStatic "LostSheets$Trace" "BODIES" "[I") ∈ lw_tbl := ct_788
theorem am_lst_ABOVE : (Jvm.Cond.laysStatic "LostSheets" "ABOVE" "[I") ∈ lw_tbl := ct_793
theorem am_arr_995 : (Jvm.Cond.arrayClass FieldType.boolean) ∈ lw_tbl := ct_995
def am_B : List Cond := lw_tbl.filter goodWord
theorem am_B_good : ∀ w ∈ am_B, w ∈ lw_tbl ∧ ((w.onTables && w.keeps) = true ∨ ∃ ty, w = .arrayClass ty) := fun w h => ⟨(List.mem_filter.mp h).1, good_of_word (List.mem_filter.mp h).2⟩
end
section
abbrev am_A : Type := List Int32 ⊕ (List Int64 ⊕ List (Option Nat))
abbrev am_E : Type := (FieldType × am_A) ⊕ (Nat × List Value)
abbrev am_L : Type := List (Option Value)
abbrev am_H : Type := List am_E
abbrev am_R : Type := Option Value × am_H
abbrev am_N : Type := (Nat × (am_L × (List Value × am_H))) ⊕ am_R
def am_nx (pc : Nat) (L : am_L) (st : List Value) (es : am_H) : Option am_N := some (.inl (pc, L, st, es))
def am_bs : List (List Int32) := [[116, 117, 114, 110, 32], [98, 97, 99, 107, 32], [107, 110, 111, 119, 32], [112, 107, 118, 109, 115, 104], [60, 61, 62], [116, 117, 114, 110, 32], [98, 97, 99, 107, 32], [107, 110, 111, 119, 32], [112, 107, 118, 109, 115, 104], [60, 61, 62]]
def am_tA : List Int32 := [-1, 0, 0, 0, 1, 2, 3]
def am_tB : List Int32 := [10, 11, 12, 0, 20, 0, 30, 0, 0, 0, 0, 40, 50, 51, 0, 0, 0, 60, 71, 70, 0]
/-- arrays that nobody writes, by their numbers behind a million -/
def am_ro (xs : List Int32) (j : Nat) : Option (FieldType × List Int32) :=
  if j = 200 then some (.int, am_tA) else if j = 201 then some (.int, am_tB) else if j = 202 then some (.int, xs)
  else if 100 ≤ j then (match am_bs[j - 100]? with | some l => some (.byte, l) | none => none) else none
def am_arr (xs : List Int32) (es : am_H) (a : Nat) : Option (FieldType × am_A) :=
  if a < 1000000 then (match es[a]? with | some (.inl q) => some q | _ => none)
  else (match am_ro xs (a - 1000000) with | some (ty, l) => some (ty, .inl l) | none => none)
def am_get {α : Type} (l : List α) (i : Int32) : Option α := if i < 0 then none else l[i.toNatClampNeg]?
def am_len (a : am_A) : Nat := match a with
  | .inl l => l.length
  | .inr (.inl l) => l.length
  | .inr (.inr l) => l.length
def am_ld (L : am_L) (i : Nat) : Option Value := match L[i]? with
  | some (some v) => some v
  | _ => none
/-- a long just ahead of place i goes -/
def am_cl1 (L : am_L) (i : Nat) : am_L := match i with
  | 0 => L
  | j + 1 => match L[j]? with
    | some (some v) => if v.category = 2 then L.set j none else L
    | _ => L
def am_st (L : am_L) (i : Nat) (v : Value) : am_L := if v.category = 2 then ((am_cl1 L i).set i (some v)).set (i + 1) none else (am_cl1 L i).set i (some v)
def am_cmp (c : ClassFile.Cond) (x y : Int32) : Bool := match c with
  | .eq => decide (x = y)
  | .ne => decide (¬ x = y)
  | .lt => decide (x < y)
  | .ge => decide (y ≤ x)
  | .gt => decide (y < x)
  | .le => decide (x ≤ y)
def am_jmp (pc : Nat) (off : Int) : Option Nat := if 0 ≤ (pc : Int) + off then some ((pc : Int) + off).toNat else none
def am_go (pc : Nat) (off : Int) (L : am_L) (st : List Value) (es : am_H) : Option am_N := match am_jmp pc off with
  | some t => am_nx t L st es
  | none => none
def am_cond (c : ClassFile.Cond) (x y : Int32) (pc : Nat) (off : Int) (L : am_L) (st : List Value) (es : am_H) : Option am_N :=
  match am_jmp pc off with
  | some t => if am_cmp c x y = true then am_nx t L st es else am_nx (pc + 3) L st es
  | none => none
def am_rf (r : Option Nat) : Value := match r with
  | some a => .ref a
  | none => .null
def am_isI (v : Value) : Bool := match v with | .int _ => true | _ => false
def am_isJ (v : Value) : Bool := match v with | .long _ => true | _ => false
def am_isA (v : Value) : Bool := match v with | .ref _ => true | .null => true | _ => false
def am_store (st : List Value) (L : am_L) (i np : Nat) (es : am_H) (w : Nat) (ok : Value → Bool) : Option am_N := match st with
  | v :: r => if ok v = true ∧ i + w ≤ L.length then am_nx np (am_st L i v) r es else none
  | [] => none
def am_load (st : List Value) (L : am_L) (i np : Nat) (es : am_H) (ok : Value → Bool) : Option am_N := match am_ld L i with
  | some v => if ok v = true then am_nx np L (v :: st) es else none
  | none => none
def am_ii (st : List Value) (f : Int32 → Int32 → Option Value) (np : Nat) (L : am_L) (es : am_H) : Option am_N := match st with
  | .int y :: .int x :: r => (match f x y with | some v => am_nx np L (v :: r) es | none => none)
  | _ => none
def am_jj (st : List Value) (f : Int64 → Int64 → Option Value) (np : Nat) (L : am_L) (es : am_H) : Option am_N := match st with
  | .long y :: .long x :: r => (match f x y with | some v => am_nx np L (v :: r) es | none => none)
  | _ => none
def am_i1 (st : List Value) (f : Int32 → Value) (np : Nat) (L : am_L) (es : am_H) : Option am_N := match st with
  | .int x :: r => am_nx np L (f x :: r) es
  | _ => none
def am_j1 (st : List Value) (f : Int64 → Value) (np : Nat) (L : am_L) (es : am_H) : Option am_N := match st with
  | .long x :: r => am_nx np L (f x :: r) es
  | _ => none
def am_astore (st : List Value) (np : Nat) (L : am_L) (es : am_H) (tys : List FieldType) (nar : FieldType → Int32 → Int32) : Option am_N := match st with
  | .int x :: .int i :: .ref a :: r => (match es[a]? with
    | some (.inl (ty, .inl l)) => if a < 1000000 ∧ ¬ i < 0 ∧ i.toNatClampNeg < l.length ∧ ty ∈ tys then am_nx np L r (es.set a (.inl (ty, .inl (l.set i.toNatClampNeg (nar ty x))))) else none
    | _ => none)
  | _ => none
def am_aload (xs : List Int32) (st : List Value) (np : Nat) (L : am_L) (es : am_H) (tys : List FieldType) : Option am_N := match st with
  | .int i :: .ref a :: r => (match am_arr xs es a with
    | some (ty, .inl l) => if ty ∈ tys then (match am_get l i with | some x => am_nx np L (.int x :: r) es | none => none) else none
    | _ => none)
  | _ => none
def am_getf (o idx : Nat) (st : List Value) (np : Nat) (L : am_L) (es : am_H) : Option am_N := match st with
  | .ref a :: r =>
    if a < 1000000 then (match (am_fld o).lookup idx, es[a]? with
      | some (ci, k), some (.inr (cj, fs)) => if ci = cj then (match fs[k]? with | some v => am_nx np L (v :: r) es | none => none) else none
      | _, _ => none)
    else if a < 1000010 then (match (am_sfl o).lookup idx with
      | some 0 => am_nx np L (.ref (a + 100) :: r) es
      | some 1 => am_nx np L (.int 0 :: r) es
      | _ => none)
    else none
  | _ => none
def am_putf (o idx : Nat) (ini : Bool) (st : List Value) (np : Nat) (L : am_L) (es : am_H) : Option am_N := match st with
  | v :: .ref a :: r => (match (am_fld o).lookup idx, es[a]? with
      | some (ci, k), some (.inr (cj, fs)) => if ci = cj ∧ a < 1000000 ∧ k < fs.length ∧ narrow (am_y ci k) v = v ∧ fits (am_y ci k) v = true ∧ ((am_T ci k).2.2.2 = true → ini = true ∧ am_cn ci = am_cn o) then am_nx np L r (es.set a (.inr (ci, fs.set k v))) else none
      | _, _ => none)
  | _ => none
def am_gets (o idx : Nat) (st : List Value) (np : Nat) (L : am_L) (es : am_H) : Option am_N := match (am_sta o).lookup idx with
  | some 0 => am_nx np L (.int 1 :: st) es
  | some 1 => am_nx np L (.ref 1000200 :: st) es
  | some 2 => am_nx np L (.ref 1000201 :: st) es
  | some 3 => am_nx np L (.ref 1000300 :: st) es
  | _ => none
def am_conl (o idx : Nat) (st : List Value) (np : Nat) (L : am_L) (es : am_H) (ok : Value → Bool) : Option am_N := match (am_con o).lookup idx with
  | some v => if ok v = true then am_nx np L (v :: st) es else none
  | none => none
def am_cat (st : List Value) : Nat := (st.map fun v => v.category).sum
abbrev am_C : Type := Nat → List Value → am_H → Option am_R
def am_ow (y : Nat) : Nat := match am_ms[y]? with
  | some t => t.2.2.1
  | none => 99
def am_res (r : Option am_R) (np : Nat) (L : am_L) (rest : List Value) : Option am_N := match r with
  | some (v, es) => am_nx np L (v.toList ++ rest) es
  | none => none
def am_recv (y b : Nat) (es : am_H) : Bool := if b < 1000000 then (match es[b]? with | some (.inr (ci, _)) => decide (ci = am_ow y) | _ => false) else decide (b < 1000010 ∧ am_ow y = 10)
def am_inv (cl : am_C) (k y n : Nat) (st : List Value) (np : Nat) (L : am_L) (es : am_H) : Option am_N :=
  if k = 1 ∨ k = 4 then
    (if n ≤ st.length ∧ am_cat (st.drop n) ≤ 8 then am_res (cl y (st.take n).reverse es) np L (st.drop n) else none)
  else (match st.drop n with
    | .ref b :: rest => if am_cat rest ≤ 8 ∧ (((k = 2 ∨ k = 5) ∧ b < 1000000) ∨ (k = 0 ∧ am_recv y b es = true)) then am_res (cl y (.ref b :: (st.take n).reverse) es) np L rest else none
    | _ => none)
def am_copy {α : Type} (f g : List α) (sp dp n : Nat) : List α := g.mapIdx (fun k x => if dp ≤ k ∧ k < dp + n then (f[sp + (k - dp)]?).getD x else x)
def am_acopy (st : List Value) (np : Nat) (L : am_L) (es : am_H) : Option am_N := match st with
  | .int n :: .int dp :: .ref a :: .int sp :: .ref b :: r =>
    if n < 0 ∨ dp < 0 ∨ sp < 0 ∨ ¬ am_cat r ≤ 8 ∨ ¬ a < 1000000 ∨ ¬ b < 1000000 then none else
    (match es[b]?, es[a]? with
      | some (.inl (.int, .inl f)), some (.inl (.int, .inl g)) => if sp.toNatClampNeg + n.toNatClampNeg ≤ f.length ∧ dp.toNatClampNeg + n.toNatClampNeg ≤ g.length then am_nx np L r (es.set a (.inl (.int, .inl (am_copy f g sp.toNatClampNeg dp.toNatClampNeg n.toNatClampNeg)))) else none
      | some (.inl (.long, .inr (.inl f))), some (.inl (.long, .inr (.inl g))) => if sp.toNatClampNeg + n.toNatClampNeg ≤ f.length ∧ dp.toNatClampNeg + n.toNatClampNeg ≤ g.length then am_nx np L r (es.set a (.inl (.long, .inr (.inl (am_copy f g sp.toNatClampNeg dp.toNatClampNeg n.toNatClampNeg))))) else none
      | _, _ => none)
  | _ => none
def am_call1 (cl : am_C) (o idx : Nat) (sp : Bool) (ks : List Nat) (st : List Value) (np : Nat) (L : am_L) (es : am_H) : Option am_N := match (am_mt o).lookup idx with
  | some (k, y, n) => if k ∈ ks then am_inv cl k y n st np L es
    else if k = 6 ∧ sp = true then (match st with
      | .ref a :: r => if am_cat r ≤ 8 ∧ a < 1000000 then am_nx np L r es else none
      | _ => none)
    else if k = 7 ∧ ks = [1, 4] then am_acopy st np L es else none
  | none => none
def am_newo (o idx : Nat) (st : List Value) (np : Nat) (L : am_L) (es : am_H) : Option am_N := match (am_new o).lookup idx with
  | some ci => if es.length < 1000 then am_nx np L (.ref es.length :: st) (es ++ [.inr (ci, am_df ci)]) else none
  | none => none
def am_newa (at_ : ArrayType) (st : List Value) (np : Nat) (L : am_L) (es : am_H) : Option am_N := match st with
  | .int n :: r => if n < 0 ∨ 1000 < n.toNatClampNeg ∨ ¬ es.length < 1000 then none else (match at_ with
    | .int => am_nx np L (.ref es.length :: r) (es ++ [.inl (.int, .inl (List.replicate n.toNatClampNeg 0))])
    | .byte => am_nx np L (.ref es.length :: r) (es ++ [.inl (.byte, .inl (List.replicate n.toNatClampNeg 0))])
    | .boolean => am_nx np L (.ref es.length :: r) (es ++ [.inl (.boolean, .inl (List.replicate n.toNatClampNeg 0))])
    | .long => am_nx np L (.ref es.length :: r) (es ++ [.inl (.long, .inr (.inl (List.replicate n.toNatClampNeg 0)))])
    | _ => none)
  | _ => none
def am_newq (o idx : Nat) (st : List Value) (np : Nat) (L : am_L) (es : am_H) : Option am_N := match st with
  | .int n :: r => if n < 0 ∨ 1000 < n.toNatClampNeg ∨ ¬ es.length < 1000 then none else (match (am_new o).lookup idx with
    | some ci => if ci ∈ [1, 3, 5] then am_nx np L (.ref es.length :: r) (es ++ [.inl (.object (am_cn ci), .inr (.inr (List.replicate n.toNatClampNeg none)))]) else none
    | none => none)
  | _ => none
def am_aast (st : List Value) (np : Nat) (L : am_L) (es : am_H) : Option am_N := match st with
  | .ref v :: .int i :: .ref a :: r => (match es[a]?, es[v]? with
    | some (.inl (.object C, .inr (.inr l))), some (.inr (ci, _)) => if a < 1000000 ∧ v < 1000000 ∧ ci < 10 ∧ C = am_cn ci ∧ ¬ i < 0 ∧ i.toNatClampNeg < l.length then am_nx np L r (es.set a (.inl (.object C, .inr (.inr (l.set i.toNatClampNeg (some v)))))) else none
    | _, _ => none)
  | _ => none
def am_last (st : List Value) (np : Nat) (L : am_L) (es : am_H) : Option am_N := match st with
  | .long x :: .int i :: .ref a :: r => (match es[a]? with
    | some (.inl (.long, .inr (.inl l))) => if a < 1000000 ∧ ¬ i < 0 ∧ i.toNatClampNeg < l.length then am_nx np L r (es.set a (.inl (.long, .inr (.inl (l.set i.toNatClampNeg x))))) else none
    | _ => none)
  | _ => none
def am_lald (xs : List Int32) (st : List Value) (np : Nat) (L : am_L) (es : am_H) : Option am_N := match st with
  | .int i :: .ref a :: r => (match am_arr xs es a with
    | some (.long, .inr (.inl l)) => (match am_get l i with | some x => am_nx np L (.long x :: r) es | none => none)
    | _ => none)
  | _ => none
def am_aald (xs : List Int32) (st : List Value) (np : Nat) (L : am_L) (es : am_H) : Option am_N := match st with
  | .int i :: .ref a :: r => (match am_arr xs es a with
    | some (.object _, .inr (.inr l)) => (match am_get l i with | some x => if x.all (fun q => decide (q < 1000000)) = true then am_nx np L (am_rf x :: r) es else none | none => none)
    | _ => none)
  | _ => none
def am_alen (xs : List Int32) (st : List Value) (np : Nat) (L : am_L) (es : am_H) : Option am_N := match st with
  | .ref a :: r => (match am_arr xs es a with
    | some (_, x) => am_nx np L (.int (Int32.ofNat (am_len x)) :: r) es
    | none => none)
  | _ => none
def am_iret (ret : Option FieldType) (st : List Value) (es : am_H) : Option am_N := match ret, st with
  | some ty, [.int v] => if narrow ty (.int v) = .int v then some (.inr (some (.int v), es)) else none
  | _, _ => none
def am_lret (ret : Option FieldType) (st : List Value) (es : am_H) : Option am_N := match ret, st with
  | some .long, [.long v] => some (.inr (some (.long v), es))
  | _, _ => none
def am_aret (ret : Option FieldType) (st : List Value) (es : am_H) : Option am_N := match ret, st with
  | some (.object _), [v] => if am_isA v = true then some (.inr (some v, es)) else none
  | some (.array _), [v] => if am_isA v = true then some (.inr (some v, es)) else none
  | _, _ => none
def am_vret (ret : Option FieldType) (st : List Value) (es : am_H) : Option am_N := match ret, st with
  | none, [] => some (.inr (none, es))
  | _, _ => none
def am_tsw (d lo hi : Int) (offs : Array Int) (pc : Nat) (st : List Value) (L : am_L) (es : am_H) : Option am_N := match st with
  | .int x :: r => if x.toInt < lo ∨ hi < x.toInt then am_go pc d L r es else (match offs[(x.toInt - lo).toNat]? with
    | some off => am_go pc off L r es
    | none => none)
  | _ => none
def am_lsw (d : Int) (ps : Array (Int × Int)) (pc : Nat) (st : List Value) (L : am_L) (es : am_H) : Option am_N := match st with
  | .int x :: r => if (ps.toList.zip (ps.toList.drop 1)).all (fun (a, next) => a.1 < next.1) = true then am_go pc (Op.lookupswitch.offset ps.toList d x.toInt) L r es else none
  | _ => none
def am_nul (st : List Value) (want : Bool) (pc : Nat) (off : Int) (L : am_L) (es : am_H) : Option am_N := match st with
  | .null :: r => if want = true then am_go pc off L r es else am_nx (pc + 3) L r es
  | .ref a :: r => if 1000010 ≤ a then none else if want = true then am_nx (pc + 3) L r es else am_go pc off L r es
  | _ => none
def am_dup (st : List Value) (np : Nat) (L : am_L) (es : am_H) : Option am_N := match st with
  | v :: r => if v.category = 1 then am_nx np L (v :: v :: r) es else none
  | [] => none
def am_dupx (st : List Value) (np : Nat) (L : am_L) (es : am_H) : Option am_N := match st with
  | v :: u :: r => if v.category = 1 ∧ u.category = 1 then am_nx np L (v :: u :: v :: r) es else none
  | _ => none
def am_dup2 (st : List Value) (np : Nat) (L : am_L) (es : am_H) : Option am_N := match st with
  | v :: r => if v.category = 2 then am_nx np L (v :: v :: r) es else (match r with
    | u :: r' => if u.category = 1 ∧ v.category = 1 then am_nx np L (v :: u :: v :: u :: r') es else none
    | [] => none)
  | [] => none
def am_pop (st : List Value) (np : Nat) (L : am_L) (es : am_H) : Option am_N := match st with
  | v :: r => if v.category = 1 then am_nx np L r es else none
  | [] => none
def am_iinc (i : Nat) (n : Int) (st : List Value) (np : Nat) (L : am_L) (es : am_H) : Option am_N := match am_ld L i with
  | some (.int x) => am_nx np (am_st L i (.int (x + Int32.ofInt n))) st es
  | _ => none
def am_lsh (st : List Value) (np : Nat) (L : am_L) (es : am_H) : Option am_N := match st with
  | .int y :: .long x :: r => am_nx np L (.long (x <<< (y.toInt64 &&& 63)) :: r) es
  | _ => none
def am_if1 (c : ClassFile.Cond) (off : Int) (st : List Value) (pc : Nat) (L : am_L) (es : am_H) : Option am_N := match st with
  | .int x :: r => am_cond c x 0 pc off L r es
  | _ => none
def am_if2 (c : ClassFile.Cond) (off : Int) (st : List Value) (pc : Nat) (L : am_L) (es : am_H) : Option am_N := match st with
  | .int y :: .int x :: r => am_cond c x y pc off L r es
  | _ => none
def am_ins (xs : List Int32) (cl : am_C) (M : am_M) (pc : Nat) (i : Instr) (L : am_L) (st : List Value) (es : am_H) : Option am_N := match i with
  | .iconst n => am_nx (pc + 1) L (.int (Int32.ofInt n) :: st) es
  | .bipush n => am_nx (pc + 2) L (.int ((Int8.ofInt n).toInt32) :: st) es
  | .sipush n => am_nx (pc + 3) L (.int ((Int16.ofInt n).toInt32) :: st) es
  | .lconst n => am_nx (pc + 1) L (.long (Int64.ofNat (n : Nat)) :: st) es
  | .aconst_null => am_nx (pc + 1) L (.null :: st) es
  | .ldc idx => am_conl M.1 idx st (pc + 2) L es (fun v => am_isI v || am_isA v)
  | .ldc_w idx => am_conl M.1 idx st (pc + 3) L es am_isI
  | .ldc2_w idx => am_conl M.1 idx st (pc + 3) L es am_isJ
  | .iload_n k => am_load st L k (pc + 1) es am_isI
  | .iload k => am_load st L k (pc + 2) es am_isI
  | .lload_n k => am_load st L k (pc + 1) es am_isJ
  | .lload k => am_load st L k (pc + 2) es am_isJ
  | .aload_n k => am_load st L k (pc + 1) es am_isA
  | .aload k => am_load st L k (pc + 2) es am_isA
  | .istore_n k => am_store st L k (pc + 1) es 1 am_isI
  | .istore k => am_store st L k (pc + 2) es 1 am_isI
  | .astore_n k => am_store st L k (pc + 1) es 1 am_isA
  | .astore k => am_store st L k (pc + 2) es 1 am_isA
  | .lstore_n k => am_store st L k (pc + 1) es 2 am_isJ
  | .lstore k => am_store st L k (pc + 2) es 2 am_isJ
  | .iinc k n => am_iinc k n st (pc + 3) L es
  | .iadd => am_ii st (fun x y => some (.int (x + y))) (pc + 1) L es
  | .isub => am_ii st (fun x y => some (.int (x - y))) (pc + 1) L es
  | .imul => am_ii st (fun x y => some (.int (x * y))) (pc + 1) L es
  | .iand => am_ii st (fun x y => some (.int (x &&& y))) (pc + 1) L es
  | .ior => am_ii st (fun x y => some (.int (x ||| y))) (pc + 1) L es
  | .ixor => am_ii st (fun x y => some (.int (x ^^^ y))) (pc + 1) L es
  | .ishl => am_ii st (fun x y => some (.int (x <<< (y &&& 31)))) (pc + 1) L es
  | .ishr => am_ii st (fun x y => some (.int (x >>> (y &&& 31)))) (pc + 1) L es
  | .iushr => am_ii st (fun x y => some (.int (x.toUInt32 >>> (y.toUInt32 &&& Int32.toUInt32 31)).toInt32)) (pc + 1) L es
  | .idiv => am_ii st (fun x y => if y = 0 then none else some (.int (x / y))) (pc + 1) L es
  | .irem => am_ii st (fun x y => if y = 0 then none else some (.int (x - x / y * y))) (pc + 1) L es
  | .ineg => am_i1 st (fun x => .int (-x)) (pc + 1) L es
  | .ladd => am_jj st (fun x y => some (.long (x + y))) (pc + 1) L es
  | .land => am_jj st (fun x y => some (.long (x &&& y))) (pc + 1) L es
  | .lor => am_jj st (fun x y => some (.long (x ||| y))) (pc + 1) L es
  | .ldiv => am_jj st (fun x y => if y = 0 then none else some (.long (x / y))) (pc + 1) L es
  | .lrem => am_jj st (fun x y => if y = 0 then none else some (.long (x - x / y * y))) (pc + 1) L es
  | .lcmp => am_jj st (fun x y => some (.int (lg_cmp x y))) (pc + 1) L es
  | .lneg => am_j1 st (fun x => .long (-x)) (pc + 1) L es
  | .lshl => am_lsh st (pc + 1) L es
  | .i2l => am_i1 st (fun x => .long x.toInt64) (pc + 1) L es
  | .l2i => am_j1 st (fun x => .int x.toInt32) (pc + 1) L es
  | .i2b => am_i1 st (fun x => .int x.toInt8.toInt32) (pc + 1) L es
  | .i2s => am_i1 st (fun x => .int x.toInt16.toInt32) (pc + 1) L es
  | .i2c => am_i1 st (fun x => .int (x.toUInt32 % 65536).toInt32) (pc + 1) L es
  | .dup => am_dup st (pc + 1) L es
  | .dup_x1 => am_dupx st (pc + 1) L es
  | .dup2 => am_dup2 st (pc + 1) L es
  | .pop => am_pop st (pc + 1) L es
  | .goto off => am_go pc off L st es
  | .ifCond c off => am_if1 c off st pc L es
  | .if_icmp c off => am_if2 c off st pc L es
  | .ifnull off => am_nul st true pc off L es
  | .ifnonnull off => am_nul st false pc off L es
  | .tableswitch d lo hi offs => am_tsw d lo hi offs pc st L es
  | .lookupswitch d ps => am_lsw d ps pc st L es
  | .getfield idx => am_getf M.1 idx st (pc + 3) L es
  | .putfield idx => am_putf M.1 idx M.2.2.2.1 st (pc + 3) L es
  | .getstatic idx => am_gets M.1 idx st (pc + 3) L es
  | .iaload => am_aload xs st (pc + 1) L es [.int]
  | .baload => am_aload xs st (pc + 1) L es [.byte, .boolean]
  | .laload => am_lald xs st (pc + 1) L es
  | .aaload => am_aald xs st (pc + 1) L es
  | .arraylength => am_alen xs st (pc + 1) L es
  | .iastore => am_astore st (pc + 1) L es [.int] (fun _ x => x)
  | .bastore => am_astore st (pc + 1) L es [.byte, .boolean] vp_nar
  | .lastore => am_last st (pc + 1) L es
  | .aastore => am_aast st (pc + 1) L es
  | .newarray t => am_newa t st (pc + 2) L es
  | .anewarray idx => am_newq M.1 idx st (pc + 3) L es
  | .new idx => am_newo M.1 idx st (pc + 3) L es
  | .invokevirtual idx => am_call1 cl M.1 idx false [0] st (pc + 3) L es
  | .invokestatic idx => am_call1 cl M.1 idx false [1, 4] st (pc + 3) L es
  | .invokespecial idx => am_call1 cl M.1 idx true [2, 5] st (pc + 3) L es
  | .ireturn => am_iret M.2.1 st es
  | .lreturn => am_lret M.2.1 st es
  | .areturn => am_aret M.2.1 st es
  | .return_ => am_vret M.2.1 st es
  | _ => none
def am_at (M : am_M) (pc : Nat) : Option (Instr × Nat) := M.2.2.2.2.lookup pc
def am_run (xs : List Int32) (cl : am_C) (M : am_M) : Nat → Nat → am_L → List Value → am_H → Option am_R
  | 0, _, _, _, _ => none
  | n + 1, pc, L, st, es => match am_at M pc with
    | some (i, _) => (match am_ins xs cl M pc i L st es with
      | some (.inl (pc', L', st', es')) => am_run xs cl M n pc' L' st' es'
      | some (.inr r) => some r
      | none => none)
    | none => none
def am_arg (av : List Value) : am_L := av.flatMap fun v => if v.category = 2 then [some v, none] else [some v]
def am_ini (n : Nat) (av : List Value) : am_L := am_arg av ++ List.replicate (n - (am_arg av).length) none
def am_call (xs : List Int32) : Nat → Nat → am_C
  | 0, _ => fun _ _ _ => none
  | d + 1, n => fun y av es => match am_ms[y]? with
    | some t => if (am_arg av).length ≤ t.2.2.2.2.1 then am_run xs (am_call xs d n) t.2.2 n 0 (am_ini t.2.2.2.2.1 av) [] es else none
    | none => none
end
section
abbrev am_G : Type := va_G × ((String → Option ClassId) × (Heap × ((Nat → Nat) × ((Nat → Nat) × ((Nat × (Nat × Nat)) × Option Nat)))))
def am_base (Γ : am_G) : Nat := Γ.2.2.1.size
def am_rov (Γ : am_G) (j : Nat) : Value :=
  if j < 10 then .ref (Γ.2.2.2.1 j) else if j < 110 then .ref (Γ.2.2.2.2.1 (j - 100)) else if j = 200 then .ref Γ.2.2.2.2.2.1.1 else if j = 201 then .ref Γ.2.2.2.2.2.1.2.1 else if j = 202 then .ref Γ.2.2.2.2.2.1.2.2 else va_rf Γ.2.2.2.2.2.2
def am_cV (Γ : am_G) (v : Value) : Value := match v with
  | .ref i => if i < 1000000 then .ref (am_base Γ + i) else am_rov Γ (i - 1000000)
  | v => v
def am_cA (Γ : am_G) (a : am_A) : vp_A := match a with
  | .inl l => (l.length, .inl (fun j => l.getD j 0))
  | .inr (.inl l) => (l.length, .inr (.inl (fun j => l.getD j 0)))
  | .inr (.inr l) => (l.length, .inr (.inr (.inr (.inr (fun j => (l.getD j none).map (fun q => am_base Γ + q))))))
def am_cT (Γ : am_G) (ty : FieldType) : ClassId := (Γ.2.1 ("[" ++ ty.toString)).getD 0
def am_cE (Γ : am_G) (x : am_E) : va_E := match x with
  | .inl (ty, a) => .inl (am_cT Γ ty, am_cA Γ a)
  | .inr (ci, fs) => .inr (ci, fs.map (am_cV Γ))
def am_cW (Γ : am_G) (es : am_H) : va_W := es.mapIdx (fun i x => (am_base Γ + i, am_cE Γ x))
theorem am_cW_get (Γ : am_G) (es : am_H) (i : Nat) : (am_cW Γ es)[i]? = (es[i]?).map (fun x => (am_base Γ + i, am_cE Γ x)) := by
  unfold am_cW
  rw [List.getElem?_mapIdx]
theorem am_cW_at {Γ : am_G} {es : am_H} {i : Nat} {x : am_E} (h : es[i]? = some x) : (am_cW Γ es)[i]? = some (am_base Γ + i, am_cE Γ x) := by
  rw [am_cW_get, h]; rfl
theorem am_cW_set {Γ : am_G} {es : am_H} {i : Nat} {x : am_E} : (am_cW Γ es).set i (am_base Γ + i, am_cE Γ x) = am_cW Γ (es.set i x) := by
  apply List.ext_getElem?
  intro j
  rw [am_cW_get, List.getElem?_set, List.getElem?_set, am_cW_get]
  have hl : (am_cW Γ es).length = es.length := by unfold am_cW; simp
  by_cases h : i = j
  · subst h
    rw [if_pos rfl, if_pos rfl, hl]
    split <;> rfl
  · rw [if_neg h, if_neg h]
theorem am_cW_push {Γ : am_G} {es : am_H} {x : am_E} : am_cW Γ es ++ [(am_base Γ + es.length, am_cE Γ x)] = am_cW Γ (es ++ [x]) := by
  unfold am_cW
  rw [List.mapIdx_append]
  simp
theorem am_cW_D (Γ : am_G) (es : am_H) : va_D (fun q : Nat => am_base Γ ≤ q) (am_cW Γ es) := by
  refine ⟨fun i j p q hi hj h => ?_, fun k q hk => ?_⟩
  · rw [am_cW_get] at hi hj
    cases h1 : es[i]? with
    | none => rw [h1] at hi; cases hi
    | some a =>
      cases h2 : es[j]? with
      | none => rw [h2] at hj; cases hj
      | some b =>
        rw [h1] at hi; rw [h2] at hj
        cases hi; cases hj
        exact Nat.add_left_cancel h
  · rw [am_cW_get] at hk
    cases h1 : es[k]? with
    | none => rw [h1] at hk; cases hk
    | some a => rw [h1] at hk; cases hk; exact Nat.le_add_right _ _
/-- what holds of the tables and of what nobody writes -/
def am_KK (Γ : am_G) (xs : List Int32) (U : State) : Prop :=
  va_K Γ.1 am_cl [] U ∧ (∀ n, U.vm.findClass n = Γ.2.1 n) ∧
  (∀ o idx y, Cond.methodLinkNest o idx y "LostSheets" ∈ lw_tbl → va_Nw (.methodLinkNest o idx y "LostSheets") U) ∧
  (∀ C, Cond.arrayOver (.object C) ∈ lw_tbl → va_AO C U) ∧
  (∀ j q, am_sk[j]? = some q → vk_R q.1 q.2.1 q.2.2 (Γ.2.2.2.1 j) U) ∧
  vk_S 10 (am_bs.map List.length) am_bs Γ.2.2.2.1 Γ.2.2.2.2.1 (fun q : Nat => am_base Γ ≤ q) U Γ.2.2.1 ∧
  va_Z "java/lang/String" "COMPACT_STRINGS" "Z" (.int 1) (fun q : Nat => am_base Γ ≤ q) U Γ.2.2.1 ∧
  va_Z "LostSheets" "ABOVE" "[I" (.ref Γ.2.2.2.2.2.1.1) (fun q : Nat => am_base Γ ≤ q) U Γ.2.2.1 ∧
  va_Z "LostSheets$Trace" "BODIES" "[I" (.ref Γ.2.2.2.2.2.1.2.1) (fun q : Nat => am_base Γ ≤ q) U Γ.2.2.1 ∧
  va_Z "jdk/internal/util/Preconditions" "SIOOBE_FORMATTER" "Ljava/util/function/BiFunction;" (va_rf Γ.2.2.2.2.2.2) (fun q : Nat => am_base Γ ≤ q) U Γ.2.2.1 ∧
  va_T .int Γ.2.2.2.2.2.1.1 am_tA.length (fun j => .int (am_tA.getD j 0)) (fun q : Nat => am_base Γ ≤ q) U Γ.2.2.1 ∧
  va_T .int Γ.2.2.2.2.2.1.2.1 am_tB.length (fun j => .int (am_tB.getD j 0)) (fun q : Nat => am_base Γ ≤ q) U Γ.2.2.1 ∧
  va_T .int Γ.2.2.2.2.2.1.2.2 xs.length (fun j => .int (xs.getD j 0)) (fun q : Nat => am_base Γ ≤ q) U Γ.2.2.1
theorem am_KK.warm {Γ : am_G} {xs : List Int32} {s U : State} (hW : s.WarmedH U.vm) (h : am_KK Γ xs s) : am_KK Γ xs U := by
  obtain ⟨h1, h2, h3, h4, h5, h6, h7, h8, h9, h10, h11, h12, h13⟩ := h
  have hv := hW.alike
  exact ⟨va_K.moved hv h1, fun n => by rw [hv.findClass]; exact h2 n, fun o idx y hy => va_Nw.warmM hW (h3 o idx y hy), fun C hC => va_AO.moved hv (h4 C hC), fun j q hq => vk_R.warm hW (h5 j q hq), vk_S.moved hv h6, va_Z.moved hv h7, va_Z.moved hv h8, va_Z.moved hv h9, va_Z.moved hv h10, va_T.moved hv h11, va_T.moved hv h12, va_T.moved hv h13⟩
theorem am_KK.same {Γ : am_G} {xs : List Int32} {s U : State} (hv : s.vm = U.vm) (h : am_KK Γ xs s) : am_KK Γ xs U := by
  obtain ⟨h1, h2, h3, h4, h5, h6, h7, h8, h9, h10, h11, h12, h13⟩ := h
  have ha : s.vm.Alike U.vm := by rw [hv]; exact Vm.Alike.refl _
  exact ⟨va_K.moved ha h1, fun n => by rw [← hv]; exact h2 n, fun o idx y hy => va_Nw.same rfl hv (h3 o idx y hy), fun C hC => va_AO.moved ha (h4 C hC), fun j q hq => vk_R.same hv.symm (h5 j q hq), vk_S.moved ha h6, va_Z.moved ha h7, va_Z.moved ha h8, va_Z.moved ha h9, va_Z.moved ha h10, va_T.moved ha h11, va_T.moved ha h12, va_T.moved ha h13⟩
def am_KA (Γ : am_G) (es : am_H) (U : State) : Prop := ∀ (i : Nat) (ty : FieldType) (x : am_A), es[i]? = some (Sum.inl (ty, x)) → ArrOfT U (am_cT Γ ty) ty ∧ va_RA U (am_cT Γ ty) ty
def am_Wd (Γ : am_G) (es : am_H) (U : State) (H : Heap) : Prop :=
  (∀ a : Nat, a < am_base Γ → H[a]? = Γ.2.2.1[a]?) ∧ va_P Γ.1 am_cl (am_cW Γ es) H ∧ am_KA Γ es U
theorem am_Wd.warm {Γ : am_G} {es : am_H} {s U : State} {H : Heap} (hW : s.WarmedH U.vm) (h : am_Wd Γ es s H) : am_Wd Γ es U H :=
  ⟨h.1, h.2.1, fun i ty x hx => ⟨arrOfT_moved hW.alike (h.2.2 i ty x hx).1, va_RA.moved hW.alike (h.2.2 i ty x hx).2⟩⟩
def am_AL (Γ : am_G) (L : am_L) (ls : Array Slot) : Prop := ls.size = L.length ∧ lv_wf ls ∧ ∀ (i : Nat) (v : Value), L[i]? = some (some v) → ls[i]? = some (.val (am_cV Γ v))
def am_enc (Γ : am_G) (L : am_L) : List (Nat × Value) := (List.range L.length).filterMap fun i => match L[i]? with
  | some (some v) => some (i, am_cV Γ v)
  | _ => none
theorem am_enc_mem {Γ : am_G} {L : am_L} {q : Nat × Value} : q ∈ am_enc Γ L ↔ ∃ v, L[q.1]? = some (some v) ∧ q.2 = am_cV Γ v := by
  unfold am_enc
  rw [List.mem_filterMap]
  constructor
  · rintro ⟨i, hi, h⟩
    cases hL : L[i]? with
    | none => rw [hL] at h; cases h
    | some w =>
      cases w with
      | none => rw [hL] at h; cases h
      | some v => rw [hL] at h; cases h; exact ⟨v, hL, rfl⟩
  · rintro ⟨v, h1, h2⟩
    refine ⟨q.1, List.mem_range.mpr (List.getElem?_eq_some_iff.mp h1).1, ?_⟩
    rw [h1]
    show some (q.1, am_cV Γ v) = some q
    rw [← h2]
theorem am_AL.has {Γ : am_G} {L : am_L} {ls : Array Slot} (h : am_AL Γ L ls) : lv_has ls L.length (am_enc Γ L) :=
  ⟨h.1, h.2.1, fun q hq => by obtain ⟨v, h1, h2⟩ := am_enc_mem.mp hq; rw [h2]; exact h.2.2 q.1 v h1⟩
theorem am_cV_cat (Γ : am_G) (v : Value) : (am_cV Γ v).category = v.category := by
  cases v with
  | ref i =>
    show (if i < 1000000 then Value.ref (am_base Γ + i) else am_rov Γ (i - 1000000)).category = 1
    split
    · rfl
    · unfold am_rov
      repeat' split
      all_goals first | rfl | (cases Γ.2.2.2.2.2.2 <;> rfl)
  | _ => rfl
theorem am_cV_ref (Γ : am_G) (i : Nat) : (∃ q, am_cV Γ (.ref i) = .ref q) ∨ am_cV Γ (.ref i) = .null := by
  show (∃ q, (if i < 1000000 then Value.ref (am_base Γ + i) else am_rov Γ (i - 1000000)) = .ref q) ∨ (if i < 1000000 then Value.ref (am_base Γ + i) else am_rov Γ (i - 1000000)) = .null
  split
  · exact Or.inl ⟨_, rfl⟩
  · unfold am_rov
    repeat' split
    all_goals first | exact Or.inl ⟨_, rfl⟩ | (cases Γ.2.2.2.2.2.2 with | none => exact Or.inr rfl | some q => exact Or.inl ⟨q, rfl⟩)
theorem am_cl1_len (L : am_L) (i : Nat) : (am_cl1 L i).length = L.length := by
  unfold am_cl1
  split
  · rfl
  · split
    · split <;> simp
    · rfl
theorem am_st_len (L : am_L) (i : Nat) (v : Value) : (am_st L i v).length = L.length := by
  unfold am_st
  split <;> simp [am_cl1_len]
theorem am_cl1_at {L : am_L} {i j : Nat} {v : Value} (h : (am_cl1 L i)[j]? = some (some v)) : L[j]? = some (some v) ∧ ¬ (j + 1 = i ∧ v.category = 2) := by
  unfold am_cl1 at h
  split at h
  · exact ⟨h, by omega⟩
  · rename_i k
    split at h
    · rename_i w hw
      split at h
      · rename_i hc
        by_cases hj : j = k
        · subst hj
          rw [List.getElem?_set] at h
          simp only [if_true] at h
          split at h <;> cases h
        · rw [List.getElem?_set_ne (fun q => hj q.symm)] at h
          exact ⟨h, by omega⟩
      · rename_i hc
        refine ⟨h, fun q => ?_⟩
        have hj : j = k := by omega
        subst hj
        rw [hw] at h
        cases h
        exact hc q.2
    · rename_i hn
      refine ⟨h, fun q => ?_⟩
      have hj : j = k := by omega
      subst hj
      exact hn v h
theorem am_AL.st1 {Γ : am_G} {L : am_L} {ls' : Array Slot} {i : Nat} {v : Value} (hc : v.category = 1) (h : lv_has ls' L.length ((i, am_cV Γ v) :: (am_enc Γ L).filter (fun q => !(q.1 == i) && !(q.1 + 1 == i && q.2.category == 2)))) : am_AL Γ (am_st L i v) ls' := by
  refine ⟨by rw [am_st_len]; exact h.1, h.2.1, fun j w hj => ?_⟩
  have hst : am_st L i v = (am_cl1 L i).set i (some v) := by unfold am_st; rw [if_neg (by omega)]
  rw [hst] at hj
  by_cases hij : i = j
  · subst hij
    rw [List.getElem?_set] at hj
    simp only [if_true] at hj
    split at hj
    · cases hj; exact h.2.2 (i, am_cV Γ v) List.mem_cons_self
    · cases hj
  · rw [List.getElem?_set_ne hij] at hj
    obtain ⟨a, b⟩ := am_cl1_at hj
    refine h.2.2 (j, am_cV Γ w) (List.mem_cons_of_mem _ (List.mem_filter.mpr ⟨am_enc_mem.mpr ⟨w, a, rfl⟩, ?_⟩))
    rw [am_cV_cat]
    simp only [Bool.and_eq_true, Bool.not_eq_true', beq_eq_false_iff_ne, ne_eq, Bool.and_eq_false_iff]
    refine ⟨fun q => hij q.symm, ?_⟩
    by_cases h1 : j + 1 = i
    · exact Or.inr fun h2 => b ⟨h1, h2⟩
    · exact Or.inl h1
theorem am_AL.st2 {Γ : am_G} {L : am_L} {ls' : Array Slot} {i : Nat} {v : Value} (hc : v.category = 2) (h : lv_has ls' L.length ((i, am_cV Γ v) :: (am_enc Γ L).filter (fun q => !(q.1 == i) && (!(q.1 == i + 1) && !(q.1 + 1 == i && q.2.category == 2))))) : am_AL Γ (am_st L i v) ls' := by
  refine ⟨by rw [am_st_len]; exact h.1, h.2.1, fun j w hj => ?_⟩
  have hst : am_st L i v = ((am_cl1 L i).set i (some v)).set (i + 1) none := by unfold am_st; rw [if_pos hc]
  rw [hst] at hj
  by_cases hij2 : i + 1 = j
  · subst hij2
    rw [List.getElem?_set] at hj
    simp only [if_true] at hj
    split at hj <;> cases hj
  rw [List.getElem?_set_ne hij2] at hj
  by_cases hij : i = j
  · subst hij
    rw [List.getElem?_set] at hj
    simp only [if_true] at hj
    split at hj
    · cases hj; exact h.2.2 (i, am_cV Γ v) List.mem_cons_self
    · cases hj
  · rw [List.getElem?_set_ne hij] at hj
    obtain ⟨a, b⟩ := am_cl1_at hj
    refine h.2.2 (j, am_cV Γ w) (List.mem_cons_of_mem _ (List.mem_filter.mpr ⟨am_enc_mem.mpr ⟨w, a, rfl⟩, ?_⟩))
    rw [am_cV_cat]
    simp only [Bool.and_eq_true, Bool.not_eq_true', beq_eq_false_iff_ne, ne_eq, Bool.and_eq_false_iff]
    refine ⟨fun q => hij q.symm, fun q => hij2 q.symm, ?_⟩
    by_cases h1 : j + 1 = i
    · exact Or.inr fun h2 => b ⟨h1, h2⟩
    · exact Or.inl h1
def am_esz (x : am_E) : Nat := match x with
  | .inl (_, a) => am_len a
  | .inr (_, fs) => fs.length
def am_sz (es : am_H) : Nat := (es.map am_esz).sum
end
section
section ST
variable {p : Program} {l : Launch} {e : Env} {R : Room} {s : State} {m : MethodId} {args : Array Value} {below : List Frame} {meth : Method} {c : Code} {Q : State → Prop}
variable {Γ : am_G} {xs : List Int32} {M : am_M} {cc : ByteArray} {E0 S0 : Nat}
def am_Cx (p : Program) (R : Room) (s : State) (m : MethodId) (args : Array Value) (meth : Method) (c : Code) (Γ : am_G) (xs : List Int32) (M : am_M) (cc : ByteArray) (E0 : Nat) : Prop :=
  p.tables.exec = Jvm.exec ∧ c.code = cc ∧ c.maxLocals = M.2.2.1 ∧ s.vm.findClass (am_cn M.1) = some m.cls ∧ (∀ w ∈ am_B, w.before args s = true) ∧ am_KK Γ xs s ∧ s.heap.size = am_base Γ + E0 ∧ (∀ a : Nat, a < am_base Γ → s.heap[a]? = Γ.2.2.1[a]?) ∧ M.1 < 16 ∧ (M.2.2.2.1 = true → meth.name = "<init>") ∧ 1 ≤ R.frames ∧ 40 ≤ R.locals
def am_Wp (p : Program) (l : Launch) (e : Env) (R : Room) (s : State) (m : MethodId) (args : Array Value) (below : List Frame) (meth : Method) (c : Code) (Q : State → Prop) (Γ : am_G) (nL E0 S0 : Nat) (pc : Nat) (L : am_L) (st : List Value) (es : am_H) : Prop :=
  L.length = nL → ∀ (H : Heap) (locs : List Loc) (ls : Array Slot), am_Wd Γ es s H → va_S (fun q : Nat => am_base Γ ≤ q) s.heap H locs → am_AL Γ L ls → W p l e R s m args below meth c H locs (es.length - E0) (am_sz es - S0) Q (F0 m pc ls (st.map (am_cV Γ)))
theorem am_up {H : Heap} {locs : List Loc} {cells slots : Nat} {g : JFrame} (k : H.size ≤ s.heap.size + cells → W p l e R s m args below meth c H locs cells slots Q g) : W p l e R s m args below meth c H locs cells slots Q g := by
  intro T hT X
  have h := X.same.2.2.1
  exact k (by rw [← hT]; exact h) T hT X
theorem am_low {es : am_H} {H : Heap} {locs : List Loc} (hW : am_Wd Γ es s H) (hS : va_S (fun q : Nat => am_base Γ ≤ q) s.heap H locs) (hb : s.heap.size = am_base Γ + E0) : am_base Γ + es.length ≤ H.size := by
  cases hn : es.length with
  | zero => have := hS.1; omega
  | succ n =>
    have h1 : es[n]? = some es[n] := List.getElem?_eq_getElem (by omega)
    have h2 := va_at.lt (hW.2.1 n _ (am_cW_at h1))
    dsimp only at h2
    omega
theorem am_gB {w : Cond} (h : w ∈ lw_tbl) (hg : goodWord w = true) : w ∈ am_B := List.mem_filter.mpr ⟨h, hg⟩
theorem am_wsB {i : Nat} (hi : i < 10) : ∀ w ∈ u_ws (am_cn i) (am_T i) (am_nf i), w ∈ am_B := fun w hw => am_gB (am_wsk_ok i hi w hw) (by
  obtain ⟨k, -, rfl⟩ := List.mem_map.mp hw
  unfold u_lay
  split <;> rfl)
theorem am_lk {α : Type} {l : List (Nat × α)} {k : Nat} {v : α} (h : l.lookup k = some v) : (k, v) ∈ l := by
  induction l with
  | nil => cases h
  | cons q l ih =>
    obtain ⟨a, b⟩ := q
    rw [List.lookup_cons] at h
    split at h
    · rename_i hk
      have := of_decide_eq_true hk
      subst this
      cases h
      exact List.mem_cons_self
    · exact List.mem_cons_of_mem _ (ih h)
theorem am_cV_lo {a : Nat} (h : a < 1000000) : am_cV Γ (.ref a) = .ref (am_base Γ + a) := by
  show (if a < 1000000 then Value.ref (am_base Γ + a) else am_rov Γ (a - 1000000)) = _
  rw [if_pos h]
theorem am_cV_hi {a : Nat} (h : ¬ a < 1000000) : am_cV Γ (.ref a) = am_rov Γ (a - 1000000) := by
  show (if a < 1000000 then Value.ref (am_base Γ + a) else am_rov Γ (a - 1000000)) = _
  rw [if_neg h]
theorem am_sz_set {es : am_H} {i : Nat} {x y : am_E} (h : es[i]? = some x) (hz : am_esz y = am_esz x) : am_sz (es.set i y) = am_sz es := by
  unfold am_sz
  congr 1
  apply List.ext_getElem?
  intro j
  rw [List.getElem?_map, List.getElem?_map, List.getElem?_set]
  by_cases hj : i = j
  · subst hj
    rw [if_pos rfl, h]
    have := (List.getElem?_eq_some_iff.mp h).1
    rw [if_pos this]
    simp [hz]
  · rw [if_neg hj]
theorem am_sz_push (es : am_H) (x : am_E) : am_sz (es ++ [x]) = am_sz es + am_esz x := by
  unfold am_sz
  simp
theorem am_Wd.put {es : am_H} {i : Nat} {x y : am_E} {H H1 : Heap} {locs1 : List Loc} (hW : am_Wd Γ es s H) (h : es[i]? = some x) (hP : va_P Γ.1 am_cl ((am_cW Γ es).set i (am_base Γ + i, am_cE Γ y)) H1) (hS : va_S (fun q : Nat => am_base Γ ≤ q) s.heap H1 locs1) (hb : s.heap.size = am_base Γ + E0) (hbq : ∀ a : Nat, a < am_base Γ → s.heap[a]? = Γ.2.2.1[a]?) (hty : ∀ ty a, y = Sum.inl (ty, a) → ∃ a', x = Sum.inl (ty, a')) : am_Wd Γ (es.set i y) s H1 := by
  refine ⟨fun a ha => ?_, by rw [← am_cW_set]; exact hP, fun j ty a hj => ?_⟩
  · rw [hS.2.1 a (by omega) (by omega)]
    exact hbq a ha
  · rw [List.getElem?_set] at hj
    by_cases hij : i = j
    · subst hij
      rw [if_pos rfl] at hj
      split at hj
      · cases hj
        obtain ⟨a', rfl⟩ := hty ty a rfl
        exact hW.2.2 i ty a' h
      · cases hj
    · rw [if_neg hij] at hj
      exact hW.2.2 j ty a hj
theorem am_K1 {es : am_H} {H : Heap} {i : Nat} {ty : FieldType} {a : am_A} (hKK : am_KK Γ xs s) (hW : am_Wd Γ es s H) (h : es[i]? = some (Sum.inl (ty, a))) : va_K Γ.1 am_cl [(am_cT Γ ty, ty)] s :=
  ⟨hKK.1.1, fun k q hk => by
    cases k with
    | zero => cases hk; exact hW.2.2 i ty a h
    | succ k => cases hk⟩
theorem am_nx_inv {pc : Nat} {L : am_L} {st : List Value} {es : am_H} {N : Nat × (am_L × (List Value × am_H))} (h : am_nx pc L st es = some (.inl N)) : N = (pc, L, st, es) := by
  unfold am_nx at h
  simpa using h.symm
theorem am_nx_no {pc : Nat} {L : am_L} {st : List Value} {es : am_H} {r : am_R} (h : am_nx pc L st es = some (.inr r)) : False := by
  unfold am_nx at h
  simp at h
theorem am_ii_inv {st : List Value} {f : Int32 → Int32 → Option Value} {np : Nat} {L : am_L} {es : am_H} {N : Nat × (am_L × (List Value × am_H))} (h : am_ii st f np L es = some (.inl N)) : ∃ y x r v, st = .int y :: .int x :: r ∧ f x y = some v ∧ N = (np, L, v :: r, es) := by
  unfold am_ii at h
  split at h
  · rename_i y x r
    split at h
    · rename_i v hv
      exact ⟨y, x, r, v, rfl, hv, am_nx_inv h⟩
    · cases h
  · cases h
theorem am_jj_inv {st : List Value} {f : Int64 → Int64 → Option Value} {np : Nat} {L : am_L} {es : am_H} {N : Nat × (am_L × (List Value × am_H))} (h : am_jj st f np L es = some (.inl N)) : ∃ y x r v, st = .long y :: .long x :: r ∧ f x y = some v ∧ N = (np, L, v :: r, es) := by
  unfold am_jj at h
  split at h
  · rename_i y x r
    split at h
    · rename_i v hv
      exact ⟨y, x, r, v, rfl, hv, am_nx_inv h⟩
    · cases h
  · cases h
theorem am_i1_inv {st : List Value} {f : Int32 → Value} {np : Nat} {L : am_L} {es : am_H} {N : Nat × (am_L × (List Value × am_H))} (h : am_i1 st f np L es = some (.inl N)) : ∃ x r, st = .int x :: r ∧ N = (np, L, f x :: r, es) := by
  unfold am_i1 at h
  split at h
  · rename_i x r
    exact ⟨x, r, rfl, am_nx_inv h⟩
  · cases h
theorem am_j1_inv {st : List Value} {f : Int64 → Value} {np : Nat} {L : am_L} {es : am_H} {N : Nat × (am_L × (List Value × am_H))} (h : am_j1 st f np L es = some (.inl N)) : ∃ x r, st = .long x :: r ∧ N = (np, L, f x :: r, es) := by
  unfold am_j1 at h
  split at h
  · rename_i x r
    exact ⟨x, r, rfl, am_nx_inv h⟩
  · cases h
theorem am_load_inv {st : List Value} {L : am_L} {i np : Nat} {es : am_H} {ok : Value → Bool} {N : Nat × (am_L × (List Value × am_H))} (h : am_load st L i np es ok = some (.inl N)) : ∃ v, L[i]? = some (some v) ∧ ok v = true ∧ N = (np, L, v :: st, es) := by
  unfold am_load am_ld at h
  split at h
  · rename_i v hv
    split at h
    · rename_i hok
      split at hv
      · rename_i w hw
        cases hv
        exact ⟨v, hw, hok, am_nx_inv h⟩
      · cases hv
    · cases h
  · cases h
theorem am_store_inv {st : List Value} {L : am_L} {i np : Nat} {es : am_H} {w : Nat} {ok : Value → Bool} {N : Nat × (am_L × (List Value × am_H))} (h : am_store st L i np es w ok = some (.inl N)) : ∃ v r, st = v :: r ∧ ok v = true ∧ i + w ≤ L.length ∧ N = (np, am_st L i v, r, es) := by
  unfold am_store at h
  split at h
  · rename_i v r
    split at h
    · rename_i hok
      exact ⟨v, r, rfl, hok.1, hok.2, am_nx_inv h⟩
    · cases h
  · cases h
theorem am_jmp_some {pc : Nat} {off : Int} {t : Nat} (ht : am_jmp pc off = some t) : (pc : Int) + off = (t : Int) := by
  unfold am_jmp at ht
  split at ht
  · rename_i h0
    cases ht
    exact (Int.toNat_of_nonneg h0).symm
  · cases ht
theorem am_jmp_inv {pc : Nat} {off : Int} {L : am_L} {st : List Value} {es : am_H} {N : Nat × (am_L × (List Value × am_H))} (h : am_go pc off L st es = some (.inl N)) : ∃ t : Nat, (pc : Int) + off = (t : Int) ∧ N = (t, L, st, es) := by
  unfold am_go at h
  split at h
  · rename_i t ht
    exact ⟨t, am_jmp_some ht, am_nx_inv h⟩
  · cases h
theorem am_cond_inv {cd : ClassFile.Cond} {x y : Int32} {pc : Nat} {off : Int} {L : am_L} {st : List Value} {es : am_H} {N : Nat × (am_L × (List Value × am_H))} (h : am_cond cd x y pc off L st es = some (.inl N)) : ∃ t : Nat, (pc : Int) + off = (t : Int) ∧ ((am_cmp cd x y = true ∧ N = (t, L, st, es)) ∨ (am_cmp cd x y = false ∧ N = (pc + 3, L, st, es))) := by
  unfold am_cond at h
  split at h
  · rename_i t ht
    refine ⟨t, am_jmp_some ht, ?_⟩
    split at h
    · rename_i hc
      exact Or.inl ⟨hc, am_nx_inv h⟩
    · rename_i hc
      exact Or.inr ⟨by simpa using hc, am_nx_inv h⟩
  · cases h
theorem am_isI_inv {v : Value} (h : am_isI v = true) : ∃ x, v = .int x := by
  cases v <;> first | exact ⟨_, rfl⟩ | cases h
theorem am_isJ_inv {v : Value} (h : am_isJ v = true) : ∃ x, v = .long x := by
  cases v <;> first | exact ⟨_, rfl⟩ | cases h
theorem am_isA_inv {v : Value} (h : am_isA v = true) : v = .null ∨ ∃ x, v = .ref x := by
  cases v <;> first | exact Or.inl rfl | exact Or.inr ⟨_, rfl⟩ | cases h
theorem am_isA_cV {v : Value} (h : am_isA v = true) : (∃ q, am_cV Γ v = .ref q) ∨ am_cV Γ v = .null := by
  rcases am_isA_inv h with rfl | ⟨x, rfl⟩
  · exact Or.inr rfl
  · exact am_cV_ref Γ x
theorem am_get_inv {α : Type} {l : List α} {i : Int32} {x : α} (h : am_get l i = some x) : vp_in i l.length ∧ l[i.toNatClampNeg]? = some x := by
  unfold am_get at h
  split at h
  · cases h
  · rename_i hi
    exact ⟨fun q => q.elim hi (fun q => absurd (List.getElem?_eq_some_iff.mp h).1 (by omega)), h⟩
theorem sd_iadd (C : am_Cx p R s m args meth c Γ xs M cc E0) {pc : Nat} {L : am_L} {st : List Value} {es : am_H} {N : Nat × (am_L × (List Value × am_H))} (hd : decode cc pc = .ok (.iadd, 1)) (h : am_ii st (fun x y => some (.int (x + y))) (pc + 1) L es = some (.inl N)) (k : am_Wp p l e R s m args below meth c Q Γ M.2.2.1 E0 S0 N.1 N.2.1 N.2.2.1 N.2.2.2) : am_Wp p l e R s m args below meth c Q Γ M.2.2.1 E0 S0 pc L st es := by
  obtain ⟨hx, hb, hml, hown, hts, hKK, hb1, hb2, ho, hini, hfr, hlo⟩ := id C
  obtain ⟨y, x, r, v, rfl, hv, rfl⟩ := am_ii_inv h
  cases hv
  exact fun hn H locs ls a b d => lv_iadd hx hb hd (k hn H locs ls a b d)
theorem sd_isub (C : am_Cx p R s m args meth c Γ xs M cc E0) {pc : Nat} {L : am_L} {st : List Value} {es : am_H} {N : Nat × (am_L × (List Value × am_H))} (hd : decode cc pc = .ok (.isub, 1)) (h : am_ii st (fun x y => some (.int (x - y))) (pc + 1) L es = some (.inl N)) (k : am_Wp p l e R s m args below meth c Q Γ M.2.2.1 E0 S0 N.1 N.2.1 N.2.2.1 N.2.2.2) : am_Wp p l e R s m args below meth c Q Γ M.2.2.1 E0 S0 pc L st es := by
  obtain ⟨hx, hb, hml, hown, hts, hKK, hb1, hb2, ho, hini, hfr, hlo⟩ := id C
  obtain ⟨y, x, r, v, rfl, hv, rfl⟩ := am_ii_inv h
  cases hv
  exact fun hn H locs ls a b d => lv_isub hx hb hd (k hn H locs ls a b d)
theorem sd_imul (C : am_Cx p R s m args meth c Γ xs M cc E0) {pc : Nat} {L : am_L} {st : List Value} {es : am_H} {N : Nat × (am_L × (List Value × am_H))} (hd : decode cc pc = .ok (.imul, 1)) (h : am_ii st (fun x y => some (.int (x * y))) (pc + 1) L es = some (.inl N)) (k : am_Wp p l e R s m args below meth c Q Γ M.2.2.1 E0 S0 N.1 N.2.1 N.2.2.1 N.2.2.2) : am_Wp p l e R s m args below meth c Q Γ M.2.2.1 E0 S0 pc L st es := by
  obtain ⟨hx, hb, hml, hown, hts, hKK, hb1, hb2, ho, hini, hfr, hlo⟩ := id C
  obtain ⟨y, x, r, v, rfl, hv, rfl⟩ := am_ii_inv h
  cases hv
  exact fun hn H locs ls a b d => lv_imul hx hb hd (k hn H locs ls a b d)
theorem sd_iand (C : am_Cx p R s m args meth c Γ xs M cc E0) {pc : Nat} {L : am_L} {st : List Value} {es : am_H} {N : Nat × (am_L × (List Value × am_H))} (hd : decode cc pc = .ok (.iand, 1)) (h : am_ii st (fun x y => some (.int (x &&& y))) (pc + 1) L es = some (.inl N)) (k : am_Wp p l e R s m args below meth c Q Γ M.2.2.1 E0 S0 N.1 N.2.1 N.2.2.1 N.2.2.2) : am_Wp p l e R s m args below meth c Q Γ M.2.2.1 E0 S0 pc L st es := by
  obtain ⟨hx, hb, hml, hown, hts, hKK, hb1, hb2, ho, hini, hfr, hlo⟩ := id C
  obtain ⟨y, x, r, v, rfl, hv, rfl⟩ := am_ii_inv h
  cases hv
  exact fun hn H locs ls a b d => lv_iand hx hb hd (k hn H locs ls a b d)
theorem sd_ior (C : am_Cx p R s m args meth c Γ xs M cc E0) {pc : Nat} {L : am_L} {st : List Value} {es : am_H} {N : Nat × (am_L × (List Value × am_H))} (hd : decode cc pc = .ok (.ior, 1)) (h : am_ii st (fun x y => some (.int (x ||| y))) (pc + 1) L es = some (.inl N)) (k : am_Wp p l e R s m args below meth c Q Γ M.2.2.1 E0 S0 N.1 N.2.1 N.2.2.1 N.2.2.2) : am_Wp p l e R s m args below meth c Q Γ M.2.2.1 E0 S0 pc L st es := by
  obtain ⟨hx, hb, hml, hown, hts, hKK, hb1, hb2, ho, hini, hfr, hlo⟩ := id C
  obtain ⟨y, x, r, v, rfl, hv, rfl⟩ := am_ii_inv h
  cases hv
  exact fun hn H locs ls a b d => lv_ior hx hb hd (k hn H locs ls a b d)
theorem sd_ixor (C : am_Cx p R s m args meth c Γ xs M cc E0) {pc : Nat} {L : am_L} {st : List Value} {es : am_H} {N : Nat × (am_L × (List Value × am_H))} (hd : decode cc pc = .ok (.ixor, 1)) (h : am_ii st (fun x y => some (.int (x ^^^ y))) (pc + 1) L es = some (.inl N)) (k : am_Wp p l e R s m args below meth c Q Γ M.2.2.1 E0 S0 N.1 N.2.1 N.2.2.1 N.2.2.2) : am_Wp p l e R s m args below meth c Q Γ M.2.2.1 E0 S0 pc L st es := by
  obtain ⟨hx, hb, hml, hown, hts, hKK, hb1, hb2, ho, hini, hfr, hlo⟩ := id C
  obtain ⟨y, x, r, v, rfl, hv, rfl⟩ := am_ii_inv h
  cases hv
  exact fun hn H locs ls a b d => lv_ixor hx hb hd (k hn H locs ls a b d)
theorem sd_ishl (C : am_Cx p R s m args meth c Γ xs M cc E0) {pc : Nat} {L : am_L} {st : List Value} {es : am_H} {N : Nat × (am_L × (List Value × am_H))} (hd : decode cc pc = .ok (.ishl, 1)) (h : am_ii st (fun x y => some (.int (x <<< (y &&& 31)))) (pc + 1) L es = some (.inl N)) (k : am_Wp p l e R s m args below meth c Q Γ M.2.2.1 E0 S0 N.1 N.2.1 N.2.2.1 N.2.2.2) : am_Wp p l e R s m args below meth c Q Γ M.2.2.1 E0 S0 pc L st es := by
  obtain ⟨hx, hb, hml, hown, hts, hKK, hb1, hb2, ho, hini, hfr, hlo⟩ := id C
  obtain ⟨y, x, r, v, rfl, hv, rfl⟩ := am_ii_inv h
  cases hv
  exact fun hn H locs ls a b d => lv_ishl hx hb hd (k hn H locs ls a b d)
theorem sd_ishr (C : am_Cx p R s m args meth c Γ xs M cc E0) {pc : Nat} {L : am_L} {st : List Value} {es : am_H} {N : Nat × (am_L × (List Value × am_H))} (hd : decode cc pc = .ok (.ishr, 1)) (h : am_ii st (fun x y => some (.int (x >>> (y &&& 31)))) (pc + 1) L es = some (.inl N)) (k : am_Wp p l e R s m args below meth c Q Γ M.2.2.1 E0 S0 N.1 N.2.1 N.2.2.1 N.2.2.2) : am_Wp p l e R s m args below meth c Q Γ M.2.2.1 E0 S0 pc L st es := by
  obtain ⟨hx, hb, hml, hown, hts, hKK, hb1, hb2, ho, hini, hfr, hlo⟩ := id C
  obtain ⟨y, x, r, v, rfl, hv, rfl⟩ := am_ii_inv h
  cases hv
  exact fun hn H locs ls a b d => lv_ishr hx hb hd (k hn H locs ls a b d)
theorem sd_iushr (C : am_Cx p R s m args meth c Γ xs M cc E0) {pc : Nat} {L : am_L} {st : List Value} {es : am_H} {N : Nat × (am_L × (List Value × am_H))} (hd : decode cc pc = .ok (.iushr, 1)) (h : am_ii st (fun x y => some (.int ((x.toUInt32 >>> (y.toUInt32 &&& Int32.toUInt32 31)).toInt32))) (pc + 1) L es = some (.inl N)) (k : am_Wp p l e R s m args below meth c Q Γ M.2.2.1 E0 S0 N.1 N.2.1 N.2.2.1 N.2.2.2) : am_Wp p l e R s m args below meth c Q Γ M.2.2.1 E0 S0 pc L st es := by
  obtain ⟨hx, hb, hml, hown, hts, hKK, hb1, hb2, ho, hini, hfr, hlo⟩ := id C
  obtain ⟨y, x, r, v, rfl, hv, rfl⟩ := am_ii_inv h
  cases hv
  exact fun hn H locs ls a b d => lv_iushr hx hb hd rfl (k hn H locs ls a b d)
theorem sd_idiv (C : am_Cx p R s m args meth c Γ xs M cc E0) {pc : Nat} {L : am_L} {st : List Value} {es : am_H} {N : Nat × (am_L × (List Value × am_H))} (hd : decode cc pc = .ok (.idiv, 1)) (h : am_ii st (fun x y => if y = 0 then none else some (.int (x / y))) (pc + 1) L es = some (.inl N)) (k : am_Wp p l e R s m args below meth c Q Γ M.2.2.1 E0 S0 N.1 N.2.1 N.2.2.1 N.2.2.2) : am_Wp p l e R s m args below meth c Q Γ M.2.2.1 E0 S0 pc L st es := by
  obtain ⟨hx, hb, hml, hown, hts, hKK, hb1, hb2, ho, hini, hfr, hlo⟩ := id C
  obtain ⟨y, x, r, v, rfl, hv, rfl⟩ := am_ii_inv h
  split at hv
  · cases hv
  · rename_i hne
    cases hv
    exact fun hn H locs ls a b d => lv_idiv hx hb hd hne (k hn H locs ls a b d)
theorem sd_irem (C : am_Cx p R s m args meth c Γ xs M cc E0) {pc : Nat} {L : am_L} {st : List Value} {es : am_H} {N : Nat × (am_L × (List Value × am_H))} (hd : decode cc pc = .ok (.irem, 1)) (h : am_ii st (fun x y => if y = 0 then none else some (.int (x - x / y * y))) (pc + 1) L es = some (.inl N)) (k : am_Wp p l e R s m args below meth c Q Γ M.2.2.1 E0 S0 N.1 N.2.1 N.2.2.1 N.2.2.2) : am_Wp p l e R s m args below meth c Q Γ M.2.2.1 E0 S0 pc L st es := by
  obtain ⟨hx, hb, hml, hown, hts, hKK, hb1, hb2, ho, hini, hfr, hlo⟩ := id C
  obtain ⟨y, x, r, v, rfl, hv, rfl⟩ := am_ii_inv h
  split at hv
  · cases hv
  · rename_i hne
    cases hv
    exact fun hn H locs ls a b d => lv_irem hx hb hd hne (k hn H locs ls a b d)
theorem sd_ladd (C : am_Cx p R s m args meth c Γ xs M cc E0) {pc : Nat} {L : am_L} {st : List Value} {es : am_H} {N : Nat × (am_L × (List Value × am_H))} (hd : decode cc pc = .ok (.ladd, 1)) (h : am_jj st (fun x y => some (.long (x + y))) (pc + 1) L es = some (.inl N)) (k : am_Wp p l e R s m args below meth c Q Γ M.2.2.1 E0 S0 N.1 N.2.1 N.2.2.1 N.2.2.2) : am_Wp p l e R s m args below meth c Q Γ M.2.2.1 E0 S0 pc L st es := by
  obtain ⟨hx, hb, hml, hown, hts, hKK, hb1, hb2, ho, hini, hfr, hlo⟩ := id C
  obtain ⟨y, x, r, v, rfl, hv, rfl⟩ := am_jj_inv h
  cases hv
  exact fun hn H locs ls a b d => lv_ladd hx hb hd (k hn H locs ls a b d)
theorem sd_land (C : am_Cx p R s m args meth c Γ xs M cc E0) {pc : Nat} {L : am_L} {st : List Value} {es : am_H} {N : Nat × (am_L × (List Value × am_H))} (hd : decode cc pc = .ok (.land, 1)) (h : am_jj st (fun x y => some (.long (x &&& y))) (pc + 1) L es = some (.inl N)) (k : am_Wp p l e R s m args below meth c Q Γ M.2.2.1 E0 S0 N.1 N.2.1 N.2.2.1 N.2.2.2) : am_Wp p l e R s m args below meth c Q Γ M.2.2.1 E0 S0 pc L st es := by
  obtain ⟨hx, hb, hml, hown, hts, hKK, hb1, hb2, ho, hini, hfr, hlo⟩ := id C
  obtain ⟨y, x, r, v, rfl, hv, rfl⟩ := am_jj_inv h
  cases hv
  exact fun hn H locs ls a b d => lv_land hx hb hd (k hn H locs ls a b d)
theorem sd_lor (C : am_Cx p R s m args meth c Γ xs M cc E0) {pc : Nat} {L : am_L} {st : List Value} {es : am_H} {N : Nat × (am_L × (List Value × am_H))} (hd : decode cc pc = .ok (.lor, 1)) (h : am_jj st (fun x y => some (.long (x ||| y))) (pc + 1) L es = some (.inl N)) (k : am_Wp p l e R s m args below meth c Q Γ M.2.2.1 E0 S0 N.1 N.2.1 N.2.2.1 N.2.2.2) : am_Wp p l e R s m args below meth c Q Γ M.2.2.1 E0 S0 pc L st es := by
  obtain ⟨hx, hb, hml, hown, hts, hKK, hb1, hb2, ho, hini, hfr, hlo⟩ := id C
  obtain ⟨y, x, r, v, rfl, hv, rfl⟩ := am_jj_inv h
  cases hv
  exact fun hn H locs ls a b d => lv_lor hx hb hd (k hn H locs ls a b d)
theorem sd_lcmp (C : am_Cx p R s m args meth c Γ xs M cc E0) {pc : Nat} {L : am_L} {st : List Value} {es : am_H} {N : Nat × (am_L × (List Value × am_H))} (hd : decode cc pc = .ok (.lcmp, 1)) (h : am_jj st (fun x y => some (.int (lg_cmp x y))) (pc + 1) L es = some (.inl N)) (k : am_Wp p l e R s m args below meth c Q Γ M.2.2.1 E0 S0 N.1 N.2.1 N.2.2.1 N.2.2.2) : am_Wp p l e R s m args below meth c Q Γ M.2.2.1 E0 S0 pc L st es := by
  obtain ⟨hx, hb, hml, hown, hts, hKK, hb1, hb2, ho, hini, hfr, hlo⟩ := id C
  obtain ⟨y, x, r, v, rfl, hv, rfl⟩ := am_jj_inv h
  cases hv
  exact fun hn H locs ls a b d => W.lcmp hx hb hd (k hn H locs ls a b d)
theorem sd_ldiv (C : am_Cx p R s m args meth c Γ xs M cc E0) {pc : Nat} {L : am_L} {st : List Value} {es : am_H} {N : Nat × (am_L × (List Value × am_H))} (hd : decode cc pc = .ok (.ldiv, 1)) (h : am_jj st (fun x y => if y = 0 then none else some (.long (x / y))) (pc + 1) L es = some (.inl N)) (k : am_Wp p l e R s m args below meth c Q Γ M.2.2.1 E0 S0 N.1 N.2.1 N.2.2.1 N.2.2.2) : am_Wp p l e R s m args below meth c Q Γ M.2.2.1 E0 S0 pc L st es := by
  obtain ⟨hx, hb, hml, hown, hts, hKK, hb1, hb2, ho, hini, hfr, hlo⟩ := id C
  obtain ⟨y, x, r, v, rfl, hv, rfl⟩ := am_jj_inv h
  split at hv
  · cases hv
  · rename_i hne
    cases hv
    exact fun hn H locs ls a b d => lv_ldiv hx hb hd hne (k hn H locs ls a b d)
theorem sd_lrem (C : am_Cx p R s m args meth c Γ xs M cc E0) {pc : Nat} {L : am_L} {st : List Value} {es : am_H} {N : Nat × (am_L × (List Value × am_H))} (hd : decode cc pc = .ok (.lrem, 1)) (h : am_jj st (fun x y => if y = 0 then none else some (.long (x - x / y * y))) (pc + 1) L es = some (.inl N)) (k : am_Wp p l e R s m args below meth c Q Γ M.2.2.1 E0 S0 N.1 N.2.1 N.2.2.1 N.2.2.2) : am_Wp p l e R s m args below meth c Q Γ M.2.2.1 E0 S0 pc L st es := by
  obtain ⟨hx, hb, hml, hown, hts, hKK, hb1, hb2, ho, hini, hfr, hlo⟩ := id C
  obtain ⟨y, x, r, v, rfl, hv, rfl⟩ := am_jj_inv h
  split at hv
  · cases hv
  · rename_i hne
    cases hv
    exact fun hn H locs ls a b d => lv_lrem hx hb hd hne (k hn H locs ls a b d)
theorem sd_ineg (C : am_Cx p R s m args meth c Γ xs M cc E0) {pc : Nat} {L : am_L} {st : List Value} {es : am_H} {N : Nat × (am_L × (List Value × am_H))} (hd : decode cc pc = .ok (.ineg, 1)) (h : am_i1 st (fun x => .int (-x)) (pc + 1) L es = some (.inl N)) (k : am_Wp p l e R s m args below meth c Q Γ M.2.2.1 E0 S0 N.1 N.2.1 N.2.2.1 N.2.2.2) : am_Wp p l e R s m args below meth c Q Γ M.2.2.1 E0 S0 pc L st es := by
  obtain ⟨hx, hb, hml, hown, hts, hKK, hb1, hb2, ho, hini, hfr, hlo⟩ := id C
  obtain ⟨x, r, rfl, rfl⟩ := am_i1_inv h
  exact fun hn H locs ls a b d => lv_ineg hx hb hd (k hn H locs ls a b d)
theorem sd_i2l (C : am_Cx p R s m args meth c Γ xs M cc E0) {pc : Nat} {L : am_L} {st : List Value} {es : am_H} {N : Nat × (am_L × (List Value × am_H))} (hd : decode cc pc = .ok (.i2l, 1)) (h : am_i1 st (fun x => .long x.toInt64) (pc + 1) L es = some (.inl N)) (k : am_Wp p l e R s m args below meth c Q Γ M.2.2.1 E0 S0 N.1 N.2.1 N.2.2.1 N.2.2.2) : am_Wp p l e R s m args below meth c Q Γ M.2.2.1 E0 S0 pc L st es := by
  obtain ⟨hx, hb, hml, hown, hts, hKK, hb1, hb2, ho, hini, hfr, hlo⟩ := id C
  obtain ⟨x, r, rfl, rfl⟩ := am_i1_inv h
  exact fun hn H locs ls a b d => lv_i2l hx hb hd rfl (k hn H locs ls a b d)
theorem sd_i2b (C : am_Cx p R s m args meth c Γ xs M cc E0) {pc : Nat} {L : am_L} {st : List Value} {es : am_H} {N : Nat × (am_L × (List Value × am_H))} (hd : decode cc pc = .ok (.i2b, 1)) (h : am_i1 st (fun x => .int x.toInt8.toInt32) (pc + 1) L es = some (.inl N)) (k : am_Wp p l e R s m args below meth c Q Γ M.2.2.1 E0 S0 N.1 N.2.1 N.2.2.1 N.2.2.2) : am_Wp p l e R s m args below meth c Q Γ M.2.2.1 E0 S0 pc L st es := by
  obtain ⟨hx, hb, hml, hown, hts, hKK, hb1, hb2, ho, hini, hfr, hlo⟩ := id C
  obtain ⟨x, r, rfl, rfl⟩ := am_i1_inv h
  exact fun hn H locs ls a b d => lv_i2b hx hb hd rfl (k hn H locs ls a b d)
theorem sd_i2s (C : am_Cx p R s m args meth c Γ xs M cc E0) {pc : Nat} {L : am_L} {st : List Value} {es : am_H} {N : Nat × (am_L × (List Value × am_H))} (hd : decode cc pc = .ok (.i2s, 1)) (h : am_i1 st (fun x => .int x.toInt16.toInt32) (pc + 1) L es = some (.inl N)) (k : am_Wp p l e R s m args below meth c Q Γ M.2.2.1 E0 S0 N.1 N.2.1 N.2.2.1 N.2.2.2) : am_Wp p l e R s m args below meth c Q Γ M.2.2.1 E0 S0 pc L st es := by
  obtain ⟨hx, hb, hml, hown, hts, hKK, hb1, hb2, ho, hini, hfr, hlo⟩ := id C
  obtain ⟨x, r, rfl, rfl⟩ := am_i1_inv h
  exact fun hn H locs ls a b d => lv_i2s hx hb hd rfl (k hn H locs ls a b d)
theorem sd_i2c (C : am_Cx p R s m args meth c Γ xs M cc E0) {pc : Nat} {L : am_L} {st : List Value} {es : am_H} {N : Nat × (am_L × (List Value × am_H))} (hd : decode cc pc = .ok (.i2c, 1)) (h : am_i1 st (fun x => .int (x.toUInt32 % 65536).toInt32) (pc + 1) L es = some (.inl N)) (k : am_Wp p l e R s m args below meth c Q Γ M.2.2.1 E0 S0 N.1 N.2.1 N.2.2.1 N.2.2.2) : am_Wp p l e R s m args below meth c Q Γ M.2.2.1 E0 S0 pc L st es := by
  obtain ⟨hx, hb, hml, hown, hts, hKK, hb1, hb2, ho, hini, hfr, hlo⟩ := id C
  obtain ⟨x, r, rfl, rfl⟩ := am_i1_inv h
  exact fun hn H locs ls a b d => lv_i2c hx hb hd rfl (k hn H locs ls a b d)
theorem sd_lneg (C : am_Cx p R s m args meth c Γ xs M cc E0) {pc : Nat} {L : am_L} {st : List Value} {es : am_H} {N : Nat × (am_L × (List Value × am_H))} (hd : decode cc pc = .ok (.lneg, 1)) (h : am_j1 st (fun x => .long (-x)) (pc + 1) L es = some (.inl N)) (k : am_Wp p l e R s m args below meth c Q Γ M.2.2.1 E0 S0 N.1 N.2.1 N.2.2.1 N.2.2.2) : am_Wp p l e R s m args below meth c Q Γ M.2.2.1 E0 S0 pc L st es := by
  obtain ⟨hx, hb, hml, hown, hts, hKK, hb1, hb2, ho, hini, hfr, hlo⟩ := id C
  obtain ⟨x, r, rfl, rfl⟩ := am_j1_inv h
  exact fun hn H locs ls a b d => lv_lneg hx hb hd (k hn H locs ls a b d)
theorem sd_l2i (C : am_Cx p R s m args meth c Γ xs M cc E0) {pc : Nat} {L : am_L} {st : List Value} {es : am_H} {N : Nat × (am_L × (List Value × am_H))} (hd : decode cc pc = .ok (.l2i, 1)) (h : am_j1 st (fun x => .int x.toInt32) (pc + 1) L es = some (.inl N)) (k : am_Wp p l e R s m args below meth c Q Γ M.2.2.1 E0 S0 N.1 N.2.1 N.2.2.1 N.2.2.2) : am_Wp p l e R s m args below meth c Q Γ M.2.2.1 E0 S0 pc L st es := by
  obtain ⟨hx, hb, hml, hown, hts, hKK, hb1, hb2, ho, hini, hfr, hlo⟩ := id C
  obtain ⟨x, r, rfl, rfl⟩ := am_j1_inv h
  exact fun hn H locs ls a b d => lv_l2i hx hb hd rfl (k hn H locs ls a b d)
theorem sd_lshl (C : am_Cx p R s m args meth c Γ xs M cc E0) {pc : Nat} {L : am_L} {st : List Value} {es : am_H} {N : Nat × (am_L × (List Value × am_H))} (hd : decode cc pc = .ok (.lshl, 1)) (h : am_lsh st (pc + 1) L es = some (.inl N)) (k : am_Wp p l e R s m args below meth c Q Γ M.2.2.1 E0 S0 N.1 N.2.1 N.2.2.1 N.2.2.2) : am_Wp p l e R s m args below meth c Q Γ M.2.2.1 E0 S0 pc L st es := by
  obtain ⟨hx, hb, hml, hown, hts, hKK, hb1, hb2, ho, hini, hfr, hlo⟩ := id C
  unfold am_lsh at h
  split at h
  · rename_i y x r
    obtain rfl := am_nx_inv h
    exact fun hn H locs ls a b d => lv_lshl hx hb hd rfl (k hn H locs ls a b d)
  · cases h
theorem sd_iconst (C : am_Cx p R s m args meth c Γ xs M cc E0) {pc : Nat} {L : am_L} {st : List Value} {es : am_H} {N : Nat × (am_L × (List Value × am_H))} {n : Int} (hd : decode cc pc = .ok (.iconst n, 1)) (h : am_nx (pc + 1) L (.int (Int32.ofInt n) :: st) es = some (.inl N)) (k : am_Wp p l e R s m args below meth c Q Γ M.2.2.1 E0 S0 N.1 N.2.1 N.2.2.1 N.2.2.2) : am_Wp p l e R s m args below meth c Q Γ M.2.2.1 E0 S0 pc L st es := by
  obtain ⟨hx, hb, hml, hown, hts, hKK, hb1, hb2, ho, hini, hfr, hlo⟩ := id C
  obtain rfl := am_nx_inv h
  exact fun hn H locs ls a b d => lv_iconst hx hb hd rfl (k hn H locs ls a b d)
theorem sd_bipush (C : am_Cx p R s m args meth c Γ xs M cc E0) {pc : Nat} {L : am_L} {st : List Value} {es : am_H} {N : Nat × (am_L × (List Value × am_H))} {n : Int} (hd : decode cc pc = .ok (.bipush n, 2)) (h : am_nx (pc + 2) L (.int ((Int8.ofInt n).toInt32) :: st) es = some (.inl N)) (k : am_Wp p l e R s m args below meth c Q Γ M.2.2.1 E0 S0 N.1 N.2.1 N.2.2.1 N.2.2.2) : am_Wp p l e R s m args below meth c Q Γ M.2.2.1 E0 S0 pc L st es := by
  obtain ⟨hx, hb, hml, hown, hts, hKK, hb1, hb2, ho, hini, hfr, hlo⟩ := id C
  obtain rfl := am_nx_inv h
  exact fun hn H locs ls a b d => lv_bipush hx hb hd rfl (k hn H locs ls a b d)
theorem sd_sipush (C : am_Cx p R s m args meth c Γ xs M cc E0) {pc : Nat} {L : am_L} {st : List Value} {es : am_H} {N : Nat × (am_L × (List Value × am_H))} {n : Int} (hd : decode cc pc = .ok (.sipush n, 3)) (h : am_nx (pc + 3) L (.int ((Int16.ofInt n).toInt32) :: st) es = some (.inl N)) (k : am_Wp p l e R s m args below meth c Q Γ M.2.2.1 E0 S0 N.1 N.2.1 N.2.2.1 N.2.2.2) : am_Wp p l e R s m args below meth c Q Γ M.2.2.1 E0 S0 pc L st es := by
  obtain ⟨hx, hb, hml, hown, hts, hKK, hb1, hb2, ho, hini, hfr, hlo⟩ := id C
  obtain rfl := am_nx_inv h
  exact fun hn H locs ls a b d => lv_sipush hx hb hd rfl (k hn H locs ls a b d)
theorem sd_lconst (C : am_Cx p R s m args meth c Γ xs M cc E0) {pc : Nat} {L : am_L} {st : List Value} {es : am_H} {N : Nat × (am_L × (List Value × am_H))} {n : Fin 2} (hd : decode cc pc = .ok (.lconst n, 1)) (h : am_nx (pc + 1) L (.long (Int64.ofNat (n : Nat)) :: st) es = some (.inl N)) (k : am_Wp p l e R s m args below meth c Q Γ M.2.2.1 E0 S0 N.1 N.2.1 N.2.2.1 N.2.2.2) : am_Wp p l e R s m args below meth c Q Γ M.2.2.1 E0 S0 pc L st es := by
  obtain ⟨hx, hb, hml, hown, hts, hKK, hb1, hb2, ho, hini, hfr, hlo⟩ := id C
  obtain rfl := am_nx_inv h
  exact fun hn H locs ls a b d => lv_lconst hx hb hd rfl (k hn H locs ls a b d)
theorem sd_aconst_null (C : am_Cx p R s m args meth c Γ xs M cc E0) {pc : Nat} {L : am_L} {st : List Value} {es : am_H} {N : Nat × (am_L × (List Value × am_H))} (hd : decode cc pc = .ok (.aconst_null, 1)) (h : am_nx (pc + 1) L (.null :: st) es = some (.inl N)) (k : am_Wp p l e R s m args below meth c Q Γ M.2.2.1 E0 S0 N.1 N.2.1 N.2.2.1 N.2.2.2) : am_Wp p l e R s m args below meth c Q Γ M.2.2.1 E0 S0 pc L st es := by
  obtain ⟨hx, hb, hml, hown, hts, hKK, hb1, hb2, ho, hini, hfr, hlo⟩ := id C
  obtain rfl := am_nx_inv h
  exact fun hn H locs ls a b d => lv_null hx hb hd (k hn H locs ls a b d)
theorem sd_iload_n (C : am_Cx p R s m args meth c Γ xs M cc E0) {pc : Nat} {L : am_L} {st : List Value} {es : am_H} {N : Nat × (am_L × (List Value × am_H))} {n : Fin 4} (hd : decode cc pc = .ok (.iload_n n, 1)) (h : am_load st L n (pc + 1) es am_isI = some (.inl N)) (k : am_Wp p l e R s m args below meth c Q Γ M.2.2.1 E0 S0 N.1 N.2.1 N.2.2.1 N.2.2.2) : am_Wp p l e R s m args below meth c Q Γ M.2.2.1 E0 S0 pc L st es := by
  obtain ⟨hx, hb, hml, hown, hts, hKK, hb1, hb2, ho, hini, hfr, hlo⟩ := id C
  obtain ⟨v, h1, h2, rfl⟩ := am_load_inv h
  obtain ⟨x, rfl⟩ := am_isI_inv h2
  exact fun hn H locs ls a b d => lv_iload_n hx hb hd rfl (d.2.2 _ _ h1) (k hn H locs ls a b d)
theorem sd_iload (C : am_Cx p R s m args meth c Γ xs M cc E0) {pc : Nat} {L : am_L} {st : List Value} {es : am_H} {N : Nat × (am_L × (List Value × am_H))} {n : Nat} (hd : decode cc pc = .ok (.iload n, 2)) (h : am_load st L n (pc + 2) es am_isI = some (.inl N)) (k : am_Wp p l e R s m args below meth c Q Γ M.2.2.1 E0 S0 N.1 N.2.1 N.2.2.1 N.2.2.2) : am_Wp p l e R s m args below meth c Q Γ M.2.2.1 E0 S0 pc L st es := by
  obtain ⟨hx, hb, hml, hown, hts, hKK, hb1, hb2, ho, hini, hfr, hlo⟩ := id C
  obtain ⟨v, h1, h2, rfl⟩ := am_load_inv h
  obtain ⟨x, rfl⟩ := am_isI_inv h2
  exact fun hn H locs ls a b d => lv_iload hx hb hd (d.2.2 _ _ h1) (k hn H locs ls a b d)
theorem sd_lload_n (C : am_Cx p R s m args meth c Γ xs M cc E0) {pc : Nat} {L : am_L} {st : List Value} {es : am_H} {N : Nat × (am_L × (List Value × am_H))} {n : Fin 4} (hd : decode cc pc = .ok (.lload_n n, 1)) (h : am_load st L n (pc + 1) es am_isJ = some (.inl N)) (k : am_Wp p l e R s m args below meth c Q Γ M.2.2.1 E0 S0 N.1 N.2.1 N.2.2.1 N.2.2.2) : am_Wp p l e R s m args below meth c Q Γ M.2.2.1 E0 S0 pc L st es := by
  obtain ⟨hx, hb, hml, hown, hts, hKK, hb1, hb2, ho, hini, hfr, hlo⟩ := id C
  obtain ⟨v, h1, h2, rfl⟩ := am_load_inv h
  obtain ⟨x, rfl⟩ := am_isJ_inv h2
  exact fun hn H locs ls a b d => lv_lload_n hx hb hd rfl (d.2.2 _ _ h1) (k hn H locs ls a b d)
theorem sd_lload (C : am_Cx p R s m args meth c Γ xs M cc E0) {pc : Nat} {L : am_L} {st : List Value} {es : am_H} {N : Nat × (am_L × (List Value × am_H))} {n : Nat} (hd : decode cc pc = .ok (.lload n, 2)) (h : am_load st L n (pc + 2) es am_isJ = some (.inl N)) (k : am_Wp p l e R s m args below meth c Q Γ M.2.2.1 E0 S0 N.1 N.2.1 N.2.2.1 N.2.2.2) : am_Wp p l e R s m args below meth c Q Γ M.2.2.1 E0 S0 pc L st es := by
  obtain ⟨hx, hb, hml, hown, hts, hKK, hb1, hb2, ho, hini, hfr, hlo⟩ := id C
  obtain ⟨v, h1, h2, rfl⟩ := am_load_inv h
  obtain ⟨x, rfl⟩ := am_isJ_inv h2
  exact fun hn H locs ls a b d => lv_lload hx hb hd (d.2.2 _ _ h1) (k hn H locs ls a b d)
theorem sd_aload_n (C : am_Cx p R s m args meth c Γ xs M cc E0) {pc : Nat} {L : am_L} {st : List Value} {es : am_H} {N : Nat × (am_L × (List Value × am_H))} {n : Fin 4} (hd : decode cc pc = .ok (.aload_n n, 1)) (h : am_load st L n (pc + 1) es am_isA = some (.inl N)) (k : am_Wp p l e R s m args below meth c Q Γ M.2.2.1 E0 S0 N.1 N.2.1 N.2.2.1 N.2.2.2) : am_Wp p l e R s m args below meth c Q Γ M.2.2.1 E0 S0 pc L st es := by
  obtain ⟨hx, hb, hml, hown, hts, hKK, hb1, hb2, ho, hini, hfr, hlo⟩ := id C
  obtain ⟨v, h1, h2, rfl⟩ := am_load_inv h
  intro hn H locs ls a b d
  have hv := d.2.2 _ _ h1
  have kk : W p l e R s m args below meth c H locs (es.length - E0) (am_sz es - S0) Q (F0 m (pc + 1) ls (am_cV Γ v :: st.map (am_cV Γ))) := k hn H locs ls a b d
  rcases am_isA_cV (Γ := Γ) h2 with ⟨q, hq⟩ | hq
  · rw [hq] at hv kk
    exact lv_aload_n hx hb hd rfl hv kk
  · rw [hq] at hv kk
    exact lv_aload_nN hx hb hd rfl hv kk
theorem sd_aload (C : am_Cx p R s m args meth c Γ xs M cc E0) {pc : Nat} {L : am_L} {st : List Value} {es : am_H} {N : Nat × (am_L × (List Value × am_H))} {n : Nat} (hd : decode cc pc = .ok (.aload n, 2)) (h : am_load st L n (pc + 2) es am_isA = some (.inl N)) (k : am_Wp p l e R s m args below meth c Q Γ M.2.2.1 E0 S0 N.1 N.2.1 N.2.2.1 N.2.2.2) : am_Wp p l e R s m args below meth c Q Γ M.2.2.1 E0 S0 pc L st es := by
  obtain ⟨hx, hb, hml, hown, hts, hKK, hb1, hb2, ho, hini, hfr, hlo⟩ := id C
  obtain ⟨v, h1, h2, rfl⟩ := am_load_inv h
  intro hn H locs ls a b d
  have hv := d.2.2 _ _ h1
  have kk : W p l e R s m args below meth c H locs (es.length - E0) (am_sz es - S0) Q (F0 m (pc + 2) ls (am_cV Γ v :: st.map (am_cV Γ))) := k hn H locs ls a b d
  rcases am_isA_cV (Γ := Γ) h2 with ⟨q, hq⟩ | hq
  · rw [hq] at hv kk
    exact lv_aload hx hb hd hv kk
  · rw [hq] at hv kk
    exact lv_aloadN hx hb hd hv kk
theorem sd_istore_n (C : am_Cx p R s m args meth c Γ xs M cc E0) {pc : Nat} {L : am_L} {st : List Value} {es : am_H} {N : Nat × (am_L × (List Value × am_H))} {n : Fin 4} (hd : decode cc pc = .ok (.istore_n n, 1)) (h : am_store st L n (pc + 1) es 1 am_isI = some (.inl N)) (k : am_Wp p l e R s m args below meth c Q Γ M.2.2.1 E0 S0 N.1 N.2.1 N.2.2.1 N.2.2.2) : am_Wp p l e R s m args below meth c Q Γ M.2.2.1 E0 S0 pc L st es := by
  obtain ⟨hx, hb, hml, hown, hts, hKK, hb1, hb2, ho, hini, hfr, hlo⟩ := id C
  obtain ⟨v, r, rfl, h2, h3, rfl⟩ := am_store_inv h
  obtain ⟨x, rfl⟩ := am_isI_inv h2
  exact fun hn H locs ls a b d => lv_istore_n (nL := L.length) hx hb hd rfl d.has (by omega) rfl (fun ls' hl => k ((am_st_len L n (.int x)).trans hn) H locs ls' a b (am_AL.st1 (v := .int x) rfl hl))
theorem sd_istore (C : am_Cx p R s m args meth c Γ xs M cc E0) {pc : Nat} {L : am_L} {st : List Value} {es : am_H} {N : Nat × (am_L × (List Value × am_H))} {n : Nat} (hd : decode cc pc = .ok (.istore n, 2)) (h : am_store st L n (pc + 2) es 1 am_isI = some (.inl N)) (k : am_Wp p l e R s m args below meth c Q Γ M.2.2.1 E0 S0 N.1 N.2.1 N.2.2.1 N.2.2.2) : am_Wp p l e R s m args below meth c Q Γ M.2.2.1 E0 S0 pc L st es := by
  obtain ⟨hx, hb, hml, hown, hts, hKK, hb1, hb2, ho, hini, hfr, hlo⟩ := id C
  obtain ⟨v, r, rfl, h2, h3, rfl⟩ := am_store_inv h
  obtain ⟨x, rfl⟩ := am_isI_inv h2
  exact fun hn H locs ls a b d => lv_istore (nL := L.length) hx hb hd  d.has (by omega) rfl (fun ls' hl => k ((am_st_len L n (.int x)).trans hn) H locs ls' a b (am_AL.st1 (v := .int x) rfl hl))
theorem sd_lstore_n (C : am_Cx p R s m args meth c Γ xs M cc E0) {pc : Nat} {L : am_L} {st : List Value} {es : am_H} {N : Nat × (am_L × (List Value × am_H))} {n : Fin 4} (hd : decode cc pc = .ok (.lstore_n n, 1)) (h : am_store st L n (pc + 1) es 2 am_isJ = some (.inl N)) (k : am_Wp p l e R s m args below meth c Q Γ M.2.2.1 E0 S0 N.1 N.2.1 N.2.2.1 N.2.2.2) : am_Wp p l e R s m args below meth c Q Γ M.2.2.1 E0 S0 pc L st es := by
  obtain ⟨hx, hb, hml, hown, hts, hKK, hb1, hb2, ho, hini, hfr, hlo⟩ := id C
  obtain ⟨v, r, rfl, h2, h3, rfl⟩ := am_store_inv h
  obtain ⟨x, rfl⟩ := am_isJ_inv h2
  exact fun hn H locs ls a b d => lv_lstore_n (nL := L.length) hx hb hd rfl d.has (by omega) rfl (fun ls' hl => k ((am_st_len L n (.long x)).trans hn) H locs ls' a b (am_AL.st2 (v := .long x) rfl hl))
theorem sd_lstore (C : am_Cx p R s m args meth c Γ xs M cc E0) {pc : Nat} {L : am_L} {st : List Value} {es : am_H} {N : Nat × (am_L × (List Value × am_H))} {n : Nat} (hd : decode cc pc = .ok (.lstore n, 2)) (h : am_store st L n (pc + 2) es 2 am_isJ = some (.inl N)) (k : am_Wp p l e R s m args below meth c Q Γ M.2.2.1 E0 S0 N.1 N.2.1 N.2.2.1 N.2.2.2) : am_Wp p l e R s m args below meth c Q Γ M.2.2.1 E0 S0 pc L st es := by
  obtain ⟨hx, hb, hml, hown, hts, hKK, hb1, hb2, ho, hini, hfr, hlo⟩ := id C
  obtain ⟨v, r, rfl, h2, h3, rfl⟩ := am_store_inv h
  obtain ⟨x, rfl⟩ := am_isJ_inv h2
  exact fun hn H locs ls a b d => lv_lstore (nL := L.length) hx hb hd  d.has (by omega) rfl (fun ls' hl => k ((am_st_len L n (.long x)).trans hn) H locs ls' a b (am_AL.st2 (v := .long x) rfl hl))
theorem sd_astore_n (C : am_Cx p R s m args meth c Γ xs M cc E0) {pc : Nat} {L : am_L} {st : List Value} {es : am_H} {N : Nat × (am_L × (List Value × am_H))} {n : Fin 4} (hd : decode cc pc = .ok (.astore_n n, 1)) (h : am_store st L n (pc + 1) es 1 am_isA = some (.inl N)) (k : am_Wp p l e R s m args below meth c Q Γ M.2.2.1 E0 S0 N.1 N.2.1 N.2.2.1 N.2.2.2) : am_Wp p l e R s m args below meth c Q Γ M.2.2.1 E0 S0 pc L st es := by
  obtain ⟨hx, hb, hml, hown, hts, hKK, hb1, hb2, ho, hini, hfr, hlo⟩ := id C
  obtain ⟨v, r, rfl, h2, h3, rfl⟩ := am_store_inv h
  have hc : v.category = 1 := by rcases am_isA_inv h2 with rfl | ⟨x, rfl⟩ <;> rfl
  intro hn H locs ls a b d
  have kk := fun ls' hl => k ((am_st_len L n v).trans hn) H locs ls' a b (am_AL.st1 hc hl)
  show W p l e R s m args below meth c H locs (es.length - E0) (am_sz es - S0) Q (F0 m pc ls (am_cV Γ v :: r.map (am_cV Γ)))
  rcases am_isA_cV (Γ := Γ) h2 with ⟨q, hq⟩ | hq
  · rw [hq] at kk ⊢
    exact lv_astore_n (nL := L.length) hx hb hd rfl d.has (by omega) rfl kk
  · rw [hq] at kk ⊢
    exact lv_astore_nN (nL := L.length) hx hb hd rfl d.has (by omega) rfl kk
theorem sd_astore (C : am_Cx p R s m args meth c Γ xs M cc E0) {pc : Nat} {L : am_L} {st : List Value} {es : am_H} {N : Nat × (am_L × (List Value × am_H))} {n : Nat} (hd : decode cc pc = .ok (.astore n, 2)) (h : am_store st L n (pc + 2) es 1 am_isA = some (.inl N)) (k : am_Wp p l e R s m args below meth c Q Γ M.2.2.1 E0 S0 N.1 N.2.1 N.2.2.1 N.2.2.2) : am_Wp p l e R s m args below meth c Q Γ M.2.2.1 E0 S0 pc L st es := by
  obtain ⟨hx, hb, hml, hown, hts, hKK, hb1, hb2, ho, hini, hfr, hlo⟩ := id C
  obtain ⟨v, r, rfl, h2, h3, rfl⟩ := am_store_inv h
  have hc : v.category = 1 := by rcases am_isA_inv h2 with rfl | ⟨x, rfl⟩ <;> rfl
  intro hn H locs ls a b d
  have kk := fun ls' hl => k ((am_st_len L n v).trans hn) H locs ls' a b (am_AL.st1 hc hl)
  show W p l e R s m args below meth c H locs (es.length - E0) (am_sz es - S0) Q (F0 m pc ls (am_cV Γ v :: r.map (am_cV Γ)))
  rcases am_isA_cV (Γ := Γ) h2 with ⟨q, hq⟩ | hq
  · rw [hq] at kk ⊢
    exact lv_astore (nL := L.length) hx hb hd  d.has (by omega) rfl kk
  · rw [hq] at kk ⊢
    exact lv_astoreN (nL := L.length) hx hb hd  d.has (by omega) rfl kk
theorem sd_iinc (C : am_Cx p R s m args meth c Γ xs M cc E0) {pc : Nat} {L : am_L} {st : List Value} {es : am_H} {N : Nat × (am_L × (List Value × am_H))} {i : Nat} {n : Int} (hd : decode cc pc = .ok (.iinc i n, 3)) (h : am_iinc i n st (pc + 3) L es = some (.inl N)) (k : am_Wp p l e R s m args below meth c Q Γ M.2.2.1 E0 S0 N.1 N.2.1 N.2.2.1 N.2.2.2) : am_Wp p l e R s m args below meth c Q Γ M.2.2.1 E0 S0 pc L st es := by
  obtain ⟨hx, hb, hml, hown, hts, hKK, hb1, hb2, ho, hini, hfr, hlo⟩ := id C
  unfold am_iinc am_ld at h
  split at h
  · rename_i x hx1
    split at hx1
    · rename_i w hw
      cases hx1
      obtain rfl := am_nx_inv h
      intro hn H locs ls a b d
      have hm : (i, Value.int x) ∈ am_enc Γ L := am_enc_mem.mpr ⟨.int x, hw, rfl⟩
      obtain ⟨k0, hk0⟩ := List.getElem?_of_mem hm
      exact lv_iinc (nL := L.length) hx hb hd d.has hk0 rfl (List.getElem?_eq_some_iff.mp hw).1 rfl (fun ls' hl => k ((am_st_len L i (.int (x + Int32.ofInt n))).trans hn) H locs ls' a b (am_AL.st1 (v := .int (x + Int32.ofInt n)) rfl hl))
    · cases hx1
  · cases h
theorem sd_dup (C : am_Cx p R s m args meth c Γ xs M cc E0) {pc : Nat} {L : am_L} {st : List Value} {es : am_H} {N : Nat × (am_L × (List Value × am_H))} (hd : decode cc pc = .ok (.dup, 1)) (h : am_dup st (pc + 1) L es = some (.inl N)) (k : am_Wp p l e R s m args below meth c Q Γ M.2.2.1 E0 S0 N.1 N.2.1 N.2.2.1 N.2.2.2) : am_Wp p l e R s m args below meth c Q Γ M.2.2.1 E0 S0 pc L st es := by
  obtain ⟨hx, hb, hml, hown, hts, hKK, hb1, hb2, ho, hini, hfr, hlo⟩ := id C
  unfold am_dup at h
  split at h
  · rename_i v r
    split at h
    · rename_i hc
      obtain rfl := am_nx_inv h
      exact fun hn H locs ls a b d => lv_dup hx hb hd (by rw [am_cV_cat]; exact hc) (k hn H locs ls a b d)
    · cases h
  · cases h
theorem sd_pop (C : am_Cx p R s m args meth c Γ xs M cc E0) {pc : Nat} {L : am_L} {st : List Value} {es : am_H} {N : Nat × (am_L × (List Value × am_H))} (hd : decode cc pc = .ok (.pop, 1)) (h : am_pop st (pc + 1) L es = some (.inl N)) (k : am_Wp p l e R s m args below meth c Q Γ M.2.2.1 E0 S0 N.1 N.2.1 N.2.2.1 N.2.2.2) : am_Wp p l e R s m args below meth c Q Γ M.2.2.1 E0 S0 pc L st es := by
  obtain ⟨hx, hb, hml, hown, hts, hKK, hb1, hb2, ho, hini, hfr, hlo⟩ := id C
  unfold am_pop at h
  split at h
  · rename_i v r
    split at h
    · rename_i hc
      obtain rfl := am_nx_inv h
      exact fun hn H locs ls a b d => lv_pop hx hb hd (by rw [am_cV_cat]; exact hc) (k hn H locs ls a b d)
    · cases h
  · cases h
theorem sd_dup_x1 (C : am_Cx p R s m args meth c Γ xs M cc E0) {pc : Nat} {L : am_L} {st : List Value} {es : am_H} {N : Nat × (am_L × (List Value × am_H))} (hd : decode cc pc = .ok (.dup_x1, 1)) (h : am_dupx st (pc + 1) L es = some (.inl N)) (k : am_Wp p l e R s m args below meth c Q Γ M.2.2.1 E0 S0 N.1 N.2.1 N.2.2.1 N.2.2.2) : am_Wp p l e R s m args below meth c Q Γ M.2.2.1 E0 S0 pc L st es := by
  obtain ⟨hx, hb, hml, hown, hts, hKK, hb1, hb2, ho, hini, hfr, hlo⟩ := id C
  unfold am_dupx at h
  split at h
  · rename_i v u r
    split at h
    · rename_i hc
      obtain rfl := am_nx_inv h
      exact fun hn H locs ls a b d => lv_dup_x1 hx hb hd (by rw [am_cV_cat]; exact hc.1) (by rw [am_cV_cat]; exact hc.2) (k hn H locs ls a b d)
    · cases h
  · cases h
theorem sd_dup2 (C : am_Cx p R s m args meth c Γ xs M cc E0) {pc : Nat} {L : am_L} {st : List Value} {es : am_H} {N : Nat × (am_L × (List Value × am_H))} (hd : decode cc pc = .ok (.dup2, 1)) (h : am_dup2 st (pc + 1) L es = some (.inl N)) (k : am_Wp p l e R s m args below meth c Q Γ M.2.2.1 E0 S0 N.1 N.2.1 N.2.2.1 N.2.2.2) : am_Wp p l e R s m args below meth c Q Γ M.2.2.1 E0 S0 pc L st es := by
  obtain ⟨hx, hb, hml, hown, hts, hKK, hb1, hb2, ho, hini, hfr, hlo⟩ := id C
  unfold am_dup2 at h
  split at h
  · rename_i v r
    split at h
    · rename_i hc
      obtain rfl := am_nx_inv h
      exact fun hn H locs ls a b d => lv_dup2_2 hx hb hd (by rw [am_cV_cat]; exact hc) (k hn H locs ls a b d)
    · split at h
      · rename_i u r'
        split at h
        · rename_i hc
          obtain rfl := am_nx_inv h
          exact fun hn H locs ls a b d => lv_dup2_11 hx hb hd (by rw [am_cV_cat]; exact hc.2) (by rw [am_cV_cat]; exact hc.1) (k hn H locs ls a b d)
        · cases h
      · cases h
  · cases h
theorem sd_goto (C : am_Cx p R s m args meth c Γ xs M cc E0) {pc : Nat} {L : am_L} {st : List Value} {es : am_H} {N : Nat × (am_L × (List Value × am_H))} {off : Int} (hd : decode cc pc = .ok (.goto off, 3)) (h : am_go pc off L st es = some (.inl N)) (k : am_Wp p l e R s m args below meth c Q Γ M.2.2.1 E0 S0 N.1 N.2.1 N.2.2.1 N.2.2.2) : am_Wp p l e R s m args below meth c Q Γ M.2.2.1 E0 S0 pc L st es := by
  obtain ⟨hx, hb, hml, hown, hts, hKK, hb1, hb2, ho, hini, hfr, hlo⟩ := id C
  obtain ⟨t, ht, rfl⟩ := am_jmp_inv h
  exact fun hn H locs ls a b d => lv_goto hx hb hd ht (k hn H locs ls a b d)
theorem sd_if1 (C : am_Cx p R s m args meth c Γ xs M cc E0) {pc : Nat} {L : am_L} {st : List Value} {es : am_H} {N : Nat × (am_L × (List Value × am_H))} {cd : ClassFile.Cond} {off : Int} (hd : decode cc pc = .ok (.ifCond cd off, 3)) (h : am_if1 cd off st pc L es = some (.inl N)) (k : am_Wp p l e R s m args below meth c Q Γ M.2.2.1 E0 S0 N.1 N.2.1 N.2.2.1 N.2.2.2) : am_Wp p l e R s m args below meth c Q Γ M.2.2.1 E0 S0 pc L st es := by
  obtain ⟨hx, hb, hml, hown, hts, hKK, hb1, hb2, ho, hini, hfr, hlo⟩ := id C
  unfold am_if1 at h
  split at h
  · rename_i x r
    obtain ⟨t, ht, hN⟩ := am_cond_inv h
    rcases hN with ⟨hc, rfl⟩ | ⟨hc, rfl⟩
    · cases cd <;> simp only [am_cmp, decide_eq_true_eq] at hc
      · exact fun hn H locs ls a b d => lv_if_eq hx hb hd ht (fun _ => k hn H locs ls a b d) (fun q => absurd hc q)
      · exact fun hn H locs ls a b d => lv_if_ne hx hb hd ht (fun _ => k hn H locs ls a b d) (fun q => absurd q hc)
      · exact fun hn H locs ls a b d => lv_if_lt hx hb hd ht (fun _ => k hn H locs ls a b d) (fun q => absurd hc q)
      · exact fun hn H locs ls a b d => lv_if_ge hx hb hd ht (fun _ => k hn H locs ls a b d) (fun q => absurd hc q)
      · exact fun hn H locs ls a b d => lv_if_gt hx hb hd ht (fun _ => k hn H locs ls a b d) (fun q => absurd hc q)
      · exact fun hn H locs ls a b d => lv_if_le hx hb hd ht (fun _ => k hn H locs ls a b d) (fun q => absurd hc q)
    · cases cd <;> simp only [am_cmp, decide_eq_false_iff_not] at hc
      · exact fun hn H locs ls a b d => lv_if_eq hx hb hd ht (fun q => absurd q hc) (fun _ => k hn H locs ls a b d)
      · exact fun hn H locs ls a b d => lv_if_ne hx hb hd ht (fun q => absurd q hc) (fun _ => k hn H locs ls a b d)
      · exact fun hn H locs ls a b d => lv_if_lt hx hb hd ht (fun q => absurd q hc) (fun _ => k hn H locs ls a b d)
      · exact fun hn H locs ls a b d => lv_if_ge hx hb hd ht (fun q => absurd q hc) (fun _ => k hn H locs ls a b d)
      · exact fun hn H locs ls a b d => lv_if_gt hx hb hd ht (fun q => absurd q hc) (fun _ => k hn H locs ls a b d)
      · exact fun hn H locs ls a b d => lv_if_le hx hb hd ht (fun q => absurd q hc) (fun _ => k hn H locs ls a b d)
  · cases h
theorem sd_if2 (C : am_Cx p R s m args meth c Γ xs M cc E0) {pc : Nat} {L : am_L} {st : List Value} {es : am_H} {N : Nat × (am_L × (List Value × am_H))} {cd : ClassFile.Cond} {off : Int} (hd : decode cc pc = .ok (.if_icmp cd off, 3)) (h : am_if2 cd off st pc L es = some (.inl N)) (k : am_Wp p l e R s m args below meth c Q Γ M.2.2.1 E0 S0 N.1 N.2.1 N.2.2.1 N.2.2.2) : am_Wp p l e R s m args below meth c Q Γ M.2.2.1 E0 S0 pc L st es := by
  obtain ⟨hx, hb, hml, hown, hts, hKK, hb1, hb2, ho, hini, hfr, hlo⟩ := id C
  unfold am_if2 at h
  split at h
  · rename_i y x r
    obtain ⟨t, ht, hN⟩ := am_cond_inv h
    rcases hN with ⟨hc, rfl⟩ | ⟨hc, rfl⟩
    · cases cd <;> simp only [am_cmp, decide_eq_true_eq] at hc
      · exact fun hn H locs ls a b d => lv_icmp_eq hx hb hd ht (fun _ => k hn H locs ls a b d) (fun q => absurd hc q)
      · exact fun hn H locs ls a b d => lv_icmp_ne hx hb hd ht (fun _ => k hn H locs ls a b d) (fun q => absurd q hc)
      · exact fun hn H locs ls a b d => lv_icmp_lt hx hb hd ht (fun _ => k hn H locs ls a b d) (fun q => absurd hc q)
      · exact fun hn H locs ls a b d => lv_icmp_ge hx hb hd ht (fun _ => k hn H locs ls a b d) (fun q => absurd hc q)
      · exact fun hn H locs ls a b d => lv_icmp_gt hx hb hd ht (fun _ => k hn H locs ls a b d) (fun q => absurd hc q)
      · exact fun hn H locs ls a b d => lv_icmp_le hx hb hd ht (fun _ => k hn H locs ls a b d) (fun q => absurd hc q)
    · cases cd <;> simp only [am_cmp, decide_eq_false_iff_not] at hc
      · exact fun hn H locs ls a b d => lv_icmp_eq hx hb hd ht (fun q => absurd q hc) (fun _ => k hn H locs ls a b d)
      · exact fun hn H locs ls a b d => lv_icmp_ne hx hb hd ht (fun q => absurd q hc) (fun _ => k hn H locs ls a b d)
      · exact fun hn H locs ls a b d => lv_icmp_lt hx hb hd ht (fun q => absurd q hc) (fun _ => k hn H locs ls a b d)
      · exact fun hn H locs ls a b d => lv_icmp_ge hx hb hd ht (fun q => absurd q hc) (fun _ => k hn H locs ls a b d)
      · exact fun hn H locs ls a b d => lv_icmp_gt hx hb hd ht (fun q => absurd q hc) (fun _ => k hn H locs ls a b d)
      · exact fun hn H locs ls a b d => lv_icmp_le hx hb hd ht (fun q => absurd q hc) (fun _ => k hn H locs ls a b d)
  · cases h
theorem sd_ifnull (C : am_Cx p R s m args meth c Γ xs M cc E0) {pc : Nat} {L : am_L} {st : List Value} {es : am_H} {N : Nat × (am_L × (List Value × am_H))} {off : Int} (hd : decode cc pc = .ok (.ifnull off, 3)) (h : am_nul st true pc off L es = some (.inl N)) (k : am_Wp p l e R s m args below meth c Q Γ M.2.2.1 E0 S0 N.1 N.2.1 N.2.2.1 N.2.2.2) : am_Wp p l e R s m args below meth c Q Γ M.2.2.1 E0 S0 pc L st es := by
  obtain ⟨hx, hb, hml, hown, hts, hKK, hb1, hb2, ho, hini, hfr, hlo⟩ := id C
  unfold am_nul at h
  split at h
  · rename_i r
    simp only [if_true, if_false, Bool.false_eq_true] at h
    obtain ⟨t, ht, rfl⟩ := am_jmp_inv h
    exact fun hn H locs ls a b d => lv_ifnullN hx hb hd ht (k hn H locs ls a b d)
  · rename_i x r
    by_cases hlt : 1000010 ≤ x
    · rw [if_pos hlt] at h; cases h
    · rw [if_neg hlt] at h
      simp only [if_true, if_false, Bool.false_eq_true] at h
      obtain rfl := am_nx_inv h
      intro hn H locs ls a b d
      have kk := k hn H locs ls a b d
      show W p l e R s m args below meth c H locs (es.length - E0) (am_sz es - S0) Q (F0 m pc ls (am_cV Γ (.ref x) :: r.map (am_cV Γ)))
      obtain ⟨q, hq⟩ : ∃ q, am_cV Γ (.ref x) = .ref q := by
        by_cases hx1 : x < 1000000
        · exact ⟨_, am_cV_lo hx1⟩
        · rw [am_cV_hi hx1]
          unfold am_rov
          have h10 : x - 1000000 < 10 := by have h11 : x < 1000010 := Nat.not_le.mp hlt; exact Nat.sub_lt_left_of_lt_add (Nat.not_lt.mp hx1) h11
          rw [if_pos h10]
          exact ⟨_, rfl⟩
      rw [hq]
      exact lv_ifnull hx hb hd kk
  · cases h
theorem sd_ifnonnull (C : am_Cx p R s m args meth c Γ xs M cc E0) {pc : Nat} {L : am_L} {st : List Value} {es : am_H} {N : Nat × (am_L × (List Value × am_H))} {off : Int} (hd : decode cc pc = .ok (.ifnonnull off, 3)) (h : am_nul st false pc off L es = some (.inl N)) (k : am_Wp p l e R s m args below meth c Q Γ M.2.2.1 E0 S0 N.1 N.2.1 N.2.2.1 N.2.2.2) : am_Wp p l e R s m args below meth c Q Γ M.2.2.1 E0 S0 pc L st es := by
  obtain ⟨hx, hb, hml, hown, hts, hKK, hb1, hb2, ho, hini, hfr, hlo⟩ := id C
  unfold am_nul at h
  split at h
  · rename_i r
    simp only [if_true, if_false, Bool.false_eq_true] at h
    obtain rfl := am_nx_inv h
    exact fun hn H locs ls a b d => lv_ifnonnullN hx hb hd (k hn H locs ls a b d)
  · rename_i x r
    by_cases hlt : 1000010 ≤ x
    · rw [if_pos hlt] at h; cases h
    · rw [if_neg hlt] at h
      simp only [if_true, if_false, Bool.false_eq_true] at h
      obtain ⟨t, ht, rfl⟩ := am_jmp_inv h
      intro hn H locs ls a b d
      have kk := k hn H locs ls a b d
      show W p l e R s m args below meth c H locs (es.length - E0) (am_sz es - S0) Q (F0 m pc ls (am_cV Γ (.ref x) :: r.map (am_cV Γ)))
      obtain ⟨q, hq⟩ : ∃ q, am_cV Γ (.ref x) = .ref q := by
        by_cases hx1 : x < 1000000
        · exact ⟨_, am_cV_lo hx1⟩
        · rw [am_cV_hi hx1]
          unfold am_rov
          have h10 : x - 1000000 < 10 := by have h11 : x < 1000010 := Nat.not_le.mp hlt; exact Nat.sub_lt_left_of_lt_add (Nat.not_lt.mp hx1) h11
          rw [if_pos h10]
          exact ⟨_, rfl⟩
      rw [hq]
      exact lv_ifnonnull hx hb hd ht kk
  · cases h
theorem sd_tableswitch (C : am_Cx p R s m args meth c Γ xs M cc E0) {pc : Nat} {L : am_L} {st : List Value} {es : am_H} {N : Nat × (am_L × (List Value × am_H))} {dd lo hi : Int} {offs : Array Int} {len : Nat} (hd : decode cc pc = .ok (.tableswitch dd lo hi offs, len)) (h : am_tsw dd lo hi offs pc st L es = some (.inl N)) (k : am_Wp p l e R s m args below meth c Q Γ M.2.2.1 E0 S0 N.1 N.2.1 N.2.2.1 N.2.2.2) : am_Wp p l e R s m args below meth c Q Γ M.2.2.1 E0 S0 pc L st es := by
  obtain ⟨hx, hb, hml, hown, hts, hKK, hb1, hb2, ho, hini, hfr, hlo⟩ := id C
  unfold am_tsw at h
  split at h
  · rename_i x r
    split at h
    · rename_i hc
      obtain ⟨t, ht, rfl⟩ := am_jmp_inv h
      exact fun hn H locs ls a b d => lv_tableOut hx hb hd hc ht (k hn H locs ls a b d)
    · rename_i hc
      split at h
      · rename_i off hoff
        obtain ⟨t, ht, rfl⟩ := am_jmp_inv h
        exact fun hn H locs ls a b d => lv_tableIn hx hb hd (fun q => hc (Or.inl q)) (fun q => hc (Or.inr q)) hoff ht (k hn H locs ls a b d)
      · cases h
  · cases h
theorem sd_lookupswitch (C : am_Cx p R s m args meth c Γ xs M cc E0) {pc : Nat} {L : am_L} {st : List Value} {es : am_H} {N : Nat × (am_L × (List Value × am_H))} {dd : Int} {ps : Array (Int × Int)} {len : Nat} (hd : decode cc pc = .ok (.lookupswitch dd ps, len)) (h : am_lsw dd ps pc st L es = some (.inl N)) (k : am_Wp p l e R s m args below meth c Q Γ M.2.2.1 E0 S0 N.1 N.2.1 N.2.2.1 N.2.2.2) : am_Wp p l e R s m args below meth c Q Γ M.2.2.1 E0 S0 pc L st es := by
  obtain ⟨hx, hb, hml, hown, hts, hKK, hb1, hb2, ho, hini, hfr, hlo⟩ := id C
  unfold am_lsw at h
  split at h
  · rename_i x r
    split at h
    · rename_i hc
      obtain ⟨t, ht, rfl⟩ := am_jmp_inv h
      exact fun hn H locs ls a b d => lv_lookup hx hb hd hc rfl ht (k hn H locs ls a b d)
    · cases h
  · cases h
theorem sd_getfield (C : am_Cx p R s m args meth c Γ xs M cc E0) {pc : Nat} {L : am_L} {st : List Value} {es : am_H} {N : Nat × (am_L × (List Value × am_H))} {idx : Nat} (hd : decode cc pc = .ok (.getfield idx, 3)) (h : am_getf M.1 idx st (pc + 3) L es = some (.inl N)) (k : am_Wp p l e R s m args below meth c Q Γ M.2.2.1 E0 S0 N.1 N.2.1 N.2.2.1 N.2.2.2) : am_Wp p l e R s m args below meth c Q Γ M.2.2.1 E0 S0 pc L st es := by
  obtain ⟨hx, hb, hml, hown, hts, hKK, hb1, hb2, ho, hini, hfr, hlo⟩ := id C
  unfold am_getf at h
  split at h
  · rename_i x r
    split at h
    · rename_i ha
      split at h
      · rename_i ci k0 cj fs h1 h2
        split at h
        · rename_i hc
          subst hc
          split at h
          · rename_i v hv
            obtain rfl := am_nx_inv h
            obtain ⟨hci, hk, hlk, hdc⟩ := am_fld_ok M.1 _ (am_lk h1)
            intro hn H locs ls a b d
            have kk : W p l e R s m args below meth c H locs (es.length - E0) (am_sz es - S0) Q (F0 m (pc + 3) ls (am_cV Γ v :: r.map (am_cV Γ))) := k hn H locs ls a b d
            show W p l e R s m args below meth c H locs (es.length - E0) (am_sz es - S0) Q (F0 m pc ls (am_cV Γ (.ref x) :: r.map (am_cV Γ)))
            rw [am_cV_lo ha]
            exact va_get (C := am_cn ci) (T := am_T ci) (N := am_nf ci) (ci := ci) (ref := am_cn ci) (fs := fs.map (am_cV Γ)) hx hb hts (am_wsB hci) hown hKK.1 a.2.1 x (am_cW_at h2) (am_cls_ok ci hci) k0 hk (hts _ (am_gB hlk rfl)) (by dsimp only at hdc; rw [hdc]; exact fun _ q => q) (by rw [List.getElem?_map, hv]; rfl) hd kk
          · cases h
        · cases h
      · cases h
    · rename_i ha
      split at h
      · rename_i ha2
        have h10 : x - 1000000 < 10 := Nat.sub_lt_left_of_lt_add (Nat.not_lt.mp ha) ha2
        have hk0 : am_cV Γ (.ref x) = .ref (Γ.2.2.2.1 (x - 1000000)) := by rw [am_cV_hi ha]; unfold am_rov; rw [if_pos h10]
        have h6 := vk_S.kept hKK.2.2.2.2.2.1 (H1 := s.heap) (fun q hq _ => hb2 q hq)
        split at h
        · rename_i hs
          obtain rfl := am_nx_inv h
          rcases am_sfl_ok M.1 _ (am_lk hs) with ⟨-, hlk⟩ | ⟨h0, -⟩
          · intro hn H locs ls a b d
            have kk : W p l e R s m args below meth c H locs (es.length - E0) (am_sz es - S0) Q (F0 m (pc + 3) ls (am_cV Γ (.ref (x + 100)) :: r.map (am_cV Γ))) := k hn H locs ls a b d
            show W p l e R s m args below meth c H locs (es.length - E0) (am_sz es - S0) Q (F0 m pc ls (am_cV Γ (.ref x) :: r.map (am_cV Γ)))
            have hk1 : am_cV Γ (.ref (x + 100)) = .ref (Γ.2.2.2.2.1 (x - 1000000)) := by
              have e1 : ¬ x + 100 < 1000000 := fun q => ha (Nat.lt_of_le_of_lt (Nat.le_add_right _ _) q)
              have e2 : x + 100 - 1000000 = x - 1000000 + 100 := Nat.sub_add_comm (Nat.not_lt.mp ha)
              rw [am_cV_hi e1, e2]
              unfold am_rov
              rw [if_neg (by omega), if_pos (Nat.add_lt_add_right h10 100), Nat.add_sub_cancel]
            rw [hk0]
            rw [hk1] at kk
            exact vk_getf hx hb (h6.1 _ h10).2.2.1 b hown (hts _ (am_gB hlk rfl)) (fun _ q => q) hd kk
          · cases h0
        · rename_i hs
          obtain rfl := am_nx_inv h
          rcases am_sfl_ok M.1 _ (am_lk hs) with ⟨h0, -⟩ | ⟨-, hlk⟩
          · cases h0
          · intro hn H locs ls a b d
            have kk : W p l e R s m args below meth c H locs (es.length - E0) (am_sz es - S0) Q (F0 m (pc + 3) ls (.int 0 :: r.map (am_cV Γ))) := k hn H locs ls a b d
            show W p l e R s m args below meth c H locs (es.length - E0) (am_sz es - S0) Q (F0 m pc ls (am_cV Γ (.ref x) :: r.map (am_cV Γ)))
            rw [hk0]
            exact vk_getf hx hb (h6.1 _ h10).2.1 b hown (hts _ (am_gB hlk rfl)) (fun _ q => q) hd kk
        · cases h
      · cases h
  · cases h
theorem am_cV_nar {ty : FieldType} {v : Value} (h : narrow ty v = v) (hf : fits ty v = true) : narrow ty (am_cV Γ v) = am_cV Γ v ∧ fits ty (am_cV Γ v) = true := by
  cases v with
  | ref i =>
    have hk : (∃ t, ty = .object t) ∨ ∃ t, ty = .array t := by
      cases ty <;> first | exact Or.inl ⟨_, rfl⟩ | exact Or.inr ⟨_, rfl⟩ | (exact absurd hf (by simp [fits]))
    rcases am_cV_ref Γ i with ⟨q, hq⟩ | hq <;> rw [hq] <;> rcases hk with ⟨t, rfl⟩ | ⟨t, rfl⟩ <;> exact ⟨rfl, rfl⟩
  | _ => exact ⟨h, hf⟩
theorem sd_putfield (C : am_Cx p R s m args meth c Γ xs M cc E0) {pc : Nat} {L : am_L} {st : List Value} {es : am_H} {N : Nat × (am_L × (List Value × am_H))} {idx : Nat} (hd : decode cc pc = .ok (.putfield idx, 3)) (h : am_putf M.1 idx M.2.2.2.1 st (pc + 3) L es = some (.inl N)) (k : am_Wp p l e R s m args below meth c Q Γ M.2.2.1 E0 S0 N.1 N.2.1 N.2.2.1 N.2.2.2) : am_Wp p l e R s m args below meth c Q Γ M.2.2.1 E0 S0 pc L st es := by
  obtain ⟨hx, hb, hml, hown, hts, hKK, hb1, hb2, ho, hini, hfr, hlo⟩ := id C
  unfold am_putf at h
  split at h
  · rename_i v x r
    split at h
    · rename_i ci k0 cj fs h1 h2
      split at h
      · rename_i hc
        obtain ⟨hc, ha, hkl, hnr, hft, hfin⟩ := hc
        subst hc
        obtain rfl := am_nx_inv h
        obtain ⟨hci, hk, hlk, hdc⟩ := am_fld_ok M.1 _ (am_lk h1)
        obtain ⟨hn2, hf2⟩ := am_cV_nar (Γ := Γ) hnr hft
        intro hn H locs ls a b d
        show W p l e R s m args below meth c H locs (es.length - E0) (am_sz es - S0) Q (F0 m pc ls (am_cV Γ v :: am_cV Γ (.ref x) :: r.map (am_cV Γ)))
        rw [am_cV_lo ha]
        have hA := am_cW_D Γ es
        have kk : ∀ (H1 : Heap) (locs1 : List Loc), va_P Γ.1 am_cl ((am_cW Γ es).set x (am_base Γ + x, .inr (ci, (fs.map (am_cV Γ)).set k0 (am_cV Γ v)))) H1 → va_D (fun q : Nat => am_base Γ ≤ q) ((am_cW Γ es).set x (am_base Γ + x, .inr (ci, (fs.map (am_cV Γ)).set k0 (am_cV Γ v)))) → va_S (fun q : Nat => am_base Γ ≤ q) s.heap H1 locs1 → W p l e R s m args below meth c H1 locs1 (es.length - E0) (am_sz es - S0) Q (F0 m (pc + 3) ls (r.map (am_cV Γ))) := by
          intro H1 locs1 hP1 _ hS1
          rw [← List.map_set] at hP1
          have hW1 : am_Wd Γ (es.set x (.inr (ci, fs.set k0 v))) s H1 := am_Wd.put a h2 hP1 hS1 hb1 hb2 (fun ty a' q => by cases q)
          have := k hn H1 locs1 ls hW1 hS1 d
          rwa [List.length_set, am_sz_set h2 (by simp [am_esz])] at this
        cases hfn : (am_T ci k0).2.2.2 with
        | false => exact va_put (C := am_cn ci) (T := am_T ci) (N := am_nf ci) (ci := ci) (ref := am_cn ci) (fs := fs.map (am_cV Γ)) hx hb hts (am_wsB hci) (am_y ci) (am_tyk_ok ci hci) (am_nm_ok ci hci) hown hKK.1 a.2.1 hA b x (am_cW_at h2) (am_cls_ok ci hci) k0 hk (hts _ (am_gB hlk rfl)) (by dsimp only at hdc; rw [hdc]; exact fun _ q => q) hfn (am_tyk_ok ci hci k0 hk) hn2 hf2 (by rw [List.length_map]; exact hkl) hd kk
        | true =>
          obtain ⟨hi1, hi2⟩ := hfin hfn
          exact va_putF (C := am_cn ci) (T := am_T ci) (N := am_nf ci) (ci := ci) (ref := am_cn ci) (fs := fs.map (am_cV Γ)) hx hb hts (am_wsB hci) (am_y ci) (am_tyk_ok ci hci) (am_nm_ok ci hci) hown hKK.1 a.2.1 hA b x (am_cW_at h2) (am_cls_ok ci hci) k0 hk (hts _ (am_gB hlk rfl)) (by dsimp only at hdc; rw [hdc]; exact fun _ q => q) hfn (hini hi1) (hdc.trans hi2) (am_tyk_ok ci hci k0 hk) hn2 hf2 (by rw [List.length_map]; exact hkl) hd kk
      · cases h
    · cases h
  · cases h
theorem sd_getstatic (C : am_Cx p R s m args meth c Γ xs M cc E0) {pc : Nat} {L : am_L} {st : List Value} {es : am_H} {N : Nat × (am_L × (List Value × am_H))} {idx : Nat} (hd : decode cc pc = .ok (.getstatic idx, 3)) (h : am_gets M.1 idx st (pc + 3) L es = some (.inl N)) (k : am_Wp p l e R s m args below meth c Q Γ M.2.2.1 E0 S0 N.1 N.2.1 N.2.2.1 N.2.2.2) : am_Wp p l e R s m args below meth c Q Γ M.2.2.1 E0 S0 pc L st es := by
  obtain ⟨hx, hb, hml, hown, hts, hKK, hb1, hb2, ho, hini, hfr, hlo⟩ := id C
  unfold am_gets at h
  split at h
  · rename_i hs
    obtain rfl := am_nx_inv h
    have hlk := (am_sta_ok M.1 _ (am_lk hs)).2
    exact fun hn H locs ls a b d => va_gets hx hb (va_Z.kept hKK.2.2.2.2.2.2.1 (H1 := s.heap) (fun q hq _ => hb2 q hq)) b hown (hts _ (am_gB hlk rfl)) (fun _ q => q) hd (k hn H locs ls a b d)
  · rename_i hs
    obtain rfl := am_nx_inv h
    have hlk := (am_sta_ok M.1 _ (am_lk hs)).2
    exact fun hn H locs ls a b d => va_gets hx hb (va_Z.kept hKK.2.2.2.2.2.2.2.1 (H1 := s.heap) (fun q hq _ => hb2 q hq)) b hown (hts _ (am_gB hlk rfl)) (fun _ q => q) hd (k hn H locs ls a b d)
  · rename_i hs
    obtain rfl := am_nx_inv h
    have hlk := (am_sta_ok M.1 _ (am_lk hs)).2
    exact fun hn H locs ls a b d => va_gets hx hb (va_Z.kept hKK.2.2.2.2.2.2.2.2.1 (H1 := s.heap) (fun q hq _ => hb2 q hq)) b hown (hts _ (am_gB hlk rfl)) (fun _ q => q) hd (k hn H locs ls a b d)
  · rename_i hs
    obtain rfl := am_nx_inv h
    have hlk := (am_sta_ok M.1 _ (am_lk hs)).2
    exact fun hn H locs ls a b d => va_gets hx hb (va_Z.kept hKK.2.2.2.2.2.2.2.2.2.1 (H1 := s.heap) (fun q hq _ => hb2 q hq)) b hown (hts _ (am_gB hlk rfl)) (fun _ q => q) hd (k hn H locs ls a b d)
  · cases h
theorem sd_ldc (C : am_Cx p R s m args meth c Γ xs M cc E0) {pc : Nat} {L : am_L} {st : List Value} {es : am_H} {N : Nat × (am_L × (List Value × am_H))} {idx : Nat} (hd : decode cc pc = .ok (.ldc idx, 2)) (h : am_conl M.1 idx st (pc + 2) L es (fun v => am_isI v || am_isA v) = some (.inl N)) (k : am_Wp p l e R s m args below meth c Q Γ M.2.2.1 E0 S0 N.1 N.2.1 N.2.2.1 N.2.2.2) : am_Wp p l e R s m args below meth c Q Γ M.2.2.1 E0 S0 pc L st es := by
  obtain ⟨hx, hb, hml, hown, hts, hKK, hb1, hb2, ho, hini, hfr, hlo⟩ := id C
  unfold am_conl at h
  split at h
  · rename_i v hs
    split at h
    · rename_i hok
      obtain rfl := am_nx_inv h
      rcases am_con_ok M.1 _ (am_lk hs) with ⟨w, hw, hlk⟩ | ⟨w, hw, hlk⟩ | ⟨j, tx, hw, hj, hsk, hlk⟩
      · dsimp only at hw
        subst hw
        exact fun hn H locs ls a b d => lv_ldc hx hb hown (hts _ (am_gB hlk rfl)) hd (k hn H locs ls a b d)
      · dsimp only at hw
        subst hw
        cases hok
      · dsimp only at hw
        subst hw
        have hR := hKK.2.2.2.2.1 j _ hsk
        have hk0 : am_cV Γ (.ref (1000000 + j)) = .ref (Γ.2.2.2.1 j) := by
          rw [am_cV_hi (by omega), Nat.add_sub_cancel_left]
          unfold am_rov
          rw [if_pos hj]
        intro hn H locs ls a b d
        have kk : W p l e R s m args below meth c H locs (es.length - E0) (am_sz es - S0) Q (F0 m (pc + 2) ls (am_cV Γ (.ref (1000000 + j)) :: st.map (am_cV Γ))) := k hn H locs ls a b d
        rw [hk0] at kk
        exact va_ldcS hx hb hown hR hd kk
    · cases h
  · cases h
theorem sd_ldc_w (C : am_Cx p R s m args meth c Γ xs M cc E0) {pc : Nat} {L : am_L} {st : List Value} {es : am_H} {N : Nat × (am_L × (List Value × am_H))} {idx : Nat} (hd : decode cc pc = .ok (.ldc_w idx, 3)) (h : am_conl M.1 idx st (pc + 3) L es am_isI = some (.inl N)) (k : am_Wp p l e R s m args below meth c Q Γ M.2.2.1 E0 S0 N.1 N.2.1 N.2.2.1 N.2.2.2) : am_Wp p l e R s m args below meth c Q Γ M.2.2.1 E0 S0 pc L st es := by
  obtain ⟨hx, hb, hml, hown, hts, hKK, hb1, hb2, ho, hini, hfr, hlo⟩ := id C
  unfold am_conl at h
  split at h
  · rename_i v hs
    split at h
    · rename_i hok
      obtain rfl := am_nx_inv h
      rcases am_con_ok M.1 _ (am_lk hs) with ⟨w, hw, hlk⟩ | ⟨w, hw, hlk⟩ | ⟨j, tx, hw, hj, hsk, hlk⟩
      · dsimp only at hw
        subst hw
        exact fun hn H locs ls a b d => lv_ldcw hx hb hown (hts _ (am_gB hlk rfl)) hd (k hn H locs ls a b d)
      · dsimp only at hw
        subst hw
        cases hok
      · dsimp only at hw
        subst hw
        cases hok
    · cases h
  · cases h
theorem sd_ldc2_w (C : am_Cx p R s m args meth c Γ xs M cc E0) {pc : Nat} {L : am_L} {st : List Value} {es : am_H} {N : Nat × (am_L × (List Value × am_H))} {idx : Nat} (hd : decode cc pc = .ok (.ldc2_w idx, 3)) (h : am_conl M.1 idx st (pc + 3) L es am_isJ = some (.inl N)) (k : am_Wp p l e R s m args below meth c Q Γ M.2.2.1 E0 S0 N.1 N.2.1 N.2.2.1 N.2.2.2) : am_Wp p l e R s m args below meth c Q Γ M.2.2.1 E0 S0 pc L st es := by
  obtain ⟨hx, hb, hml, hown, hts, hKK, hb1, hb2, ho, hini, hfr, hlo⟩ := id C
  unfold am_conl at h
  split at h
  · rename_i v hs
    split at h
    · rename_i hok
      obtain rfl := am_nx_inv h
      rcases am_con_ok M.1 _ (am_lk hs) with ⟨w, hw, hlk⟩ | ⟨w, hw, hlk⟩ | ⟨j, tx, hw, hj, hsk, hlk⟩
      · dsimp only at hw
        subst hw
        cases hok
      · dsimp only at hw
        subst hw
        exact fun hn H locs ls a b d => lv_ldc2 hx hb hown (hts _ (am_gB hlk rfl)) hd (k hn H locs ls a b d)
      · dsimp only at hw
        subst hw
        cases hok
    · cases h
  · cases h
theorem am_arr_inv {es : am_H} {x : Nat} {q : FieldType × am_A} (h : am_arr xs es x = some q) : (x < 1000000 ∧ es[x]? = some (Sum.inl q)) ∨ (¬ x < 1000000 ∧ ∃ l, am_ro xs (x - 1000000) = some (q.1, l) ∧ q.2 = Sum.inl l) := by
  unfold am_arr at h
  split at h
  · rename_i hx
    split at h
    · rename_i q' hq
      cases h
      exact Or.inl ⟨hx, hq⟩
    · cases h
  · rename_i hx
    split at h
    · rename_i ty l hq
      cases h
      exact Or.inr ⟨hx, l, hq, rfl⟩
    · cases h
theorem am_ro_inv {j : Nat} {q : FieldType × List Int32} (hKK : am_KK Γ xs s) (hb2 : ∀ a : Nat, a < am_base Γ → s.heap[a]? = Γ.2.2.1[a]?) (h : am_ro xs j = some q) : ∃ t : Nat, am_rov Γ j = .ref t ∧ va_T q.1 t q.2.length (fun k => .int (q.2.getD k 0)) (fun q : Nat => am_base Γ ≤ q) s s.heap := by
  have hq : ∀ a : Nat, a < Γ.2.2.1.size → ¬ am_base Γ ≤ a → s.heap[a]? = Γ.2.2.1[a]? := fun a ha _ => hb2 a ha
  obtain ⟨-, -, -, -, -, h6, -, -, -, -, h11, h12, h13⟩ := hKK
  unfold am_ro at h
  split at h
  · rename_i hj
    cases h; subst hj
    exact ⟨_, rfl, va_T.kept h11 hq⟩
  · split at h
    · rename_i hj
      cases h; subst hj
      exact ⟨_, rfl, va_T.kept h12 hq⟩
    · split at h
      · rename_i hj
        cases h; subst hj
        exact ⟨_, rfl, va_T.kept h13 hq⟩
      · split at h
        · rename_i hj
          split at h
          · rename_i lb hl
            cases h
            have hlt : j - 100 < 10 := (List.getElem?_eq_some_iff.mp hl).1
            have h7 := va_T.kept (h6.1 (j - 100) hlt).2.2.2 hq
            refine ⟨Γ.2.2.2.2.1 (j - 100), ?_, ?_⟩
            · unfold am_rov
              rw [if_neg (by omega), if_pos (by omega)]
            · have e1 : (am_bs.map List.length).getD (j - 100) 0 = lb.length := by
                rw [List.getD_eq_getElem?_getD, List.getElem?_map, hl]; rfl
              have e2 : am_bs.getD (j - 100) [] = lb := by rw [List.getD_eq_getElem?_getD, hl]; rfl
              rw [e1, e2] at h7
              exact h7
          · cases h
        · cases h
theorem sd_iaload (C : am_Cx p R s m args meth c Γ xs M cc E0) {pc : Nat} {L : am_L} {st : List Value} {es : am_H} {N : Nat × (am_L × (List Value × am_H))} (hd : decode cc pc = .ok (.iaload, 1)) (h : am_aload xs st (pc + 1) L es [.int] = some (.inl N)) (k : am_Wp p l e R s m args below meth c Q Γ M.2.2.1 E0 S0 N.1 N.2.1 N.2.2.1 N.2.2.2) : am_Wp p l e R s m args below meth c Q Γ M.2.2.1 E0 S0 pc L st es := by
  obtain ⟨hx, hb, hml, hown, hts, hKK, hb1, hb2, ho, hini, hfr, hlo⟩ := id C
  unfold am_aload at h
  split at h
  · rename_i i x r
    split at h
    · rename_i ty lst hq
      split at h
      · rename_i hty
        split at h
        · rename_i v hv
          obtain rfl := am_nx_inv h
          obtain ⟨hin, hv⟩ := am_get_inv hv
          intro hn H locs ls a b d
          have kk : W p l e R s m args below meth c H locs (es.length - E0) (am_sz es - S0) Q (F0 m (pc + 1) ls (.int v :: r.map (am_cV Γ))) := k hn H locs ls a b d
          show W p l e R s m args below meth c H locs (es.length - E0) (am_sz es - S0) Q (F0 m pc ls (.int i :: am_cV Γ (.ref x) :: r.map (am_cV Γ)))
          have hgd : lst.getD i.toNatClampNeg 0 = v := by rw [List.getD_eq_getElem?_getD, hv]; rfl
          rcases am_arr_inv hq with ⟨ha, he⟩ | ⟨ha, l2, he, h2⟩
          · rw [am_cV_lo ha]
            have hc := am_cW_at (Γ := Γ) he
            have hK1 := am_K1 hKK a he
            rw [← hgd] at kk
            obtain rfl := List.mem_singleton.mp hty
            exact va_iald (f := fun j => lst.getD j 0) hx hb hK1 a.2.1 x 0 hc rfl hin hd kk
          · obtain ⟨t, ht1, ht2⟩ := am_ro_inv hKK hb2 he
            cases h2
            rw [am_cV_hi ha, ht1]
            obtain rfl := List.mem_singleton.mp hty
            exact va_ti hx hb ht2 b hin (by show Value.int _ = _; rw [hgd]) hd kk
        · cases h
      · cases h
    · cases h
  · cases h
theorem sd_baload (C : am_Cx p R s m args meth c Γ xs M cc E0) {pc : Nat} {L : am_L} {st : List Value} {es : am_H} {N : Nat × (am_L × (List Value × am_H))} (hd : decode cc pc = .ok (.baload, 1)) (h : am_aload xs st (pc + 1) L es [.byte, .boolean] = some (.inl N)) (k : am_Wp p l e R s m args below meth c Q Γ M.2.2.1 E0 S0 N.1 N.2.1 N.2.2.1 N.2.2.2) : am_Wp p l e R s m args below meth c Q Γ M.2.2.1 E0 S0 pc L st es := by
  obtain ⟨hx, hb, hml, hown, hts, hKK, hb1, hb2, ho, hini, hfr, hlo⟩ := id C
  unfold am_aload at h
  split at h
  · rename_i i x r
    split at h
    · rename_i ty lst hq
      split at h
      · rename_i hty
        split at h
        · rename_i v hv
          obtain rfl := am_nx_inv h
          obtain ⟨hin, hv⟩ := am_get_inv hv
          intro hn H locs ls a b d
          have kk : W p l e R s m args below meth c H locs (es.length - E0) (am_sz es - S0) Q (F0 m (pc + 1) ls (.int v :: r.map (am_cV Γ))) := k hn H locs ls a b d
          show W p l e R s m args below meth c H locs (es.length - E0) (am_sz es - S0) Q (F0 m pc ls (.int i :: am_cV Γ (.ref x) :: r.map (am_cV Γ)))
          have hgd : lst.getD i.toNatClampNeg 0 = v := by rw [List.getD_eq_getElem?_getD, hv]; rfl
          rcases am_arr_inv hq with ⟨ha, he⟩ | ⟨ha, l2, he, h2⟩
          · rw [am_cV_lo ha]
            have hc := am_cW_at (Γ := Γ) he
            have hK1 := am_K1 hKK a he
            rw [← hgd] at kk
            rcases (show ty = .byte ∨ ty = .boolean by simpa using hty) with rfl | rfl
            · exact va_bald (f := fun j => lst.getD j 0) hx hb hK1 a.2.1 x 0 hc rfl hin hd kk
            · exact va_zald (f := fun j => lst.getD j 0) hx hb hK1 a.2.1 x 0 hc rfl hin hd kk
          · obtain ⟨t, ht1, ht2⟩ := am_ro_inv hKK hb2 he
            cases h2
            rw [am_cV_hi ha, ht1]
            rcases (show ty = .byte ∨ ty = .boolean by simpa using hty) with rfl | rfl
            · exact va_tb hx hb ht2 b hin (by show Value.int _ = _; rw [hgd]) hd kk
            · exact va_tz hx hb ht2 b hin (by show Value.int _ = _; rw [hgd]) hd kk
        · cases h
      · cases h
    · cases h
  · cases h
theorem sd_laload (C : am_Cx p R s m args meth c Γ xs M cc E0) {pc : Nat} {L : am_L} {st : List Value} {es : am_H} {N : Nat × (am_L × (List Value × am_H))} (hd : decode cc pc = .ok (.laload, 1)) (h : am_lald xs st (pc + 1) L es = some (.inl N)) (k : am_Wp p l e R s m args below meth c Q Γ M.2.2.1 E0 S0 N.1 N.2.1 N.2.2.1 N.2.2.2) : am_Wp p l e R s m args below meth c Q Γ M.2.2.1 E0 S0 pc L st es := by
  obtain ⟨hx, hb, hml, hown, hts, hKK, hb1, hb2, ho, hini, hfr, hlo⟩ := id C
  unfold am_lald at h
  split at h
  · rename_i i x r
    split at h
    · rename_i lst hq
      split at h
      · rename_i v hv
        obtain rfl := am_nx_inv h
        obtain ⟨hin, hv⟩ := am_get_inv hv
        intro hn H locs ls a b d
        have kk : W p l e R s m args below meth c H locs (es.length - E0) (am_sz es - S0) Q (F0 m (pc + 1) ls (.long v :: r.map (am_cV Γ))) := k hn H locs ls a b d
        show W p l e R s m args below meth c H locs (es.length - E0) (am_sz es - S0) Q (F0 m pc ls (.int i :: am_cV Γ (.ref x) :: r.map (am_cV Γ)))
        have hgd : lst.getD i.toNatClampNeg 0 = v := by rw [List.getD_eq_getElem?_getD, hv]; rfl
        rcases am_arr_inv hq with ⟨ha, he⟩ | ⟨ha, l2, he, h2⟩
        · rw [am_cV_lo ha]
          have hc := am_cW_at (Γ := Γ) he
          have hK1 := am_K1 hKK a he
          rw [← hgd] at kk
          exact va_lald (f := fun j => lst.getD j 0) hx hb hK1 a.2.1 x 0 hc rfl hin hd kk
        · cases h2
      · cases h
    · cases h
  · cases h
theorem sd_aaload (C : am_Cx p R s m args meth c Γ xs M cc E0) {pc : Nat} {L : am_L} {st : List Value} {es : am_H} {N : Nat × (am_L × (List Value × am_H))} (hd : decode cc pc = .ok (.aaload, 1)) (h : am_aald xs st (pc + 1) L es = some (.inl N)) (k : am_Wp p l e R s m args below meth c Q Γ M.2.2.1 E0 S0 N.1 N.2.1 N.2.2.1 N.2.2.2) : am_Wp p l e R s m args below meth c Q Γ M.2.2.1 E0 S0 pc L st es := by
  obtain ⟨hx, hb, hml, hown, hts, hKK, hb1, hb2, ho, hini, hfr, hlo⟩ := id C
  unfold am_aald at h
  split at h
  · rename_i i x r
    split at h
    · rename_i CC lst hq
      split at h
      · rename_i v hv
        by_cases hvl : v.all (fun q => decide (q < 1000000)) = true
        case neg => rw [if_neg hvl] at h; cases h
        rw [if_pos hvl] at h
        obtain rfl := am_nx_inv h
        obtain ⟨hin, hv⟩ := am_get_inv hv
        have hgd : lst.getD i.toNatClampNeg none = v := by rw [List.getD_eq_getElem?_getD, hv]; rfl
        rcases am_arr_inv hq with ⟨ha, he⟩ | ⟨ha, l2, he, h2⟩
        · intro hn H locs ls a b d
          have hve : am_cV Γ (am_rf v) = va_rf (v.map (fun q => am_base Γ + q)) := by
            cases v with
            | none => rfl
            | some q => exact am_cV_lo (by simpa using hvl)
          have kk : W p l e R s m args below meth c H locs (es.length - E0) (am_sz es - S0) Q (F0 m (pc + 1) ls (va_rf (v.map (fun q => am_base Γ + q)) :: r.map (am_cV Γ))) := by rw [← hve]; exact k hn H locs ls a b d
          show W p l e R s m args below meth c H locs (es.length - E0) (am_sz es - S0) Q (F0 m pc ls (.int i :: am_cV Γ (.ref x) :: r.map (am_cV Γ)))
          rw [am_cV_lo ha]
          have hc := am_cW_at (Γ := Γ) he
          have hK1 := am_K1 hKK a he
          rw [← hgd] at kk
          exact va_aldq (f := fun j => (lst.getD j none).map (fun q => am_base Γ + q)) hx hb hK1 a.2.1 x 0 hc rfl hin hd kk
        · cases h2
      · cases h
    · cases h
  · cases h
theorem sd_arraylength (C : am_Cx p R s m args meth c Γ xs M cc E0) {pc : Nat} {L : am_L} {st : List Value} {es : am_H} {N : Nat × (am_L × (List Value × am_H))} (hd : decode cc pc = .ok (.arraylength, 1)) (h : am_alen xs st (pc + 1) L es = some (.inl N)) (k : am_Wp p l e R s m args below meth c Q Γ M.2.2.1 E0 S0 N.1 N.2.1 N.2.2.1 N.2.2.2) : am_Wp p l e R s m args below meth c Q Γ M.2.2.1 E0 S0 pc L st es := by
  obtain ⟨hx, hb, hml, hown, hts, hKK, hb1, hb2, ho, hini, hfr, hlo⟩ := id C
  unfold am_alen at h
  split at h
  · rename_i x r
    split at h
    · rename_i ty q2 hq
      obtain rfl := am_nx_inv h
      intro hn H locs ls a b d
      have kk : W p l e R s m args below meth c H locs (es.length - E0) (am_sz es - S0) Q (F0 m (pc + 1) ls (.int (Int32.ofNat (am_len q2)) :: r.map (am_cV Γ))) := k hn H locs ls a b d
      show W p l e R s m args below meth c H locs (es.length - E0) (am_sz es - S0) Q (F0 m pc ls (am_cV Γ (.ref x) :: r.map (am_cV Γ)))
      rcases am_arr_inv hq with ⟨ha, he⟩ | ⟨ha, l2, he, h2⟩
      · rw [am_cV_lo ha]
        have hc := am_cW_at (Γ := Γ) he
        have hK1 := am_K1 hKK a he
        exact va_alen hx hb hK1 a.2.1 x 0 (x := am_cA Γ q2) hc rfl (by rcases q2 with f | f | f <;> rfl) hd kk
      · obtain ⟨t, ht1, ht2⟩ := am_ro_inv hKK hb2 he
        cases h2
        rw [am_cV_hi ha, ht1]
        exact va_tlen hx hb ht2 b rfl hd kk
    · cases h
  · cases h
theorem am_updL (lst : List Int32) {k : Nat} (hk : k < lst.length) (v : Int32) : (upd (fun j => lst.getD j 0) k v) = fun j => (lst.set k v).getD j 0 := by
  funext j
  unfold upd
  simp only [List.getD_eq_getElem?_getD, List.getElem?_set]
  by_cases h : j = k
  · subst h
    rw [if_pos rfl, if_pos rfl, if_pos hk]; rfl
  · rw [if_neg h, if_neg (fun q => h q.symm)]
theorem am_updJ (lst : List Int64) {k : Nat} (hk : k < lst.length) (v : Int64) : (vp_updL (fun j => lst.getD j 0) k v) = fun j => (lst.set k v).getD j 0 := by
  funext j
  unfold vp_updL
  simp only [List.getD_eq_getElem?_getD, List.getElem?_set]
  by_cases h : j = k
  · subst h
    rw [if_pos rfl, if_pos rfl, if_pos hk]; rfl
  · rw [if_neg h, if_neg (fun q => h q.symm)]
theorem am_updA (Γ : am_G) (lst : List (Option Nat)) {k v : Nat} (hk : k < lst.length) : (va_up (fun j => (lst.getD j none).map (fun q => am_base Γ + q)) k (some (am_base Γ + v))) = fun j => ((lst.set k (some v)).getD j none).map (fun q => am_base Γ + q) := by
  funext j
  unfold va_up
  simp only [List.getD_eq_getElem?_getD, List.getElem?_set]
  by_cases h : j = k
  · subst h
    rw [if_pos rfl, if_pos rfl, if_pos hk]; rfl
  · rw [if_neg h, if_neg (fun q => h q.symm)]
theorem sd_iastore (C : am_Cx p R s m args meth c Γ xs M cc E0) {pc : Nat} {L : am_L} {st : List Value} {es : am_H} {N : Nat × (am_L × (List Value × am_H))} (hd : decode cc pc = .ok (.iastore, 1)) (h : am_astore st (pc + 1) L es [.int] (fun _ x => x) = some (.inl N)) (k : am_Wp p l e R s m args below meth c Q Γ M.2.2.1 E0 S0 N.1 N.2.1 N.2.2.1 N.2.2.2) : am_Wp p l e R s m args below meth c Q Γ M.2.2.1 E0 S0 pc L st es := by
  obtain ⟨hx, hb, hml, hown, hts, hKK, hb1, hb2, ho, hini, hfr, hlo⟩ := id C
  unfold am_astore at h
  split at h
  · rename_i v i x r
    split at h
    · rename_i ty lst he
      split at h
      · rename_i hc0
        obtain ⟨ha, hi0, hil, hty⟩ := hc0
        obtain rfl := am_nx_inv h
        intro hn H locs ls a b d
        show W p l e R s m args below meth c H locs (es.length - E0) (am_sz es - S0) Q (F0 m pc ls (.int v :: .int i :: am_cV Γ (.ref x) :: r.map (am_cV Γ)))
        rw [am_cV_lo ha]
        have hc := am_cW_at (Γ := Γ) he
        have hK1 := am_K1 hKK a he
        have hA := am_cW_D Γ es
        have hin : vp_in i lst.length := fun q => q.elim hi0 (fun q => absurd hil (Nat.not_lt.mpr q))
        obtain rfl := List.mem_singleton.mp hty
        have kk : ∀ (H1 : Heap) (locs1 : List Loc), va_P Γ.1 am_cl ((am_cW Γ es).set x (am_base Γ + x, .inl (am_cT Γ .int, lst.length, .inl (upd (fun j => lst.getD j 0) i.toNatClampNeg (v))))) H1 → va_D (fun q : Nat => am_base Γ ≤ q) ((am_cW Γ es).set x (am_base Γ + x, .inl (am_cT Γ .int, lst.length, .inl (upd (fun j => lst.getD j 0) i.toNatClampNeg (v))))) → va_S (fun q : Nat => am_base Γ ≤ q) s.heap H1 locs1 → W p l e R s m args below meth c H1 locs1 (es.length - E0) (am_sz es - S0) Q (F0 m (pc + 1) ls (r.map (am_cV Γ))) := by
          intro H1 locs1 hP1 _ hS1
          rw [am_updL lst hil (v)] at hP1
          have hW1 : am_Wd Γ (es.set x (.inl (.int, .inl (lst.set i.toNatClampNeg (v))))) s H1 := am_Wd.put a he (by rw [show am_cE Γ (.inl (.int, .inl (lst.set i.toNatClampNeg (v)))) = .inl (am_cT Γ .int, (lst.set i.toNatClampNeg (v)).length, .inl (fun j => (lst.set i.toNatClampNeg (v)).getD j 0)) from rfl, List.length_set]; exact hP1) hS1 hb1 hb2 (fun ty a' q => by cases q; exact ⟨_, rfl⟩)
          have := k hn H1 locs1 ls hW1 hS1 d
          rwa [List.length_set, am_sz_set he (by simp [am_esz, am_len])] at this
        exact va_iast (f := fun j => lst.getD j 0) hx hb hK1 a.2.1 hA b x 0 hc rfl hin hd kk
      · cases h
    · cases h
  · cases h
theorem sd_bastore (C : am_Cx p R s m args meth c Γ xs M cc E0) {pc : Nat} {L : am_L} {st : List Value} {es : am_H} {N : Nat × (am_L × (List Value × am_H))} (hd : decode cc pc = .ok (.bastore, 1)) (h : am_astore st (pc + 1) L es [.byte, .boolean] vp_nar = some (.inl N)) (k : am_Wp p l e R s m args below meth c Q Γ M.2.2.1 E0 S0 N.1 N.2.1 N.2.2.1 N.2.2.2) : am_Wp p l e R s m args below meth c Q Γ M.2.2.1 E0 S0 pc L st es := by
  obtain ⟨hx, hb, hml, hown, hts, hKK, hb1, hb2, ho, hini, hfr, hlo⟩ := id C
  unfold am_astore at h
  split at h
  · rename_i v i x r
    split at h
    · rename_i ty lst he
      split at h
      · rename_i hc0
        obtain ⟨ha, hi0, hil, hty⟩ := hc0
        obtain rfl := am_nx_inv h
        intro hn H locs ls a b d
        show W p l e R s m args below meth c H locs (es.length - E0) (am_sz es - S0) Q (F0 m pc ls (.int v :: .int i :: am_cV Γ (.ref x) :: r.map (am_cV Γ)))
        rw [am_cV_lo ha]
        have hc := am_cW_at (Γ := Γ) he
        have hK1 := am_K1 hKK a he
        have hA := am_cW_D Γ es
        have hin : vp_in i lst.length := fun q => q.elim hi0 (fun q => absurd hil (Nat.not_lt.mpr q))
        rcases (show ty = .byte ∨ ty = .boolean by simpa using hty) with rfl | rfl
        · have kk : ∀ (H1 : Heap) (locs1 : List Loc), va_P Γ.1 am_cl ((am_cW Γ es).set x (am_base Γ + x, .inl (am_cT Γ .byte, lst.length, .inl (upd (fun j => lst.getD j 0) i.toNatClampNeg (vp_nar .byte v))))) H1 → va_D (fun q : Nat => am_base Γ ≤ q) ((am_cW Γ es).set x (am_base Γ + x, .inl (am_cT Γ .byte, lst.length, .inl (upd (fun j => lst.getD j 0) i.toNatClampNeg (vp_nar .byte v))))) → va_S (fun q : Nat => am_base Γ ≤ q) s.heap H1 locs1 → W p l e R s m args below meth c H1 locs1 (es.length - E0) (am_sz es - S0) Q (F0 m (pc + 1) ls (r.map (am_cV Γ))) := by
            intro H1 locs1 hP1 _ hS1
            rw [am_updL lst hil (vp_nar .byte v)] at hP1
            have hW1 : am_Wd Γ (es.set x (.inl (.byte, .inl (lst.set i.toNatClampNeg (vp_nar .byte v))))) s H1 := am_Wd.put a he (by rw [show am_cE Γ (.inl (.byte, .inl (lst.set i.toNatClampNeg (vp_nar .byte v)))) = .inl (am_cT Γ .byte, (lst.set i.toNatClampNeg (vp_nar .byte v)).length, .inl (fun j => (lst.set i.toNatClampNeg (vp_nar .byte v)).getD j 0)) from rfl, List.length_set]; exact hP1) hS1 hb1 hb2 (fun ty a' q => by cases q; exact ⟨_, rfl⟩)
            have := k hn H1 locs1 ls hW1 hS1 d
            rwa [List.length_set, am_sz_set he (by simp [am_esz, am_len])] at this
          exact va_bast (f := fun j => lst.getD j 0) hx hb hK1 a.2.1 hA b x 0 hc rfl hin hd kk
        · have kk : ∀ (H1 : Heap) (locs1 : List Loc), va_P Γ.1 am_cl ((am_cW Γ es).set x (am_base Γ + x, .inl (am_cT Γ .boolean, lst.length, .inl (upd (fun j => lst.getD j 0) i.toNatClampNeg (vp_nar .boolean v))))) H1 → va_D (fun q : Nat => am_base Γ ≤ q) ((am_cW Γ es).set x (am_base Γ + x, .inl (am_cT Γ .boolean, lst.length, .inl (upd (fun j => lst.getD j 0) i.toNatClampNeg (vp_nar .boolean v))))) → va_S (fun q : Nat => am_base Γ ≤ q) s.heap H1 locs1 → W p l e R s m args below meth c H1 locs1 (es.length - E0) (am_sz es - S0) Q (F0 m (pc + 1) ls (r.map (am_cV Γ))) := by
            intro H1 locs1 hP1 _ hS1
            rw [am_updL lst hil (vp_nar .boolean v)] at hP1
            have hW1 : am_Wd Γ (es.set x (.inl (.boolean, .inl (lst.set i.toNatClampNeg (vp_nar .boolean v))))) s H1 := am_Wd.put a he (by rw [show am_cE Γ (.inl (.boolean, .inl (lst.set i.toNatClampNeg (vp_nar .boolean v)))) = .inl (am_cT Γ .boolean, (lst.set i.toNatClampNeg (vp_nar .boolean v)).length, .inl (fun j => (lst.set i.toNatClampNeg (vp_nar .boolean v)).getD j 0)) from rfl, List.length_set]; exact hP1) hS1 hb1 hb2 (fun ty a' q => by cases q; exact ⟨_, rfl⟩)
            have := k hn H1 locs1 ls hW1 hS1 d
            rwa [List.length_set, am_sz_set he (by simp [am_esz, am_len])] at this
          exact va_zast (f := fun j => lst.getD j 0) hx hb hK1 a.2.1 hA b x 0 hc rfl hin hd kk
      · cases h
    · cases h
  · cases h
theorem sd_lastore (C : am_Cx p R s m args meth c Γ xs M cc E0) {pc : Nat} {L : am_L} {st : List Value} {es : am_H} {N : Nat × (am_L × (List Value × am_H))} (hd : decode cc pc = .ok (.lastore, 1)) (h : am_last st (pc + 1) L es = some (.inl N)) (k : am_Wp p l e R s m args below meth c Q Γ M.2.2.1 E0 S0 N.1 N.2.1 N.2.2.1 N.2.2.2) : am_Wp p l e R s m args below meth c Q Γ M.2.2.1 E0 S0 pc L st es := by
  obtain ⟨hx, hb, hml, hown, hts, hKK, hb1, hb2, ho, hini, hfr, hlo⟩ := id C
  unfold am_last at h
  split at h
  · rename_i v i x r
    split at h
    · rename_i lst he
      split at h
      · rename_i hc0
        obtain ⟨ha, hi0, hil⟩ := hc0
        obtain rfl := am_nx_inv h
        intro hn H locs ls a b d
        show W p l e R s m args below meth c H locs (es.length - E0) (am_sz es - S0) Q (F0 m pc ls (.long v :: .int i :: am_cV Γ (.ref x) :: r.map (am_cV Γ)))
        rw [am_cV_lo ha]
        have hc := am_cW_at (Γ := Γ) he
        have hK1 := am_K1 hKK a he
        have hA := am_cW_D Γ es
        have hin : vp_in i lst.length := fun q => q.elim hi0 (fun q => absurd hil (Nat.not_lt.mpr q))
        refine va_last (f := fun j => lst.getD j 0) hx hb hK1 a.2.1 hA b x 0 hc rfl hin hd ?_
        intro H1 locs1 hP1 _ hS1
        rw [am_updJ lst hil v] at hP1
        have hW1 : am_Wd Γ (es.set x (.inl (.long, .inr (.inl (lst.set i.toNatClampNeg v))))) s H1 := am_Wd.put a he (by rw [show am_cE Γ (.inl (.long, .inr (.inl (lst.set i.toNatClampNeg v)))) = .inl (am_cT Γ .long, (lst.set i.toNatClampNeg v).length, .inr (.inl (fun j => (lst.set i.toNatClampNeg v).getD j 0))) from rfl, List.length_set]; exact hP1) hS1 hb1 hb2 (fun ty a' q => by cases q; exact ⟨_, rfl⟩)
        have := k hn H1 locs1 ls hW1 hS1 d
        rwa [List.length_set, am_sz_set he (by simp [am_esz, am_len])] at this
      · cases h
    · cases h
  · cases h
theorem sd_aastore (C : am_Cx p R s m args meth c Γ xs M cc E0) {pc : Nat} {L : am_L} {st : List Value} {es : am_H} {N : Nat × (am_L × (List Value × am_H))} (hd : decode cc pc = .ok (.aastore, 1)) (h : am_aast st (pc + 1) L es = some (.inl N)) (k : am_Wp p l e R s m args below meth c Q Γ M.2.2.1 E0 S0 N.1 N.2.1 N.2.2.1 N.2.2.2) : am_Wp p l e R s m args below meth c Q Γ M.2.2.1 E0 S0 pc L st es := by
  obtain ⟨hx, hb, hml, hown, hts, hKK, hb1, hb2, ho, hini, hfr, hlo⟩ := id C
  unfold am_aast at h
  split at h
  · rename_i v i x r
    split at h
    · rename_i CC lst ci fs he hv
      split at h
      · rename_i hc0
        obtain ⟨ha, hva, hci, hCC, hi0, hil⟩ := hc0
        subst hCC
        obtain rfl := am_nx_inv h
        intro hn H locs ls a b d
        show W p l e R s m args below meth c H locs (es.length - E0) (am_sz es - S0) Q (F0 m pc ls (am_cV Γ (.ref v) :: .int i :: am_cV Γ (.ref x) :: r.map (am_cV Γ)))
        rw [am_cV_lo ha, am_cV_lo hva]
        have hc := am_cW_at (Γ := Γ) he
        have hcv := am_cW_at (Γ := Γ) hv
        have hK1 := am_K1 hKK a he
        have hA := am_cW_D Γ es
        have hin : vp_in i lst.length := fun q => q.elim hi0 (fun q => absurd hil (Nat.not_lt.mpr q))
        refine va_astq (r := (am_cn ci, am_T ci, am_nf ci)) (f := fun j => (lst.getD j none).map (fun q => am_base Γ + q)) hx hb hK1 a.2.1 hA b x 0 v ci hc rfl hcv (am_cls_ok ci hci) hin hd ?_
        intro H1 locs1 hP1 _ hS1
        rw [am_updA Γ lst hil] at hP1
        have hW1 : am_Wd Γ (es.set x (.inl (.object (am_cn ci), .inr (.inr (lst.set i.toNatClampNeg (some v)))))) s H1 := am_Wd.put a he (by rw [show am_cE Γ (.inl (.object (am_cn ci), .inr (.inr (lst.set i.toNatClampNeg (some v))))) = .inl (am_cT Γ (.object (am_cn ci)), (lst.set i.toNatClampNeg (some v)).length, .inr (.inr (.inr (.inr (fun j => ((lst.set i.toNatClampNeg (some v)).getD j none).map (fun q => am_base Γ + q)))))) from rfl, List.length_set]; exact hP1) hS1 hb1 hb2 (fun ty a' q => by cases q; exact ⟨_, rfl⟩)
        have := k hn H1 locs1 ls hW1 hS1 d
        rwa [List.length_set, am_sz_set he (by simp [am_esz, am_len])] at this
      · cases h
    · cases h
  · cases h
theorem am_df_cV (Γ : am_G) : ∀ i, i < 10 → (am_df i).map (am_cV Γ) = am_df i := fun i h => match i, h with
  | 0, _ => rfl | 1, _ => rfl | 2, _ => rfl | 3, _ => rfl | 4, _ => rfl | 5, _ => rfl | 6, _ => rfl | 7, _ => rfl | 8, _ => rfl | 9, _ => rfl
  | i + 10, h => absurd h (by omega)
theorem am_cW_len (Γ : am_G) (es : am_H) : (am_cW Γ es).length = es.length := by unfold am_cW; simp
theorem am_born {es : am_H} {H1 : Heap} {q : Nat} {x : va_E} (hE : E0 ≤ es.length) (hb1 : s.heap.size = am_base Γ + E0) (hP : va_P Γ.1 am_cl (am_cW Γ es ++ [(q, x)]) H1) (hD : va_D (fun q : Nat => am_base Γ ≤ q) (am_cW Γ es ++ [(q, x)])) (hz : H1.size ≤ s.heap.size + (es.length - E0 + 1)) : q = am_base Γ + es.length := by
  have hl : (am_cW Γ es ++ [(q, x)])[es.length]? = some (q, x) := by
    rw [List.getElem?_append_right (by rw [am_cW_len]; exact Nat.le_refl _), am_cW_len, Nat.sub_self]; rfl
  have h1 := va_at.lt (hP _ _ hl)
  have h2 := hD.2 _ _ hl
  dsimp only at h1 h2
  rcases Nat.lt_or_ge q (am_base Γ + es.length) with h3 | h3
  · obtain ⟨j, rfl⟩ := Nat.exists_eq_add_of_le h2
    have hj : j < es.length := by omega
    have h4 : (am_cW Γ es ++ [(am_base Γ + j, x)])[j]? = some (am_base Γ + j, am_cE Γ es[j]) := by
      rw [List.getElem?_append_left (by rw [am_cW_len]; exact hj)]
      exact am_cW_at (List.getElem?_eq_getElem hj)
    have h5 := hD.1 _ _ _ _ h4 hl rfl
    omega
  · omega
theorem am_Wd.push {es : am_H} {x : am_E} {H H1 : Heap} {locs1 : List Loc} (hW : am_Wd Γ es s H) (hP : va_P Γ.1 am_cl (am_cW Γ es ++ [(am_base Γ + es.length, am_cE Γ x)]) H1) (hS : va_S (fun q : Nat => am_base Γ ≤ q) s.heap H1 locs1) (hb : s.heap.size = am_base Γ + E0) (hbq : ∀ a : Nat, a < am_base Γ → s.heap[a]? = Γ.2.2.1[a]?) (hty : ∀ ty a, x = Sum.inl (ty, a) → ArrOfT s (am_cT Γ ty) ty ∧ va_RA s (am_cT Γ ty) ty) : am_Wd Γ (es ++ [x]) s H1 := by
  refine ⟨fun a ha => ?_, by rw [← am_cW_push]; exact hP, fun j ty a hj => ?_⟩
  · rw [hS.2.1 a (by omega) (by omega)]
    exact hbq a ha
  · by_cases hlt : j < es.length
    · rw [List.getElem?_append_left hlt] at hj
      exact hW.2.2 j ty a hj
    · rw [List.getElem?_append_right (by omega)] at hj
      have h0 : j - es.length < 1 := (List.getElem?_eq_some_iff.mp hj).1
      rw [show j - es.length = 0 by omega] at hj
      cases hj
      exact hty ty a rfl
theorem sd_new (C : am_Cx p R s m args meth c Γ xs M cc E0) {pc : Nat} {L : am_L} {st : List Value} {es : am_H} {N : Nat × (am_L × (List Value × am_H))} {idx : Nat} (hd : decode cc pc = .ok (.new idx, 3)) (h : am_newo M.1 idx st (pc + 3) L es = some (.inl N)) (hE : E0 ≤ es.length) (hS0 : S0 ≤ am_sz es) (hE' : N.2.2.2.length - E0 ≤ R.cells) (hS' : am_sz N.2.2.2 - S0 ≤ R.slots) (k : am_Wp p l e R s m args below meth c Q Γ M.2.2.1 E0 S0 N.1 N.2.1 N.2.2.1 N.2.2.2) : am_Wp p l e R s m args below meth c Q Γ M.2.2.1 E0 S0 pc L st es := by
  obtain ⟨hx, hb, hml, hown, hts, hKK, hb1, hb2, ho, hini, hfr, hlo⟩ := id C
  unfold am_newo at h
  split at h
  · rename_i ci hs
    split at h
    · rename_i hlt
      obtain rfl := am_nx_inv h
      obtain ⟨hci, hcl⟩ := am_new_ok M.1 _ (am_lk hs)
      dsimp only at hci hcl
      have hnf : am_esz (.inr (ci, am_df ci)) = am_nf ci := (am_dfk_ok ci hci).1
      rw [List.length_append, List.length_singleton] at hE'
      rw [am_sz_push, hnf] at hS'
      intro hn H locs ls a b d
      refine va_new (C := am_cn ci) (T := am_T ci) (N := am_nf ci) (ci := ci) (fs := am_df ci) hx hb hts (am_wsB hci) (am_y ci) (am_tyk_ok ci hci) hown (hts _ (am_gB hcl rfl)) (hts _ (am_gB (am_ink_ok ci hci).1 rfl)) (hts _ (am_gB (am_ink_ok ci hci).2 rfl)) hKK.1 a.2.1 (am_cW_D Γ es) b (fun q hq => by show am_base Γ ≤ q; omega) (am_cls_ok ci hci) (am_dfk_ok ci hci).2 (by omega) (by omega) hd ?_
      intro q H1 hP1 hD1 hS1
      refine am_up fun hz => ?_
      obtain rfl := am_born hE hb1 hP1 hD1 hz
      have hW1 : am_Wd Γ (es ++ [.inr (ci, am_df ci)]) s H1 := am_Wd.push a (by rw [show am_cE Γ (.inr (ci, am_df ci)) = .inr (ci, (am_df ci).map (am_cV Γ)) from rfl, am_df_cV Γ ci hci]; exact hP1) hS1 hb1 hb2 (fun ty a' q => by cases q)
      have kk := k hn H1 locs ls hW1 hS1 d
      rw [List.length_append, List.length_singleton, am_sz_push, hnf, show es.length + 1 - E0 = es.length - E0 + 1 by omega, show am_sz es + am_nf ci - S0 = am_sz es - S0 + am_nf ci by omega] at kk
      have e1 : am_cV Γ (.ref es.length) = .ref (am_base Γ + es.length) := am_cV_lo (by omega)
      rw [← e1]
      exact kk
    · cases h
  · cases h
theorem sd_newarray (C : am_Cx p R s m args meth c Γ xs M cc E0) {pc : Nat} {L : am_L} {st : List Value} {es : am_H} {N : Nat × (am_L × (List Value × am_H))} {at_ : ArrayType} (hd : decode cc pc = .ok (.newarray at_, 2)) (h : am_newa at_ st (pc + 2) L es = some (.inl N)) (hE : E0 ≤ es.length) (hS0 : S0 ≤ am_sz es) (hE' : N.2.2.2.length - E0 ≤ R.cells) (hS' : am_sz N.2.2.2 - S0 ≤ R.slots) (k : am_Wp p l e R s m args below meth c Q Γ M.2.2.1 E0 S0 N.1 N.2.1 N.2.2.1 N.2.2.2) : am_Wp p l e R s m args below meth c Q Γ M.2.2.1 E0 S0 pc L st es := by
  obtain ⟨hx, hb, hml, hown, hts, hKK, hb1, hb2, ho, hini, hfr, hlo⟩ := id C
  unfold am_newa at h
  split at h
  · rename_i z r
    split at h
    · cases h
    · rename_i hc0
      have hz0 : ¬ z < 0 := fun q => hc0 (Or.inl q)
      have hz1 : z.toNatClampNeg ≤ 1000 := Nat.not_lt.mp fun q => hc0 (Or.inr (Or.inl q))
      have hlt : es.length < 1000 := Decidable.byContradiction fun q => hc0 (Or.inr (Or.inr q))
      split at h
      · obtain rfl := am_nx_inv h
        have hnf : am_esz (.inl (.int, .inl (List.replicate z.toNatClampNeg (0 : Int32)))) = z.toNatClampNeg := List.length_replicate
        rw [List.length_append, List.length_singleton] at hE'
        rw [am_sz_push, hnf] at hS'
        intro hn H locs ls a b d
        refine va_newa (atype := .int) (a0 := (z.toNatClampNeg, .inl (fun j => (List.replicate z.toNatClampNeg (0 : Int32)).getD j 0))) hx hb (hts _ (am_gB am_arr_94 rfl)) rfl hKK.1 a.2.1 (am_cW_D Γ es) b (fun q hq => by show am_base Γ ≤ q; omega) (fun cA => by rw [vp_cell_i]; congr 1; funext j; simp [List.getD_eq_getElem?_getD, List.getElem?_replicate]; split <;> rfl) hz0 rfl (Nat.le_trans (Nat.mul_le_mul hz1 (Nat.le_of_ble_eq_true rfl)) (Nat.le_of_ble_eq_true rfl : 1000 * 8 ≤ 536870912)) (by omega) (by omega) hd ?_
        intro q cA H1 hK1 hP1 hD1 hS1
        refine am_up fun hz => ?_
        obtain ⟨hr1, hr2⟩ := hK1.2 0 _ rfl
        have hcA : cA = am_cT Γ .int := by
          have h9 : s.vm.findClass ("[" ++ FieldType.int.toString) = some cA := hr2
          rw [hKK.2.1] at h9
          unfold am_cT
          rw [h9]; rfl
        subst hcA
        obtain rfl := am_born hE hb1 hP1 hD1 hz
        have hW1 : am_Wd Γ (es ++ [.inl (.int, .inl (List.replicate z.toNatClampNeg (0 : Int32)))]) s H1 := am_Wd.push a (by rw [show am_cE Γ (.inl (.int, .inl (List.replicate z.toNatClampNeg (0 : Int32)))) = .inl (am_cT Γ .int, (List.replicate z.toNatClampNeg (0 : Int32)).length, .inl (fun j => (List.replicate z.toNatClampNeg (0 : Int32)).getD j 0)) from rfl, List.length_replicate]; exact hP1) hS1 hb1 hb2 (fun ty a' q => by cases q; exact ⟨hr1, hr2⟩)
        have kk := k hn H1 locs ls hW1 hS1 d
        rw [List.length_append, List.length_singleton, am_sz_push, hnf, show es.length + 1 - E0 = es.length - E0 + 1 by omega, show am_sz es + z.toNatClampNeg - S0 = am_sz es - S0 + z.toNatClampNeg by omega] at kk
        have e1 : am_cV Γ (.ref es.length) = .ref (am_base Γ + es.length) := am_cV_lo (by omega)
        rw [← e1]
        exact kk
      · obtain rfl := am_nx_inv h
        have hnf : am_esz (.inl (.byte, .inl (List.replicate z.toNatClampNeg (0 : Int32)))) = z.toNatClampNeg := List.length_replicate
        rw [List.length_append, List.length_singleton] at hE'
        rw [am_sz_push, hnf] at hS'
        intro hn H locs ls a b d
        refine va_newa (atype := .byte) (a0 := (z.toNatClampNeg, .inl (fun j => (List.replicate z.toNatClampNeg (0 : Int32)).getD j 0))) hx hb (hts _ (am_gB am_arr_202 rfl)) rfl hKK.1 a.2.1 (am_cW_D Γ es) b (fun q hq => by show am_base Γ ≤ q; omega) (fun cA => by rw [vp_cell_i]; congr 1; funext j; simp [List.getD_eq_getElem?_getD, List.getElem?_replicate]; split <;> rfl) hz0 rfl (Nat.le_trans (Nat.mul_le_mul hz1 (Nat.le_of_ble_eq_true rfl)) (Nat.le_of_ble_eq_true rfl : 1000 * 8 ≤ 536870912)) (by omega) (by omega) hd ?_
        intro q cA H1 hK1 hP1 hD1 hS1
        refine am_up fun hz => ?_
        obtain ⟨hr1, hr2⟩ := hK1.2 0 _ rfl
        have hcA : cA = am_cT Γ .byte := by
          have h9 : s.vm.findClass ("[" ++ FieldType.byte.toString) = some cA := hr2
          rw [hKK.2.1] at h9
          unfold am_cT
          rw [h9]; rfl
        subst hcA
        obtain rfl := am_born hE hb1 hP1 hD1 hz
        have hW1 : am_Wd Γ (es ++ [.inl (.byte, .inl (List.replicate z.toNatClampNeg (0 : Int32)))]) s H1 := am_Wd.push a (by rw [show am_cE Γ (.inl (.byte, .inl (List.replicate z.toNatClampNeg (0 : Int32)))) = .inl (am_cT Γ .byte, (List.replicate z.toNatClampNeg (0 : Int32)).length, .inl (fun j => (List.replicate z.toNatClampNeg (0 : Int32)).getD j 0)) from rfl, List.length_replicate]; exact hP1) hS1 hb1 hb2 (fun ty a' q => by cases q; exact ⟨hr1, hr2⟩)
        have kk := k hn H1 locs ls hW1 hS1 d
        rw [List.length_append, List.length_singleton, am_sz_push, hnf, show es.length + 1 - E0 = es.length - E0 + 1 by omega, show am_sz es + z.toNatClampNeg - S0 = am_sz es - S0 + z.toNatClampNeg by omega] at kk
        have e1 : am_cV Γ (.ref es.length) = .ref (am_base Γ + es.length) := am_cV_lo (by omega)
        rw [← e1]
        exact kk
      · obtain rfl := am_nx_inv h
        have hnf : am_esz (.inl (.boolean, .inl (List.replicate z.toNatClampNeg (0 : Int32)))) = z.toNatClampNeg := List.length_replicate
        rw [List.length_append, List.length_singleton] at hE'
        rw [am_sz_push, hnf] at hS'
        intro hn H locs ls a b d
        refine va_newa (atype := .boolean) (a0 := (z.toNatClampNeg, .inl (fun j => (List.replicate z.toNatClampNeg (0 : Int32)).getD j 0))) hx hb (hts _ (am_gB am_arr_995 rfl)) rfl hKK.1 a.2.1 (am_cW_D Γ es) b (fun q hq => by show am_base Γ ≤ q; omega) (fun cA => by rw [vp_cell_i]; congr 1; funext j; simp [List.getD_eq_getElem?_getD, List.getElem?_replicate]; split <;> rfl) hz0 rfl (Nat.le_trans (Nat.mul_le_mul hz1 (Nat.le_of_ble_eq_true rfl)) (Nat.le_of_ble_eq_true rfl : 1000 * 8 ≤ 536870912)) (by omega) (by omega) hd ?_
        intro q cA H1 hK1 hP1 hD1 hS1
        refine am_up fun hz => ?_
        obtain ⟨hr1, hr2⟩ := hK1.2 0 _ rfl
        have hcA : cA = am_cT Γ .boolean := by
          have h9 : s.vm.findClass ("[" ++ FieldType.boolean.toString) = some cA := hr2
          rw [hKK.2.1] at h9
          unfold am_cT
          rw [h9]; rfl
        subst hcA
        obtain rfl := am_born hE hb1 hP1 hD1 hz
        have hW1 : am_Wd Γ (es ++ [.inl (.boolean, .inl (List.replicate z.toNatClampNeg (0 : Int32)))]) s H1 := am_Wd.push a (by rw [show am_cE Γ (.inl (.boolean, .inl (List.replicate z.toNatClampNeg (0 : Int32)))) = .inl (am_cT Γ .boolean, (List.replicate z.toNatClampNeg (0 : Int32)).length, .inl (fun j => (List.replicate z.toNatClampNeg (0 : Int32)).getD j 0)) from rfl, List.length_replicate]; exact hP1) hS1 hb1 hb2 (fun ty a' q => by cases q; exact ⟨hr1, hr2⟩)
        have kk := k hn H1 locs ls hW1 hS1 d
        rw [List.length_append, List.length_singleton, am_sz_push, hnf, show es.length + 1 - E0 = es.length - E0 + 1 by omega, show am_sz es + z.toNatClampNeg - S0 = am_sz es - S0 + z.toNatClampNeg by omega] at kk
        have e1 : am_cV Γ (.ref es.length) = .ref (am_base Γ + es.length) := am_cV_lo (by omega)
        rw [← e1]
        exact kk
      · obtain rfl := am_nx_inv h
        have hnf : am_esz (.inl (.long, .inr (.inl (List.replicate z.toNatClampNeg (0 : Int64))))) = z.toNatClampNeg := List.length_replicate
        rw [List.length_append, List.length_singleton] at hE'
        rw [am_sz_push, hnf] at hS'
        intro hn H locs ls a b d
        refine va_newa (atype := .long) (a0 := (z.toNatClampNeg, .inr (.inl (fun j => (List.replicate z.toNatClampNeg (0 : Int64)).getD j 0)))) hx hb (hts _ (am_gB am_arr_260 rfl)) rfl hKK.1 a.2.1 (am_cW_D Γ es) b (fun q hq => by show am_base Γ ≤ q; omega) (fun cA => by rw [vp_cell_l]; congr 1; funext j; simp [List.getD_eq_getElem?_getD, List.getElem?_replicate]; split <;> rfl) hz0 rfl (Nat.le_trans (Nat.mul_le_mul hz1 (Nat.le_of_ble_eq_true rfl)) (Nat.le_of_ble_eq_true rfl : 1000 * 8 ≤ 536870912)) (by omega) (by omega) hd ?_
        intro q cA H1 hK1 hP1 hD1 hS1
        refine am_up fun hz => ?_
        obtain ⟨hr1, hr2⟩ := hK1.2 0 _ rfl
        have hcA : cA = am_cT Γ .long := by
          have h9 : s.vm.findClass ("[" ++ FieldType.long.toString) = some cA := hr2
          rw [hKK.2.1] at h9
          unfold am_cT
          rw [h9]; rfl
        subst hcA
        obtain rfl := am_born hE hb1 hP1 hD1 hz
        have hW1 : am_Wd Γ (es ++ [.inl (.long, .inr (.inl (List.replicate z.toNatClampNeg (0 : Int64))))]) s H1 := am_Wd.push a (by rw [show am_cE Γ (.inl (.long, .inr (.inl (List.replicate z.toNatClampNeg (0 : Int64))))) = .inl (am_cT Γ .long, (List.replicate z.toNatClampNeg (0 : Int64)).length, .inr (.inl (fun j => (List.replicate z.toNatClampNeg (0 : Int64)).getD j 0))) from rfl, List.length_replicate]; exact hP1) hS1 hb1 hb2 (fun ty a' q => by cases q; exact ⟨hr1, hr2⟩)
        have kk := k hn H1 locs ls hW1 hS1 d
        rw [List.length_append, List.length_singleton, am_sz_push, hnf, show es.length + 1 - E0 = es.length - E0 + 1 by omega, show am_sz es + z.toNatClampNeg - S0 = am_sz es - S0 + z.toNatClampNeg by omega] at kk
        have e1 : am_cV Γ (.ref es.length) = .ref (am_base Γ + es.length) := am_cV_lo (by omega)
        rw [← e1]
        exact kk
      · cases h
  · cases h
theorem sd_anewarray (C : am_Cx p R s m args meth c Γ xs M cc E0) {pc : Nat} {L : am_L} {st : List Value} {es : am_H} {N : Nat × (am_L × (List Value × am_H))} {idx : Nat} (hd : decode cc pc = .ok (.anewarray idx, 3)) (h : am_newq M.1 idx st (pc + 3) L es = some (.inl N)) (hE : E0 ≤ es.length) (hS0 : S0 ≤ am_sz es) (hE' : N.2.2.2.length - E0 ≤ R.cells) (hS' : am_sz N.2.2.2 - S0 ≤ R.slots) (k : am_Wp p l e R s m args below meth c Q Γ M.2.2.1 E0 S0 N.1 N.2.1 N.2.2.1 N.2.2.2) : am_Wp p l e R s m args below meth c Q Γ M.2.2.1 E0 S0 pc L st es := by
  obtain ⟨hx, hb, hml, hown, hts, hKK, hb1, hb2, ho, hini, hfr, hlo⟩ := id C
  unfold am_newq at h
  split at h
  · rename_i z r
    split at h
    · cases h
    · rename_i hc0
      have hz0 : ¬ z < 0 := fun q => hc0 (Or.inl q)
      have hz1 : z.toNatClampNeg ≤ 1000 := Nat.not_lt.mp fun q => hc0 (Or.inr (Or.inl q))
      have hlt : es.length < 1000 := Decidable.byContradiction fun q => hc0 (Or.inr (Or.inr q))
      split at h
      · rename_i ci hs
        split at h
        · rename_i hci0
          obtain rfl := am_nx_inv h
          obtain ⟨hci, hcl⟩ := am_new_ok M.1 _ (am_lk hs)
          dsimp only at hci hcl
          have hover : va_AO (am_cn ci) s := by
            rcases (show ci = 1 ∨ ci = 3 ∨ ci = 5 by simpa using hci0) with rfl | rfl | rfl
            · exact hKK.2.2.2.1 _ am_arr_34
            · exact hKK.2.2.2.1 _ am_arr_204
            · exact hKK.2.2.2.1 _ am_arr_221
          have hnf : am_esz (.inl (.object (am_cn ci), .inr (.inr (List.replicate z.toNatClampNeg none)))) = z.toNatClampNeg := List.length_replicate
          rw [List.length_append, List.length_singleton] at hE'
          rw [am_sz_push, hnf] at hS'
          intro hn H locs ls a b d
          refine va_newq (C := am_cn ci) hx hb hown (hts _ (am_gB hcl rfl)) hover hKK.1 a.2.1 (am_cW_D Γ es) b (fun q hq => by show am_base Γ ≤ q; omega) hz0 rfl (by omega) (by omega) (by omega) hd ?_
          intro q cA H1 hK1 hP1 hD1 hS1
          refine am_up fun hz => ?_
          obtain ⟨hr1, hr2⟩ := hK1.2 0 _ rfl
          have hcA : cA = am_cT Γ (.object (am_cn ci)) := by
            obtain ⟨kA, comp, -, -, -, h9⟩ := hr2
            rw [hKK.2.1] at h9
            unfold am_cT
            rw [h9]; rfl
          subst hcA
          obtain rfl := am_born hE hb1 hP1 hD1 hz
          have hW1 : am_Wd Γ (es ++ [.inl (.object (am_cn ci), .inr (.inr (List.replicate z.toNatClampNeg none)))]) s H1 := am_Wd.push a (by rw [show am_cE Γ (.inl (.object (am_cn ci), .inr (.inr (List.replicate z.toNatClampNeg none)))) = .inl (am_cT Γ (.object (am_cn ci)), (List.replicate z.toNatClampNeg none).length, .inr (.inr (.inr (.inr (fun j => ((List.replicate z.toNatClampNeg none).getD j none).map (fun q => am_base Γ + q)))))) from rfl, List.length_replicate, show (fun j => ((List.replicate z.toNatClampNeg none).getD j none).map (fun q => am_base Γ + q)) = (fun _ => none) by funext j; simp [List.getD_eq_getElem?_getD, List.getElem?_replicate]; split <;> rfl]; exact hP1) hS1 hb1 hb2 (fun ty a' q => by cases q; exact ⟨hr1, hr2⟩)
          have kk := k hn H1 locs ls hW1 hS1 d
          rw [List.length_append, List.length_singleton, am_sz_push, hnf, show es.length + 1 - E0 = es.length - E0 + 1 by omega, show am_sz es + z.toNatClampNeg - S0 = am_sz es - S0 + z.toNatClampNeg by omega] at kk
          have e1 : am_cV Γ (.ref es.length) = .ref (am_base Γ + es.length) := am_cV_lo (by omega)
          rw [← e1]
          exact kk
        · cases h
      · cases h
  · cases h
end ST
end
section
section SR
variable {p : Program} {l : Launch} {e : Env} {R : Room} {s : State} {m : MethodId} {args : Array Value} {below : List Frame} {meth : Method} {c : Code} {Q : State → Prop}
variable {Γ : am_G} {xs : List Int32} {M : am_M} {cc : ByteArray} {E0 S0 : Nat}
theorem am_cat_cV (Γ : am_G) (st : List Value) : ((st.map (am_cV Γ)).map fun v => v.category).sum = am_cat st := by
  unfold am_cat
  rw [List.map_map]
  congr 1
  apply List.map_congr_left
  intro v _
  exact am_cV_cat Γ v
theorem am_copyL {α : Type} (f g : List α) (d : α) {sp dp n : Nat} (h1 : sp + n ≤ f.length) (h2 : dp + n ≤ g.length) : va_cpy (fun j => f.getD j d) (fun j => g.getD j d) sp dp n = fun j => (am_copy f g sp dp n).getD j d := by
  funext j
  unfold va_cpy am_copy
  simp only [List.getD_eq_getElem?_getD, List.getElem?_mapIdx]
  by_cases hj : dp ≤ j ∧ j < dp + n
  · rw [if_pos hj]
    have hj2 : j < g.length := by omega
    have hs : sp + (j - dp) < f.length := by omega
    rw [List.getElem?_eq_getElem hj2, List.getElem?_eq_getElem hs]
    simp only [Option.map_some, Option.getD_some]
    rw [if_pos hj]
  · rw [if_neg hj]
    cases g[j]? with
    | none => rfl
    | some x => simp only [Option.map_some, Option.getD_some]; rw [if_neg hj]
theorem am_copy_len {α : Type} (f g : List α) (sp dp n : Nat) : (am_copy f g sp dp n).length = g.length := by unfold am_copy; simp
def am_Ws (t : MethodName × (ByteArray × am_M)) : List Cond := Cond.code t.1 t.2.1 t.2.2.2.2.1 t.2.2.2.1 :: am_B
def am_Rm (d : Nat) (es es' : am_H) : Room := { frames := d, cells := es'.length - es.length, slots := am_sz es' - am_sz es, locals := 40 * d }
def am_Pre (Γ : am_G) (xs : List Int32) (av : List Value) (es : am_H) : Array Value → State → Prop := va_Pc (av.map (am_cV Γ)) (fun U => am_Wd Γ es U U.heap ∧ am_KK Γ xs U ∧ U.heap.size = am_base Γ + es.length)
def am_Post (Γ : am_G) (v : Option Value) (es' : am_H) : Array Value → State → Outcome → State → Prop := fun _ st oc t => oc = .returned (v.map (am_cV Γ)) ∧ am_Wd Γ es' t t.heap ∧ va_F (fun q : Nat => am_base Γ ≤ q) st t
def am_Ok (l : Launch) (Γ : am_G) (xs : List Int32) (d : Nat) (cl : am_C) : Prop := ∀ y av es v es', cl y av es = some (v, es') → es.length ≤ es'.length ∧ am_sz es ≤ am_sz es' ∧ ∃ t, am_ms[y]? = some t ∧ Met l t.1 (am_Ws t) (am_Rm d es es') (am_Pre Γ xs av es) (am_Post Γ v es') (es'.length - es.length) (am_sz es' - am_sz es) (fun q : Nat => am_base Γ ≤ q)
theorem am_GI (t : MethodName × (ByteArray × am_M)) (h : t ∈ am_ms) : GoodIn am_B (am_Ws t) := fun w hw => by
  rcases List.mem_cons.mp hw with rfl | hw
  · exact ⟨am_gB (am_msO t h).2.1 rfl, Or.inl rfl⟩
  · exact ⟨hw, (am_B_good w hw).2⟩
theorem am_blind (Γ : am_G) (xs : List Int32) (av : List Value) (es : am_H) : FrameBlind (am_Pre Γ xs av es) := fun a U g mk h => by
  obtain ⟨h1, h2, h3, h4⟩ := h
  exact ⟨h1, ⟨h2.1, h2.2.1, fun i ty x hx => ⟨arrOfT_moved (show U.vm.Alike (U.calling g mk a).vm from Vm.Alike.refl U.vm) (h2.2.2 i ty x hx).1, va_RA.moved (show U.vm.Alike (U.calling g mk a).vm from Vm.Alike.refl U.vm) (h2.2.2 i ty x hx).2⟩⟩, am_KK.same (U := U.calling g mk a) rfl h3, h4⟩
theorem am_after {H : Heap} {locs : List Loc} {cells slots mc ms pc : Nat} {ls : Array Slot} {st0 rest : List Value} {v : Option Value} {es' : am_H} {a : Array Value} (hr : va_Run p l e R s m args below meth c H locs cells slots mc ms (F0 m pc ls st0) rest (am_Post Γ v es' a) (fun q : Nat => am_base Γ ≤ q)) (hS : va_S (fun q : Nat => am_base Γ ≤ q) s.heap H locs)
    (kk : ∀ (H1 : Heap) (locs1 : List Loc), am_Wd Γ es' s H1 → va_S (fun q : Nat => am_base Γ ≤ q) s.heap H1 locs1 → W p l e R s m args below meth c H1 locs1 (cells + mc) (slots + ms) Q (F0 m (pc + 3) ls ((v.map (am_cV Γ)).toList ++ rest))) : W p l e R s m args below meth c H locs cells slots Q (F0 m pc ls st0) := by
  intro T hT X
  obtain ⟨v', st₀, t, T', L, h0, X', hL, e1, e2, ⟨hv, hw, hz, hk⟩, st⟩ := hr T hT X
  cases hv
  rw [h0] at hz hk
  have hal : t.vm.Alike s.vm := by rw [← e2]; exact X'.warmed.alike.symm
  obtain ⟨t2, a1, b1⟩ := kk T'.heap (locs ++ L) (by rw [e1]; exact ⟨hw.1, hw.2.1, fun i ty x hx => ⟨arrOfT_moved hal (hw.2.2 i ty x hx).1, va_RA.moved hal (hw.2.2 i ty x hx).2⟩⟩)
    ⟨Nat.le_trans hS.1 (by rw [e1]; exact hz), fun q h1 h2 => by rw [e1, hk q (Nat.lt_of_lt_of_le h1 hS.1) h2]; exact hS.2.1 q h1 h2, fun q hq => by
      rcases List.mem_append.mp hq with h | h
      · exact hS.2.2 q h
      · exact hL q h⟩ T' rfl X'
  exact ⟨t2, st t2 a1, b1⟩
theorem am_res_inv {r : Option am_R} {np : Nat} {L : am_L} {rest : List Value} {N : Nat × (am_L × (List Value × am_H))} (h : am_res r np L rest = some (.inl N)) : ∃ v es', r = some (v, es') ∧ N = (np, L, v.toList ++ rest, es') := by
  unfold am_res at h
  split at h
  · rename_i v es'
    exact ⟨v, es', rfl, am_nx_inv h⟩
  · cases h
theorem am_vl (Γ : am_G) (v : Option Value) (rest : List Value) : (v.toList ++ rest).map (am_cV Γ) = (v.map (am_cV Γ)).toList ++ rest.map (am_cV Γ) := by
  cases v <;> rfl
theorem sd_call {d idx : Nat} {sp : Bool} {ks : List Nat} (C : am_Cx p R s m args meth c Γ xs M cc E0) {pc : Nat} {L : am_L} {st : List Value} {es : am_H} {N : Nat × (am_L × (List Value × am_H))} {cl : am_C} (hcl : am_Ok l Γ xs d cl) (hR1 : d + 1 ≤ R.frames) (hR2 : 40 * (d + 1) ≤ R.locals)
    (hd : (ks = [0] ∧ sp = false ∧ decode cc pc = .ok (.invokevirtual idx, 3)) ∨ (ks = [1, 4] ∧ sp = false ∧ decode cc pc = .ok (.invokestatic idx, 3)) ∨ (ks = [2, 5] ∧ sp = true ∧ decode cc pc = .ok (.invokespecial idx, 3)))
    (h : am_call1 cl M.1 idx sp ks st (pc + 3) L es = some (.inl N)) (hE : E0 ≤ es.length) (hS0 : S0 ≤ am_sz es) (hE' : N.2.2.2.length - E0 ≤ R.cells) (hS' : am_sz N.2.2.2 - S0 ≤ R.slots)
    (k : am_Wp p l e R s m args below meth c Q Γ M.2.2.1 E0 S0 N.1 N.2.1 N.2.2.1 N.2.2.2) : am_Wp p l e R s m args below meth c Q Γ M.2.2.1 E0 S0 pc L st es := by
  obtain ⟨hx, hb, hml, hown, hts, hKK, hb1, hb2, ho, hini, hfr, hlo⟩ := id C
  unfold am_call1 at h
  split at h
  case h_2 => cases h
  rename_i kd y n hlk
  have hmk := am_mt_ok M.1 _ (am_lk hlk)
  split at h
  · rename_i hks
    rcases hmk with ⟨h6, -⟩ | ⟨h7, -⟩ | ⟨-, t, hy, hyn, hP⟩
    · dsimp only at h6; subst h6; exfalso; rcases hd with ⟨rfl, -⟩ | ⟨rfl, -⟩ | ⟨rfl, -⟩ <;> simp at hks
    · dsimp only at h7; subst h7; exfalso; rcases hd with ⟨rfl, -⟩ | ⟨rfl, -⟩ | ⟨rfl, -⟩ <;> simp at hks
    dsimp only at hy hyn hP
    have htm : t ∈ am_ms := List.mem_of_getElem? hy
    have htok := am_msO t htm
    have hiB : (Cond.initialized t.1.cls).before args s = true := hts _ (am_gB htok.2.2.2.2.1 rfl)
    have hcB : (Cond.code t.1 t.2.1 t.2.2.2.2.1 t.2.2.2.1).before args s = true := hts _ (am_gB htok.2.1 rfl)
    have hmx : t.2.2.2.2.1 ≤ 12 := htok.2.2.2.2.2.2.1
    have hCF : CallFix p m c cc M.2.2.1 s args am_B (am_cn M.1) := ⟨hx, hb, hml, hown, hts⟩
    unfold am_inv at h
    split at h
    · -- a static one
      rename_i hk14
      split at h
      case isFalse => cases h
      rename_i hnc
      obtain ⟨v, es', hres, rfl⟩ := am_res_inv h
      obtain ⟨g1, g2, t', hy', hM⟩ := hcl _ _ _ _ _ hres
      cases hy.symm.trans hy'
      dsimp only at hE' hS'
      intro hn H locs ls a b dl
      refine am_up fun hz => ?_
      have hsz : H.size = am_base Γ + es.length := by have := am_low a b hb1; omega
      have hst : st.map (am_cV Γ) = (((st.take n).reverse).map (am_cV Γ)).reverse ++ (st.drop n).map (am_cV Γ) := by
        rw [← List.map_reverse, List.reverse_reverse, ← List.map_append, List.take_append_drop]
      have hlen : (((st.take n).reverse).map (am_cV Γ)).length = n := by
        rw [List.length_map, List.length_reverse, List.length_take]; exact Nat.min_eq_left hnc.1
      have hPS : PreS s H (am_Pre Γ xs (st.take n).reverse es) (((st.take n).reverse).map (am_cV Γ)) :=
        ⟨am_blind Γ xs _ es, fun U hU hW => ⟨rfl, by rw [hU]; exact a.warm hW, hKK.warm hW, by rw [hU]; exact hsz⟩⟩
      have hrun : va_Run p l e R s m args below meth c H locs (es.length - E0) (am_sz es - S0) (es'.length - es.length) (am_sz es' - am_sz es) (F0 m pc ls (st.map (am_cV Γ))) ((st.drop n).map (am_cV Γ)) (am_Post Γ v es' (((st.take n).reverse).map (am_cV Γ)).toArray) (fun q : Nat => am_base Γ ≤ q) := by
        rcases hd with ⟨rfl, -, -⟩ | ⟨rfl, -, hd⟩ | ⟨rfl, -, -⟩
        · exfalso; rcases hk14 with rfl | rfl <;> simp at hks
        · rcases hk14 with rfl | rfl
          · exact va_runS (n := n) hCF hM ⟨callB_of n hts (am_GI t htm) rfl rfl rfl hiB (hts _ (am_gB hP.1 rfl)) hyn ⟨hR1, by show 8 + (t.2.2.2.2.1 + 11) + 40 * d ≤ R.locals; omega⟩, hts _ (am_gB hP.2 rfl)⟩ hPS rfl hlen (dl.1.trans hn) hst (lv_room (by rw [am_cat_cV]; exact hnc.2)) hd ⟨by omega, by omega⟩
          · exact va_runSN (n := n) (host := "LostSheets") hCF hM ⟨va_cnB n hts (am_GI t htm) rfl rfl rfl (hKK.2.2.1 _ _ _ hP.1) hiB hyn ⟨hR1, by show 8 + (t.2.2.2.2.1 + 11) + 40 * d ≤ R.locals; omega⟩, hts _ (am_gB hP.2 rfl), trivial⟩ hPS rfl hlen (dl.1.trans hn) hst (lv_room (by rw [am_cat_cV]; exact hnc.2)) hd ⟨by omega, by omega⟩
        · exfalso; rcases hk14 with rfl | rfl <;> simp at hks
      refine am_after hrun b fun H1 locs1 hW1 hS1 => ?_
      have kk := k hn H1 locs1 ls hW1 hS1 dl
      dsimp only at kk
      rw [am_vl] at kk
      rwa [show es.length - E0 + (es'.length - es.length) = es'.length - E0 by omega, show am_sz es - S0 + (am_sz es' - am_sz es) = am_sz es' - S0 by omega]
    · rename_i hk14
      split at h
      case h_2 => cases h
      rename_i b rest hdr
      split at h
      case isFalse => cases h
      rename_i hc0
      obtain ⟨hcat, hrec⟩ := hc0
      obtain ⟨v, es', hres, rfl⟩ := am_res_inv h
      obtain ⟨g1, g2, t', hy', hM⟩ := hcl _ _ _ _ _ hres
      cases hy.symm.trans hy'
      dsimp only at hE' hS'
      intro hn H locs ls a bb dl
      refine am_up fun hz => ?_
      have hsz : H.size = am_base Γ + es.length := by have := am_low a bb hb1; omega
      have hnl : n < st.length := by
        rcases Nat.lt_or_ge n st.length with q | q
        · exact q
        · rw [List.drop_eq_nil_of_le q] at hdr; cases hdr
      have hst : st.map (am_cV Γ) = (((st.take n).reverse).map (am_cV Γ)).reverse ++ am_cV Γ (.ref b) :: rest.map (am_cV Γ) := by
        rw [← List.map_reverse, List.reverse_reverse, ← List.map_cons, ← hdr, ← List.map_append, List.take_append_drop]
      have hlen : (((st.take n).reverse).map (am_cV Γ)).length = n := by
        rw [List.length_map, List.length_reverse, List.length_take]; exact Nat.min_eq_left (Nat.le_of_lt hnl)
      have hrun : va_Run p l e R s m args below meth c H locs (es.length - E0) (am_sz es - S0) (es'.length - es.length) (am_sz es' - am_sz es) (F0 m pc ls (st.map (am_cV Γ))) (rest.map (am_cV Γ)) (am_Post Γ v es' (am_cV Γ (.ref b) :: ((st.take n).reverse).map (am_cV Γ)).toArray) (fun q : Nat => am_base Γ ≤ q) := by
        rcases hd with ⟨rfl, -, hd⟩ | ⟨rfl, -, -⟩ | ⟨rfl, -, hd⟩
        · obtain rfl : kd = 0 := by simpa using hks
          have hrv : am_recv y b es = true := by
            rcases hrec with ⟨q | q, -⟩ | ⟨-, q⟩
            · cases q
            · cases q
            · exact q
          have how : am_ow y = t.2.2.1 := by unfold am_ow; rw [hy]
          have hRc : ∃ b' : Nat, am_cV Γ (.ref b) = .ref b' ∧ ∃ cell : Cell, H[b']? = some cell ∧ cell.vm.isStatics = false ∧ s.vm.findClass t.1.cls = some cell.cls := by
            unfold am_recv at hrv
            split at hrv
            · rename_i hbl
              split at hrv
              · rename_i ci fs he
                have hci : ci = t.2.2.1 := by rw [← how]; exact of_decide_eq_true hrv
                have hci9 : ci < 10 := by
                  obtain ⟨r, h1, -⟩ := a.2.1 b _ (am_cW_at he)
                  exact (List.getElem?_eq_some_iff.mp h1).1
                refine ⟨_, am_cV_lo hbl, ?_⟩
                have := va_recv hKK.1 a.2.1 (am_cls_ok ci hci9) (am_cW_at he)
                rw [htok.2.2.1, ← hci]
                exact this
              · cases hrv
            · rename_i hbl
              obtain ⟨h10, h11⟩ := of_decide_eq_true hrv
              have h12 : b - 1000000 < 10 := Nat.sub_lt_left_of_lt_add (Nat.not_lt.mp hbl) h10
              refine ⟨Γ.2.2.2.1 (b - 1000000), by rw [am_cV_hi hbl]; unfold am_rov; rw [if_pos h12], ?_⟩
              have h6 := vk_S.kept hKK.2.2.2.2.2.1 (H1 := s.heap) (fun q hq _ => hb2 q hq)
              rw [htok.2.2.1, ← how, h11]
              exact vk_recv h6 h12 bb
          obtain ⟨b', hb', hcell⟩ := hRc
          rw [hb'] at hst ⊢
          have hPV : PreV s H t.1.cls b' (am_Pre Γ xs (.ref b :: (st.take n).reverse) es) (((st.take n).reverse).map (am_cV Γ)) :=
            ⟨am_blind Γ xs _ es, hcell, fun U hU hW => ⟨by rw [List.map_cons, hb'], by rw [hU]; exact a.warm hW, hKK.warm hW, by rw [hU]; exact hsz⟩⟩
          exact va_runV (n := n) hCF hM ⟨callB_of n hts (am_GI t htm) rfl rfl rfl hiB (hts _ (am_gB hP.1 rfl)) hyn ⟨hR1, by show 8 + (t.2.2.2.2.1 + 11) + 40 * d ≤ R.locals; omega⟩, hts _ (am_gB hP.2.1 rfl), hts _ (am_gB hP.2.2 rfl)⟩ hPV rfl hlen (dl.1.trans hn) hst (lv_room (by rw [am_cat_cV]; exact hcat)) hd ⟨by omega, by omega⟩
        · exfalso
          rcases (show kd = 1 ∨ kd = 4 by simpa using hks) with rfl | rfl <;> simp at hk14
        · have hRc : ∃ b' : Nat, am_cV Γ (.ref b) = .ref b' := by
            rcases hrec with ⟨-, q⟩ | ⟨q, -⟩
            · exact ⟨_, am_cV_lo q⟩
            · subst q; simp at hks
          obtain ⟨b', hb'⟩ := hRc
          rw [hb'] at hst ⊢
          have hPS : PreS s H (am_Pre Γ xs (.ref b :: (st.take n).reverse) es) (.ref b' :: ((st.take n).reverse).map (am_cV Γ)) :=
            ⟨am_blind Γ xs _ es, fun U hU hW => ⟨by rw [List.map_cons, hb'], by rw [hU]; exact a.warm hW, hKK.warm hW, by rw [hU]; exact hsz⟩⟩
          rcases (show kd = 2 ∨ kd = 5 by simpa using hks) with rfl | rfl
          · obtain ⟨q1, q2, q3, q4⟩ := hP
            have hM' := hM
            exact va_runI (n := n) (bytes := t.2.1) (maxL := t.2.2.2.2.1) hCF hM ⟨by have := callB_of (R := R) (rm := am_Rm d es es') n hts (am_GI t htm) rfl rfl rfl hiB (hts _ (am_gB q1 rfl)) hyn ⟨hR1, by show 8 + (t.2.2.2.2.1 + 11) + 40 * d ≤ R.locals; omega⟩; rw [q4] at this; exact this, q3, hts _ (am_gB q2 rfl)⟩ hPS rfl hlen (dl.1.trans hn) hst (lv_room (by rw [am_cat_cV]; exact hcat)) hd ⟨by omega, by omega⟩
          · obtain ⟨q1, q2, q3, q4⟩ := hP
            exact va_runIN (n := n) (bytes := t.2.1) (maxL := t.2.2.2.2.1) (host := "LostSheets") hCF hM ⟨by have := va_cnB (R := R) (rm := am_Rm d es es') n hts (am_GI t htm) rfl rfl rfl (hKK.2.2.1 _ _ _ q1) hiB hyn ⟨hR1, by show 8 + (t.2.2.2.2.1 + 11) + 40 * d ≤ R.locals; omega⟩; rw [q4] at this; exact this, q3, hts _ (am_gB q2 rfl)⟩ hPS rfl hlen (dl.1.trans hn) hst (lv_room (by rw [am_cat_cV]; exact hcat)) hd ⟨by omega, by omega⟩
      refine am_after hrun bb fun H1 locs1 hW1 hS1 => ?_
      have kk := k hn H1 locs1 ls hW1 hS1 dl
      dsimp only at kk
      rw [am_vl] at kk
      rwa [show es.length - E0 + (es'.length - es.length) = es'.length - E0 by omega, show am_sz es - S0 + (am_sz es' - am_sz es) = am_sz es' - S0 by omega]
  · split at h
    · rename_i hk6
      split at h
      case h_2 => cases h
      rename_i x r
      split at h
      case isFalse => cases h
      rename_i hc0
      obtain rfl := am_nx_inv h
      have hmk6 : Cond.methodLink (am_cn M.1) idx Lib.objectInit ∈ lw_tbl := by
        rcases hmk with ⟨-, q⟩ | ⟨q, -⟩ | ⟨q, -⟩
        · exact q
        · dsimp only at q; omega
        · dsimp only at q; omega
      have hd' : decode cc pc = .ok (.invokespecial idx, 3) := by
        rcases hd with ⟨-, q, -⟩ | ⟨-, q, -⟩ | ⟨-, -, q⟩
        · rw [hk6.2] at q; cases q
        · rw [hk6.2] at q; cases q
        · exact q
      intro hn H locs ls a b dl
      show W p l e R s m args below meth c H locs (es.length - E0) (am_sz es - S0) Q (F0 m pc ls (am_cV Γ (.ref x) :: r.map (am_cV Γ)))
      rw [am_cV_lo hc0.2]
      have hroom : 2 * (F0 m pc ls (r.map (am_cV Γ))).monitorRoom + ((r.map (am_cV Γ)).map fun v => v.category).sum ≤ 8 := lv_room (by rw [am_cat_cV]; exact hc0.1)
      refine W.objInit hx hb hown (hts _ (am_gB hmk6 rfl)) (hts _ (am_gB am_oth_4 rfl)) (hts _ (am_gB am_oth_5 rfl)) rfl (by rw [hml]; exact dl.1.trans hn) rfl hd' hfr ?_ ?_
      · have h9 : 2 * (F0 m pc ls (.ref (am_base Γ + x) :: r.map (am_cV Γ))).monitorRoom + ((r.map (am_cV Γ)).map fun v => v.category).sum ≤ 8 := hroom
        omega
      · exact k hn H locs ls a b dl
    · split at h
      case isFalse => cases h
      rename_i hk6 hk7
      have hmk7 : Cond.methodLink (am_cn M.1) idx arraycopyName ∈ lw_tbl := by
        rcases hmk with ⟨q, -⟩ | ⟨-, q⟩ | ⟨q, -⟩
        · dsimp only at q; omega
        · exact q
        · dsimp only at q; omega
      have hd'' : decode cc pc = .ok (.invokestatic idx, 3) := by
        rcases hd with ⟨q, -, -⟩ | ⟨-, -, q⟩ | ⟨q, -, -⟩
        · rw [hk7.2] at q; cases q
        · exact q
        · rw [hk7.2] at q; cases q
      unfold am_acopy at h
      split at h
      case h_2 => cases h
      rename_i n dp xa sp' xb r
      split at h
      · cases h
      rename_i hneg
      have hn0 : ¬ n < 0 := fun q => hneg (Or.inl q)
      have hd0 : ¬ dp < 0 := fun q => hneg (Or.inr (Or.inl q))
      have hs0 : ¬ sp' < 0 := fun q => hneg (Or.inr (Or.inr (Or.inl q)))
      have hcat : am_cat r ≤ 8 := Decidable.byContradiction fun q => hneg (Or.inr (Or.inr (Or.inr (Or.inl q))))
      have hxa : xa < 1000000 := Decidable.byContradiction fun q => hneg (Or.inr (Or.inr (Or.inr (Or.inr (Or.inl q)))))
      have hxb : xb < 1000000 := Decidable.byContradiction fun q => hneg (Or.inr (Or.inr (Or.inr (Or.inr (Or.inr q)))))
      have hnw : nativeFrameWords "java/lang/System" "arraycopy" 5 + 11 ≤ 32 := by decide +kernel
      split at h
      · rename_i f g hf hg
        split at h
        case isFalse => cases h
        rename_i hb0
        obtain rfl := am_nx_inv h
        intro hn H locs ls a b dl
        have hKb := am_K1 hKK a hf
        have hKa := am_K1 hKK a hg
        have hcb := am_cW_at (Γ := Γ) hf
        have hca := am_cW_at (Γ := Γ) hg
        show W p l e R s m args below meth c H locs (es.length - E0) (am_sz es - S0) Q (F0 m pc ls (.int n :: .int dp :: am_cV Γ (.ref xa) :: .int sp' :: am_cV Γ (.ref xb) :: r.map (am_cV Γ)))
        rw [am_cV_lo hxa, am_cV_lo hxb]
        refine va_copyi (f := fun j => f.getD j 0) (g := fun j => g.getD j 0) hx hb (hml.trans (dl.1.trans hn).symm) hown (hts _ (am_gB hmk7 rfl)) (hts _ (am_gB am_oth_1 rfl)) (hts _ (am_gB am_oth_2 rfl)) (hts _ (am_gB am_oth_3 rfl)) hKa a.2.1 (am_cW_D Γ es) b xb xa 0 0 hcb hca rfl rfl rfl hs0 hd0 hn0 hb0.1 hb0.2 (fun _ _ => rfl) hfr (by rw [am_cat_cV]; omega) hd'' ?_
        intro H1 locs1 hP1 _ hS1
        rw [am_copyL f g 0 hb0.1 hb0.2] at hP1
        have hW1 : am_Wd Γ (es.set xa (.inl (.int, .inl (am_copy f g sp'.toNatClampNeg dp.toNatClampNeg n.toNatClampNeg)))) s H1 := am_Wd.put a hg (by rw [show am_cE Γ (.inl (.int, .inl (am_copy f g sp'.toNatClampNeg dp.toNatClampNeg n.toNatClampNeg))) = .inl (am_cT Γ .int, (am_copy f g sp'.toNatClampNeg dp.toNatClampNeg n.toNatClampNeg).length, .inl (fun j => (am_copy f g sp'.toNatClampNeg dp.toNatClampNeg n.toNatClampNeg).getD j 0)) from rfl, am_copy_len]; exact hP1) hS1 hb1 hb2 (fun ty a' q => by cases q; exact ⟨_, rfl⟩)
        have := k hn H1 locs1 ls hW1 hS1 dl
        rwa [List.length_set, am_sz_set hg (by simp [am_esz, am_len, am_copy_len])] at this
      · rename_i f g hf hg
        split at h
        case isFalse => cases h
        rename_i hb0
        obtain rfl := am_nx_inv h
        intro hn H locs ls a b dl
        have hKb := am_K1 hKK a hf
        have hKa := am_K1 hKK a hg
        have hcb := am_cW_at (Γ := Γ) hf
        have hca := am_cW_at (Γ := Γ) hg
        show W p l e R s m args below meth c H locs (es.length - E0) (am_sz es - S0) Q (F0 m pc ls (.int n :: .int dp :: am_cV Γ (.ref xa) :: .int sp' :: am_cV Γ (.ref xb) :: r.map (am_cV Γ)))
        rw [am_cV_lo hxa, am_cV_lo hxb]
        refine va_copyl (f := fun j => f.getD j 0) (g := fun j => g.getD j 0) hx hb (hml.trans (dl.1.trans hn).symm) hown (hts _ (am_gB hmk7 rfl)) (hts _ (am_gB am_oth_1 rfl)) (hts _ (am_gB am_oth_2 rfl)) (hts _ (am_gB am_oth_3 rfl)) hKa a.2.1 (am_cW_D Γ es) b xb xa 0 0 hcb hca rfl rfl rfl hs0 hd0 hn0 hb0.1 hb0.2 (fun _ _ => rfl) hfr (by rw [am_cat_cV]; omega) hd'' ?_
        intro H1 locs1 hP1 _ hS1
        rw [am_copyL f g 0 hb0.1 hb0.2] at hP1
        have hW1 : am_Wd Γ (es.set xa (.inl (.long, .inr (.inl (am_copy f g sp'.toNatClampNeg dp.toNatClampNeg n.toNatClampNeg))))) s H1 := am_Wd.put a hg (by rw [show am_cE Γ (.inl (.long, .inr (.inl (am_copy f g sp'.toNatClampNeg dp.toNatClampNeg n.toNatClampNeg)))) = .inl (am_cT Γ .long, (am_copy f g sp'.toNatClampNeg dp.toNatClampNeg n.toNatClampNeg).length, .inr (.inl (fun j => (am_copy f g sp'.toNatClampNeg dp.toNatClampNeg n.toNatClampNeg).getD j 0))) from rfl, am_copy_len]; exact hP1) hS1 hb1 hb2 (fun ty a' q => by cases q; exact ⟨_, rfl⟩)
        have := k hn H1 locs1 ls hW1 hS1 dl
        rwa [List.length_set, am_sz_set hg (by simp [am_esz, am_len, am_copy_len])] at this
      · cases h
end SR
end
