section
-- ===== PART A: goes FIRST, ahead of the names: the tables' words, and 'selects' of the private methods out of them =====
/-- a private method of a class that the tables say can be made, by its rows of tables_1 -/
def lw_okq (q : MethodName × Nat) : Prop := (q.1.cls ≠ "java/lang/invoke/MethodHandle" ∧ q.1.cls ≠ "java/lang/invoke/VarHandle") ∧ Cond.instantiable q.1.cls q.2 ∈ tables_1 ∧ Cond.privateMethod q.1 ∈ tables_1 ∧ Cond.instanceMethod q.1 ∈ tables_1
theorem lw_p0 : lw_okq (⟨"LetterDrawer$Calendar", "allBounds", "()I"⟩, 9) := ⟨⟨by decide +kernel, by decide +kernel⟩, List.mem_of_getElem? (i := 114) (by decide +kernel), List.mem_of_getElem? (i := 457) (by decide +kernel), List.mem_of_getElem? (i := 458) (by decide +kernel)⟩
theorem lw_p1 : lw_okq (⟨"LetterDrawer$Calendar", "isPossible", "(LLetterDrawer$Letters;I)Z"⟩, 9) := ⟨⟨by decide +kernel, by decide +kernel⟩, List.mem_of_getElem? (i := 114) (by decide +kernel), List.mem_of_getElem? (i := 461) (by decide +kernel), List.mem_of_getElem? (i := 462) (by decide +kernel)⟩
theorem lw_p2 : lw_okq (⟨"LetterDrawer$Calendar", "joinFound", "(I)Z"⟩, 9) := ⟨⟨by decide +kernel, by decide +kernel⟩, List.mem_of_getElem? (i := 114) (by decide +kernel), List.mem_of_getElem? (i := 465) (by decide +kernel), List.mem_of_getElem? (i := 466) (by decide +kernel)⟩
theorem lw_p3 : lw_okq (⟨"LetterDrawer$Calendar", "raiseLows", "(II)Z"⟩, 9) := ⟨⟨by decide +kernel, by decide +kernel⟩, List.mem_of_getElem? (i := 114) (by decide +kernel), List.mem_of_getElem? (i := 484) (by decide +kernel), List.mem_of_getElem? (i := 485) (by decide +kernel)⟩
theorem lw_p4 : lw_okq (⟨"LetterDrawer$Calendar", "raiseBy", "(I)Z"⟩, 9) := ⟨⟨by decide +kernel, by decide +kernel⟩, List.mem_of_getElem? (i := 114) (by decide +kernel), List.mem_of_getElem? (i := 488) (by decide +kernel), List.mem_of_getElem? (i := 489) (by decide +kernel)⟩
theorem lw_p5 : lw_okq (⟨"LetterDrawer$Calendar", "isOrdered", "(I)Z"⟩, 9) := ⟨⟨by decide +kernel, by decide +kernel⟩, List.mem_of_getElem? (i := 114) (by decide +kernel), List.mem_of_getElem? (i := 492) (by decide +kernel), List.mem_of_getElem? (i := 493) (by decide +kernel)⟩
theorem lw_p6 : lw_okq (⟨"LetterDrawer$Calendar", "sinkHighs", "()V"⟩, 9) := ⟨⟨by decide +kernel, by decide +kernel⟩, List.mem_of_getElem? (i := 114) (by decide +kernel), List.mem_of_getElem? (i := 496) (by decide +kernel), List.mem_of_getElem? (i := 497) (by decide +kernel)⟩
theorem lw_p7 : lw_okq (⟨"LetterDrawer$Calendar", "sinkBy", "(I)Z"⟩, 9) := ⟨⟨by decide +kernel, by decide +kernel⟩, List.mem_of_getElem? (i := 114) (by decide +kernel), List.mem_of_getElem? (i := 500) (by decide +kernel), List.mem_of_getElem? (i := 501) (by decide +kernel)⟩
theorem lw_p8 : lw_okq (⟨"LetterDrawer$Calendar", "joinPaths", "(II)V"⟩, 9) := ⟨⟨by decide +kernel, by decide +kernel⟩, List.mem_of_getElem? (i := 114) (by decide +kernel), List.mem_of_getElem? (i := 521) (by decide +kernel), List.mem_of_getElem? (i := 522) (by decide +kernel)⟩
theorem lw_p9 : lw_okq (⟨"LetterDrawer", "isReading", "(III)Z"⟩, 14) := ⟨⟨by decide +kernel, by decide +kernel⟩, List.mem_of_getElem? (i := 17) (by decide +kernel), List.mem_of_getElem? (i := 540) (by decide +kernel), List.mem_of_getElem? (i := 541) (by decide +kernel)⟩
theorem lw_p10 : lw_okq (⟨"LetterDrawer", "hasRead", "(IIII)Z"⟩, 14) := ⟨⟨by decide +kernel, by decide +kernel⟩, List.mem_of_getElem? (i := 17) (by decide +kernel), List.mem_of_getElem? (i := 544) (by decide +kernel), List.mem_of_getElem? (i := 545) (by decide +kernel)⟩
theorem lw_p11 : lw_okq (⟨"LetterDrawer", "meant", "(II)I"⟩, 14) := ⟨⟨by decide +kernel, by decide +kernel⟩, List.mem_of_getElem? (i := 17) (by decide +kernel), List.mem_of_getElem? (i := 564) (by decide +kernel), List.mem_of_getElem? (i := 565) (by decide +kernel)⟩
theorem lw_p12 : lw_okq (⟨"LetterDrawer$People", "isAlive", "(III)Z"⟩, 6) := ⟨⟨by decide +kernel, by decide +kernel⟩, List.mem_of_getElem? (i := 25) (by decide +kernel), List.mem_of_getElem? (i := 572) (by decide +kernel), List.mem_of_getElem? (i := 573) (by decide +kernel)⟩
theorem lw_p13 : lw_okq (⟨"LetterDrawer", "examineTape", "()V"⟩, 14) := ⟨⟨by decide +kernel, by decide +kernel⟩, List.mem_of_getElem? (i := 17) (by decide +kernel), List.mem_of_getElem? (i := 613) (by decide +kernel), List.mem_of_getElem? (i := 614) (by decide +kernel)⟩
theorem lw_p14 : lw_okq (⟨"LetterDrawer$MarkReader", "takeSort", "(II)I"⟩, 8) := ⟨⟨by decide +kernel, by decide +kernel⟩, List.mem_of_getElem? (i := 206) (by decide +kernel), List.mem_of_getElem? (i := 625) (by decide +kernel), List.mem_of_getElem? (i := 626) (by decide +kernel)⟩
theorem lw_p15 : lw_okq (⟨"LetterDrawer$MarkReader", "stopAt", "(I)I"⟩, 8) := ⟨⟨by decide +kernel, by decide +kernel⟩, List.mem_of_getElem? (i := 206) (by decide +kernel), List.mem_of_getElem? (i := 632) (by decide +kernel), List.mem_of_getElem? (i := 633) (by decide +kernel)⟩
def lw_privs_1 : List (MethodName × Nat) := [(⟨"LetterDrawer$Calendar", "allBounds", "()I"⟩, 9), (⟨"LetterDrawer$Calendar", "isPossible", "(LLetterDrawer$Letters;I)Z"⟩, 9), (⟨"LetterDrawer$Calendar", "joinFound", "(I)Z"⟩, 9), (⟨"LetterDrawer$Calendar", "raiseLows", "(II)Z"⟩, 9), (⟨"LetterDrawer$Calendar", "raiseBy", "(I)Z"⟩, 9), (⟨"LetterDrawer$Calendar", "isOrdered", "(I)Z"⟩, 9), (⟨"LetterDrawer$Calendar", "sinkHighs", "()V"⟩, 9), (⟨"LetterDrawer$Calendar", "sinkBy", "(I)Z"⟩, 9), (⟨"LetterDrawer$Calendar", "joinPaths", "(II)V"⟩, 9), (⟨"LetterDrawer", "isReading", "(III)Z"⟩, 14), (⟨"LetterDrawer", "hasRead", "(IIII)Z"⟩, 14), (⟨"LetterDrawer", "meant", "(II)I"⟩, 14), (⟨"LetterDrawer$People", "isAlive", "(III)Z"⟩, 6), (⟨"LetterDrawer", "examineTape", "()V"⟩, 14), (⟨"LetterDrawer$MarkReader", "takeSort", "(II)I"⟩, 8), (⟨"LetterDrawer$MarkReader", "stopAt", "(I)I"⟩, 8)]
theorem lw_r1 : ∀ q ∈ lw_privs_1, lw_okq q := List.forall_mem_cons.mpr ⟨lw_p0, List.forall_mem_cons.mpr ⟨lw_p1, List.forall_mem_cons.mpr ⟨lw_p2, List.forall_mem_cons.mpr ⟨lw_p3, List.forall_mem_cons.mpr ⟨lw_p4, List.forall_mem_cons.mpr ⟨lw_p5, List.forall_mem_cons.mpr ⟨lw_p6, List.forall_mem_cons.mpr ⟨lw_p7, List.forall_mem_cons.mpr ⟨lw_p8, List.forall_mem_cons.mpr ⟨lw_p9, List.forall_mem_cons.mpr ⟨lw_p10, List.forall_mem_cons.mpr ⟨lw_p11, List.forall_mem_cons.mpr ⟨lw_p12, List.forall_mem_cons.mpr ⟨lw_p13, List.forall_mem_cons.mpr ⟨lw_p14, List.forall_mem_cons.mpr ⟨lw_p15, fun _ h => absurd h List.not_mem_nil⟩⟩⟩⟩⟩⟩⟩⟩⟩⟩⟩⟩⟩⟩⟩⟩
theorem lw_p16 : lw_okq (⟨"LetterDrawer$MarkReader", "isOpen", "(I)Z"⟩, 8) := ⟨⟨by decide +kernel, by decide +kernel⟩, List.mem_of_getElem? (i := 206) (by decide +kernel), List.mem_of_getElem? (i := 636) (by decide +kernel), List.mem_of_getElem? (i := 637) (by decide +kernel)⟩
theorem lw_p17 : lw_okq (⟨"LetterDrawer$MarkReader", "openMark", "()I"⟩, 8) := ⟨⟨by decide +kernel, by decide +kernel⟩, List.mem_of_getElem? (i := 206) (by decide +kernel), List.mem_of_getElem? (i := 640) (by decide +kernel), List.mem_of_getElem? (i := 641) (by decide +kernel)⟩
theorem lw_p18 : lw_okq (⟨"LetterDrawer$MarkReader", "takeNumber", "(II)I"⟩, 8) := ⟨⟨by decide +kernel, by decide +kernel⟩, List.mem_of_getElem? (i := 206) (by decide +kernel), List.mem_of_getElem? (i := 644) (by decide +kernel), List.mem_of_getElem? (i := 645) (by decide +kernel)⟩
theorem lw_p19 : lw_okq (⟨"LetterDrawer$MarkReader", "takeText", "(II)I"⟩, 8) := ⟨⟨by decide +kernel, by decide +kernel⟩, List.mem_of_getElem? (i := 206) (by decide +kernel), List.mem_of_getElem? (i := 648) (by decide +kernel), List.mem_of_getElem? (i := 649) (by decide +kernel)⟩
theorem lw_p20 : lw_okq (⟨"LetterDrawer", "isPrinting", "(III)Z"⟩, 14) := ⟨⟨by decide +kernel, by decide +kernel⟩, List.mem_of_getElem? (i := 17) (by decide +kernel), List.mem_of_getElem? (i := 672) (by decide +kernel), List.mem_of_getElem? (i := 673) (by decide +kernel)⟩
theorem lw_p21 : lw_okq (⟨"LetterDrawer", "printText", "(III)V"⟩, 14) := ⟨⟨by decide +kernel, by decide +kernel⟩, List.mem_of_getElem? (i := 17) (by decide +kernel), List.mem_of_getElem? (i := 676) (by decide +kernel), List.mem_of_getElem? (i := 677) (by decide +kernel)⟩
theorem lw_p22 : lw_okq (⟨"LetterDrawer$Printer", "add", "(I)V"⟩, 2) := ⟨⟨by decide +kernel, by decide +kernel⟩, List.mem_of_getElem? (i := 243) (by decide +kernel), List.mem_of_getElem? (i := 686) (by decide +kernel), List.mem_of_getElem? (i := 687) (by decide +kernel)⟩
theorem lw_p23 : lw_okq (⟨"LetterDrawer$Printer", "addMark", "(ILLetterDrawer$MarkReader;)V"⟩, 2) := ⟨⟨by decide +kernel, by decide +kernel⟩, List.mem_of_getElem? (i := 243) (by decide +kernel), List.mem_of_getElem? (i := 693) (by decide +kernel), List.mem_of_getElem? (i := 694) (by decide +kernel)⟩
theorem lw_p24 : lw_okq (⟨"LetterDrawer$Printer", "addNumber", "(I)V"⟩, 2) := ⟨⟨by decide +kernel, by decide +kernel⟩, List.mem_of_getElem? (i := 243) (by decide +kernel), List.mem_of_getElem? (i := 697) (by decide +kernel), List.mem_of_getElem? (i := 698) (by decide +kernel)⟩
theorem lw_p25 : lw_okq (⟨"LetterDrawer", "readWords", "(ILLetterDrawer$WordRow;)V"⟩, 14) := ⟨⟨by decide +kernel, by decide +kernel⟩, List.mem_of_getElem? (i := 17) (by decide +kernel), List.mem_of_getElem? (i := 709) (by decide +kernel), List.mem_of_getElem? (i := 710) (by decide +kernel)⟩
theorem lw_p26 : lw_okq (⟨"LetterDrawer$WordRow", "isAlike", "(ILLetterDrawer$WordRow;I)Z"⟩, 5) := ⟨⟨by decide +kernel, by decide +kernel⟩, List.mem_of_getElem? (i := 258) (by decide +kernel), List.mem_of_getElem? (i := 726) (by decide +kernel), List.mem_of_getElem? (i := 727) (by decide +kernel)⟩
theorem lw_p27 : lw_okq (⟨"LetterDrawer", "isOrderable", "(I)Z"⟩, 14) := ⟨⟨by decide +kernel, by decide +kernel⟩, List.mem_of_getElem? (i := 17) (by decide +kernel), List.mem_of_getElem? (i := 739) (by decide +kernel), List.mem_of_getElem? (i := 740) (by decide +kernel)⟩
theorem lw_p28 : lw_okq (⟨"LetterDrawer", "arrange", "(I)Z"⟩, 14) := ⟨⟨by decide +kernel, by decide +kernel⟩, List.mem_of_getElem? (i := 17) (by decide +kernel), List.mem_of_getElem? (i := 743) (by decide +kernel), List.mem_of_getElem? (i := 744) (by decide +kernel)⟩
theorem lw_p29 : lw_okq (⟨"LetterDrawer$Sequence", "collect", "(I)V"⟩, 3) := ⟨⟨by decide +kernel, by decide +kernel⟩, List.mem_of_getElem? (i := 281) (by decide +kernel), List.mem_of_getElem? (i := 751) (by decide +kernel), List.mem_of_getElem? (i := 752) (by decide +kernel)⟩
theorem lw_p30 : lw_okq (⟨"LetterDrawer$Sequence", "sort", "([II)V"⟩, 3) := ⟨⟨by decide +kernel, by decide +kernel⟩, List.mem_of_getElem? (i := 281) (by decide +kernel), List.mem_of_getElem? (i := 755) (by decide +kernel), List.mem_of_getElem? (i := 756) (by decide +kernel)⟩
theorem lw_p31 : lw_okq (⟨"LetterDrawer$Sequence", "isFree", "(LLetterDrawer$Calendar;)Z"⟩, 3) := ⟨⟨by decide +kernel, by decide +kernel⟩, List.mem_of_getElem? (i := 281) (by decide +kernel), List.mem_of_getElem? (i := 759) (by decide +kernel), List.mem_of_getElem? (i := 760) (by decide +kernel)⟩
def lw_privs_2 : List (MethodName × Nat) := [(⟨"LetterDrawer$MarkReader", "isOpen", "(I)Z"⟩, 8), (⟨"LetterDrawer$MarkReader", "openMark", "()I"⟩, 8), (⟨"LetterDrawer$MarkReader", "takeNumber", "(II)I"⟩, 8), (⟨"LetterDrawer$MarkReader", "takeText", "(II)I"⟩, 8), (⟨"LetterDrawer", "isPrinting", "(III)Z"⟩, 14), (⟨"LetterDrawer", "printText", "(III)V"⟩, 14), (⟨"LetterDrawer$Printer", "add", "(I)V"⟩, 2), (⟨"LetterDrawer$Printer", "addMark", "(ILLetterDrawer$MarkReader;)V"⟩, 2), (⟨"LetterDrawer$Printer", "addNumber", "(I)V"⟩, 2), (⟨"LetterDrawer", "readWords", "(ILLetterDrawer$WordRow;)V"⟩, 14), (⟨"LetterDrawer$WordRow", "isAlike", "(ILLetterDrawer$WordRow;I)Z"⟩, 5), (⟨"LetterDrawer", "isOrderable", "(I)Z"⟩, 14), (⟨"LetterDrawer", "arrange", "(I)Z"⟩, 14), (⟨"LetterDrawer$Sequence", "collect", "(I)V"⟩, 3), (⟨"LetterDrawer$Sequence", "sort", "([II)V"⟩, 3), (⟨"LetterDrawer$Sequence", "isFree", "(LLetterDrawer$Calendar;)Z"⟩, 3)]
theorem lw_r2 : ∀ q ∈ lw_privs_2, lw_okq q := List.forall_mem_cons.mpr ⟨lw_p16, List.forall_mem_cons.mpr ⟨lw_p17, List.forall_mem_cons.mpr ⟨lw_p18, List.forall_mem_cons.mpr ⟨lw_p19, List.forall_mem_cons.mpr ⟨lw_p20, List.forall_mem_cons.mpr ⟨lw_p21, List.forall_mem_cons.mpr ⟨lw_p22, List.forall_mem_cons.mpr ⟨lw_p23, List.forall_mem_cons.mpr ⟨lw_p24, List.forall_mem_cons.mpr ⟨lw_p25, List.forall_mem_cons.mpr ⟨lw_p26, List.forall_mem_cons.mpr ⟨lw_p27, List.forall_mem_cons.mpr ⟨lw_p28, List.forall_mem_cons.mpr ⟨lw_p29, List.forall_mem_cons.mpr ⟨lw_p30, List.forall_mem_cons.mpr ⟨lw_p31, fun _ h => absurd h List.not_mem_nil⟩⟩⟩⟩⟩⟩⟩⟩⟩⟩⟩⟩⟩⟩⟩⟩
theorem lw_p32 : lw_okq (⟨"LetterDrawerModel", "isPerson", "(I)Z"⟩, 52) := ⟨⟨by decide +kernel, by decide +kernel⟩, List.mem_of_getElem? (i := 810) (by decide +kernel), List.mem_of_getElem? (i := 985) (by decide +kernel), List.mem_of_getElem? (i := 986) (by decide +kernel)⟩
theorem lw_p33 : lw_okq (⟨"LetterDrawerModel", "isLetter", "(I)Z"⟩, 52) := ⟨⟨by decide +kernel, by decide +kernel⟩, List.mem_of_getElem? (i := 810) (by decide +kernel), List.mem_of_getElem? (i := 1004) (by decide +kernel), List.mem_of_getElem? (i := 1005) (by decide +kernel)⟩
theorem lw_p34 : lw_okq (⟨"LetterDrawerModel", "clashAll", "()Z"⟩, 52) := ⟨⟨by decide +kernel, by decide +kernel⟩, List.mem_of_getElem? (i := 810) (by decide +kernel), List.mem_of_getElem? (i := 1036) (by decide +kernel), List.mem_of_getElem? (i := 1037) (by decide +kernel)⟩
theorem lw_p35 : lw_okq (⟨"LetterDrawerModel", "clashes", "(I)Z"⟩, 52) := ⟨⟨by decide +kernel, by decide +kernel⟩, List.mem_of_getElem? (i := 810) (by decide +kernel), List.mem_of_getElem? (i := 1040) (by decide +kernel), List.mem_of_getElem? (i := 1041) (by decide +kernel)⟩
theorem lw_p36 : lw_okq (⟨"LetterDrawerModel", "raise", "(II)V"⟩, 52) := ⟨⟨by decide +kernel, by decide +kernel⟩, List.mem_of_getElem? (i := 810) (by decide +kernel), List.mem_of_getElem? (i := 1044) (by decide +kernel), List.mem_of_getElem? (i := 1045) (by decide +kernel)⟩
theorem lw_p37 : lw_okq (⟨"LetterDrawerModel", "sink", "(II)V"⟩, 52) := ⟨⟨by decide +kernel, by decide +kernel⟩, List.mem_of_getElem? (i := 810) (by decide +kernel), List.mem_of_getElem? (i := 1048) (by decide +kernel), List.mem_of_getElem? (i := 1049) (by decide +kernel)⟩
theorem lw_p38 : lw_okq (⟨"LetterDrawerModel", "findWays", "()V"⟩, 52) := ⟨⟨by decide +kernel, by decide +kernel⟩, List.mem_of_getElem? (i := 810) (by decide +kernel), List.mem_of_getElem? (i := 1063) (by decide +kernel), List.mem_of_getElem? (i := 1064) (by decide +kernel)⟩
theorem lw_p39 : lw_okq (⟨"LetterDrawerModel", "leads", "(III)V"⟩, 52) := ⟨⟨by decide +kernel, by decide +kernel⟩, List.mem_of_getElem? (i := 810) (by decide +kernel), List.mem_of_getElem? (i := 1068) (by decide +kernel), List.mem_of_getElem? (i := 1069) (by decide +kernel)⟩
theorem lw_p40 : lw_okq (⟨"LetterDrawerModel", "isBefore", "(II)Z"⟩, 52) := ⟨⟨by decide +kernel, by decide +kernel⟩, List.mem_of_getElem? (i := 810) (by decide +kernel), List.mem_of_getElem? (i := 1072) (by decide +kernel), List.mem_of_getElem? (i := 1073) (by decide +kernel)⟩
theorem lw_p41 : lw_okq (⟨"LetterDrawerModel", "hasRead", "(IIII)Z"⟩, 52) := ⟨⟨by decide +kernel, by decide +kernel⟩, List.mem_of_getElem? (i := 810) (by decide +kernel), List.mem_of_getElem? (i := 1084) (by decide +kernel), List.mem_of_getElem? (i := 1085) (by decide +kernel)⟩
theorem lw_p42 : lw_okq (⟨"LetterDrawerModel", "meansOf", "(II)I"⟩, 52) := ⟨⟨by decide +kernel, by decide +kernel⟩, List.mem_of_getElem? (i := 810) (by decide +kernel), List.mem_of_getElem? (i := 1096) (by decide +kernel), List.mem_of_getElem? (i := 1097) (by decide +kernel)⟩
theorem lw_p43 : lw_okq (⟨"LetterDrawerModel", "handOf", "(II)I"⟩, 52) := ⟨⟨by decide +kernel, by decide +kernel⟩, List.mem_of_getElem? (i := 810) (by decide +kernel), List.mem_of_getElem? (i := 1100) (by decide +kernel), List.mem_of_getElem? (i := 1101) (by decide +kernel)⟩
theorem lw_p44 : lw_okq (⟨"LetterDrawerModel", "wrongAt", "()I"⟩, 52) := ⟨⟨by decide +kernel, by decide +kernel⟩, List.mem_of_getElem? (i := 810) (by decide +kernel), List.mem_of_getElem? (i := 1120) (by decide +kernel), List.mem_of_getElem? (i := 1121) (by decide +kernel)⟩
theorem lw_p45 : lw_okq (⟨"LetterDrawerModel", "isOpen", "(I)Z"⟩, 52) := ⟨⟨by decide +kernel, by decide +kernel⟩, List.mem_of_getElem? (i := 810) (by decide +kernel), List.mem_of_getElem? (i := 1130) (by decide +kernel), List.mem_of_getElem? (i := 1131) (by decide +kernel)⟩
theorem lw_p46 : lw_okq (⟨"LetterDrawerModel", "digits", "(II)I"⟩, 52) := ⟨⟨by decide +kernel, by decide +kernel⟩, List.mem_of_getElem? (i := 810) (by decide +kernel), List.mem_of_getElem? (i := 1134) (by decide +kernel), List.mem_of_getElem? (i := 1135) (by decide +kernel)⟩
theorem lw_p47 : lw_okq (⟨"LetterDrawerModel", "prints", "(III)V"⟩, 52) := ⟨⟨by decide +kernel, by decide +kernel⟩, List.mem_of_getElem? (i := 810) (by decide +kernel), List.mem_of_getElem? (i := 1152) (by decide +kernel), List.mem_of_getElem? (i := 1153) (by decide +kernel)⟩
def lw_privs_3 : List (MethodName × Nat) := [(⟨"LetterDrawerModel", "isPerson", "(I)Z"⟩, 52), (⟨"LetterDrawerModel", "isLetter", "(I)Z"⟩, 52), (⟨"LetterDrawerModel", "clashAll", "()Z"⟩, 52), (⟨"LetterDrawerModel", "clashes", "(I)Z"⟩, 52), (⟨"LetterDrawerModel", "raise", "(II)V"⟩, 52), (⟨"LetterDrawerModel", "sink", "(II)V"⟩, 52), (⟨"LetterDrawerModel", "findWays", "()V"⟩, 52), (⟨"LetterDrawerModel", "leads", "(III)V"⟩, 52), (⟨"LetterDrawerModel", "isBefore", "(II)Z"⟩, 52), (⟨"LetterDrawerModel", "hasRead", "(IIII)Z"⟩, 52), (⟨"LetterDrawerModel", "meansOf", "(II)I"⟩, 52), (⟨"LetterDrawerModel", "handOf", "(II)I"⟩, 52), (⟨"LetterDrawerModel", "wrongAt", "()I"⟩, 52), (⟨"LetterDrawerModel", "isOpen", "(I)Z"⟩, 52), (⟨"LetterDrawerModel", "digits", "(II)I"⟩, 52), (⟨"LetterDrawerModel", "prints", "(III)V"⟩, 52)]
theorem lw_r3 : ∀ q ∈ lw_privs_3, lw_okq q := List.forall_mem_cons.mpr ⟨lw_p32, List.forall_mem_cons.mpr ⟨lw_p33, List.forall_mem_cons.mpr ⟨lw_p34, List.forall_mem_cons.mpr ⟨lw_p35, List.forall_mem_cons.mpr ⟨lw_p36, List.forall_mem_cons.mpr ⟨lw_p37, List.forall_mem_cons.mpr ⟨lw_p38, List.forall_mem_cons.mpr ⟨lw_p39, List.forall_mem_cons.mpr ⟨lw_p40, List.forall_mem_cons.mpr ⟨lw_p41, List.forall_mem_cons.mpr ⟨lw_p42, List.forall_mem_cons.mpr ⟨lw_p43, List.forall_mem_cons.mpr ⟨lw_p44, List.forall_mem_cons.mpr ⟨lw_p45, List.forall_mem_cons.mpr ⟨lw_p46, List.forall_mem_cons.mpr ⟨lw_p47, fun _ h => absurd h List.not_mem_nil⟩⟩⟩⟩⟩⟩⟩⟩⟩⟩⟩⟩⟩⟩⟩⟩
theorem lw_p48 : lw_okq (⟨"LetterDrawerModel", "closes", "(I)V"⟩, 52) := ⟨⟨by decide +kernel, by decide +kernel⟩, List.mem_of_getElem? (i := 810) (by decide +kernel), List.mem_of_getElem? (i := 1156) (by decide +kernel), List.mem_of_getElem? (i := 1157) (by decide +kernel)⟩
theorem lw_p49 : lw_okq (⟨"LetterDrawerModel", "puts", "(I)V"⟩, 52) := ⟨⟨by decide +kernel, by decide +kernel⟩, List.mem_of_getElem? (i := 810) (by decide +kernel), List.mem_of_getElem? (i := 1160) (by decide +kernel), List.mem_of_getElem? (i := 1161) (by decide +kernel)⟩
theorem lw_p50 : lw_okq (⟨"LetterDrawerModel", "number", "(I)V"⟩, 52) := ⟨⟨by decide +kernel, by decide +kernel⟩, List.mem_of_getElem? (i := 810) (by decide +kernel), List.mem_of_getElem? (i := 1164) (by decide +kernel), List.mem_of_getElem? (i := 1165) (by decide +kernel)⟩
theorem lw_p51 : lw_okq (⟨"LetterDrawerModel", "opens", "(I)V"⟩, 52) := ⟨⟨by decide +kernel, by decide +kernel⟩, List.mem_of_getElem? (i := 810) (by decide +kernel), List.mem_of_getElem? (i := 1168) (by decide +kernel), List.mem_of_getElem? (i := 1169) (by decide +kernel)⟩
theorem lw_p52 : lw_okq (⟨"LetterDrawerModel", "findWords", "(II)V"⟩, 52) := ⟨⟨by decide +kernel, by decide +kernel⟩, List.mem_of_getElem? (i := 810) (by decide +kernel), List.mem_of_getElem? (i := 1180) (by decide +kernel), List.mem_of_getElem? (i := 1181) (by decide +kernel)⟩
theorem lw_p53 : lw_okq (⟨"LetterDrawerModel", "isSame", "(II)Z"⟩, 52) := ⟨⟨by decide +kernel, by decide +kernel⟩, List.mem_of_getElem? (i := 810) (by decide +kernel), List.mem_of_getElem? (i := 1188) (by decide +kernel), List.mem_of_getElem? (i := 1189) (by decide +kernel)⟩
theorem lw_p54 : lw_okq (⟨"LetterDrawerModel", "finds", "(I)I"⟩, 52) := ⟨⟨by decide +kernel, by decide +kernel⟩, List.mem_of_getElem? (i := 810) (by decide +kernel), List.mem_of_getElem? (i := 1200) (by decide +kernel), List.mem_of_getElem? (i := 1201) (by decide +kernel)⟩
theorem lw_p55 : lw_okq (⟨"LetterDrawerModel", "rest", "(II)I"⟩, 52) := ⟨⟨by decide +kernel, by decide +kernel⟩, List.mem_of_getElem? (i := 810) (by decide +kernel), List.mem_of_getElem? (i := 1204) (by decide +kernel), List.mem_of_getElem? (i := 1205) (by decide +kernel)⟩
theorem lw_p56 : lw_okq (⟨"LetterDrawerModel", "may", "(II)Z"⟩, 52) := ⟨⟨by decide +kernel, by decide +kernel⟩, List.mem_of_getElem? (i := 810) (by decide +kernel), List.mem_of_getElem? (i := 1209) (by decide +kernel), List.mem_of_getElem? (i := 1210) (by decide +kernel)⟩
theorem lw_p57 : lw_okq (⟨"LetterDrawerModel", "jump", "(II)I"⟩, 52) := ⟨⟨by decide +kernel, by decide +kernel⟩, List.mem_of_getElem? (i := 810) (by decide +kernel), List.mem_of_getElem? (i := 1213) (by decide +kernel), List.mem_of_getElem? (i := 1214) (by decide +kernel)⟩
theorem lw_p58 : lw_okq (⟨"LetterDrawerModel", "leastOf", "()I"⟩, 52) := ⟨⟨by decide +kernel, by decide +kernel⟩, List.mem_of_getElem? (i := 810) (by decide +kernel), List.mem_of_getElem? (i := 1220) (by decide +kernel), List.mem_of_getElem? (i := 1221) (by decide +kernel)⟩
def lw_privs_4 : List (MethodName × Nat) := [(⟨"LetterDrawerModel", "closes", "(I)V"⟩, 52), (⟨"LetterDrawerModel", "puts", "(I)V"⟩, 52), (⟨"LetterDrawerModel", "number", "(I)V"⟩, 52), (⟨"LetterDrawerModel", "opens", "(I)V"⟩, 52), (⟨"LetterDrawerModel", "findWords", "(II)V"⟩, 52), (⟨"LetterDrawerModel", "isSame", "(II)Z"⟩, 52), (⟨"LetterDrawerModel", "finds", "(I)I"⟩, 52), (⟨"LetterDrawerModel", "rest", "(II)I"⟩, 52), (⟨"LetterDrawerModel", "may", "(II)Z"⟩, 52), (⟨"LetterDrawerModel", "jump", "(II)I"⟩, 52), (⟨"LetterDrawerModel", "leastOf", "()I"⟩, 52)]
theorem lw_r4 : ∀ q ∈ lw_privs_4, lw_okq q := List.forall_mem_cons.mpr ⟨lw_p48, List.forall_mem_cons.mpr ⟨lw_p49, List.forall_mem_cons.mpr ⟨lw_p50, List.forall_mem_cons.mpr ⟨lw_p51, List.forall_mem_cons.mpr ⟨lw_p52, List.forall_mem_cons.mpr ⟨lw_p53, List.forall_mem_cons.mpr ⟨lw_p54, List.forall_mem_cons.mpr ⟨lw_p55, List.forall_mem_cons.mpr ⟨lw_p56, List.forall_mem_cons.mpr ⟨lw_p57, List.forall_mem_cons.mpr ⟨lw_p58, fun _ h => absurd h List.not_mem_nil⟩⟩⟩⟩⟩⟩⟩⟩⟩⟩⟩
def lw_privs : List (MethodName × Nat) := lw_privs_1 ++ (lw_privs_2 ++ (lw_privs_3 ++ (lw_privs_4)))
def lw_tbl : List Cond := k2_sels lw_privs ++ tables_1
theorem lw_privs_ok : ∀ q ∈ lw_privs, lw_okq q := by
  show ∀ q ∈ lw_privs_1 ++ (lw_privs_2 ++ (lw_privs_3 ++ (lw_privs_4))), lw_okq q
  exact List.forall_mem_append.mpr ⟨lw_r1, List.forall_mem_append.mpr ⟨lw_r2, List.forall_mem_append.mpr ⟨lw_r3, lw_r4⟩⟩⟩
def RX0 : String := "LetterDrawer$Calendar"
def TX0 : u_T := fun k => match k with
  | 0 => ("LetterDrawer$Calendar", "lows", "[I", true)
  | 1 => ("LetterDrawer$Calendar", "highs", "[I", true)
  | 2 => ("LetterDrawer$Calendar", "size", "I", false)
  | 3 => ("LetterDrawer$Calendar", "froms", "[I", true)
  | 4 => ("LetterDrawer$Calendar", "tos", "[I", true)
  | 5 => ("LetterDrawer$Calendar", "shifts", "[I", true)
  | 6 => ("LetterDrawer$Calendar", "roots", "[I", true)
  | 7 => ("LetterDrawer$Calendar", "weekdays", "[I", true)
  | _ => ("LetterDrawer$Calendar", "paths", "[[I", true)
def tyX0 : Nat → FieldType := fun k => match k with
  | 0 => .array .int
  | 1 => .array .int
  | 2 => .int
  | 3 => .array .int
  | 4 => .array .int
  | 5 => .array .int
  | 6 => .array .int
  | 7 => .array .int
  | _ => .array (.array .int)
abbrev wsX00 : List Cond := u_ws RX0 TX0 9
theorem nmX0 : ∀ a, a < 9 → ∀ b, b < 9 → a ≠ b → (TX0 a).2.1 ≠ (TX0 b).2.1 := by decide +kernel
theorem tyX0_ok : ∀ k, k < 9 → parseFieldDescriptor (TX0 k).2.2.1 = some (tyX0 k) := by decide +kernel
abbrev cX0_init : ByteArray := prog_2_method_1_code
def yX0_init : MethodName := ⟨RX0, "<init>", "()V"⟩
abbrev cX0_isShift : ByteArray := prog_2_method_2_code
def yX0_isShift : MethodName := ⟨RX0, "isShift", "(I)Z"⟩
abbrev cX0_add : ByteArray := prog_2_method_3_code
def yX0_add : MethodName := ⟨RX0, "add", "(III)I"⟩
abbrev cX0_removeLast : ByteArray := prog_2_method_4_code
def yX0_removeLast : MethodName := ⟨RX0, "removeLast", "()I"⟩
abbrev cX0_settle : ByteArray := prog_2_method_5_code
def yX0_settle : MethodName := ⟨RX0, "settle", "(LLetterDrawer$Letters;)Z"⟩
abbrev cX0_conflict : ByteArray := prog_2_method_6_code
def yX0_conflict : MethodName := ⟨RX0, "conflict", "(LLetterDrawer$Letters;)I"⟩
abbrev cX0_isAhead : ByteArray := prog_2_method_7_code
def yX0_isAhead : MethodName := ⟨RX0, "isAhead", "(II)Z"⟩
abbrev cX0_measurePaths : ByteArray := prog_2_method_8_code
def yX0_measurePaths : MethodName := ⟨RX0, "measurePaths", "(I)V"⟩
abbrev cX0_joinPaths : ByteArray := prog_2_method_9_code
def yX0_joinPaths : MethodName := ⟨RX0, "joinPaths", "(II)V"⟩
abbrev cX0_allBounds : ByteArray := prog_2_method_10_code
def yX0_allBounds : MethodName := ⟨RX0, "allBounds", "()I"⟩
abbrev cX0_isPossible : ByteArray := prog_2_method_11_code
def yX0_isPossible : MethodName := ⟨RX0, "isPossible", "(LLetterDrawer$Letters;I)Z"⟩
abbrev cX0_joinFound : ByteArray := prog_2_method_12_code
def yX0_joinFound : MethodName := ⟨RX0, "joinFound", "(I)Z"⟩
abbrev cX0_raiseLows : ByteArray := prog_2_method_13_code
def yX0_raiseLows : MethodName := ⟨RX0, "raiseLows", "(II)Z"⟩
abbrev cX0_raiseBy : ByteArray := prog_2_method_14_code
def yX0_raiseBy : MethodName := ⟨RX0, "raiseBy", "(I)Z"⟩
abbrev cX0_isOrdered : ByteArray := prog_2_method_15_code
def yX0_isOrdered : MethodName := ⟨RX0, "isOrdered", "(I)Z"⟩
abbrev cX0_sinkHighs : ByteArray := prog_2_method_16_code
def yX0_sinkHighs : MethodName := ⟨RX0, "sinkHighs", "()V"⟩
abbrev cX0_sinkBy : ByteArray := prog_2_method_17_code
def yX0_sinkBy : MethodName := ⟨RX0, "sinkBy", "(I)Z"⟩
abbrev cX0_dayFrom : ByteArray := prog_2_method_18_code
def yX0_dayFrom : MethodName := ⟨RX0, "dayFrom", "(II)I"⟩
abbrev cX0_dayUpTo : ByteArray := prog_2_method_19_code
def yX0_dayUpTo : MethodName := ⟨RX0, "dayUpTo", "(II)I"⟩
def RX1 : String := "LetterDrawer$Hands"
def TX1 : u_T := fun k => match k with
  | 0 => ("LetterDrawer$Hands", "persons", "[I", true)
  | 1 => ("LetterDrawer$Hands", "size", "I", false)
  | 2 => ("LetterDrawer$Hands", "letters", "[I", true)
  | _ => ("LetterDrawer$Hands", "names", "[I", true)
def tyX1 : Nat → FieldType := fun k => match k with
  | 0 => .array .int
  | 1 => .int
  | 2 => .array .int
  | _ => .array .int
abbrev wsX10 : List Cond := u_ws RX1 TX1 4
theorem nmX1 : ∀ a, a < 4 → ∀ b, b < 4 → a ≠ b → (TX1 a).2.1 ≠ (TX1 b).2.1 := by decide +kernel
theorem tyX1_ok : ∀ k, k < 4 → parseFieldDescriptor (TX1 k).2.2.1 = some (tyX1 k) := by decide +kernel
abbrev cX1_init : ByteArray := prog_3_method_1_code
def yX1_init : MethodName := ⟨RX1, "<init>", "()V"⟩
abbrev cX1_find : ByteArray := prog_3_method_2_code
def yX1_find : MethodName := ⟨RX1, "find", "(II)I"⟩
abbrev cX1_put : ByteArray := prog_3_method_3_code
def yX1_put : MethodName := ⟨RX1, "put", "(III)I"⟩
def RX2 : String := "LetterDrawer$Letters"
def TX2 : u_T := fun k => match k with
  | 0 => ("LetterDrawer$Letters", "kinds", "[I", true)
  | 1 => ("LetterDrawer$Letters", "writers", "[I", true)
  | 2 => ("LetterDrawer$Letters", "readers", "[I", true)
  | 3 => ("LetterDrawer$Letters", "places", "[I", true)
  | 4 => ("LetterDrawer$Letters", "leasts", "[I", true)
  | 5 => ("LetterDrawer$Letters", "greatests", "[I", true)
  | 6 => ("LetterDrawer$Letters", "weekdays", "[I", true)
  | 7 => ("LetterDrawer$Letters", "founds", "[I", true)
  | 8 => ("LetterDrawer$Letters", "sizes", "[I", true)
  | 9 => ("LetterDrawer$Letters", "texts", "[[B", true)
  | _ => ("LetterDrawer$Letters", "size", "I", false)
def tyX2 : Nat → FieldType := fun k => match k with
  | 0 => .array .int
  | 1 => .array .int
  | 2 => .array .int
  | 3 => .array .int
  | 4 => .array .int
  | 5 => .array .int
  | 6 => .array .int
  | 7 => .array .int
  | 8 => .array .int
  | 9 => .array (.array .byte)
  | _ => .int
abbrev wsX20 : List Cond := u_ws RX2 TX2 11
theorem nmX2 : ∀ a, a < 11 → ∀ b, b < 11 → a ≠ b → (TX2 a).2.1 ≠ (TX2 b).2.1 := by decide +kernel
theorem tyX2_ok : ∀ k, k < 11 → parseFieldDescriptor (TX2 k).2.2.1 = some (tyX2 k) := by decide +kernel
abbrev cX2_init : ByteArray := prog_4_method_1_code
def yX2_init : MethodName := ⟨RX2, "<init>", "()V"⟩
abbrev cX2_isKind : ByteArray := prog_4_method_2_code
def yX2_isKind : MethodName := ⟨RX2, "isKind", "(I)Z"⟩
abbrev cX2_isUnder : ByteArray := prog_4_method_3_code
def yX2_isUnder : MethodName := ⟨RX2, "isUnder", "(II)Z"⟩
abbrev cX2_has : ByteArray := prog_4_method_4_code
def yX2_has : MethodName := ⟨RX2, "has", "(I)Z"⟩
abbrev cX2_add : ByteArray := prog_4_method_5_code
def yX2_add : MethodName := ⟨RX2, "add", "(IIII)I"⟩
abbrev cX2_isLost : ByteArray := prog_4_method_6_code
def yX2_isLost : MethodName := ⟨RX2, "isLost", "(I)Z"⟩
abbrev cX2_stillLost : ByteArray := prog_4_method_7_code
def yX2_stillLost : MethodName := ⟨RX2, "stillLost", "()I"⟩
abbrev cX2_isReader : ByteArray := prog_4_method_8_code
def yX2_isReader : MethodName := ⟨RX2, "isReader", "(II)Z"⟩
abbrev cX2_write : ByteArray := prog_4_method_9_code
def yX2_write : MethodName := ⟨RX2, "write", "(I[BI)V"⟩
def RX3 : String := "LetterDrawer$MarkReader"
def TX3 : u_T := fun k => match k with
  | 0 => ("LetterDrawer$MarkReader", "depth", "I", false)
  | 1 => ("LetterDrawer$MarkReader", "sort", "I", false)
  | 2 => ("LetterDrawer$MarkReader", "number", "I", false)
  | 3 => ("LetterDrawer$MarkReader", "markAt", "I", false)
  | 4 => ("LetterDrawer$MarkReader", "wrongAt", "I", false)
  | 5 => ("LetterDrawer$MarkReader", "open", "[I", true)
  | 6 => ("LetterDrawer$MarkReader", "state", "I", false)
  | _ => ("LetterDrawer$MarkReader", "digits", "I", false)
def tyX3 : Nat → FieldType := fun k => match k with
  | 0 => .int
  | 1 => .int
  | 2 => .int
  | 3 => .int
  | 4 => .int
  | 5 => .array .int
  | 6 => .int
  | _ => .int
abbrev wsX30 : List Cond := u_ws RX3 TX3 8
theorem nmX3 : ∀ a, a < 8 → ∀ b, b < 8 → a ≠ b → (TX3 a).2.1 ≠ (TX3 b).2.1 := by decide +kernel
theorem tyX3_ok : ∀ k, k < 8 → parseFieldDescriptor (TX3 k).2.2.1 = some (tyX3 k) := by decide +kernel
abbrev cX3_init : ByteArray := prog_5_method_1_code
def yX3_init : MethodName := ⟨RX3, "<init>", "()V"⟩
abbrev cX3_begin : ByteArray := prog_5_method_2_code
def yX3_begin : MethodName := ⟨RX3, "begin", "()V"⟩
abbrev cX3_isWhole : ByteArray := prog_5_method_3_code
def yX3_isWhole : MethodName := ⟨RX3, "isWhole", "()Z"⟩
abbrev cX3_take : ByteArray := prog_5_method_4_code
def yX3_take : MethodName := ⟨RX3, "take", "(II)I"⟩
abbrev cX3_takeText : ByteArray := prog_5_method_5_code
def yX3_takeText : MethodName := ⟨RX3, "takeText", "(II)I"⟩
abbrev cX3_takeSort : ByteArray := prog_5_method_6_code
def yX3_takeSort : MethodName := ⟨RX3, "takeSort", "(II)I"⟩
abbrev cX3_takeNumber : ByteArray := prog_5_method_7_code
def yX3_takeNumber : MethodName := ⟨RX3, "takeNumber", "(II)I"⟩
abbrev cX3_openMark : ByteArray := prog_5_method_8_code
def yX3_openMark : MethodName := ⟨RX3, "openMark", "()I"⟩
abbrev cX3_stopAt : ByteArray := prog_5_method_9_code
def yX3_stopAt : MethodName := ⟨RX3, "stopAt", "(I)I"⟩
abbrev cX3_isOpen : ByteArray := prog_5_method_10_code
def yX3_isOpen : MethodName := ⟨RX3, "isOpen", "(I)Z"⟩
abbrev cX3_isLetter : ByteArray := prog_5_method_11_code
def yX3_isLetter : MethodName := ⟨RX3, "isLetter", "(I)Z"⟩
abbrev cX3_isSort : ByteArray := prog_5_method_12_code
def yX3_isSort : MethodName := ⟨RX3, "isSort", "(I)Z"⟩
def RX4 : String := "LetterDrawer$People"
def TX4 : u_T := fun k => match k with
  | 0 => ("LetterDrawer$People", "names", "[I", true)
  | 1 => ("LetterDrawer$People", "places", "[I", true)
  | 2 => ("LetterDrawer$People", "firsts", "[I", true)
  | 3 => ("LetterDrawer$People", "lasts", "[I", true)
  | 4 => ("LetterDrawer$People", "known", "[I", true)
  | _ => ("LetterDrawer$People", "size", "I", false)
def tyX4 : Nat → FieldType := fun k => match k with
  | 0 => .array .int
  | 1 => .array .int
  | 2 => .array .int
  | 3 => .array .int
  | 4 => .array .int
  | _ => .int
abbrev wsX40 : List Cond := u_ws RX4 TX4 6
theorem nmX4 : ∀ a, a < 6 → ∀ b, b < 6 → a ≠ b → (TX4 a).2.1 ≠ (TX4 b).2.1 := by decide +kernel
theorem tyX4_ok : ∀ k, k < 6 → parseFieldDescriptor (TX4 k).2.2.1 = some (tyX4 k) := by decide +kernel
abbrev cX4_init : ByteArray := prog_6_method_1_code
def yX4_init : MethodName := ⟨RX4, "<init>", "()V"⟩
abbrev cX4_has : ByteArray := prog_6_method_2_code
def yX4_has : MethodName := ⟨RX4, "has", "(I)Z"⟩
abbrev cX4_add : ByteArray := prog_6_method_3_code
def yX4_add : MethodName := ⟨RX4, "add", "(II)I"⟩
abbrev cX4_acquaint : ByteArray := prog_6_method_4_code
def yX4_acquaint : MethodName := ⟨RX4, "acquaint", "(IIZ)Z"⟩
abbrev cX4_knownBy : ByteArray := prog_6_method_5_code
def yX4_knownBy : MethodName := ⟨RX4, "knownBy", "(IIII)I"⟩
abbrev cX4_onlyOne : ByteArray := prog_6_method_6_code
def yX4_onlyOne : MethodName := ⟨RX4, "onlyOne", "(I)I"⟩
abbrev cX4_isAlive : ByteArray := prog_6_method_7_code
def yX4_isAlive : MethodName := ⟨RX4, "isAlive", "(III)Z"⟩
def RX5 : String := "LetterDrawer$Posts"
def TX5 : u_T := fun k => match k with
  | 0 => ("LetterDrawer$Posts", "leasts", "[[I", true)
  | _ => ("LetterDrawer$Posts", "mosts", "[[I", true)
def tyX5 : Nat → FieldType := fun k => match k with
  | 0 => .array (.array .int)
  | _ => .array (.array .int)
abbrev wsX50 : List Cond := u_ws RX5 TX5 2
theorem nmX5 : ∀ a, a < 2 → ∀ b, b < 2 → a ≠ b → (TX5 a).2.1 ≠ (TX5 b).2.1 := by decide +kernel
theorem tyX5_ok : ∀ k, k < 2 → parseFieldDescriptor (TX5 k).2.2.1 = some (tyX5 k) := by decide +kernel
abbrev cX5_init : ByteArray := prog_7_method_1_code
def yX5_init : MethodName := ⟨RX5, "<init>", "()V"⟩
abbrev cX5_isTime : ByteArray := prog_7_method_2_code
def yX5_isTime : MethodName := ⟨RX5, "isTime", "(I)Z"⟩
def RX6 : String := "LetterDrawer$Printer"
def TX6 : u_T := fun k => match k with
  | 0 => ("LetterDrawer$Printer", "bytes", "[B", true)
  | _ => ("LetterDrawer$Printer", "size", "I", false)
def tyX6 : Nat → FieldType := fun k => match k with
  | 0 => .array .byte
  | _ => .int
abbrev wsX60 : List Cond := u_ws RX6 TX6 2
theorem nmX6 : ∀ a, a < 2 → ∀ b, b < 2 → a ≠ b → (TX6 a).2.1 ≠ (TX6 b).2.1 := by decide +kernel
theorem tyX6_ok : ∀ k, k < 2 → parseFieldDescriptor (TX6 k).2.2.1 = some (tyX6 k) := by decide +kernel
abbrev cX6_init : ByteArray := prog_8_method_1_code
def yX6_init : MethodName := ⟨RX6, "<init>", "()V"⟩
abbrev cX6_render : ByteArray := prog_8_method_2_code
def yX6_render : MethodName := ⟨RX6, "render", "(LLetterDrawer$MarkReader;[BIII)V"⟩
abbrev cX6_isHidden : ByteArray := prog_8_method_3_code
def yX6_isHidden : MethodName := ⟨RX6, "isHidden", "(LLetterDrawer$MarkReader;II)Z"⟩
abbrev cX6_addMark : ByteArray := prog_8_method_4_code
def yX6_addMark : MethodName := ⟨RX6, "addMark", "(ILLetterDrawer$MarkReader;)V"⟩
abbrev cX6_addNumber : ByteArray := prog_8_method_5_code
def yX6_addNumber : MethodName := ⟨RX6, "addNumber", "(I)V"⟩
abbrev cX6_add : ByteArray := prog_8_method_6_code
def yX6_add : MethodName := ⟨RX6, "add", "(I)V"⟩
def RX7 : String := "LetterDrawer$Sequence"
def TX7 : u_T := fun k => match k with
  | 0 => ("LetterDrawer$Sequence", "row", "[I", true)
  | 1 => ("LetterDrawer$Sequence", "jumps", "I", false)
  | _ => ("LetterDrawer$Sequence", "size", "I", false)
def tyX7 : Nat → FieldType := fun k => match k with
  | 0 => .array .int
  | 1 => .int
  | _ => .int
abbrev wsX70 : List Cond := u_ws RX7 TX7 3
theorem nmX7 : ∀ a, a < 3 → ∀ b, b < 3 → a ≠ b → (TX7 a).2.1 ≠ (TX7 b).2.1 := by decide +kernel
theorem tyX7_ok : ∀ k, k < 3 → parseFieldDescriptor (TX7 k).2.2.1 = some (tyX7 k) := by decide +kernel
abbrev cX7_init : ByteArray := prog_9_method_1_code
def yX7_init : MethodName := ⟨RX7, "<init>", "()V"⟩
abbrev cX7_arrange : ByteArray := prog_9_method_2_code
def yX7_arrange : MethodName := ⟨RX7, "arrange", "(ILLetterDrawer$Calendar;)V"⟩
abbrev cX7_collect : ByteArray := prog_9_method_3_code
def yX7_collect : MethodName := ⟨RX7, "collect", "(I)V"⟩
abbrev cX7_isFree : ByteArray := prog_9_method_4_code
def yX7_isFree : MethodName := ⟨RX7, "isFree", "(LLetterDrawer$Calendar;)Z"⟩
abbrev cX7_sort : ByteArray := prog_9_method_5_code
def yX7_sort : MethodName := ⟨RX7, "sort", "([II)V"⟩
def RX8 : String := "LetterDrawer$Tape"
def TX8 : u_T := fun k => match k with
  | 0 => ("LetterDrawer$Tape", "bytes", "[B", true)
  | _ => ("LetterDrawer$Tape", "size", "I", false)
def tyX8 : Nat → FieldType := fun k => match k with
  | 0 => .array .byte
  | _ => .int
abbrev wsX80 : List Cond := u_ws RX8 TX8 2
theorem nmX8 : ∀ a, a < 2 → ∀ b, b < 2 → a ≠ b → (TX8 a).2.1 ≠ (TX8 b).2.1 := by decide +kernel
theorem tyX8_ok : ∀ k, k < 2 → parseFieldDescriptor (TX8 k).2.2.1 = some (tyX8 k) := by decide +kernel
abbrev cX8_init : ByteArray := prog_10_method_1_code
def yX8_init : MethodName := ⟨RX8, "<init>", "()V"⟩
abbrev cX8_add : ByteArray := prog_10_method_2_code
def yX8_add : MethodName := ⟨RX8, "add", "(B)V"⟩
def RX9 : String := "LetterDrawer$Trays"
def TX9 : u_T := fun k => match k with
  | 0 => ("LetterDrawer$Trays", "rows", "[[B", true)
  | _ => ("LetterDrawer$Trays", "sizes", "[I", true)
def tyX9 : Nat → FieldType := fun k => match k with
  | 0 => .array (.array .byte)
  | _ => .array .int
abbrev wsX90 : List Cond := u_ws RX9 TX9 2
theorem nmX9 : ∀ a, a < 2 → ∀ b, b < 2 → a ≠ b → (TX9 a).2.1 ≠ (TX9 b).2.1 := by decide +kernel
theorem tyX9_ok : ∀ k, k < 2 → parseFieldDescriptor (TX9 k).2.2.1 = some (tyX9 k) := by decide +kernel
abbrev cX9_init : ByteArray := prog_11_method_1_code
def yX9_init : MethodName := ⟨RX9, "<init>", "()V"⟩
abbrev cX9_has : ByteArray := prog_11_method_2_code
def yX9_has : MethodName := ⟨RX9, "has", "(I)Z"⟩
abbrev cX9_hasCell : ByteArray := prog_11_method_3_code
def yX9_hasCell : MethodName := ⟨RX9, "hasCell", "(II)Z"⟩
abbrev cX9_empty : ByteArray := prog_11_method_4_code
def yX9_empty : MethodName := ⟨RX9, "empty", "(II)V"⟩
def RX10 : String := "LetterDrawer$WordRow"
def TX10 : u_T := fun k => match k with
  | 0 => ("LetterDrawer$WordRow", "size", "I", false)
  | 1 => ("LetterDrawer$WordRow", "bytes", "[B", true)
  | 2 => ("LetterDrawer$WordRow", "starts", "[I", true)
  | 3 => ("LetterDrawer$WordRow", "ends", "[I", true)
  | _ => ("LetterDrawer$WordRow", "costs", "[I", true)
def tyX10 : Nat → FieldType := fun k => match k with
  | 0 => .int
  | 1 => .array .byte
  | 2 => .array .int
  | 3 => .array .int
  | _ => .array .int
abbrev wsX100 : List Cond := u_ws RX10 TX10 5
theorem nmX10 : ∀ a, a < 5 → ∀ b, b < 5 → a ≠ b → (TX10 a).2.1 ≠ (TX10 b).2.1 := by decide +kernel
theorem tyX10_ok : ∀ k, k < 5 → parseFieldDescriptor (TX10 k).2.2.1 = some (tyX10 k) := by decide +kernel
abbrev cX10_init : ByteArray := prog_12_method_1_code
def yX10_init : MethodName := ⟨RX10, "<init>", "()V"⟩
abbrev cX10_split : ByteArray := prog_12_method_2_code
def yX10_split : MethodName := ⟨RX10, "split", "([BI)V"⟩
abbrev cX10_stepsTo : ByteArray := prog_12_method_3_code
def yX10_stepsTo : MethodName := ⟨RX10, "stepsTo", "(LLetterDrawer$WordRow;)I"⟩
abbrev cX10_isAlike : ByteArray := prog_12_method_4_code
def yX10_isAlike : MethodName := ⟨RX10, "isAlike", "(ILLetterDrawer$WordRow;I)Z"⟩
def RX11 : String := "LetterDrawer"
def TX11 : u_T := fun k => match k with
  | 0 => ("LetterDrawer", "people", "LLetterDrawer$People;", true)
  | 1 => ("LetterDrawer", "letters", "LLetterDrawer$Letters;", true)
  | 2 => ("LetterDrawer", "calendar", "LLetterDrawer$Calendar;", true)
  | 3 => ("LetterDrawer", "posts", "LLetterDrawer$Posts;", true)
  | 4 => ("LetterDrawer", "hands", "LLetterDrawer$Hands;", true)
  | 5 => ("LetterDrawer", "tape", "LLetterDrawer$Tape;", true)
  | 6 => ("LetterDrawer", "reader", "LLetterDrawer$MarkReader;", true)
  | 7 => ("LetterDrawer", "printer", "LLetterDrawer$Printer;", true)
  | 8 => ("LetterDrawer", "someWords", "LLetterDrawer$WordRow;", true)
  | 9 => ("LetterDrawer", "otherWords", "LLetterDrawer$WordRow;", true)
  | 10 => ("LetterDrawer", "sequence", "LLetterDrawer$Sequence;", true)
  | 11 => ("LetterDrawer", "trays", "LLetterDrawer$Trays;", true)
  | 12 => ("LetterDrawer", "faultKind", "I", false)
  | _ => ("LetterDrawer", "faultPlace", "I", false)
def tyX11 : Nat → FieldType := fun k => match k with
  | 0 => .object "LetterDrawer$People"
  | 1 => .object "LetterDrawer$Letters"
  | 2 => .object "LetterDrawer$Calendar"
  | 3 => .object "LetterDrawer$Posts"
  | 4 => .object "LetterDrawer$Hands"
  | 5 => .object "LetterDrawer$Tape"
  | 6 => .object "LetterDrawer$MarkReader"
  | 7 => .object "LetterDrawer$Printer"
  | 8 => .object "LetterDrawer$WordRow"
  | 9 => .object "LetterDrawer$WordRow"
  | 10 => .object "LetterDrawer$Sequence"
  | 11 => .object "LetterDrawer$Trays"
  | 12 => .int
  | _ => .int
abbrev wsX110 : List Cond := u_ws RX11 TX11 14
theorem nmX11 : ∀ a, a < 14 → ∀ b, b < 14 → a ≠ b → (TX11 a).2.1 ≠ (TX11 b).2.1 := by decide +kernel
theorem tyX11_ok : ∀ k, k < 14 → parseFieldDescriptor (TX11 k).2.2.1 = some (tyX11 k) := by decide +kernel
abbrev cX11_init : ByteArray := prog_1_method_1_code
def yX11_init : MethodName := ⟨RX11, "<init>", "()V"⟩
abbrev cX11_person : ByteArray := prog_1_method_2_code
def yX11_person : MethodName := ⟨RX11, "person", "(II)I"⟩
abbrev cX11_lived : ByteArray := prog_1_method_3_code
def yX11_lived : MethodName := ⟨RX11, "lived", "(III)I"⟩
abbrev cX11_knows : ByteArray := prog_1_method_4_code
def yX11_knows : MethodName := ⟨RX11, "knows", "(IIZ)I"⟩
abbrev cX11_letter : ByteArray := prog_1_method_5_code
def yX11_letter : MethodName := ⟨RX11, "letter", "(IIII)I"⟩
abbrev cX11_told : ByteArray := prog_1_method_6_code
def yX11_told : MethodName := ⟨RX11, "told", "(II)I"⟩
abbrev cX11_days : ByteArray := prog_1_method_7_code
def yX11_days : MethodName := ⟨RX11, "days", "(III)I"⟩
abbrev cX11_week : ByteArray := prog_1_method_8_code
def yX11_week : MethodName := ⟨RX11, "week", "(II)I"⟩
abbrev cX11_bound : ByteArray := prog_1_method_9_code
def yX11_bound : MethodName := ⟨RX11, "bound", "(III)I"⟩
abbrev cX11_loose : ByteArray := prog_1_method_10_code
def yX11_loose : MethodName := ⟨RX11, "loose", "()I"⟩
abbrev cX11_found : ByteArray := prog_1_method_11_code
def yX11_found : MethodName := ⟨RX11, "found", "(II)I"⟩
abbrev cX11_lose : ByteArray := prog_1_method_12_code
def yX11_lose : MethodName := ⟨RX11, "lose", "(I)I"⟩
abbrev cX11_span : ByteArray := prog_1_method_13_code
def yX11_span : MethodName := ⟨RX11, "span", "(II)I"⟩
abbrev cX11_clash : ByteArray := prog_1_method_14_code
def yX11_clash : MethodName := ⟨RX11, "clash", "()I"⟩
abbrev cX11_before : ByteArray := prog_1_method_15_code
def yX11_before : MethodName := ⟨RX11, "before", "(II)I"⟩
abbrev cX11_post : ByteArray := prog_1_method_16_code
def yX11_post : MethodName := ⟨RX11, "post", "(IIII)I"⟩
abbrev cX11_read : ByteArray := prog_1_method_17_code
def yX11_read : MethodName := ⟨RX11, "read", "(IIII)I"⟩
abbrev cX11_reads : ByteArray := prog_1_method_18_code
def yX11_reads : MethodName := ⟨RX11, "reads", "(III)I"⟩
abbrev cX11_means : ByteArray := prog_1_method_19_code
def yX11_means : MethodName := ⟨RX11, "means", "(II)I"⟩
abbrev cX11_who : ByteArray := prog_1_method_20_code
def yX11_who : MethodName := ⟨RX11, "who", "(II)I"⟩
abbrev cX11_hand : ByteArray := prog_1_method_21_code
def yX11_hand : MethodName := ⟨RX11, "hand", "(III)I"⟩
abbrev cX11_feed : ByteArray := prog_1_method_22_code
def yX11_feed : MethodName := ⟨RX11, "feed", "(IJ)I"⟩
abbrev cX11_text : ByteArray := prog_1_method_23_code
def yX11_text : MethodName := ⟨RX11, "text", "(I)I"⟩
abbrev cX11_fault : ByteArray := prog_1_method_24_code
def yX11_fault : MethodName := ⟨RX11, "fault", "(I)I"⟩
abbrev cX11_print : ByteArray := prog_1_method_25_code
def yX11_print : MethodName := ⟨RX11, "print", "(III)I"⟩
abbrev cX11_printed : ByteArray := prog_1_method_26_code
def yX11_printed : MethodName := ⟨RX11, "printed", "(IIII)I"⟩
abbrev cX11_words : ByteArray := prog_1_method_27_code
def yX11_words : MethodName := ⟨RX11, "words", "(I)I"⟩
abbrev cX11_differ : ByteArray := prog_1_method_28_code
def yX11_differ : MethodName := ⟨RX11, "differ", "(II)I"⟩
abbrev cX11_note : ByteArray := prog_1_method_29_code
def yX11_note : MethodName := ⟨RX11, "note", "(II)I"⟩
abbrev cX11_jumps : ByteArray := prog_1_method_30_code
def yX11_jumps : MethodName := ⟨RX11, "jumps", "(I)I"⟩
abbrev cX11_order : ByteArray := prog_1_method_31_code
def yX11_order : MethodName := ⟨RX11, "order", "(II)I"⟩
abbrev cX11_count : ByteArray := prog_1_method_32_code
def yX11_count : MethodName := ⟨RX11, "count", "(I)I"⟩
abbrev cX11_tray : ByteArray := prog_1_method_33_code
def yX11_tray : MethodName := ⟨RX11, "tray", "(II)I"⟩
abbrev cX11_cell : ByteArray := prog_1_method_34_code
def yX11_cell : MethodName := ⟨RX11, "cell", "(III)I"⟩
abbrev cX11_lay : ByteArray := prog_1_method_35_code
def yX11_lay : MethodName := ⟨RX11, "lay", "(III)I"⟩
abbrev cX11_taken : ByteArray := prog_1_method_36_code
def yX11_taken : MethodName := ⟨RX11, "taken", "(II)I"⟩
abbrev cX11_isDay : ByteArray := prog_1_method_37_code
def yX11_isDay : MethodName := ⟨RX11, "isDay", "(I)Z"⟩
abbrev cX11_isName : ByteArray := prog_1_method_38_code
def yX11_isName : MethodName := ⟨RX11, "isName", "(I)Z"⟩
abbrev cX11_isPlace : ByteArray := prog_1_method_39_code
def yX11_isPlace : MethodName := ⟨RX11, "isPlace", "(I)Z"⟩
abbrev cX11_isReading : ByteArray := prog_1_method_40_code
def yX11_isReading : MethodName := ⟨RX11, "isReading", "(III)Z"⟩
abbrev cX11_isPrinting : ByteArray := prog_1_method_41_code
def yX11_isPrinting : MethodName := ⟨RX11, "isPrinting", "(III)Z"⟩
abbrev cX11_isOrderable : ByteArray := prog_1_method_42_code
def yX11_isOrderable : MethodName := ⟨RX11, "isOrderable", "(I)Z"⟩
abbrev cX11_hasRead : ByteArray := prog_1_method_43_code
def yX11_hasRead : MethodName := ⟨RX11, "hasRead", "(IIII)Z"⟩
abbrev cX11_meant : ByteArray := prog_1_method_44_code
def yX11_meant : MethodName := ⟨RX11, "meant", "(II)I"⟩
abbrev cX11_examineTape : ByteArray := prog_1_method_45_code
def yX11_examineTape : MethodName := ⟨RX11, "examineTape", "()V"⟩
abbrev cX11_printText : ByteArray := prog_1_method_46_code
def yX11_printText : MethodName := ⟨RX11, "printText", "(III)V"⟩
abbrev cX11_readWords : ByteArray := prog_1_method_47_code
def yX11_readWords : MethodName := ⟨RX11, "readWords", "(ILLetterDrawer$WordRow;)V"⟩
abbrev cX11_arrange : ByteArray := prog_1_method_48_code
def yX11_arrange : MethodName := ⟨RX11, "arrange", "(I)Z"⟩
def RX12 : String := "LetterDrawerModel"
def TX12 : u_T := fun k => match k with
  | 0 => ("LetterDrawerModel", "persons", "I", false)
  | 1 => ("LetterDrawerModel", "letters", "I", false)
  | 2 => ("LetterDrawerModel", "bounds", "I", false)
  | 3 => ("LetterDrawerModel", "hands", "I", false)
  | 4 => ("LetterDrawerModel", "size", "I", false)
  | 5 => ("LetterDrawerModel", "name", "[I", true)
  | 6 => ("LetterDrawerModel", "home", "[I", true)
  | 7 => ("LetterDrawerModel", "first", "[I", true)
  | 8 => ("LetterDrawerModel", "last", "[I", true)
  | 9 => ("LetterDrawerModel", "known", "[Z", true)
  | 10 => ("LetterDrawerModel", "kind", "[I", true)
  | 11 => ("LetterDrawerModel", "writer", "[I", true)
  | 12 => ("LetterDrawerModel", "reader", "[I", true)
  | 13 => ("LetterDrawerModel", "place", "[I", true)
  | 14 => ("LetterDrawerModel", "least", "[I", true)
  | 15 => ("LetterDrawerModel", "most", "[I", true)
  | 16 => ("LetterDrawerModel", "week", "[I", true)
  | 17 => ("LetterDrawerModel", "is", "[I", true)
  | 18 => ("LetterDrawerModel", "length", "[I", true)
  | 19 => ("LetterDrawerModel", "texts", "[I", true)
  | 20 => ("LetterDrawerModel", "boundA", "[I", true)
  | 21 => ("LetterDrawerModel", "boundB", "[I", true)
  | 22 => ("LetterDrawerModel", "boundBy", "[I", true)
  | 23 => ("LetterDrawerModel", "postLeast", "[I", true)
  | 24 => ("LetterDrawerModel", "postMost", "[I", true)
  | 25 => ("LetterDrawerModel", "handLetter", "[I", true)
  | 26 => ("LetterDrawerModel", "handName", "[I", true)
  | 27 => ("LetterDrawerModel", "handPerson", "[I", true)
  | 28 => ("LetterDrawerModel", "tape", "[I", true)
  | 29 => ("LetterDrawerModel", "low", "[I", true)
  | 30 => ("LetterDrawerModel", "high", "[I", true)
  | 31 => ("LetterDrawerModel", "moved", "Z", false)
  | 32 => ("LetterDrawerModel", "way", "[I", true)
  | 33 => ("LetterDrawerModel", "meant", "I", false)
  | 34 => ("LetterDrawerModel", "faultKind", "I", false)
  | 35 => ("LetterDrawerModel", "faultAt", "I", false)
  | 36 => ("LetterDrawerModel", "opened", "I", false)
  | 37 => ("LetterDrawerModel", "open", "[I", true)
  | 38 => ("LetterDrawerModel", "print", "[I", true)
  | 39 => ("LetterDrawerModel", "row", "[I", true)
  | 40 => ("LetterDrawerModel", "printMany", "I", false)
  | 41 => ("LetterDrawerModel", "signs", "[I", true)
  | 42 => ("LetterDrawerModel", "begins", "[I", true)
  | 43 => ("LetterDrawerModel", "ends", "[I", true)
  | 44 => ("LetterDrawerModel", "wordMany", "[I", true)
  | 45 => ("LetterDrawerModel", "above", "[I", true)
  | 46 => ("LetterDrawerModel", "below", "[I", true)
  | 47 => ("LetterDrawerModel", "some", "[I", true)
  | 48 => ("LetterDrawerModel", "jumps", "[I", true)
  | 49 => ("LetterDrawerModel", "many", "I", false)
  | 50 => ("LetterDrawerModel", "traySize", "[I", true)
  | _ => ("LetterDrawerModel", "trays", "[I", true)
def tyX12 : Nat → FieldType := fun k => match k with
  | 0 => .int
  | 1 => .int
  | 2 => .int
  | 3 => .int
  | 4 => .int
  | 5 => .array .int
  | 6 => .array .int
  | 7 => .array .int
  | 8 => .array .int
  | 9 => .array .boolean
  | 10 => .array .int
  | 11 => .array .int
  | 12 => .array .int
  | 13 => .array .int
  | 14 => .array .int
  | 15 => .array .int
  | 16 => .array .int
  | 17 => .array .int
  | 18 => .array .int
  | 19 => .array .int
  | 20 => .array .int
  | 21 => .array .int
  | 22 => .array .int
  | 23 => .array .int
  | 24 => .array .int
  | 25 => .array .int
  | 26 => .array .int
  | 27 => .array .int
  | 28 => .array .int
  | 29 => .array .int
  | 30 => .array .int
  | 31 => .boolean
  | 32 => .array .int
  | 33 => .int
  | 34 => .int
  | 35 => .int
  | 36 => .int
  | 37 => .array .int
  | 38 => .array .int
  | 39 => .array .int
  | 40 => .int
  | 41 => .array .int
  | 42 => .array .int
  | 43 => .array .int
  | 44 => .array .int
  | 45 => .array .int
  | 46 => .array .int
  | 47 => .array .int
  | 48 => .array .int
  | 49 => .int
  | 50 => .array .int
  | _ => .array .int
abbrev wsX120 : List Cond := u_ws RX12 TX12 52
theorem nmX12 : ∀ a, a < 52 → ∀ b, b < 52 → a ≠ b → (TX12 a).2.1 ≠ (TX12 b).2.1 := by decide +kernel
theorem tyX12_ok : ∀ k, k < 52 → parseFieldDescriptor (TX12 k).2.2.1 = some (tyX12 k) := by decide +kernel
abbrev cX12_init : ByteArray := prog_14_method_1_code
def yX12_init : MethodName := ⟨RX12, "<init>", "()V"⟩
abbrev cX12_isIn : ByteArray := prog_14_method_2_code
def yX12_isIn : MethodName := ⟨RX12, "isIn", "(II)Z"⟩
abbrev cX12_isDay : ByteArray := prog_14_method_3_code
def yX12_isDay : MethodName := ⟨RX12, "isDay", "(I)Z"⟩
abbrev cX12_isPerson : ByteArray := prog_14_method_4_code
def yX12_isPerson : MethodName := ⟨RX12, "isPerson", "(I)Z"⟩
abbrev cX12_isLetter : ByteArray := prog_14_method_5_code
def yX12_isLetter : MethodName := ⟨RX12, "isLetter", "(I)Z"⟩
abbrev cX12_person : ByteArray := prog_14_method_6_code
def yX12_person : MethodName := ⟨RX12, "person", "(II)I"⟩
abbrev cX12_lived : ByteArray := prog_14_method_7_code
def yX12_lived : MethodName := ⟨RX12, "lived", "(III)I"⟩
abbrev cX12_knows : ByteArray := prog_14_method_8_code
def yX12_knows : MethodName := ⟨RX12, "knows", "(IIZ)I"⟩
abbrev cX12_letter : ByteArray := prog_14_method_9_code
def yX12_letter : MethodName := ⟨RX12, "letter", "(IIII)I"⟩
abbrev cX12_told : ByteArray := prog_14_method_10_code
def yX12_told : MethodName := ⟨RX12, "told", "(II)I"⟩
abbrev cX12_days : ByteArray := prog_14_method_11_code
def yX12_days : MethodName := ⟨RX12, "days", "(III)I"⟩
abbrev cX12_week : ByteArray := prog_14_method_12_code
def yX12_week : MethodName := ⟨RX12, "week", "(II)I"⟩
abbrev cX12_bound : ByteArray := prog_14_method_13_code
def yX12_bound : MethodName := ⟨RX12, "bound", "(III)I"⟩
abbrev cX12_loose : ByteArray := prog_14_method_14_code
def yX12_loose : MethodName := ⟨RX12, "loose", "()I"⟩
abbrev cX12_found : ByteArray := prog_14_method_15_code
def yX12_found : MethodName := ⟨RX12, "found", "(II)I"⟩
abbrev cX12_lose : ByteArray := prog_14_method_16_code
def yX12_lose : MethodName := ⟨RX12, "lose", "(I)I"⟩
abbrev cX12_raise : ByteArray := prog_14_method_17_code
def yX12_raise : MethodName := ⟨RX12, "raise", "(II)V"⟩
abbrev cX12_sink : ByteArray := prog_14_method_18_code
def yX12_sink : MethodName := ⟨RX12, "sink", "(II)V"⟩
abbrev cX12_clashes : ByteArray := prog_14_method_19_code
def yX12_clashes : MethodName := ⟨RX12, "clashes", "(I)Z"⟩
abbrev cX12_clashAll : ByteArray := prog_14_method_20_code
def yX12_clashAll : MethodName := ⟨RX12, "clashAll", "()Z"⟩
abbrev cX12_span : ByteArray := prog_14_method_21_code
def yX12_span : MethodName := ⟨RX12, "span", "(II)I"⟩
abbrev cX12_clash : ByteArray := prog_14_method_22_code
def yX12_clash : MethodName := ⟨RX12, "clash", "()I"⟩
abbrev cX12_leads : ByteArray := prog_14_method_23_code
def yX12_leads : MethodName := ⟨RX12, "leads", "(III)V"⟩
abbrev cX12_findWays : ByteArray := prog_14_method_24_code
def yX12_findWays : MethodName := ⟨RX12, "findWays", "()V"⟩
abbrev cX12_isBefore : ByteArray := prog_14_method_25_code
def yX12_isBefore : MethodName := ⟨RX12, "isBefore", "(II)Z"⟩
abbrev cX12_before : ByteArray := prog_14_method_26_code
def yX12_before : MethodName := ⟨RX12, "before", "(II)I"⟩
abbrev cX12_post : ByteArray := prog_14_method_27_code
def yX12_post : MethodName := ⟨RX12, "post", "(IIII)I"⟩
abbrev cX12_hasRead : ByteArray := prog_14_method_28_code
def yX12_hasRead : MethodName := ⟨RX12, "hasRead", "(IIII)Z"⟩
abbrev cX12_read : ByteArray := prog_14_method_29_code
def yX12_read : MethodName := ⟨RX12, "read", "(IIII)I"⟩
abbrev cX12_reads : ByteArray := prog_14_method_30_code
def yX12_reads : MethodName := ⟨RX12, "reads", "(III)I"⟩
abbrev cX12_handOf : ByteArray := prog_14_method_31_code
def yX12_handOf : MethodName := ⟨RX12, "handOf", "(II)I"⟩
abbrev cX12_meansOf : ByteArray := prog_14_method_32_code
def yX12_meansOf : MethodName := ⟨RX12, "meansOf", "(II)I"⟩
abbrev cX12_means : ByteArray := prog_14_method_33_code
def yX12_means : MethodName := ⟨RX12, "means", "(II)I"⟩
abbrev cX12_who : ByteArray := prog_14_method_34_code
def yX12_who : MethodName := ⟨RX12, "who", "(II)I"⟩
abbrev cX12_hand : ByteArray := prog_14_method_35_code
def yX12_hand : MethodName := ⟨RX12, "hand", "(III)I"⟩
abbrev cX12_feed : ByteArray := prog_14_method_36_code
def yX12_feed : MethodName := ⟨RX12, "feed", "(IJ)I"⟩
abbrev cX12_isDigit : ByteArray := prog_14_method_37_code
def yX12_isDigit : MethodName := ⟨RX12, "isDigit", "(I)Z"⟩
abbrev cX12_isPlain : ByteArray := prog_14_method_38_code
def yX12_isPlain : MethodName := ⟨RX12, "isPlain", "(I)Z"⟩
abbrev cX12_isSort : ByteArray := prog_14_method_39_code
def yX12_isSort : MethodName := ⟨RX12, "isSort", "(I)Z"⟩
abbrev cX12_isOpen : ByteArray := prog_14_method_40_code
def yX12_isOpen : MethodName := ⟨RX12, "isOpen", "(I)Z"⟩
abbrev cX12_digits : ByteArray := prog_14_method_41_code
def yX12_digits : MethodName := ⟨RX12, "digits", "(II)I"⟩
abbrev cX12_wrongAt : ByteArray := prog_14_method_42_code
def yX12_wrongAt : MethodName := ⟨RX12, "wrongAt", "()I"⟩
abbrev cX12_numberAt : ByteArray := prog_14_method_43_code
def yX12_numberAt : MethodName := ⟨RX12, "numberAt", "([II)I"⟩
abbrev cX12_text : ByteArray := prog_14_method_44_code
def yX12_text : MethodName := ⟨RX12, "text", "(I)I"⟩
abbrev cX12_fault : ByteArray := prog_14_method_45_code
def yX12_fault : MethodName := ⟨RX12, "fault", "(I)I"⟩
abbrev cX12_puts : ByteArray := prog_14_method_46_code
def yX12_puts : MethodName := ⟨RX12, "puts", "(I)V"⟩
abbrev cX12_number : ByteArray := prog_14_method_47_code
def yX12_number : MethodName := ⟨RX12, "number", "(I)V"⟩
abbrev cX12_prints : ByteArray := prog_14_method_48_code
def yX12_prints : MethodName := ⟨RX12, "prints", "(III)V"⟩
abbrev cX12_opens : ByteArray := prog_14_method_49_code
def yX12_opens : MethodName := ⟨RX12, "opens", "(I)V"⟩
abbrev cX12_closes : ByteArray := prog_14_method_50_code
def yX12_closes : MethodName := ⟨RX12, "closes", "(I)V"⟩
abbrev cX12_print : ByteArray := prog_14_method_51_code
def yX12_print : MethodName := ⟨RX12, "print", "(III)I"⟩
abbrev cX12_printed : ByteArray := prog_14_method_52_code
def yX12_printed : MethodName := ⟨RX12, "printed", "(IIII)I"⟩
abbrev cX12_findWords : ByteArray := prog_14_method_53_code
def yX12_findWords : MethodName := ⟨RX12, "findWords", "(II)V"⟩
abbrev cX12_words : ByteArray := prog_14_method_54_code
def yX12_words : MethodName := ⟨RX12, "words", "(I)I"⟩
abbrev cX12_isSame : ByteArray := prog_14_method_55_code
def yX12_isSame : MethodName := ⟨RX12, "isSame", "(II)Z"⟩
abbrev cX12_differ : ByteArray := prog_14_method_56_code
def yX12_differ : MethodName := ⟨RX12, "differ", "(II)I"⟩
abbrev cX12_note : ByteArray := prog_14_method_57_code
def yX12_note : MethodName := ⟨RX12, "note", "(II)I"⟩
abbrev cX12_finds : ByteArray := prog_14_method_58_code
def yX12_finds : MethodName := ⟨RX12, "finds", "(I)I"⟩
abbrev cX12_may : ByteArray := prog_14_method_59_code
def yX12_may : MethodName := ⟨RX12, "may", "(II)Z"⟩
abbrev cX12_jump : ByteArray := prog_14_method_60_code
def yX12_jump : MethodName := ⟨RX12, "jump", "(II)I"⟩
abbrev cX12_rest : ByteArray := prog_14_method_61_code
def yX12_rest : MethodName := ⟨RX12, "rest", "(II)I"⟩
abbrev cX12_leastOf : ByteArray := prog_14_method_62_code
def yX12_leastOf : MethodName := ⟨RX12, "leastOf", "()I"⟩
abbrev cX12_jumps : ByteArray := prog_14_method_63_code
def yX12_jumps : MethodName := ⟨RX12, "jumps", "(I)I"⟩
abbrev cX12_order : ByteArray := prog_14_method_64_code
def yX12_order : MethodName := ⟨RX12, "order", "(II)I"⟩
abbrev cX12_count : ByteArray := prog_14_method_65_code
def yX12_count : MethodName := ⟨RX12, "count", "(I)I"⟩
abbrev cX12_tray : ByteArray := prog_14_method_66_code
def yX12_tray : MethodName := ⟨RX12, "tray", "(II)I"⟩
abbrev cX12_cell : ByteArray := prog_14_method_67_code
def yX12_cell : MethodName := ⟨RX12, "cell", "(III)I"⟩
abbrev cX12_lay : ByteArray := prog_14_method_68_code
def yX12_lay : MethodName := ⟨RX12, "lay", "(III)I"⟩
abbrev cX12_taken : ByteArray := prog_14_method_69_code
def yX12_taken : MethodName := ⟨RX12, "taken", "(II)I"⟩
def RJ6 : String := "java/lang/Integer"
def TJ6 : u_T := fun k => match k with
  | _ => ("", "", "", false)
def tyJ6 : Nat → FieldType := fun k => match k with
  | _ => .int
abbrev cJ6_bitCount_0f7a4 : ByteArray := prog_15_method_49_code
def yJ6_bitCount_0f7a4 : MethodName := ⟨RJ6, "bitCount", "(I)I"⟩
def RJ9 : String := "java/lang/Math"
def TJ9 : u_T := fun k => match k with
  | _ => ("", "", "", false)
def tyJ9 : Nat → FieldType := fun k => match k with
  | _ => .int
abbrev cJ9_floorMod_7cf53 : ByteArray := prog_16_method_50_code
def yJ9_floorMod_7cf53 : MethodName := ⟨RJ9, "floorMod", "(II)I"⟩
abbrev cJ9_abs_0f7a4 : ByteArray := prog_16_method_59_code
def yJ9_abs_0f7a4 : MethodName := ⟨RJ9, "abs", "(I)I"⟩
abbrev cJ9_max_7cf53 : ByteArray := prog_16_method_65_code
def yJ9_max_7cf53 : MethodName := ⟨RJ9, "max", "(II)I"⟩
abbrev cJ9_min_7cf53 : ByteArray := prog_16_method_69_code
def yJ9_min_7cf53 : MethodName := ⟨RJ9, "min", "(II)I"⟩
def RL : String := "LetterDrawerLaw"
abbrev cL_law : ByteArray := code
def yL_law : MethodName := ⟨RL, "law", "([I)Z"⟩
abbrev vwCl : List vw_C := [(RX0, TX0, 9), (RX1, TX1, 4), (RX2, TX2, 11), (RX3, TX3, 8), (RX4, TX4, 6), (RX5, TX5, 2), (RX6, TX6, 2), (RX7, TX7, 3), (RX8, TX8, 2), (RX9, TX9, 2), (RX10, TX10, 5), (RX11, TX11, 14), (RX12, TX12, 52)]
/-! ===== one list of words for all methods; a lemma a word ===== -/
def WD : List Cond := lw_tbl.filter goodWord
theorem wdi {w : Cond} (i : Nat) (h : lw_tbl[i]? = some w) (hg : goodWord w = true) : w ∈ WD := List.mem_filter.mpr ⟨List.mem_of_getElem? h, hg⟩
theorem wd_tbl {w : Cond} (h : w ∈ WD) : w ∈ lw_tbl := (List.mem_filter.mp h).1
theorem wd_good {w : Cond} (h : w ∈ WD) : goodWord w = true := (List.mem_filter.mp h).2
theorem cl_L_7 : Cond.classLink RL 7 RX11 ∈ WD := wdi 75 (by decide +kernel) rfl
theorem inst_X11 : Cond.instantiable RX11 14 ∈ WD := wdi 76 (by decide +kernel) rfl
theorem ini_X11 : Cond.initialized RX11 ∈ WD := wdi 60 (by decide +kernel) rfl
theorem cl_L_10 : Cond.classLink RL 10 RX12 ∈ WD := wdi 868 (by decide +kernel) rfl
theorem inst_X12 : Cond.instantiable RX12 52 ∈ WD := wdi 869 (by decide +kernel) rfl
theorem ini_X12 : Cond.initialized RX12 ∈ WD := wdi 72 (by decide +kernel) rfl
theorem cst_L_99 : Cond.constantLong RL 99 (4294967295) ∈ WD := wdi 1306 (by decide +kernel) rfl
theorem ml_L_9 : Cond.methodLink RL 9 yX11_init ∈ WD := wdi 77 (by decide +kernel) rfl
theorem im_yX11_init : Cond.instanceMethod yX11_init ∈ WD := wdi 78 (by decide +kernel) rfl
theorem co_yX11_init : Cond.code yX11_init cX11_init 1 none ∈ WD := wdi 79 (by decide +kernel) rfl
theorem ml_X11_1 : Cond.methodLink RX11 1 objectInit ∈ WD := wdi 80 (by decide +kernel) rfl
theorem im_objectInit : Cond.instanceMethod objectInit ∈ WD := wdi 81 (by decide +kernel) rfl
theorem co_objectInit : Cond.code objectInit ⟨#[0xb1]⟩ 1 none ∈ WD := wdi 82 (by decide +kernel) rfl
theorem cl_X11_7 : Cond.classLink RX11 7 RX4 ∈ WD := wdi 83 (by decide +kernel) rfl
theorem inst_X4 : Cond.instantiable RX4 6 ∈ WD := wdi 84 (by decide +kernel) rfl
theorem ini_X4 : Cond.initialized RX4 ∈ WD := wdi 61 (by decide +kernel) rfl
theorem fl_X11_10 : Cond.fieldLink RX11 10 "LetterDrawer" "people" "LLetterDrawer$People;" ∈ WD := wdi 373 (by decide +kernel) rfl
theorem cl_X11_16 : Cond.classLink RX11 16 RX2 ∈ WD := wdi 113 (by decide +kernel) rfl
theorem inst_X2 : Cond.instantiable RX2 11 ∈ WD := wdi 114 (by decide +kernel) rfl
theorem ini_X2 : Cond.initialized RX2 ∈ WD := wdi 62 (by decide +kernel) rfl
theorem fl_X11_19 : Cond.fieldLink RX11 19 "LetterDrawer" "letters" "LLetterDrawer$Letters;" ∈ WD := wdi 374 (by decide +kernel) rfl
theorem cl_X11_23 : Cond.classLink RX11 23 RX0 ∈ WD := wdi 172 (by decide +kernel) rfl
theorem inst_X0 : Cond.instantiable RX0 9 ∈ WD := wdi 173 (by decide +kernel) rfl
theorem ini_X0 : Cond.initialized RX0 ∈ WD := wdi 63 (by decide +kernel) rfl
theorem fl_X11_26 : Cond.fieldLink RX11 26 "LetterDrawer" "calendar" "LLetterDrawer$Calendar;" ∈ WD := wdi 375 (by decide +kernel) rfl
theorem cl_X11_30 : Cond.classLink RX11 30 RX5 ∈ WD := wdi 212 (by decide +kernel) rfl
theorem inst_X5 : Cond.instantiable RX5 2 ∈ WD := wdi 213 (by decide +kernel) rfl
theorem ini_X5 : Cond.initialized RX5 ∈ WD := wdi 64 (by decide +kernel) rfl
theorem fl_X11_33 : Cond.fieldLink RX11 33 "LetterDrawer" "posts" "LLetterDrawer$Posts;" ∈ WD := wdi 376 (by decide +kernel) rfl
theorem cl_X11_37 : Cond.classLink RX11 37 RX1 ∈ WD := wdi 228 (by decide +kernel) rfl
theorem inst_X1 : Cond.instantiable RX1 4 ∈ WD := wdi 229 (by decide +kernel) rfl
theorem ini_X1 : Cond.initialized RX1 ∈ WD := wdi 65 (by decide +kernel) rfl
theorem fl_X11_40 : Cond.fieldLink RX11 40 "LetterDrawer" "hands" "LLetterDrawer$Hands;" ∈ WD := wdi 377 (by decide +kernel) rfl
theorem cl_X11_44 : Cond.classLink RX11 44 RX8 ∈ WD := wdi 249 (by decide +kernel) rfl
theorem inst_X8 : Cond.instantiable RX8 2 ∈ WD := wdi 250 (by decide +kernel) rfl
theorem ini_X8 : Cond.initialized RX8 ∈ WD := wdi 66 (by decide +kernel) rfl
theorem fl_X11_47 : Cond.fieldLink RX11 47 "LetterDrawer" "tape" "LLetterDrawer$Tape;" ∈ WD := wdi 378 (by decide +kernel) rfl
theorem cl_X11_51 : Cond.classLink RX11 51 RX3 ∈ WD := wdi 264 (by decide +kernel) rfl
theorem inst_X3 : Cond.instantiable RX3 8 ∈ WD := wdi 265 (by decide +kernel) rfl
theorem ini_X3 : Cond.initialized RX3 ∈ WD := wdi 67 (by decide +kernel) rfl
theorem fl_X11_54 : Cond.fieldLink RX11 54 "LetterDrawer" "reader" "LLetterDrawer$MarkReader;" ∈ WD := wdi 379 (by decide +kernel) rfl
theorem cl_X11_58 : Cond.classLink RX11 58 RX6 ∈ WD := wdi 301 (by decide +kernel) rfl
theorem inst_X6 : Cond.instantiable RX6 2 ∈ WD := wdi 302 (by decide +kernel) rfl
theorem ini_X6 : Cond.initialized RX6 ∈ WD := wdi 68 (by decide +kernel) rfl
theorem fl_X11_61 : Cond.fieldLink RX11 61 "LetterDrawer" "printer" "LLetterDrawer$Printer;" ∈ WD := wdi 380 (by decide +kernel) rfl
theorem cl_X11_65 : Cond.classLink RX11 65 RX10 ∈ WD := wdi 316 (by decide +kernel) rfl
theorem inst_X10 : Cond.instantiable RX10 5 ∈ WD := wdi 317 (by decide +kernel) rfl
theorem ini_X10 : Cond.initialized RX10 ∈ WD := wdi 69 (by decide +kernel) rfl
theorem fl_X11_68 : Cond.fieldLink RX11 68 "LetterDrawer" "someWords" "LLetterDrawer$WordRow;" ∈ WD := wdi 381 (by decide +kernel) rfl
theorem fl_X11_72 : Cond.fieldLink RX11 72 "LetterDrawer" "otherWords" "LLetterDrawer$WordRow;" ∈ WD := wdi 382 (by decide +kernel) rfl
theorem cl_X11_75 : Cond.classLink RX11 75 RX7 ∈ WD := wdi 339 (by decide +kernel) rfl
theorem inst_X7 : Cond.instantiable RX7 3 ∈ WD := wdi 340 (by decide +kernel) rfl
theorem ini_X7 : Cond.initialized RX7 ∈ WD := wdi 70 (by decide +kernel) rfl
theorem fl_X11_78 : Cond.fieldLink RX11 78 "LetterDrawer" "sequence" "LLetterDrawer$Sequence;" ∈ WD := wdi 383 (by decide +kernel) rfl
theorem cl_X11_82 : Cond.classLink RX11 82 RX9 ∈ WD := wdi 357 (by decide +kernel) rfl
theorem inst_X9 : Cond.instantiable RX9 2 ∈ WD := wdi 358 (by decide +kernel) rfl
theorem ini_X9 : Cond.initialized RX9 ∈ WD := wdi 71 (by decide +kernel) rfl
theorem fl_X11_85 : Cond.fieldLink RX11 85 "LetterDrawer" "trays" "LLetterDrawer$Trays;" ∈ WD := wdi 384 (by decide +kernel) rfl
theorem fl_X11_89 : Cond.fieldLink RX11 89 "LetterDrawer" "faultKind" "I" ∈ WD := wdi 385 (by decide +kernel) rfl
theorem fl_X11_93 : Cond.fieldLink RX11 93 "LetterDrawer" "faultPlace" "I" ∈ WD := wdi 386 (by decide +kernel) rfl
theorem im_yX4_init : Cond.instanceMethod yX4_init ∈ WD := wdi 86 (by decide +kernel) rfl
theorem co_yX4_init : Cond.code yX4_init cX4_init 1 none ∈ WD := wdi 87 (by decide +kernel) rfl
theorem ml_X4_3 : Cond.methodLink RX4 3 objectInit ∈ WD := wdi 88 (by decide +kernel) rfl
theorem ac_int : Cond.arrayClass .int ∈ WD := wdi 112 (by decide +kernel) rfl
theorem fl_X4_11 : Cond.fieldLink RX4 11 "LetterDrawer$People" "names" "[I" ∈ WD := wdi 89 (by decide +kernel) rfl
theorem fl_X4_15 : Cond.fieldLink RX4 15 "LetterDrawer$People" "places" "[I" ∈ WD := wdi 90 (by decide +kernel) rfl
theorem fl_X4_18 : Cond.fieldLink RX4 18 "LetterDrawer$People" "firsts" "[I" ∈ WD := wdi 92 (by decide +kernel) rfl
theorem fl_X4_21 : Cond.fieldLink RX4 21 "LetterDrawer$People" "lasts" "[I" ∈ WD := wdi 94 (by decide +kernel) rfl
theorem fl_X4_24 : Cond.fieldLink RX4 24 "LetterDrawer$People" "known" "[I" ∈ WD := wdi 96 (by decide +kernel) rfl
theorem fl_X4_27 : Cond.fieldLink RX4 27 "LetterDrawer$People" "size" "I" ∈ WD := wdi 97 (by decide +kernel) rfl
theorem im_yX2_init : Cond.instanceMethod yX2_init ∈ WD := wdi 116 (by decide +kernel) rfl
theorem co_yX2_init : Cond.code yX2_init cX2_init 1 none ∈ WD := wdi 117 (by decide +kernel) rfl
theorem ml_X2_3 : Cond.methodLink RX2 3 objectInit ∈ WD := wdi 118 (by decide +kernel) rfl
theorem fl_X2_11 : Cond.fieldLink RX2 11 "LetterDrawer$Letters" "kinds" "[I" ∈ WD := wdi 121 (by decide +kernel) rfl
theorem fl_X2_15 : Cond.fieldLink RX2 15 "LetterDrawer$Letters" "writers" "[I" ∈ WD := wdi 123 (by decide +kernel) rfl
theorem fl_X2_18 : Cond.fieldLink RX2 18 "LetterDrawer$Letters" "readers" "[I" ∈ WD := wdi 125 (by decide +kernel) rfl
theorem fl_X2_21 : Cond.fieldLink RX2 21 "LetterDrawer$Letters" "places" "[I" ∈ WD := wdi 127 (by decide +kernel) rfl
theorem fl_X2_24 : Cond.fieldLink RX2 24 "LetterDrawer$Letters" "leasts" "[I" ∈ WD := wdi 129 (by decide +kernel) rfl
theorem fl_X2_27 : Cond.fieldLink RX2 27 "LetterDrawer$Letters" "greatests" "[I" ∈ WD := wdi 132 (by decide +kernel) rfl
theorem fl_X2_30 : Cond.fieldLink RX2 30 "LetterDrawer$Letters" "weekdays" "[I" ∈ WD := wdi 135 (by decide +kernel) rfl
theorem fl_X2_33 : Cond.fieldLink RX2 33 "LetterDrawer$Letters" "founds" "[I" ∈ WD := wdi 138 (by decide +kernel) rfl
theorem fl_X2_36 : Cond.fieldLink RX2 36 "LetterDrawer$Letters" "sizes" "[I" ∈ WD := wdi 141 (by decide +kernel) rfl
theorem cl_X2_39 : Cond.classLink RX2 39 "[[B" ∈ WD := wdi 119 (by decide +kernel) rfl
theorem ac_byte : Cond.arrayClass .byte ∈ WD := wdi 171 (by decide +kernel) rfl
theorem fl_X2_41 : Cond.fieldLink RX2 41 "LetterDrawer$Letters" "texts" "[[B" ∈ WD := wdi 143 (by decide +kernel) rfl
theorem fl_X2_44 : Cond.fieldLink RX2 44 "LetterDrawer$Letters" "size" "I" ∈ WD := wdi 145 (by decide +kernel) rfl
theorem im_yX0_init : Cond.instanceMethod yX0_init ∈ WD := wdi 175 (by decide +kernel) rfl
theorem co_yX0_init : Cond.code yX0_init cX0_init 1 none ∈ WD := wdi 176 (by decide +kernel) rfl
theorem ml_X0_3 : Cond.methodLink RX0 3 objectInit ∈ WD := wdi 177 (by decide +kernel) rfl
theorem fl_X0_11 : Cond.fieldLink RX0 11 "LetterDrawer$Calendar" "lows" "[I" ∈ WD := wdi 180 (by decide +kernel) rfl
theorem fl_X0_17 : Cond.fieldLink RX0 17 "LetterDrawer$Calendar" "highs" "[I" ∈ WD := wdi 183 (by decide +kernel) rfl
theorem fl_X0_20 : Cond.fieldLink RX0 20 "LetterDrawer$Calendar" "size" "I" ∈ WD := wdi 185 (by decide +kernel) rfl
theorem fl_X0_24 : Cond.fieldLink RX0 24 "LetterDrawer$Calendar" "froms" "[I" ∈ WD := wdi 187 (by decide +kernel) rfl
theorem fl_X0_27 : Cond.fieldLink RX0 27 "LetterDrawer$Calendar" "tos" "[I" ∈ WD := wdi 188 (by decide +kernel) rfl
theorem fl_X0_30 : Cond.fieldLink RX0 30 "LetterDrawer$Calendar" "shifts" "[I" ∈ WD := wdi 189 (by decide +kernel) rfl
theorem fl_X0_33 : Cond.fieldLink RX0 33 "LetterDrawer$Calendar" "roots" "[I" ∈ WD := wdi 190 (by decide +kernel) rfl
theorem fl_X0_36 : Cond.fieldLink RX0 36 "LetterDrawer$Calendar" "weekdays" "[I" ∈ WD := wdi 191 (by decide +kernel) rfl
theorem cl_X0_39 : Cond.classLink RX0 39 "[[I" ∈ WD := wdi 178 (by decide +kernel) rfl
theorem fl_X0_41 : Cond.fieldLink RX0 41 "LetterDrawer$Calendar" "paths" "[[I" ∈ WD := wdi 192 (by decide +kernel) rfl
theorem ml_X11_32 : Cond.methodLink RX11 32 yX5_init ∈ WD := wdi 214 (by decide +kernel) rfl
theorem im_yX5_init : Cond.instanceMethod yX5_init ∈ WD := wdi 215 (by decide +kernel) rfl
theorem co_yX5_init : Cond.code yX5_init cX5_init 3 none ∈ WD := wdi 216 (by decide +kernel) rfl
theorem ml_X5_3 : Cond.methodLink RX5 3 objectInit ∈ WD := wdi 217 (by decide +kernel) rfl
theorem cl_X5_9 : Cond.classLink RX5 9 "[[I" ∈ WD := wdi 218 (by decide +kernel) rfl
theorem fl_X5_11 : Cond.fieldLink RX5 11 "LetterDrawer$Posts" "leasts" "[[I" ∈ WD := wdi 219 (by decide +kernel) rfl
theorem fl_X5_16 : Cond.fieldLink RX5 16 "LetterDrawer$Posts" "mosts" "[[I" ∈ WD := wdi 221 (by decide +kernel) rfl
theorem im_yX1_init : Cond.instanceMethod yX1_init ∈ WD := wdi 231 (by decide +kernel) rfl
theorem co_yX1_init : Cond.code yX1_init cX1_init 1 none ∈ WD := wdi 232 (by decide +kernel) rfl
theorem ml_X1_3 : Cond.methodLink RX1 3 objectInit ∈ WD := wdi 233 (by decide +kernel) rfl
theorem fl_X1_11 : Cond.fieldLink RX1 11 "LetterDrawer$Hands" "persons" "[I" ∈ WD := wdi 234 (by decide +kernel) rfl
theorem fl_X1_15 : Cond.fieldLink RX1 15 "LetterDrawer$Hands" "size" "I" ∈ WD := wdi 236 (by decide +kernel) rfl
theorem fl_X1_19 : Cond.fieldLink RX1 19 "LetterDrawer$Hands" "letters" "[I" ∈ WD := wdi 238 (by decide +kernel) rfl
theorem fl_X1_22 : Cond.fieldLink RX1 22 "LetterDrawer$Hands" "names" "[I" ∈ WD := wdi 239 (by decide +kernel) rfl
theorem im_yX8_init : Cond.instanceMethod yX8_init ∈ WD := wdi 252 (by decide +kernel) rfl
theorem co_yX8_init : Cond.code yX8_init cX8_init 1 none ∈ WD := wdi 253 (by decide +kernel) rfl
theorem ml_X8_3 : Cond.methodLink RX8 3 objectInit ∈ WD := wdi 254 (by decide +kernel) rfl
theorem fl_X8_9 : Cond.fieldLink RX8 9 "LetterDrawer$Tape" "bytes" "[B" ∈ WD := wdi 255 (by decide +kernel) rfl
theorem fl_X8_15 : Cond.fieldLink RX8 15 "LetterDrawer$Tape" "size" "I" ∈ WD := wdi 257 (by decide +kernel) rfl
theorem im_yX3_init : Cond.instanceMethod yX3_init ∈ WD := wdi 267 (by decide +kernel) rfl
theorem co_yX3_init : Cond.code yX3_init cX3_init 1 none ∈ WD := wdi 268 (by decide +kernel) rfl
theorem ml_X3_1 : Cond.methodLink RX3 1 objectInit ∈ WD := wdi 269 (by decide +kernel) rfl
theorem fl_X3_7 : Cond.fieldLink RX3 7 "LetterDrawer$MarkReader" "depth" "I" ∈ WD := wdi 270 (by decide +kernel) rfl
theorem fl_X3_13 : Cond.fieldLink RX3 13 "LetterDrawer$MarkReader" "sort" "I" ∈ WD := wdi 272 (by decide +kernel) rfl
theorem fl_X3_16 : Cond.fieldLink RX3 16 "LetterDrawer$MarkReader" "number" "I" ∈ WD := wdi 274 (by decide +kernel) rfl
theorem fl_X3_19 : Cond.fieldLink RX3 19 "LetterDrawer$MarkReader" "markAt" "I" ∈ WD := wdi 277 (by decide +kernel) rfl
theorem fl_X3_22 : Cond.fieldLink RX3 22 "LetterDrawer$MarkReader" "wrongAt" "I" ∈ WD := wdi 279 (by decide +kernel) rfl
theorem fl_X3_25 : Cond.fieldLink RX3 25 "LetterDrawer$MarkReader" "open" "[I" ∈ WD := wdi 281 (by decide +kernel) rfl
theorem fl_X3_29 : Cond.fieldLink RX3 29 "LetterDrawer$MarkReader" "state" "I" ∈ WD := wdi 282 (by decide +kernel) rfl
theorem fl_X3_32 : Cond.fieldLink RX3 32 "LetterDrawer$MarkReader" "digits" "I" ∈ WD := wdi 283 (by decide +kernel) rfl
theorem im_yX6_init : Cond.instanceMethod yX6_init ∈ WD := wdi 304 (by decide +kernel) rfl
theorem co_yX6_init : Cond.code yX6_init cX6_init 1 none ∈ WD := wdi 305 (by decide +kernel) rfl
theorem ml_X6_3 : Cond.methodLink RX6 3 objectInit ∈ WD := wdi 306 (by decide +kernel) rfl
theorem fl_X6_9 : Cond.fieldLink RX6 9 "LetterDrawer$Printer" "bytes" "[B" ∈ WD := wdi 307 (by decide +kernel) rfl
theorem fl_X6_15 : Cond.fieldLink RX6 15 "LetterDrawer$Printer" "size" "I" ∈ WD := wdi 309 (by decide +kernel) rfl
theorem im_yX10_init : Cond.instanceMethod yX10_init ∈ WD := wdi 319 (by decide +kernel) rfl
theorem co_yX10_init : Cond.code yX10_init cX10_init 1 none ∈ WD := wdi 320 (by decide +kernel) rfl
theorem ml_X10_3 : Cond.methodLink RX10 3 objectInit ∈ WD := wdi 321 (by decide +kernel) rfl
theorem fl_X10_9 : Cond.fieldLink RX10 9 "LetterDrawer$WordRow" "size" "I" ∈ WD := wdi 322 (by decide +kernel) rfl
theorem fl_X10_15 : Cond.fieldLink RX10 15 "LetterDrawer$WordRow" "bytes" "[B" ∈ WD := wdi 324 (by decide +kernel) rfl
theorem fl_X10_19 : Cond.fieldLink RX10 19 "LetterDrawer$WordRow" "starts" "[I" ∈ WD := wdi 325 (by decide +kernel) rfl
theorem fl_X10_23 : Cond.fieldLink RX10 23 "LetterDrawer$WordRow" "ends" "[I" ∈ WD := wdi 326 (by decide +kernel) rfl
theorem fl_X10_26 : Cond.fieldLink RX10 26 "LetterDrawer$WordRow" "costs" "[I" ∈ WD := wdi 327 (by decide +kernel) rfl
theorem im_yX7_init : Cond.instanceMethod yX7_init ∈ WD := wdi 342 (by decide +kernel) rfl
theorem co_yX7_init : Cond.code yX7_init cX7_init 1 none ∈ WD := wdi 343 (by decide +kernel) rfl
theorem ml_X7_1 : Cond.methodLink RX7 1 objectInit ∈ WD := wdi 344 (by decide +kernel) rfl
theorem fl_X7_9 : Cond.fieldLink RX7 9 "LetterDrawer$Sequence" "row" "[I" ∈ WD := wdi 345 (by decide +kernel) rfl
theorem fl_X7_13 : Cond.fieldLink RX7 13 "LetterDrawer$Sequence" "jumps" "I" ∈ WD := wdi 347 (by decide +kernel) rfl
theorem fl_X7_17 : Cond.fieldLink RX7 17 "LetterDrawer$Sequence" "size" "I" ∈ WD := wdi 349 (by decide +kernel) rfl
theorem im_yX9_init : Cond.instanceMethod yX9_init ∈ WD := wdi 360 (by decide +kernel) rfl
theorem co_yX9_init : Cond.code yX9_init cX9_init 1 none ∈ WD := wdi 361 (by decide +kernel) rfl
theorem ml_X9_3 : Cond.methodLink RX9 3 objectInit ∈ WD := wdi 362 (by decide +kernel) rfl
theorem cl_X9_11 : Cond.classLink RX9 11 "[[B" ∈ WD := wdi 363 (by decide +kernel) rfl
theorem fl_X9_13 : Cond.fieldLink RX9 13 "LetterDrawer$Trays" "rows" "[[B" ∈ WD := wdi 364 (by decide +kernel) rfl
theorem fl_X9_16 : Cond.fieldLink RX9 16 "LetterDrawer$Trays" "sizes" "[I" ∈ WD := wdi 366 (by decide +kernel) rfl
theorem ml_L_12 : Cond.methodLink RL 12 yX12_init ∈ WD := wdi 870 (by decide +kernel) rfl
theorem im_yX12_init : Cond.instanceMethod yX12_init ∈ WD := wdi 871 (by decide +kernel) rfl
theorem co_yX12_init : Cond.code yX12_init cX12_init 3 none ∈ WD := wdi 872 (by decide +kernel) rfl
theorem ml_X12_1 : Cond.methodLink RX12 1 objectInit ∈ WD := wdi 873 (by decide +kernel) rfl
theorem fl_X12_9 : Cond.fieldLink RX12 9 "LetterDrawerModel" "name" "[I" ∈ WD := wdi 879 (by decide +kernel) rfl
theorem fl_X12_13 : Cond.fieldLink RX12 13 "LetterDrawerModel" "home" "[I" ∈ WD := wdi 880 (by decide +kernel) rfl
theorem fl_X12_16 : Cond.fieldLink RX12 16 "LetterDrawerModel" "first" "[I" ∈ WD := wdi 881 (by decide +kernel) rfl
theorem fl_X12_19 : Cond.fieldLink RX12 19 "LetterDrawerModel" "last" "[I" ∈ WD := wdi 882 (by decide +kernel) rfl
theorem ac_boolean : Cond.arrayClass .boolean ∈ WD := wdi 1031 (by decide +kernel) rfl
theorem fl_X12_22 : Cond.fieldLink RX12 22 "LetterDrawerModel" "known" "[Z" ∈ WD := wdi 883 (by decide +kernel) rfl
theorem fl_X12_26 : Cond.fieldLink RX12 26 "LetterDrawerModel" "kind" "[I" ∈ WD := wdi 884 (by decide +kernel) rfl
theorem fl_X12_29 : Cond.fieldLink RX12 29 "LetterDrawerModel" "writer" "[I" ∈ WD := wdi 885 (by decide +kernel) rfl
theorem fl_X12_32 : Cond.fieldLink RX12 32 "LetterDrawerModel" "reader" "[I" ∈ WD := wdi 886 (by decide +kernel) rfl
theorem fl_X12_35 : Cond.fieldLink RX12 35 "LetterDrawerModel" "place" "[I" ∈ WD := wdi 887 (by decide +kernel) rfl
theorem fl_X12_38 : Cond.fieldLink RX12 38 "LetterDrawerModel" "least" "[I" ∈ WD := wdi 888 (by decide +kernel) rfl
theorem fl_X12_41 : Cond.fieldLink RX12 41 "LetterDrawerModel" "most" "[I" ∈ WD := wdi 889 (by decide +kernel) rfl
theorem fl_X12_44 : Cond.fieldLink RX12 44 "LetterDrawerModel" "week" "[I" ∈ WD := wdi 890 (by decide +kernel) rfl
theorem fl_X12_47 : Cond.fieldLink RX12 47 "LetterDrawerModel" "is" "[I" ∈ WD := wdi 891 (by decide +kernel) rfl
theorem fl_X12_50 : Cond.fieldLink RX12 50 "LetterDrawerModel" "length" "[I" ∈ WD := wdi 892 (by decide +kernel) rfl
theorem fl_X12_53 : Cond.fieldLink RX12 53 "LetterDrawerModel" "texts" "[I" ∈ WD := wdi 893 (by decide +kernel) rfl
theorem fl_X12_56 : Cond.fieldLink RX12 56 "LetterDrawerModel" "boundA" "[I" ∈ WD := wdi 894 (by decide +kernel) rfl
theorem fl_X12_59 : Cond.fieldLink RX12 59 "LetterDrawerModel" "boundB" "[I" ∈ WD := wdi 895 (by decide +kernel) rfl
theorem fl_X12_62 : Cond.fieldLink RX12 62 "LetterDrawerModel" "boundBy" "[I" ∈ WD := wdi 896 (by decide +kernel) rfl
theorem fl_X12_65 : Cond.fieldLink RX12 65 "LetterDrawerModel" "postLeast" "[I" ∈ WD := wdi 897 (by decide +kernel) rfl
theorem fl_X12_68 : Cond.fieldLink RX12 68 "LetterDrawerModel" "postMost" "[I" ∈ WD := wdi 898 (by decide +kernel) rfl
theorem fl_X12_71 : Cond.fieldLink RX12 71 "LetterDrawerModel" "handLetter" "[I" ∈ WD := wdi 899 (by decide +kernel) rfl
theorem fl_X12_74 : Cond.fieldLink RX12 74 "LetterDrawerModel" "handName" "[I" ∈ WD := wdi 900 (by decide +kernel) rfl
theorem fl_X12_77 : Cond.fieldLink RX12 77 "LetterDrawerModel" "handPerson" "[I" ∈ WD := wdi 901 (by decide +kernel) rfl
theorem fl_X12_80 : Cond.fieldLink RX12 80 "LetterDrawerModel" "tape" "[I" ∈ WD := wdi 902 (by decide +kernel) rfl
theorem fl_X12_83 : Cond.fieldLink RX12 83 "LetterDrawerModel" "low" "[I" ∈ WD := wdi 903 (by decide +kernel) rfl
theorem fl_X12_86 : Cond.fieldLink RX12 86 "LetterDrawerModel" "high" "[I" ∈ WD := wdi 904 (by decide +kernel) rfl
theorem fl_X12_89 : Cond.fieldLink RX12 89 "LetterDrawerModel" "way" "[I" ∈ WD := wdi 906 (by decide +kernel) rfl
theorem fl_X12_92 : Cond.fieldLink RX12 92 "LetterDrawerModel" "faultAt" "I" ∈ WD := wdi 909 (by decide +kernel) rfl
theorem fl_X12_96 : Cond.fieldLink RX12 96 "LetterDrawerModel" "open" "[I" ∈ WD := wdi 911 (by decide +kernel) rfl
theorem fl_X12_99 : Cond.fieldLink RX12 99 "LetterDrawerModel" "print" "[I" ∈ WD := wdi 912 (by decide +kernel) rfl
theorem fl_X12_102 : Cond.fieldLink RX12 102 "LetterDrawerModel" "row" "[I" ∈ WD := wdi 913 (by decide +kernel) rfl
theorem fl_X12_105 : Cond.fieldLink RX12 105 "LetterDrawerModel" "signs" "[I" ∈ WD := wdi 915 (by decide +kernel) rfl
theorem fl_X12_108 : Cond.fieldLink RX12 108 "LetterDrawerModel" "begins" "[I" ∈ WD := wdi 916 (by decide +kernel) rfl
theorem fl_X12_111 : Cond.fieldLink RX12 111 "LetterDrawerModel" "ends" "[I" ∈ WD := wdi 917 (by decide +kernel) rfl
theorem fl_X12_114 : Cond.fieldLink RX12 114 "LetterDrawerModel" "wordMany" "[I" ∈ WD := wdi 918 (by decide +kernel) rfl
theorem fl_X12_117 : Cond.fieldLink RX12 117 "LetterDrawerModel" "above" "[I" ∈ WD := wdi 919 (by decide +kernel) rfl
theorem fl_X12_120 : Cond.fieldLink RX12 120 "LetterDrawerModel" "below" "[I" ∈ WD := wdi 920 (by decide +kernel) rfl
theorem fl_X12_123 : Cond.fieldLink RX12 123 "LetterDrawerModel" "some" "[I" ∈ WD := wdi 921 (by decide +kernel) rfl
theorem fl_X12_126 : Cond.fieldLink RX12 126 "LetterDrawerModel" "jumps" "[I" ∈ WD := wdi 922 (by decide +kernel) rfl
theorem fl_X12_129 : Cond.fieldLink RX12 129 "LetterDrawerModel" "traySize" "[I" ∈ WD := wdi 924 (by decide +kernel) rfl
theorem fl_X12_132 : Cond.fieldLink RX12 132 "LetterDrawerModel" "trays" "[I" ∈ WD := wdi 925 (by decide +kernel) rfl
theorem ml_L_13 : Cond.methodLink RL 13 yX11_person ∈ WD := wdi 416 (by decide +kernel) rfl
theorem im_yX11_person : Cond.instanceMethod yX11_person ∈ WD := wdi 417 (by decide +kernel) rfl
theorem se_yX11_person : Cond.selects RX11 yX11_person yX11_person ∈ WD := wdi 418 (by decide +kernel) rfl
theorem co_yX11_person : Cond.code yX11_person cX11_person 3 (some .int) ∈ WD := wdi 419 (by decide +kernel) rfl
theorem ml_X11_96 : Cond.methodLink RX11 96 yX11_isName ∈ WD := wdi 420 (by decide +kernel) rfl
theorem sm_yX11_isName : Cond.static yX11_isName ∈ WD := wdi 421 (by decide +kernel) rfl
theorem co_yX11_isName : Cond.code yX11_isName cX11_isName 1 (some .boolean) ∈ WD := wdi 422 (by decide +kernel) rfl
theorem ml_X11_100 : Cond.methodLink RX11 100 yX11_isPlace ∈ WD := wdi 423 (by decide +kernel) rfl
theorem sm_yX11_isPlace : Cond.static yX11_isPlace ∈ WD := wdi 424 (by decide +kernel) rfl
theorem co_yX11_isPlace : Cond.code yX11_isPlace cX11_isPlace 1 (some .boolean) ∈ WD := wdi 425 (by decide +kernel) rfl
theorem ml_X11_103 : Cond.methodLink RX11 103 yX4_add ∈ WD := wdi 426 (by decide +kernel) rfl
theorem im_yX4_add : Cond.instanceMethod yX4_add ∈ WD := wdi 427 (by decide +kernel) rfl
theorem se_yX4_add : Cond.selects RX4 yX4_add yX4_add ∈ WD := wdi 428 (by decide +kernel) rfl
theorem co_yX4_add : Cond.code yX4_add cX4_add 3 (some .int) ∈ WD := wdi 429 (by decide +kernel) rfl
theorem ml_L_17 : Cond.methodLink RL 17 yX12_person ∈ WD := wdi 1032 (by decide +kernel) rfl
theorem im_yX12_person : Cond.instanceMethod yX12_person ∈ WD := wdi 1033 (by decide +kernel) rfl
theorem se_yX12_person : Cond.selects RX12 yX12_person yX12_person ∈ WD := wdi 1034 (by decide +kernel) rfl
theorem co_yX12_person : Cond.code yX12_person cX12_person 3 (some .int) ∈ WD := wdi 1035 (by decide +kernel) rfl
theorem fl_X12_139 : Cond.fieldLink RX12 139 "LetterDrawerModel" "persons" "I" ∈ WD := wdi 874 (by decide +kernel) rfl
theorem ml_X12_135 : Cond.methodLink RX12 135 yX12_isIn ∈ WD := wdi 1036 (by decide +kernel) rfl
theorem sm_yX12_isIn : Cond.static yX12_isIn ∈ WD := wdi 1037 (by decide +kernel) rfl
theorem co_yX12_isIn : Cond.code yX12_isIn cX12_isIn 2 (some .boolean) ∈ WD := wdi 1038 (by decide +kernel) rfl
theorem ml_L_18 : Cond.methodLink RL 18 yX11_lived ∈ WD := wdi 430 (by decide +kernel) rfl
theorem im_yX11_lived : Cond.instanceMethod yX11_lived ∈ WD := wdi 431 (by decide +kernel) rfl
theorem se_yX11_lived : Cond.selects RX11 yX11_lived yX11_lived ∈ WD := wdi 432 (by decide +kernel) rfl
theorem co_yX11_lived : Cond.code yX11_lived cX11_lived 4 (some .int) ∈ WD := wdi 433 (by decide +kernel) rfl
theorem fl_X11_113 : Cond.fieldLink RX11 113 "LetterDrawer$People" "firsts" "[I" ∈ WD := wdi 93 (by decide +kernel) rfl
theorem fl_X11_117 : Cond.fieldLink RX11 117 "LetterDrawer$People" "lasts" "[I" ∈ WD := wdi 95 (by decide +kernel) rfl
theorem ml_X11_107 : Cond.methodLink RX11 107 yX4_has ∈ WD := wdi 434 (by decide +kernel) rfl
theorem im_yX4_has : Cond.instanceMethod yX4_has ∈ WD := wdi 435 (by decide +kernel) rfl
theorem se_yX4_has : Cond.selects RX4 yX4_has yX4_has ∈ WD := wdi 436 (by decide +kernel) rfl
theorem co_yX4_has : Cond.code yX4_has cX4_has 2 (some .boolean) ∈ WD := wdi 437 (by decide +kernel) rfl
theorem ml_X11_110 : Cond.methodLink RX11 110 yX11_isDay ∈ WD := wdi 438 (by decide +kernel) rfl
theorem sm_yX11_isDay : Cond.static yX11_isDay ∈ WD := wdi 439 (by decide +kernel) rfl
theorem co_yX11_isDay : Cond.code yX11_isDay cX11_isDay 1 (some .boolean) ∈ WD := wdi 440 (by decide +kernel) rfl
theorem ml_L_22 : Cond.methodLink RL 22 yX12_lived ∈ WD := wdi 1039 (by decide +kernel) rfl
theorem im_yX12_lived : Cond.instanceMethod yX12_lived ∈ WD := wdi 1040 (by decide +kernel) rfl
theorem se_yX12_lived : Cond.selects RX12 yX12_lived yX12_lived ∈ WD := wdi 1041 (by decide +kernel) rfl
theorem co_yX12_lived : Cond.code yX12_lived cX12_lived 4 (some .int) ∈ WD := wdi 1042 (by decide +kernel) rfl
theorem ml_X12_145 : Cond.methodLink RX12 145 yX12_isPerson ∈ WD := wdi 1043 (by decide +kernel) rfl
theorem im_yX12_isPerson : Cond.instanceMethod yX12_isPerson ∈ WD := wdi 1045 (by decide +kernel) rfl
theorem se_yX12_isPerson : Cond.selects RX12 yX12_isPerson yX12_isPerson ∈ WD := wdi 32 (by decide +kernel) rfl
theorem co_yX12_isPerson : Cond.code yX12_isPerson cX12_isPerson 2 (some .boolean) ∈ WD := wdi 1046 (by decide +kernel) rfl
theorem ml_X12_149 : Cond.methodLink RX12 149 yX12_isDay ∈ WD := wdi 1047 (by decide +kernel) rfl
theorem sm_yX12_isDay : Cond.static yX12_isDay ∈ WD := wdi 1048 (by decide +kernel) rfl
theorem co_yX12_isDay : Cond.code yX12_isDay cX12_isDay 1 (some .boolean) ∈ WD := wdi 1049 (by decide +kernel) rfl
theorem ml_L_23 : Cond.methodLink RL 23 yX11_knows ∈ WD := wdi 441 (by decide +kernel) rfl
theorem im_yX11_knows : Cond.instanceMethod yX11_knows ∈ WD := wdi 442 (by decide +kernel) rfl
theorem se_yX11_knows : Cond.selects RX11 yX11_knows yX11_knows ∈ WD := wdi 443 (by decide +kernel) rfl
theorem co_yX11_knows : Cond.code yX11_knows cX11_knows 4 (some .int) ∈ WD := wdi 444 (by decide +kernel) rfl
theorem ml_X11_120 : Cond.methodLink RX11 120 yX4_acquaint ∈ WD := wdi 445 (by decide +kernel) rfl
theorem im_yX4_acquaint : Cond.instanceMethod yX4_acquaint ∈ WD := wdi 446 (by decide +kernel) rfl
theorem se_yX4_acquaint : Cond.selects RX4 yX4_acquaint yX4_acquaint ∈ WD := wdi 447 (by decide +kernel) rfl
theorem co_yX4_acquaint : Cond.code yX4_acquaint cX4_acquaint 6 (some .boolean) ∈ WD := wdi 448 (by decide +kernel) rfl
theorem ml_L_27 : Cond.methodLink RL 27 yX12_knows ∈ WD := wdi 1050 (by decide +kernel) rfl
theorem im_yX12_knows : Cond.instanceMethod yX12_knows ∈ WD := wdi 1051 (by decide +kernel) rfl
theorem se_yX12_knows : Cond.selects RX12 yX12_knows yX12_knows ∈ WD := wdi 1052 (by decide +kernel) rfl
theorem co_yX12_knows : Cond.code yX12_knows cX12_knows 5 (some .int) ∈ WD := wdi 1053 (by decide +kernel) rfl
theorem ml_L_28 : Cond.methodLink RL 28 yX11_letter ∈ WD := wdi 449 (by decide +kernel) rfl
theorem im_yX11_letter : Cond.instanceMethod yX11_letter ∈ WD := wdi 450 (by decide +kernel) rfl
theorem se_yX11_letter : Cond.selects RX11 yX11_letter yX11_letter ∈ WD := wdi 451 (by decide +kernel) rfl
theorem co_yX11_letter : Cond.code yX11_letter cX11_letter 5 (some .int) ∈ WD := wdi 452 (by decide +kernel) rfl
theorem ml_X11_124 : Cond.methodLink RX11 124 yX2_isKind ∈ WD := wdi 453 (by decide +kernel) rfl
theorem sm_yX2_isKind : Cond.static yX2_isKind ∈ WD := wdi 454 (by decide +kernel) rfl
theorem co_yX2_isKind : Cond.code yX2_isKind cX2_isKind 1 (some .boolean) ∈ WD := wdi 455 (by decide +kernel) rfl
theorem ml_X11_127 : Cond.methodLink RX11 127 yX2_add ∈ WD := wdi 456 (by decide +kernel) rfl
theorem im_yX2_add : Cond.instanceMethod yX2_add ∈ WD := wdi 457 (by decide +kernel) rfl
theorem se_yX2_add : Cond.selects RX2 yX2_add yX2_add ∈ WD := wdi 458 (by decide +kernel) rfl
theorem co_yX2_add : Cond.code yX2_add cX2_add 5 (some .int) ∈ WD := wdi 459 (by decide +kernel) rfl
theorem ml_L_32 : Cond.methodLink RL 32 yX12_letter ∈ WD := wdi 1054 (by decide +kernel) rfl
theorem im_yX12_letter : Cond.instanceMethod yX12_letter ∈ WD := wdi 1055 (by decide +kernel) rfl
theorem se_yX12_letter : Cond.selects RX12 yX12_letter yX12_letter ∈ WD := wdi 1056 (by decide +kernel) rfl
theorem co_yX12_letter : Cond.code yX12_letter cX12_letter 5 (some .int) ∈ WD := wdi 1057 (by decide +kernel) rfl
theorem fl_X12_142 : Cond.fieldLink RX12 142 "LetterDrawerModel" "letters" "I" ∈ WD := wdi 875 (by decide +kernel) rfl
theorem ml_L_33 : Cond.methodLink RL 33 yX11_told ∈ WD := wdi 460 (by decide +kernel) rfl
theorem im_yX11_told : Cond.instanceMethod yX11_told ∈ WD := wdi 461 (by decide +kernel) rfl
theorem se_yX11_told : Cond.selects RX11 yX11_told yX11_told ∈ WD := wdi 462 (by decide +kernel) rfl
theorem co_yX11_told : Cond.code yX11_told cX11_told 3 (some .int) ∈ WD := wdi 463 (by decide +kernel) rfl
theorem fl_X11_131 : Cond.fieldLink RX11 131 "LetterDrawer$Letters" "kinds" "[I" ∈ WD := wdi 122 (by decide +kernel) rfl
theorem fl_X11_134 : Cond.fieldLink RX11 134 "LetterDrawer$Letters" "writers" "[I" ∈ WD := wdi 124 (by decide +kernel) rfl
theorem fl_X11_137 : Cond.fieldLink RX11 137 "LetterDrawer$Letters" "readers" "[I" ∈ WD := wdi 126 (by decide +kernel) rfl
theorem fl_X11_140 : Cond.fieldLink RX11 140 "LetterDrawer$Letters" "places" "[I" ∈ WD := wdi 128 (by decide +kernel) rfl
theorem fl_X11_143 : Cond.fieldLink RX11 143 "LetterDrawer$Letters" "leasts" "[I" ∈ WD := wdi 130 (by decide +kernel) rfl
theorem fl_X11_146 : Cond.fieldLink RX11 146 "LetterDrawer$Letters" "greatests" "[I" ∈ WD := wdi 133 (by decide +kernel) rfl
theorem fl_X11_149 : Cond.fieldLink RX11 149 "LetterDrawer$Letters" "weekdays" "[I" ∈ WD := wdi 136 (by decide +kernel) rfl
theorem fl_X11_152 : Cond.fieldLink RX11 152 "LetterDrawer$Letters" "founds" "[I" ∈ WD := wdi 139 (by decide +kernel) rfl
theorem fl_X11_155 : Cond.fieldLink RX11 155 "LetterDrawer$Letters" "sizes" "[I" ∈ WD := wdi 142 (by decide +kernel) rfl
theorem ml_X11_130 : Cond.methodLink RX11 130 yX2_has ∈ WD := wdi 464 (by decide +kernel) rfl
theorem im_yX2_has : Cond.instanceMethod yX2_has ∈ WD := wdi 465 (by decide +kernel) rfl
theorem se_yX2_has : Cond.selects RX2 yX2_has yX2_has ∈ WD := wdi 466 (by decide +kernel) rfl
theorem co_yX2_has : Cond.code yX2_has cX2_has 2 (some .boolean) ∈ WD := wdi 467 (by decide +kernel) rfl
theorem ml_L_36 : Cond.methodLink RL 36 yX12_told ∈ WD := wdi 1058 (by decide +kernel) rfl
theorem im_yX12_told : Cond.instanceMethod yX12_told ∈ WD := wdi 1059 (by decide +kernel) rfl
theorem se_yX12_told : Cond.selects RX12 yX12_told yX12_told ∈ WD := wdi 1060 (by decide +kernel) rfl
theorem co_yX12_told : Cond.code yX12_told cX12_told 3 (some .int) ∈ WD := wdi 1061 (by decide +kernel) rfl
theorem ml_X12_152 : Cond.methodLink RX12 152 yX12_isLetter ∈ WD := wdi 1062 (by decide +kernel) rfl
theorem im_yX12_isLetter : Cond.instanceMethod yX12_isLetter ∈ WD := wdi 1064 (by decide +kernel) rfl
theorem se_yX12_isLetter : Cond.selects RX12 yX12_isLetter yX12_isLetter ∈ WD := wdi 33 (by decide +kernel) rfl
theorem co_yX12_isLetter : Cond.code yX12_isLetter cX12_isLetter 2 (some .boolean) ∈ WD := wdi 1065 (by decide +kernel) rfl
theorem ml_L_37 : Cond.methodLink RL 37 yX11_days ∈ WD := wdi 468 (by decide +kernel) rfl
theorem im_yX11_days : Cond.instanceMethod yX11_days ∈ WD := wdi 469 (by decide +kernel) rfl
theorem se_yX11_days : Cond.selects RX11 yX11_days yX11_days ∈ WD := wdi 470 (by decide +kernel) rfl
theorem co_yX11_days : Cond.code yX11_days cX11_days 4 (some .int) ∈ WD := wdi 471 (by decide +kernel) rfl
theorem ml_L_40 : Cond.methodLink RL 40 yX12_days ∈ WD := wdi 1066 (by decide +kernel) rfl
theorem im_yX12_days : Cond.instanceMethod yX12_days ∈ WD := wdi 1067 (by decide +kernel) rfl
theorem se_yX12_days : Cond.selects RX12 yX12_days yX12_days ∈ WD := wdi 1068 (by decide +kernel) rfl
theorem co_yX12_days : Cond.code yX12_days cX12_days 4 (some .int) ∈ WD := wdi 1069 (by decide +kernel) rfl
theorem ml_L_41 : Cond.methodLink RL 41 yX11_week ∈ WD := wdi 472 (by decide +kernel) rfl
theorem im_yX11_week : Cond.instanceMethod yX11_week ∈ WD := wdi 473 (by decide +kernel) rfl
theorem se_yX11_week : Cond.selects RX11 yX11_week yX11_week ∈ WD := wdi 474 (by decide +kernel) rfl
theorem co_yX11_week : Cond.code yX11_week cX11_week 3 (some .int) ∈ WD := wdi 475 (by decide +kernel) rfl
theorem ml_L_44 : Cond.methodLink RL 44 yX12_week ∈ WD := wdi 1070 (by decide +kernel) rfl
theorem im_yX12_week : Cond.instanceMethod yX12_week ∈ WD := wdi 1071 (by decide +kernel) rfl
theorem se_yX12_week : Cond.selects RX12 yX12_week yX12_week ∈ WD := wdi 1072 (by decide +kernel) rfl
theorem co_yX12_week : Cond.code yX12_week cX12_week 3 (some .int) ∈ WD := wdi 1073 (by decide +kernel) rfl
theorem ml_L_45 : Cond.methodLink RL 45 yX11_bound ∈ WD := wdi 476 (by decide +kernel) rfl
theorem im_yX11_bound : Cond.instanceMethod yX11_bound ∈ WD := wdi 477 (by decide +kernel) rfl
theorem se_yX11_bound : Cond.selects RX11 yX11_bound yX11_bound ∈ WD := wdi 478 (by decide +kernel) rfl
theorem co_yX11_bound : Cond.code yX11_bound cX11_bound 4 (some .int) ∈ WD := wdi 479 (by decide +kernel) rfl
theorem ml_X11_158 : Cond.methodLink RX11 158 yX0_isShift ∈ WD := wdi 480 (by decide +kernel) rfl
theorem sm_yX0_isShift : Cond.static yX0_isShift ∈ WD := wdi 481 (by decide +kernel) rfl
theorem co_yX0_isShift : Cond.code yX0_isShift cX0_isShift 1 (some .boolean) ∈ WD := wdi 482 (by decide +kernel) rfl
theorem ml_X11_161 : Cond.methodLink RX11 161 yX0_add ∈ WD := wdi 483 (by decide +kernel) rfl
theorem im_yX0_add : Cond.instanceMethod yX0_add ∈ WD := wdi 484 (by decide +kernel) rfl
theorem se_yX0_add : Cond.selects RX0 yX0_add yX0_add ∈ WD := wdi 485 (by decide +kernel) rfl
theorem co_yX0_add : Cond.code yX0_add cX0_add 4 (some .int) ∈ WD := wdi 486 (by decide +kernel) rfl
theorem ml_L_48 : Cond.methodLink RL 48 yX12_bound ∈ WD := wdi 1074 (by decide +kernel) rfl
theorem im_yX12_bound : Cond.instanceMethod yX12_bound ∈ WD := wdi 1075 (by decide +kernel) rfl
theorem se_yX12_bound : Cond.selects RX12 yX12_bound yX12_bound ∈ WD := wdi 1076 (by decide +kernel) rfl
theorem co_yX12_bound : Cond.code yX12_bound cX12_bound 4 (some .int) ∈ WD := wdi 1077 (by decide +kernel) rfl
theorem fl_X12_155 : Cond.fieldLink RX12 155 "LetterDrawerModel" "bounds" "I" ∈ WD := wdi 876 (by decide +kernel) rfl
theorem ml_L_49 : Cond.methodLink RL 49 yX11_loose ∈ WD := wdi 487 (by decide +kernel) rfl
theorem im_yX11_loose : Cond.instanceMethod yX11_loose ∈ WD := wdi 488 (by decide +kernel) rfl
theorem se_yX11_loose : Cond.selects RX11 yX11_loose yX11_loose ∈ WD := wdi 489 (by decide +kernel) rfl
theorem co_yX11_loose : Cond.code yX11_loose cX11_loose 1 (some .int) ∈ WD := wdi 490 (by decide +kernel) rfl
theorem ml_X11_164 : Cond.methodLink RX11 164 yX0_removeLast ∈ WD := wdi 491 (by decide +kernel) rfl
theorem im_yX0_removeLast : Cond.instanceMethod yX0_removeLast ∈ WD := wdi 492 (by decide +kernel) rfl
theorem se_yX0_removeLast : Cond.selects RX0 yX0_removeLast yX0_removeLast ∈ WD := wdi 493 (by decide +kernel) rfl
theorem co_yX0_removeLast : Cond.code yX0_removeLast cX0_removeLast 1 (some .int) ∈ WD := wdi 494 (by decide +kernel) rfl
theorem ml_L_53 : Cond.methodLink RL 53 yX12_loose ∈ WD := wdi 1078 (by decide +kernel) rfl
theorem im_yX12_loose : Cond.instanceMethod yX12_loose ∈ WD := wdi 1079 (by decide +kernel) rfl
theorem se_yX12_loose : Cond.selects RX12 yX12_loose yX12_loose ∈ WD := wdi 1080 (by decide +kernel) rfl
theorem co_yX12_loose : Cond.code yX12_loose cX12_loose 1 (some .int) ∈ WD := wdi 1081 (by decide +kernel) rfl
theorem ml_L_54 : Cond.methodLink RL 54 yX11_found ∈ WD := wdi 495 (by decide +kernel) rfl
theorem im_yX11_found : Cond.instanceMethod yX11_found ∈ WD := wdi 496 (by decide +kernel) rfl
theorem se_yX11_found : Cond.selects RX11 yX11_found yX11_found ∈ WD := wdi 497 (by decide +kernel) rfl
theorem co_yX11_found : Cond.code yX11_found cX11_found 3 (some .int) ∈ WD := wdi 498 (by decide +kernel) rfl
theorem ml_X11_168 : Cond.methodLink RX11 168 yX2_isLost ∈ WD := wdi 499 (by decide +kernel) rfl
theorem im_yX2_isLost : Cond.instanceMethod yX2_isLost ∈ WD := wdi 500 (by decide +kernel) rfl
theorem se_yX2_isLost : Cond.selects RX2 yX2_isLost yX2_isLost ∈ WD := wdi 501 (by decide +kernel) rfl
theorem co_yX2_isLost : Cond.code yX2_isLost cX2_isLost 2 (some .boolean) ∈ WD := wdi 502 (by decide +kernel) rfl
theorem ml_L_57 : Cond.methodLink RL 57 yX12_found ∈ WD := wdi 1082 (by decide +kernel) rfl
theorem im_yX12_found : Cond.instanceMethod yX12_found ∈ WD := wdi 1083 (by decide +kernel) rfl
theorem se_yX12_found : Cond.selects RX12 yX12_found yX12_found ∈ WD := wdi 1084 (by decide +kernel) rfl
theorem co_yX12_found : Cond.code yX12_found cX12_found 3 (some .int) ∈ WD := wdi 1085 (by decide +kernel) rfl
theorem ml_L_58 : Cond.methodLink RL 58 yX11_lose ∈ WD := wdi 503 (by decide +kernel) rfl
theorem im_yX11_lose : Cond.instanceMethod yX11_lose ∈ WD := wdi 504 (by decide +kernel) rfl
theorem se_yX11_lose : Cond.selects RX11 yX11_lose yX11_lose ∈ WD := wdi 505 (by decide +kernel) rfl
theorem co_yX11_lose : Cond.code yX11_lose cX11_lose 2 (some .int) ∈ WD := wdi 506 (by decide +kernel) rfl
theorem ml_L_62 : Cond.methodLink RL 62 yX12_lose ∈ WD := wdi 1086 (by decide +kernel) rfl
theorem im_yX12_lose : Cond.instanceMethod yX12_lose ∈ WD := wdi 1087 (by decide +kernel) rfl
theorem se_yX12_lose : Cond.selects RX12 yX12_lose yX12_lose ∈ WD := wdi 1088 (by decide +kernel) rfl
theorem co_yX12_lose : Cond.code yX12_lose cX12_lose 2 (some .int) ∈ WD := wdi 1089 (by decide +kernel) rfl
theorem ml_L_63 : Cond.methodLink RL 63 yX11_span ∈ WD := wdi 507 (by decide +kernel) rfl
theorem im_yX11_span : Cond.instanceMethod yX11_span ∈ WD := wdi 508 (by decide +kernel) rfl
theorem se_yX11_span : Cond.selects RX11 yX11_span yX11_span ∈ WD := wdi 509 (by decide +kernel) rfl
theorem co_yX11_span : Cond.code yX11_span cX11_span 3 (some .int) ∈ WD := wdi 510 (by decide +kernel) rfl
theorem fl_X11_175 : Cond.fieldLink RX11 175 "LetterDrawer$Calendar" "lows" "[I" ∈ WD := wdi 182 (by decide +kernel) rfl
theorem fl_X11_178 : Cond.fieldLink RX11 178 "LetterDrawer$Calendar" "highs" "[I" ∈ WD := wdi 184 (by decide +kernel) rfl
theorem ml_X11_171 : Cond.methodLink RX11 171 yX0_settle ∈ WD := wdi 511 (by decide +kernel) rfl
theorem im_yX0_settle : Cond.instanceMethod yX0_settle ∈ WD := wdi 512 (by decide +kernel) rfl
theorem se_yX0_settle : Cond.selects RX0 yX0_settle yX0_settle ∈ WD := wdi 513 (by decide +kernel) rfl
theorem co_yX0_settle : Cond.code yX0_settle cX0_settle 3 (some .boolean) ∈ WD := wdi 514 (by decide +kernel) rfl
theorem fl_X0_55 : Cond.fieldLink RX0 55 "LetterDrawer$Letters" "size" "I" ∈ WD := wdi 146 (by decide +kernel) rfl
theorem ml_X0_44 : Cond.methodLink RX0 44 yX0_allBounds ∈ WD := wdi 515 (by decide +kernel) rfl
theorem im_yX0_allBounds : Cond.instanceMethod yX0_allBounds ∈ WD := wdi 517 (by decide +kernel) rfl
theorem se_yX0_allBounds : Cond.selects RX0 yX0_allBounds yX0_allBounds ∈ WD := wdi 0 (by decide +kernel) rfl
theorem co_yX0_allBounds : Cond.code yX0_allBounds cX0_allBounds 1 (some .int) ∈ WD := wdi 518 (by decide +kernel) rfl
theorem ml_X0_48 : Cond.methodLink RX0 48 yX0_isPossible ∈ WD := wdi 519 (by decide +kernel) rfl
theorem im_yX0_isPossible : Cond.instanceMethod yX0_isPossible ∈ WD := wdi 521 (by decide +kernel) rfl
theorem se_yX0_isPossible : Cond.selects RX0 yX0_isPossible yX0_isPossible ∈ WD := wdi 1 (by decide +kernel) rfl
theorem co_yX0_isPossible : Cond.code yX0_isPossible cX0_isPossible 4 (some .boolean) ∈ WD := wdi 522 (by decide +kernel) rfl
theorem fl_X0_67 : Cond.fieldLink RX0 67 "LetterDrawer$Letters" "founds" "[I" ∈ WD := wdi 140 (by decide +kernel) rfl
theorem fl_X0_70 : Cond.fieldLink RX0 70 "LetterDrawer$Letters" "leasts" "[I" ∈ WD := wdi 131 (by decide +kernel) rfl
theorem fl_X0_73 : Cond.fieldLink RX0 73 "LetterDrawer$Letters" "greatests" "[I" ∈ WD := wdi 134 (by decide +kernel) rfl
theorem fl_X0_76 : Cond.fieldLink RX0 76 "LetterDrawer$Letters" "weekdays" "[I" ∈ WD := wdi 137 (by decide +kernel) rfl
theorem ml_X0_77 : Cond.methodLink RX0 77 yX0_joinFound ∈ WD := wdi 523 (by decide +kernel) rfl
theorem im_yX0_joinFound : Cond.instanceMethod yX0_joinFound ∈ WD := wdi 525 (by decide +kernel) rfl
theorem se_yX0_joinFound : Cond.selects RX0 yX0_joinFound yX0_joinFound ∈ WD := wdi 2 (by decide +kernel) rfl
theorem co_yX0_joinFound : Cond.code yX0_joinFound cX0_joinFound 4 (some .boolean) ∈ WD := wdi 526 (by decide +kernel) rfl
theorem ml_X0_57 : Cond.methodLink RX0 57 Lib.Math.max.name ∈ WD := wdi 527 (by decide +kernel) rfl
theorem sm_Lib_Math_max_name : Cond.static Lib.Math.max.name ∈ WD := wdi 528 (by decide +kernel) rfl
theorem ini_java_lang_Math : Cond.initialized "java/lang/Math" ∈ WD := wdi 73 (by decide +kernel) rfl
theorem co_Lib_Math_max_name : Cond.code Lib.Math.max.name Lib.Math.max.code 2 (some .int) ∈ WD := wdi 529 (by decide +kernel) rfl
theorem ml_X0_85 : Cond.methodLink RX0 85 Lib.Math.min.name ∈ WD := wdi 530 (by decide +kernel) rfl
theorem sm_Lib_Math_min_name : Cond.static Lib.Math.min.name ∈ WD := wdi 531 (by decide +kernel) rfl
theorem co_Lib_Math_min_name : Cond.code Lib.Math.min.name Lib.Math.min.code 2 (some .int) ∈ WD := wdi 532 (by decide +kernel) rfl
theorem ml_X0_88 : Cond.methodLink RX0 88 yX0_dayFrom ∈ WD := wdi 533 (by decide +kernel) rfl
theorem sm_yX0_dayFrom : Cond.static yX0_dayFrom ∈ WD := wdi 534 (by decide +kernel) rfl
theorem co_yX0_dayFrom : Cond.code yX0_dayFrom cX0_dayFrom 2 (some .int) ∈ WD := wdi 535 (by decide +kernel) rfl
theorem ml_X0_103 : Cond.methodLink RX0 103 yJ9_floorMod_7cf53 ∈ WD := wdi 536 (by decide +kernel) rfl
theorem sm_yJ9_floorMod_7cf53 : Cond.static yJ9_floorMod_7cf53 ∈ WD := wdi 537 (by decide +kernel) rfl
theorem ini_J9 : Cond.initialized RJ9 ∈ WD := wdi 73 (by decide +kernel) rfl
theorem co_yJ9_floorMod_7cf53 : Cond.code yJ9_floorMod_7cf53 cJ9_floorMod_7cf53 3 (some .int) ∈ WD := wdi 538 (by decide +kernel) rfl
theorem ml_X0_91 : Cond.methodLink RX0 91 yX0_dayUpTo ∈ WD := wdi 539 (by decide +kernel) rfl
theorem sm_yX0_dayUpTo : Cond.static yX0_dayUpTo ∈ WD := wdi 540 (by decide +kernel) rfl
theorem co_yX0_dayUpTo : Cond.code yX0_dayUpTo cX0_dayUpTo 2 (some .int) ∈ WD := wdi 541 (by decide +kernel) rfl
theorem ml_X0_81 : Cond.methodLink RX0 81 yX0_raiseLows ∈ WD := wdi 542 (by decide +kernel) rfl
theorem im_yX0_raiseLows : Cond.instanceMethod yX0_raiseLows ∈ WD := wdi 544 (by decide +kernel) rfl
theorem se_yX0_raiseLows : Cond.selects RX0 yX0_raiseLows yX0_raiseLows ∈ WD := wdi 3 (by decide +kernel) rfl
theorem co_yX0_raiseLows : Cond.code yX0_raiseLows cX0_raiseLows 6 (some .boolean) ∈ WD := wdi 545 (by decide +kernel) rfl
theorem ml_X0_94 : Cond.methodLink RX0 94 yX0_raiseBy ∈ WD := wdi 546 (by decide +kernel) rfl
theorem im_yX0_raiseBy : Cond.instanceMethod yX0_raiseBy ∈ WD := wdi 548 (by decide +kernel) rfl
theorem se_yX0_raiseBy : Cond.selects RX0 yX0_raiseBy yX0_raiseBy ∈ WD := wdi 4 (by decide +kernel) rfl
theorem co_yX0_raiseBy : Cond.code yX0_raiseBy cX0_raiseBy 4 (some .boolean) ∈ WD := wdi 549 (by decide +kernel) rfl
theorem ml_X0_97 : Cond.methodLink RX0 97 yX0_isOrdered ∈ WD := wdi 550 (by decide +kernel) rfl
theorem im_yX0_isOrdered : Cond.instanceMethod yX0_isOrdered ∈ WD := wdi 552 (by decide +kernel) rfl
theorem se_yX0_isOrdered : Cond.selects RX0 yX0_isOrdered yX0_isOrdered ∈ WD := wdi 5 (by decide +kernel) rfl
theorem co_yX0_isOrdered : Cond.code yX0_isOrdered cX0_isOrdered 3 (some .boolean) ∈ WD := wdi 553 (by decide +kernel) rfl
theorem ml_X0_52 : Cond.methodLink RX0 52 yX0_sinkHighs ∈ WD := wdi 554 (by decide +kernel) rfl
theorem im_yX0_sinkHighs : Cond.instanceMethod yX0_sinkHighs ∈ WD := wdi 556 (by decide +kernel) rfl
theorem se_yX0_sinkHighs : Cond.selects RX0 yX0_sinkHighs yX0_sinkHighs ∈ WD := wdi 6 (by decide +kernel) rfl
theorem co_yX0_sinkHighs : Cond.code yX0_sinkHighs cX0_sinkHighs 4 none ∈ WD := wdi 557 (by decide +kernel) rfl
theorem ml_X0_100 : Cond.methodLink RX0 100 yX0_sinkBy ∈ WD := wdi 558 (by decide +kernel) rfl
theorem im_yX0_sinkBy : Cond.instanceMethod yX0_sinkBy ∈ WD := wdi 560 (by decide +kernel) rfl
theorem se_yX0_sinkBy : Cond.selects RX0 yX0_sinkBy yX0_sinkBy ∈ WD := wdi 7 (by decide +kernel) rfl
theorem co_yX0_sinkBy : Cond.code yX0_sinkBy cX0_sinkBy 4 (some .boolean) ∈ WD := wdi 561 (by decide +kernel) rfl
theorem ml_L_66 : Cond.methodLink RL 66 yX12_span ∈ WD := wdi 1090 (by decide +kernel) rfl
theorem im_yX12_span : Cond.instanceMethod yX12_span ∈ WD := wdi 1091 (by decide +kernel) rfl
theorem se_yX12_span : Cond.selects RX12 yX12_span yX12_span ∈ WD := wdi 1092 (by decide +kernel) rfl
theorem co_yX12_span : Cond.code yX12_span cX12_span 3 (some .int) ∈ WD := wdi 1093 (by decide +kernel) rfl
theorem ml_X12_184 : Cond.methodLink RX12 184 yX12_clashAll ∈ WD := wdi 1094 (by decide +kernel) rfl
theorem im_yX12_clashAll : Cond.instanceMethod yX12_clashAll ∈ WD := wdi 1096 (by decide +kernel) rfl
theorem se_yX12_clashAll : Cond.selects RX12 yX12_clashAll yX12_clashAll ∈ WD := wdi 34 (by decide +kernel) rfl
theorem co_yX12_clashAll : Cond.code yX12_clashAll cX12_clashAll 1 (some .boolean) ∈ WD := wdi 1097 (by decide +kernel) rfl
theorem ml_X12_181 : Cond.methodLink RX12 181 yX12_clashes ∈ WD := wdi 1098 (by decide +kernel) rfl
theorem im_yX12_clashes : Cond.instanceMethod yX12_clashes ∈ WD := wdi 1100 (by decide +kernel) rfl
theorem se_yX12_clashes : Cond.selects RX12 yX12_clashes yX12_clashes ∈ WD := wdi 35 (by decide +kernel) rfl
theorem co_yX12_clashes : Cond.code yX12_clashes cX12_clashes 3 (some .boolean) ∈ WD := wdi 1101 (by decide +kernel) rfl
theorem fl_X12_158 : Cond.fieldLink RX12 158 "LetterDrawerModel" "moved" "Z" ∈ WD := wdi 905 (by decide +kernel) rfl
theorem ml_X12_175 : Cond.methodLink RX12 175 Lib.Math.max.name ∈ WD := wdi 1111 (by decide +kernel) rfl
theorem ml_X12_178 : Cond.methodLink RX12 178 Lib.Math.min.name ∈ WD := wdi 1112 (by decide +kernel) rfl
theorem ml_X12_168 : Cond.methodLink RX12 168 yX12_raise ∈ WD := wdi 1102 (by decide +kernel) rfl
theorem im_yX12_raise : Cond.instanceMethod yX12_raise ∈ WD := wdi 1104 (by decide +kernel) rfl
theorem se_yX12_raise : Cond.selects RX12 yX12_raise yX12_raise ∈ WD := wdi 36 (by decide +kernel) rfl
theorem co_yX12_raise : Cond.code yX12_raise cX12_raise 4 none ∈ WD := wdi 1105 (by decide +kernel) rfl
theorem ml_X12_172 : Cond.methodLink RX12 172 yX12_sink ∈ WD := wdi 1106 (by decide +kernel) rfl
theorem im_yX12_sink : Cond.instanceMethod yX12_sink ∈ WD := wdi 1108 (by decide +kernel) rfl
theorem se_yX12_sink : Cond.selects RX12 yX12_sink yX12_sink ∈ WD := wdi 37 (by decide +kernel) rfl
theorem co_yX12_sink : Cond.code yX12_sink cX12_sink 4 none ∈ WD := wdi 1109 (by decide +kernel) rfl
theorem ml_X12_162 : Cond.methodLink RX12 162 yJ9_floorMod_7cf53 ∈ WD := wdi 1110 (by decide +kernel) rfl
theorem ml_L_67 : Cond.methodLink RL 67 yX11_clash ∈ WD := wdi 562 (by decide +kernel) rfl
theorem im_yX11_clash : Cond.instanceMethod yX11_clash ∈ WD := wdi 563 (by decide +kernel) rfl
theorem se_yX11_clash : Cond.selects RX11 yX11_clash yX11_clash ∈ WD := wdi 564 (by decide +kernel) rfl
theorem co_yX11_clash : Cond.code yX11_clash cX11_clash 1 (some .int) ∈ WD := wdi 565 (by decide +kernel) rfl
theorem ml_X11_181 : Cond.methodLink RX11 181 yX0_conflict ∈ WD := wdi 566 (by decide +kernel) rfl
theorem im_yX0_conflict : Cond.instanceMethod yX0_conflict ∈ WD := wdi 567 (by decide +kernel) rfl
theorem se_yX0_conflict : Cond.selects RX0 yX0_conflict yX0_conflict ∈ WD := wdi 568 (by decide +kernel) rfl
theorem co_yX0_conflict : Cond.code yX0_conflict cX0_conflict 5 (some .int) ∈ WD := wdi 569 (by decide +kernel) rfl
theorem ml_L_70 : Cond.methodLink RL 70 yX12_clash ∈ WD := wdi 1113 (by decide +kernel) rfl
theorem im_yX12_clash : Cond.instanceMethod yX12_clash ∈ WD := wdi 1114 (by decide +kernel) rfl
theorem se_yX12_clash : Cond.selects RX12 yX12_clash yX12_clash ∈ WD := wdi 1115 (by decide +kernel) rfl
theorem co_yX12_clash : Cond.code yX12_clash cX12_clash 3 (some .int) ∈ WD := wdi 1116 (by decide +kernel) rfl
theorem ml_L_71 : Cond.methodLink RL 71 yX11_before ∈ WD := wdi 570 (by decide +kernel) rfl
theorem im_yX11_before : Cond.instanceMethod yX11_before ∈ WD := wdi 571 (by decide +kernel) rfl
theorem se_yX11_before : Cond.selects RX11 yX11_before yX11_before ∈ WD := wdi 572 (by decide +kernel) rfl
theorem co_yX11_before : Cond.code yX11_before cX11_before 3 (some .int) ∈ WD := wdi 573 (by decide +kernel) rfl
theorem fl_X11_185 : Cond.fieldLink RX11 185 "LetterDrawer$Letters" "size" "I" ∈ WD := wdi 147 (by decide +kernel) rfl
theorem ml_X11_188 : Cond.methodLink RX11 188 yX0_measurePaths ∈ WD := wdi 574 (by decide +kernel) rfl
theorem im_yX0_measurePaths : Cond.instanceMethod yX0_measurePaths ∈ WD := wdi 575 (by decide +kernel) rfl
theorem se_yX0_measurePaths : Cond.selects RX0 yX0_measurePaths yX0_measurePaths ∈ WD := wdi 576 (by decide +kernel) rfl
theorem co_yX0_measurePaths : Cond.code yX0_measurePaths cX0_measurePaths 5 none ∈ WD := wdi 577 (by decide +kernel) rfl
theorem cst_X0_56 : Cond.constant RX0 56 (-1000000) ∈ WD := wdi 578 (by decide +kernel) rfl
theorem ml_X0_63 : Cond.methodLink RX0 63 yX0_joinPaths ∈ WD := wdi 579 (by decide +kernel) rfl
theorem im_yX0_joinPaths : Cond.instanceMethod yX0_joinPaths ∈ WD := wdi 581 (by decide +kernel) rfl
theorem se_yX0_joinPaths : Cond.selects RX0 yX0_joinPaths yX0_joinPaths ∈ WD := wdi 8 (by decide +kernel) rfl
theorem co_yX0_joinPaths : Cond.code yX0_joinPaths cX0_joinPaths 5 none ∈ WD := wdi 582 (by decide +kernel) rfl
theorem ml_X11_192 : Cond.methodLink RX11 192 yX0_isAhead ∈ WD := wdi 583 (by decide +kernel) rfl
theorem im_yX0_isAhead : Cond.instanceMethod yX0_isAhead ∈ WD := wdi 584 (by decide +kernel) rfl
theorem se_yX0_isAhead : Cond.selects RX0 yX0_isAhead yX0_isAhead ∈ WD := wdi 585 (by decide +kernel) rfl
theorem co_yX0_isAhead : Cond.code yX0_isAhead cX0_isAhead 3 (some .boolean) ∈ WD := wdi 586 (by decide +kernel) rfl
theorem ml_L_74 : Cond.methodLink RL 74 yX12_before ∈ WD := wdi 1117 (by decide +kernel) rfl
theorem im_yX12_before : Cond.instanceMethod yX12_before ∈ WD := wdi 1118 (by decide +kernel) rfl
theorem se_yX12_before : Cond.selects RX12 yX12_before yX12_before ∈ WD := wdi 1119 (by decide +kernel) rfl
theorem co_yX12_before : Cond.code yX12_before cX12_before 3 (some .int) ∈ WD := wdi 1120 (by decide +kernel) rfl
theorem ml_X12_193 : Cond.methodLink RX12 193 yX12_findWays ∈ WD := wdi 1121 (by decide +kernel) rfl
theorem im_yX12_findWays : Cond.instanceMethod yX12_findWays ∈ WD := wdi 1123 (by decide +kernel) rfl
theorem se_yX12_findWays : Cond.selects RX12 yX12_findWays yX12_findWays ∈ WD := wdi 38 (by decide +kernel) rfl
theorem co_yX12_findWays : Cond.code yX12_findWays cX12_findWays 4 none ∈ WD := wdi 1124 (by decide +kernel) rfl
theorem cst_X12_188 : Cond.constant RX12 188 (-1000000) ∈ WD := wdi 1125 (by decide +kernel) rfl
theorem ml_X12_189 : Cond.methodLink RX12 189 yX12_leads ∈ WD := wdi 1126 (by decide +kernel) rfl
theorem im_yX12_leads : Cond.instanceMethod yX12_leads ∈ WD := wdi 1128 (by decide +kernel) rfl
theorem se_yX12_leads : Cond.selects RX12 yX12_leads yX12_leads ∈ WD := wdi 39 (by decide +kernel) rfl
theorem co_yX12_leads : Cond.code yX12_leads cX12_leads 4 none ∈ WD := wdi 1129 (by decide +kernel) rfl
theorem ml_X12_196 : Cond.methodLink RX12 196 yX12_isBefore ∈ WD := wdi 1130 (by decide +kernel) rfl
theorem im_yX12_isBefore : Cond.instanceMethod yX12_isBefore ∈ WD := wdi 1132 (by decide +kernel) rfl
theorem se_yX12_isBefore : Cond.selects RX12 yX12_isBefore yX12_isBefore ∈ WD := wdi 40 (by decide +kernel) rfl
theorem co_yX12_isBefore : Cond.code yX12_isBefore cX12_isBefore 3 (some .boolean) ∈ WD := wdi 1133 (by decide +kernel) rfl
theorem ml_L_75 : Cond.methodLink RL 75 yX11_post ∈ WD := wdi 587 (by decide +kernel) rfl
theorem im_yX11_post : Cond.instanceMethod yX11_post ∈ WD := wdi 588 (by decide +kernel) rfl
theorem se_yX11_post : Cond.selects RX11 yX11_post yX11_post ∈ WD := wdi 589 (by decide +kernel) rfl
theorem co_yX11_post : Cond.code yX11_post cX11_post 5 (some .int) ∈ WD := wdi 590 (by decide +kernel) rfl
theorem fl_X11_199 : Cond.fieldLink RX11 199 "LetterDrawer$Posts" "leasts" "[[I" ∈ WD := wdi 220 (by decide +kernel) rfl
theorem fl_X11_202 : Cond.fieldLink RX11 202 "LetterDrawer$Posts" "mosts" "[[I" ∈ WD := wdi 222 (by decide +kernel) rfl
theorem ml_X11_196 : Cond.methodLink RX11 196 yX5_isTime ∈ WD := wdi 591 (by decide +kernel) rfl
theorem sm_yX5_isTime : Cond.static yX5_isTime ∈ WD := wdi 592 (by decide +kernel) rfl
theorem co_yX5_isTime : Cond.code yX5_isTime cX5_isTime 1 (some .boolean) ∈ WD := wdi 593 (by decide +kernel) rfl
theorem ml_L_78 : Cond.methodLink RL 78 yX12_post ∈ WD := wdi 1134 (by decide +kernel) rfl
theorem im_yX12_post : Cond.instanceMethod yX12_post ∈ WD := wdi 1135 (by decide +kernel) rfl
theorem se_yX12_post : Cond.selects RX12 yX12_post yX12_post ∈ WD := wdi 1136 (by decide +kernel) rfl
theorem co_yX12_post : Cond.code yX12_post cX12_post 5 (some .int) ∈ WD := wdi 1137 (by decide +kernel) rfl
theorem ml_L_79 : Cond.methodLink RL 79 yX11_read ∈ WD := wdi 594 (by decide +kernel) rfl
theorem im_yX11_read : Cond.instanceMethod yX11_read ∈ WD := wdi 595 (by decide +kernel) rfl
theorem se_yX11_read : Cond.selects RX11 yX11_read yX11_read ∈ WD := wdi 596 (by decide +kernel) rfl
theorem co_yX11_read : Cond.code yX11_read cX11_read 5 (some .int) ∈ WD := wdi 597 (by decide +kernel) rfl
theorem ml_X11_205 : Cond.methodLink RX11 205 yX11_isReading ∈ WD := wdi 598 (by decide +kernel) rfl
theorem im_yX11_isReading : Cond.instanceMethod yX11_isReading ∈ WD := wdi 600 (by decide +kernel) rfl
theorem se_yX11_isReading : Cond.selects RX11 yX11_isReading yX11_isReading ∈ WD := wdi 9 (by decide +kernel) rfl
theorem co_yX11_isReading : Cond.code yX11_isReading cX11_isReading 4 (some .boolean) ∈ WD := wdi 601 (by decide +kernel) rfl
theorem ml_X11_209 : Cond.methodLink RX11 209 yX11_hasRead ∈ WD := wdi 602 (by decide +kernel) rfl
theorem im_yX11_hasRead : Cond.instanceMethod yX11_hasRead ∈ WD := wdi 604 (by decide +kernel) rfl
theorem se_yX11_hasRead : Cond.selects RX11 yX11_hasRead yX11_hasRead ∈ WD := wdi 10 (by decide +kernel) rfl
theorem co_yX11_hasRead : Cond.code yX11_hasRead cX11_hasRead 7 (some .boolean) ∈ WD := wdi 605 (by decide +kernel) rfl
theorem fl_X11_316 : Cond.fieldLink RX11 316 "LetterDrawer$People" "places" "[I" ∈ WD := wdi 91 (by decide +kernel) rfl
theorem ml_X11_313 : Cond.methodLink RX11 313 yX2_isReader ∈ WD := wdi 606 (by decide +kernel) rfl
theorem im_yX2_isReader : Cond.instanceMethod yX2_isReader ∈ WD := wdi 607 (by decide +kernel) rfl
theorem se_yX2_isReader : Cond.selects RX2 yX2_isReader yX2_isReader ∈ WD := wdi 608 (by decide +kernel) rfl
theorem co_yX2_isReader : Cond.code yX2_isReader cX2_isReader 3 (some .boolean) ∈ WD := wdi 609 (by decide +kernel) rfl
theorem ml_L_82 : Cond.methodLink RL 82 yX12_read ∈ WD := wdi 1138 (by decide +kernel) rfl
theorem im_yX12_read : Cond.instanceMethod yX12_read ∈ WD := wdi 1139 (by decide +kernel) rfl
theorem se_yX12_read : Cond.selects RX12 yX12_read yX12_read ∈ WD := wdi 1140 (by decide +kernel) rfl
theorem co_yX12_read : Cond.code yX12_read cX12_read 5 (some .int) ∈ WD := wdi 1141 (by decide +kernel) rfl
theorem ml_X12_199 : Cond.methodLink RX12 199 yX12_hasRead ∈ WD := wdi 1142 (by decide +kernel) rfl
theorem im_yX12_hasRead : Cond.instanceMethod yX12_hasRead ∈ WD := wdi 1144 (by decide +kernel) rfl
theorem se_yX12_hasRead : Cond.selects RX12 yX12_hasRead yX12_hasRead ∈ WD := wdi 41 (by decide +kernel) rfl
theorem co_yX12_hasRead : Cond.code yX12_hasRead cX12_hasRead 6 (some .boolean) ∈ WD := wdi 1145 (by decide +kernel) rfl
theorem ml_L_83 : Cond.methodLink RL 83 yX11_reads ∈ WD := wdi 610 (by decide +kernel) rfl
theorem im_yX11_reads : Cond.instanceMethod yX11_reads ∈ WD := wdi 611 (by decide +kernel) rfl
theorem se_yX11_reads : Cond.selects RX11 yX11_reads yX11_reads ∈ WD := wdi 612 (by decide +kernel) rfl
theorem co_yX11_reads : Cond.code yX11_reads cX11_reads 6 (some .int) ∈ WD := wdi 613 (by decide +kernel) rfl
theorem ml_L_86 : Cond.methodLink RL 86 yX12_reads ∈ WD := wdi 1146 (by decide +kernel) rfl
theorem im_yX12_reads : Cond.instanceMethod yX12_reads ∈ WD := wdi 1147 (by decide +kernel) rfl
theorem se_yX12_reads : Cond.selects RX12 yX12_reads yX12_reads ∈ WD := wdi 1148 (by decide +kernel) rfl
theorem co_yX12_reads : Cond.code yX12_reads cX12_reads 6 (some .int) ∈ WD := wdi 1149 (by decide +kernel) rfl
theorem ml_L_87 : Cond.methodLink RL 87 yX11_means ∈ WD := wdi 614 (by decide +kernel) rfl
theorem im_yX11_means : Cond.instanceMethod yX11_means ∈ WD := wdi 615 (by decide +kernel) rfl
theorem se_yX11_means : Cond.selects RX11 yX11_means yX11_means ∈ WD := wdi 616 (by decide +kernel) rfl
theorem co_yX11_means : Cond.code yX11_means cX11_means 3 (some .int) ∈ WD := wdi 617 (by decide +kernel) rfl
theorem ml_X11_213 : Cond.methodLink RX11 213 yX1_find ∈ WD := wdi 618 (by decide +kernel) rfl
theorem im_yX1_find : Cond.instanceMethod yX1_find ∈ WD := wdi 619 (by decide +kernel) rfl
theorem se_yX1_find : Cond.selects RX1 yX1_find yX1_find ∈ WD := wdi 620 (by decide +kernel) rfl
theorem co_yX1_find : Cond.code yX1_find cX1_find 4 (some .int) ∈ WD := wdi 621 (by decide +kernel) rfl
theorem ml_X11_216 : Cond.methodLink RX11 216 yX11_meant ∈ WD := wdi 622 (by decide +kernel) rfl
theorem im_yX11_meant : Cond.instanceMethod yX11_meant ∈ WD := wdi 624 (by decide +kernel) rfl
theorem se_yX11_meant : Cond.selects RX11 yX11_meant yX11_meant ∈ WD := wdi 11 (by decide +kernel) rfl
theorem co_yX11_meant : Cond.code yX11_meant cX11_meant 6 (some .int) ∈ WD := wdi 625 (by decide +kernel) rfl
theorem ml_X11_317 : Cond.methodLink RX11 317 yX4_knownBy ∈ WD := wdi 626 (by decide +kernel) rfl
theorem im_yX4_knownBy : Cond.instanceMethod yX4_knownBy ∈ WD := wdi 627 (by decide +kernel) rfl
theorem se_yX4_knownBy : Cond.selects RX4 yX4_knownBy yX4_knownBy ∈ WD := wdi 628 (by decide +kernel) rfl
theorem co_yX4_knownBy : Cond.code yX4_knownBy cX4_knownBy 8 (some .int) ∈ WD := wdi 629 (by decide +kernel) rfl
theorem ml_X4_31 : Cond.methodLink RX4 31 yX4_isAlive ∈ WD := wdi 630 (by decide +kernel) rfl
theorem im_yX4_isAlive : Cond.instanceMethod yX4_isAlive ∈ WD := wdi 632 (by decide +kernel) rfl
theorem se_yX4_isAlive : Cond.selects RX4 yX4_isAlive yX4_isAlive ∈ WD := wdi 12 (by decide +kernel) rfl
theorem co_yX4_isAlive : Cond.code yX4_isAlive cX4_isAlive 4 (some .boolean) ∈ WD := wdi 633 (by decide +kernel) rfl
theorem ml_X4_35 : Cond.methodLink RX4 35 Lib.Math.max.name ∈ WD := wdi 634 (by decide +kernel) rfl
theorem ml_X4_41 : Cond.methodLink RX4 41 Lib.Math.min.name ∈ WD := wdi 635 (by decide +kernel) rfl
theorem ml_X11_219 : Cond.methodLink RX11 219 yJ6_bitCount_0f7a4 ∈ WD := wdi 636 (by decide +kernel) rfl
theorem sm_yJ6_bitCount_0f7a4 : Cond.static yJ6_bitCount_0f7a4 ∈ WD := wdi 637 (by decide +kernel) rfl
theorem ini_J6 : Cond.initialized RJ6 ∈ WD := wdi 74 (by decide +kernel) rfl
theorem co_yJ6_bitCount_0f7a4 : Cond.code yJ6_bitCount_0f7a4 cJ6_bitCount_0f7a4 1 (some .int) ∈ WD := wdi 638 (by decide +kernel) rfl
theorem cst_J6_265 : Cond.constant RJ6 265 (1431655765) ∈ WD := wdi 639 (by decide +kernel) rfl
theorem cst_J6_266 : Cond.constant RJ6 266 (858993459) ∈ WD := wdi 640 (by decide +kernel) rfl
theorem cst_J6_267 : Cond.constant RJ6 267 (252645135) ∈ WD := wdi 641 (by decide +kernel) rfl
theorem ml_L_90 : Cond.methodLink RL 90 yX12_means ∈ WD := wdi 1150 (by decide +kernel) rfl
theorem im_yX12_means : Cond.instanceMethod yX12_means ∈ WD := wdi 1151 (by decide +kernel) rfl
theorem se_yX12_means : Cond.selects RX12 yX12_means yX12_means ∈ WD := wdi 1152 (by decide +kernel) rfl
theorem co_yX12_means : Cond.code yX12_means cX12_means 3 (some .int) ∈ WD := wdi 1153 (by decide +kernel) rfl
theorem ml_X12_212 : Cond.methodLink RX12 212 yX12_meansOf ∈ WD := wdi 1154 (by decide +kernel) rfl
theorem im_yX12_meansOf : Cond.instanceMethod yX12_meansOf ∈ WD := wdi 1156 (by decide +kernel) rfl
theorem se_yX12_meansOf : Cond.selects RX12 yX12_meansOf yX12_meansOf ∈ WD := wdi 42 (by decide +kernel) rfl
theorem co_yX12_meansOf : Cond.code yX12_meansOf cX12_meansOf 8 (some .int) ∈ WD := wdi 1157 (by decide +kernel) rfl
theorem fl_X12_209 : Cond.fieldLink RX12 209 "LetterDrawerModel" "meant" "I" ∈ WD := wdi 907 (by decide +kernel) rfl
theorem ml_X12_206 : Cond.methodLink RX12 206 yX12_handOf ∈ WD := wdi 1158 (by decide +kernel) rfl
theorem im_yX12_handOf : Cond.instanceMethod yX12_handOf ∈ WD := wdi 1160 (by decide +kernel) rfl
theorem se_yX12_handOf : Cond.selects RX12 yX12_handOf yX12_handOf ∈ WD := wdi 43 (by decide +kernel) rfl
theorem co_yX12_handOf : Cond.code yX12_handOf cX12_handOf 4 (some .int) ∈ WD := wdi 1161 (by decide +kernel) rfl
theorem fl_X12_203 : Cond.fieldLink RX12 203 "LetterDrawerModel" "hands" "I" ∈ WD := wdi 877 (by decide +kernel) rfl
theorem ml_L_91 : Cond.methodLink RL 91 yX11_who ∈ WD := wdi 642 (by decide +kernel) rfl
theorem im_yX11_who : Cond.instanceMethod yX11_who ∈ WD := wdi 643 (by decide +kernel) rfl
theorem se_yX11_who : Cond.selects RX11 yX11_who yX11_who ∈ WD := wdi 644 (by decide +kernel) rfl
theorem co_yX11_who : Cond.code yX11_who cX11_who 4 (some .int) ∈ WD := wdi 645 (by decide +kernel) rfl
theorem fl_X11_225 : Cond.fieldLink RX11 225 "LetterDrawer$Hands" "persons" "[I" ∈ WD := wdi 235 (by decide +kernel) rfl
theorem ml_X11_228 : Cond.methodLink RX11 228 yX4_onlyOne ∈ WD := wdi 646 (by decide +kernel) rfl
theorem im_yX4_onlyOne : Cond.instanceMethod yX4_onlyOne ∈ WD := wdi 647 (by decide +kernel) rfl
theorem se_yX4_onlyOne : Cond.selects RX4 yX4_onlyOne yX4_onlyOne ∈ WD := wdi 648 (by decide +kernel) rfl
theorem co_yX4_onlyOne : Cond.code yX4_onlyOne cX4_onlyOne 4 (some .int) ∈ WD := wdi 649 (by decide +kernel) rfl
theorem ml_L_94 : Cond.methodLink RL 94 yX12_who ∈ WD := wdi 1162 (by decide +kernel) rfl
theorem im_yX12_who : Cond.instanceMethod yX12_who ∈ WD := wdi 1163 (by decide +kernel) rfl
theorem se_yX12_who : Cond.selects RX12 yX12_who yX12_who ∈ WD := wdi 1164 (by decide +kernel) rfl
theorem co_yX12_who : Cond.code yX12_who cX12_who 3 (some .int) ∈ WD := wdi 1165 (by decide +kernel) rfl
theorem ml_L_95 : Cond.methodLink RL 95 yX11_hand ∈ WD := wdi 650 (by decide +kernel) rfl
theorem im_yX11_hand : Cond.instanceMethod yX11_hand ∈ WD := wdi 651 (by decide +kernel) rfl
theorem se_yX11_hand : Cond.selects RX11 yX11_hand yX11_hand ∈ WD := wdi 652 (by decide +kernel) rfl
theorem co_yX11_hand : Cond.code yX11_hand cX11_hand 4 (some .int) ∈ WD := wdi 653 (by decide +kernel) rfl
theorem ml_X11_231 : Cond.methodLink RX11 231 yX1_put ∈ WD := wdi 654 (by decide +kernel) rfl
theorem im_yX1_put : Cond.instanceMethod yX1_put ∈ WD := wdi 655 (by decide +kernel) rfl
theorem se_yX1_put : Cond.selects RX1 yX1_put yX1_put ∈ WD := wdi 656 (by decide +kernel) rfl
theorem co_yX1_put : Cond.code yX1_put cX1_put 5 (some .int) ∈ WD := wdi 657 (by decide +kernel) rfl
theorem ml_X1_25 : Cond.methodLink RX1 25 yX1_find ∈ WD := wdi 658 (by decide +kernel) rfl
theorem ml_L_98 : Cond.methodLink RL 98 yX12_hand ∈ WD := wdi 1166 (by decide +kernel) rfl
theorem im_yX12_hand : Cond.instanceMethod yX12_hand ∈ WD := wdi 1167 (by decide +kernel) rfl
theorem se_yX12_hand : Cond.selects RX12 yX12_hand yX12_hand ∈ WD := wdi 1168 (by decide +kernel) rfl
theorem co_yX12_hand : Cond.code yX12_hand cX12_hand 5 (some .int) ∈ WD := wdi 1169 (by decide +kernel) rfl
theorem ml_L_101 : Cond.methodLink RL 101 yX11_feed ∈ WD := wdi 659 (by decide +kernel) rfl
theorem im_yX11_feed : Cond.instanceMethod yX11_feed ∈ WD := wdi 660 (by decide +kernel) rfl
theorem se_yX11_feed : Cond.selects RX11 yX11_feed yX11_feed ∈ WD := wdi 661 (by decide +kernel) rfl
theorem co_yX11_feed : Cond.code yX11_feed cX11_feed 5 (some .int) ∈ WD := wdi 662 (by decide +kernel) rfl
theorem fl_X11_234 : Cond.fieldLink RX11 234 "LetterDrawer$Tape" "size" "I" ∈ WD := wdi 258 (by decide +kernel) rfl
theorem ml_X11_235 : Cond.methodLink RX11 235 yX8_add ∈ WD := wdi 663 (by decide +kernel) rfl
theorem im_yX8_add : Cond.instanceMethod yX8_add ∈ WD := wdi 664 (by decide +kernel) rfl
theorem se_yX8_add : Cond.selects RX8 yX8_add yX8_add ∈ WD := wdi 665 (by decide +kernel) rfl
theorem co_yX8_add : Cond.code yX8_add cX8_add 2 none ∈ WD := wdi 666 (by decide +kernel) rfl
theorem ml_L_105 : Cond.methodLink RL 105 yX12_feed ∈ WD := wdi 1170 (by decide +kernel) rfl
theorem im_yX12_feed : Cond.instanceMethod yX12_feed ∈ WD := wdi 1171 (by decide +kernel) rfl
theorem se_yX12_feed : Cond.selects RX12 yX12_feed yX12_feed ∈ WD := wdi 1172 (by decide +kernel) rfl
theorem co_yX12_feed : Cond.code yX12_feed cX12_feed 5 (some .int) ∈ WD := wdi 1173 (by decide +kernel) rfl
theorem fl_X12_215 : Cond.fieldLink RX12 215 "LetterDrawerModel" "size" "I" ∈ WD := wdi 878 (by decide +kernel) rfl
theorem ml_L_106 : Cond.methodLink RL 106 yX11_text ∈ WD := wdi 667 (by decide +kernel) rfl
theorem im_yX11_text : Cond.instanceMethod yX11_text ∈ WD := wdi 668 (by decide +kernel) rfl
theorem se_yX11_text : Cond.selects RX11 yX11_text yX11_text ∈ WD := wdi 669 (by decide +kernel) rfl
theorem co_yX11_text : Cond.code yX11_text cX11_text 3 (some .int) ∈ WD := wdi 670 (by decide +kernel) rfl
theorem fl_X11_241 : Cond.fieldLink RX11 241 "LetterDrawer$Tape" "bytes" "[B" ∈ WD := wdi 256 (by decide +kernel) rfl
theorem ml_X11_238 : Cond.methodLink RX11 238 yX11_examineTape ∈ WD := wdi 671 (by decide +kernel) rfl
theorem im_yX11_examineTape : Cond.instanceMethod yX11_examineTape ∈ WD := wdi 673 (by decide +kernel) rfl
theorem se_yX11_examineTape : Cond.selects RX11 yX11_examineTape yX11_examineTape ∈ WD := wdi 13 (by decide +kernel) rfl
theorem co_yX11_examineTape : Cond.code yX11_examineTape cX11_examineTape 3 none ∈ WD := wdi 674 (by decide +kernel) rfl
theorem fl_X11_320 : Cond.fieldLink RX11 320 "LetterDrawer$MarkReader" "wrongAt" "I" ∈ WD := wdi 280 (by decide +kernel) rfl
theorem fl_X11_277 : Cond.fieldLink RX11 277 "LetterDrawer$MarkReader" "number" "I" ∈ WD := wdi 276 (by decide +kernel) rfl
theorem fl_X11_323 : Cond.fieldLink RX11 323 "LetterDrawer$MarkReader" "markAt" "I" ∈ WD := wdi 278 (by decide +kernel) rfl
theorem ml_X11_271 : Cond.methodLink RX11 271 yX3_begin ∈ WD := wdi 675 (by decide +kernel) rfl
theorem im_yX3_begin : Cond.instanceMethod yX3_begin ∈ WD := wdi 676 (by decide +kernel) rfl
theorem se_yX3_begin : Cond.selects RX3 yX3_begin yX3_begin ∈ WD := wdi 677 (by decide +kernel) rfl
theorem co_yX3_begin : Cond.code yX3_begin cX3_begin 1 none ∈ WD := wdi 678 (by decide +kernel) rfl
theorem ml_X11_274 : Cond.methodLink RX11 274 yX3_take ∈ WD := wdi 679 (by decide +kernel) rfl
theorem im_yX3_take : Cond.instanceMethod yX3_take ∈ WD := wdi 680 (by decide +kernel) rfl
theorem se_yX3_take : Cond.selects RX3 yX3_take yX3_take ∈ WD := wdi 681 (by decide +kernel) rfl
theorem co_yX3_take : Cond.code yX3_take cX3_take 3 (some .int) ∈ WD := wdi 682 (by decide +kernel) rfl
theorem ml_X3_35 : Cond.methodLink RX3 35 yX3_takeSort ∈ WD := wdi 683 (by decide +kernel) rfl
theorem im_yX3_takeSort : Cond.instanceMethod yX3_takeSort ∈ WD := wdi 685 (by decide +kernel) rfl
theorem se_yX3_takeSort : Cond.selects RX3 yX3_takeSort yX3_takeSort ∈ WD := wdi 14 (by decide +kernel) rfl
theorem co_yX3_takeSort : Cond.code yX3_takeSort cX3_takeSort 3 (some .int) ∈ WD := wdi 686 (by decide +kernel) rfl
theorem ml_X3_53 : Cond.methodLink RX3 53 yX3_isSort ∈ WD := wdi 687 (by decide +kernel) rfl
theorem sm_yX3_isSort : Cond.static yX3_isSort ∈ WD := wdi 688 (by decide +kernel) rfl
theorem co_yX3_isSort : Cond.code yX3_isSort cX3_isSort 1 (some .boolean) ∈ WD := wdi 689 (by decide +kernel) rfl
theorem ml_X3_49 : Cond.methodLink RX3 49 yX3_stopAt ∈ WD := wdi 690 (by decide +kernel) rfl
theorem im_yX3_stopAt : Cond.instanceMethod yX3_stopAt ∈ WD := wdi 692 (by decide +kernel) rfl
theorem se_yX3_stopAt : Cond.selects RX3 yX3_stopAt yX3_stopAt ∈ WD := wdi 15 (by decide +kernel) rfl
theorem co_yX3_stopAt : Cond.code yX3_stopAt cX3_stopAt 2 (some .int) ∈ WD := wdi 693 (by decide +kernel) rfl
theorem ml_X3_56 : Cond.methodLink RX3 56 yX3_isOpen ∈ WD := wdi 694 (by decide +kernel) rfl
theorem im_yX3_isOpen : Cond.instanceMethod yX3_isOpen ∈ WD := wdi 696 (by decide +kernel) rfl
theorem se_yX3_isOpen : Cond.selects RX3 yX3_isOpen yX3_isOpen ∈ WD := wdi 16 (by decide +kernel) rfl
theorem co_yX3_isOpen : Cond.code yX3_isOpen cX3_isOpen 3 (some .boolean) ∈ WD := wdi 697 (by decide +kernel) rfl
theorem ml_X3_59 : Cond.methodLink RX3 59 yX3_openMark ∈ WD := wdi 698 (by decide +kernel) rfl
theorem im_yX3_openMark : Cond.instanceMethod yX3_openMark ∈ WD := wdi 700 (by decide +kernel) rfl
theorem se_yX3_openMark : Cond.selects RX3 yX3_openMark yX3_openMark ∈ WD := wdi 17 (by decide +kernel) rfl
theorem co_yX3_openMark : Cond.code yX3_openMark cX3_openMark 1 (some .int) ∈ WD := wdi 701 (by decide +kernel) rfl
theorem ml_X3_39 : Cond.methodLink RX3 39 yX3_takeNumber ∈ WD := wdi 702 (by decide +kernel) rfl
theorem im_yX3_takeNumber : Cond.instanceMethod yX3_takeNumber ∈ WD := wdi 704 (by decide +kernel) rfl
theorem se_yX3_takeNumber : Cond.selects RX3 yX3_takeNumber yX3_takeNumber ∈ WD := wdi 18 (by decide +kernel) rfl
theorem co_yX3_takeNumber : Cond.code yX3_takeNumber cX3_takeNumber 3 (some .int) ∈ WD := wdi 705 (by decide +kernel) rfl
theorem ml_X3_42 : Cond.methodLink RX3 42 yX3_takeText ∈ WD := wdi 706 (by decide +kernel) rfl
theorem im_yX3_takeText : Cond.instanceMethod yX3_takeText ∈ WD := wdi 708 (by decide +kernel) rfl
theorem se_yX3_takeText : Cond.selects RX3 yX3_takeText yX3_takeText ∈ WD := wdi 19 (by decide +kernel) rfl
theorem co_yX3_takeText : Cond.code yX3_takeText cX3_takeText 3 (some .int) ∈ WD := wdi 709 (by decide +kernel) rfl
theorem ml_X3_45 : Cond.methodLink RX3 45 yX3_isLetter ∈ WD := wdi 710 (by decide +kernel) rfl
theorem sm_yX3_isLetter : Cond.static yX3_isLetter ∈ WD := wdi 711 (by decide +kernel) rfl
theorem co_yX3_isLetter : Cond.code yX3_isLetter cX3_isLetter 1 (some .boolean) ∈ WD := wdi 712 (by decide +kernel) rfl
theorem ml_X11_326 : Cond.methodLink RX11 326 yX3_isWhole ∈ WD := wdi 713 (by decide +kernel) rfl
theorem im_yX3_isWhole : Cond.instanceMethod yX3_isWhole ∈ WD := wdi 714 (by decide +kernel) rfl
theorem se_yX3_isWhole : Cond.selects RX3 yX3_isWhole yX3_isWhole ∈ WD := wdi 715 (by decide +kernel) rfl
theorem co_yX3_isWhole : Cond.code yX3_isWhole cX3_isWhole 1 (some .boolean) ∈ WD := wdi 716 (by decide +kernel) rfl
theorem ml_X11_245 : Cond.methodLink RX11 245 yX2_write ∈ WD := wdi 717 (by decide +kernel) rfl
theorem im_yX2_write : Cond.instanceMethod yX2_write ∈ WD := wdi 718 (by decide +kernel) rfl
theorem se_yX2_write : Cond.selects RX2 yX2_write yX2_write ∈ WD := wdi 719 (by decide +kernel) rfl
theorem co_yX2_write : Cond.code yX2_write cX2_write 5 none ∈ WD := wdi 720 (by decide +kernel) rfl
theorem ml_X2_58 : Cond.methodLink RX2 58 Lib.Math.min.name ∈ WD := wdi 721 (by decide +kernel) rfl
theorem ml_L_109 : Cond.methodLink RL 109 yX12_text ∈ WD := wdi 1174 (by decide +kernel) rfl
theorem im_yX12_text : Cond.instanceMethod yX12_text ∈ WD := wdi 1175 (by decide +kernel) rfl
theorem se_yX12_text : Cond.selects RX12 yX12_text yX12_text ∈ WD := wdi 1176 (by decide +kernel) rfl
theorem co_yX12_text : Cond.code yX12_text cX12_text 4 (some .int) ∈ WD := wdi 1177 (by decide +kernel) rfl
theorem fl_X12_236 : Cond.fieldLink RX12 236 "LetterDrawerModel" "faultKind" "I" ∈ WD := wdi 908 (by decide +kernel) rfl
theorem ml_X12_239 : Cond.methodLink RX12 239 yX12_wrongAt ∈ WD := wdi 1178 (by decide +kernel) rfl
theorem im_yX12_wrongAt : Cond.instanceMethod yX12_wrongAt ∈ WD := wdi 1180 (by decide +kernel) rfl
theorem se_yX12_wrongAt : Cond.selects RX12 yX12_wrongAt yX12_wrongAt ∈ WD := wdi 44 (by decide +kernel) rfl
theorem co_yX12_wrongAt : Cond.code yX12_wrongAt cX12_wrongAt 5 (some .int) ∈ WD := wdi 1181 (by decide +kernel) rfl
theorem fl_X12_218 : Cond.fieldLink RX12 218 "LetterDrawerModel" "opened" "I" ∈ WD := wdi 910 (by decide +kernel) rfl
theorem ml_X12_224 : Cond.methodLink RX12 224 yX12_isPlain ∈ WD := wdi 1182 (by decide +kernel) rfl
theorem sm_yX12_isPlain : Cond.static yX12_isPlain ∈ WD := wdi 1183 (by decide +kernel) rfl
theorem co_yX12_isPlain : Cond.code yX12_isPlain cX12_isPlain 1 (some .boolean) ∈ WD := wdi 1184 (by decide +kernel) rfl
theorem ml_X12_227 : Cond.methodLink RX12 227 yX12_isSort ∈ WD := wdi 1185 (by decide +kernel) rfl
theorem sm_yX12_isSort : Cond.static yX12_isSort ∈ WD := wdi 1186 (by decide +kernel) rfl
theorem co_yX12_isSort : Cond.code yX12_isSort cX12_isSort 1 (some .boolean) ∈ WD := wdi 1187 (by decide +kernel) rfl
theorem ml_X12_230 : Cond.methodLink RX12 230 yX12_isOpen ∈ WD := wdi 1188 (by decide +kernel) rfl
theorem im_yX12_isOpen : Cond.instanceMethod yX12_isOpen ∈ WD := wdi 1190 (by decide +kernel) rfl
theorem se_yX12_isOpen : Cond.selects RX12 yX12_isOpen yX12_isOpen ∈ WD := wdi 45 (by decide +kernel) rfl
theorem co_yX12_isOpen : Cond.code yX12_isOpen cX12_isOpen 4 (some .boolean) ∈ WD := wdi 1191 (by decide +kernel) rfl
theorem ml_X12_233 : Cond.methodLink RX12 233 yX12_digits ∈ WD := wdi 1192 (by decide +kernel) rfl
theorem im_yX12_digits : Cond.instanceMethod yX12_digits ∈ WD := wdi 1194 (by decide +kernel) rfl
theorem se_yX12_digits : Cond.selects RX12 yX12_digits yX12_digits ∈ WD := wdi 46 (by decide +kernel) rfl
theorem co_yX12_digits : Cond.code yX12_digits cX12_digits 4 (some .int) ∈ WD := wdi 1195 (by decide +kernel) rfl
theorem ml_X12_221 : Cond.methodLink RX12 221 yX12_isDigit ∈ WD := wdi 1196 (by decide +kernel) rfl
theorem sm_yX12_isDigit : Cond.static yX12_isDigit ∈ WD := wdi 1197 (by decide +kernel) rfl
theorem co_yX12_isDigit : Cond.code yX12_isDigit cX12_isDigit 1 (some .boolean) ∈ WD := wdi 1198 (by decide +kernel) rfl
theorem ml_X12_243 : Cond.methodLink RX12 243 yX12_numberAt ∈ WD := wdi 1199 (by decide +kernel) rfl
theorem sm_yX12_numberAt : Cond.static yX12_numberAt ∈ WD := wdi 1200 (by decide +kernel) rfl
theorem co_yX12_numberAt : Cond.code yX12_numberAt cX12_numberAt 4 (some .int) ∈ WD := wdi 1201 (by decide +kernel) rfl
theorem ml_L_110 : Cond.methodLink RL 110 yX11_fault ∈ WD := wdi 722 (by decide +kernel) rfl
theorem im_yX11_fault : Cond.instanceMethod yX11_fault ∈ WD := wdi 723 (by decide +kernel) rfl
theorem se_yX11_fault : Cond.selects RX11 yX11_fault yX11_fault ∈ WD := wdi 724 (by decide +kernel) rfl
theorem co_yX11_fault : Cond.code yX11_fault cX11_fault 2 (some .int) ∈ WD := wdi 725 (by decide +kernel) rfl
theorem ml_L_113 : Cond.methodLink RL 113 yX12_fault ∈ WD := wdi 1202 (by decide +kernel) rfl
theorem im_yX12_fault : Cond.instanceMethod yX12_fault ∈ WD := wdi 1203 (by decide +kernel) rfl
theorem se_yX12_fault : Cond.selects RX12 yX12_fault yX12_fault ∈ WD := wdi 1204 (by decide +kernel) rfl
theorem co_yX12_fault : Cond.code yX12_fault cX12_fault 2 (some .int) ∈ WD := wdi 1205 (by decide +kernel) rfl
theorem ml_L_114 : Cond.methodLink RL 114 yX11_print ∈ WD := wdi 726 (by decide +kernel) rfl
theorem im_yX11_print : Cond.instanceMethod yX11_print ∈ WD := wdi 727 (by decide +kernel) rfl
theorem se_yX11_print : Cond.selects RX11 yX11_print yX11_print ∈ WD := wdi 728 (by decide +kernel) rfl
theorem co_yX11_print : Cond.code yX11_print cX11_print 4 (some .int) ∈ WD := wdi 729 (by decide +kernel) rfl
theorem fl_X11_256 : Cond.fieldLink RX11 256 "LetterDrawer$Printer" "size" "I" ∈ WD := wdi 310 (by decide +kernel) rfl
theorem ml_X11_249 : Cond.methodLink RX11 249 yX11_isPrinting ∈ WD := wdi 730 (by decide +kernel) rfl
theorem im_yX11_isPrinting : Cond.instanceMethod yX11_isPrinting ∈ WD := wdi 732 (by decide +kernel) rfl
theorem se_yX11_isPrinting : Cond.selects RX11 yX11_isPrinting yX11_isPrinting ∈ WD := wdi 20 (by decide +kernel) rfl
theorem co_yX11_isPrinting : Cond.code yX11_isPrinting cX11_isPrinting 4 (some .boolean) ∈ WD := wdi 733 (by decide +kernel) rfl
theorem ml_X11_252 : Cond.methodLink RX11 252 yX11_printText ∈ WD := wdi 734 (by decide +kernel) rfl
theorem im_yX11_printText : Cond.instanceMethod yX11_printText ∈ WD := wdi 736 (by decide +kernel) rfl
theorem se_yX11_printText : Cond.selects RX11 yX11_printText yX11_printText ∈ WD := wdi 21 (by decide +kernel) rfl
theorem co_yX11_printText : Cond.code yX11_printText cX11_printText 4 none ∈ WD := wdi 737 (by decide +kernel) rfl
theorem fl_X11_267 : Cond.fieldLink RX11 267 "LetterDrawer$Letters" "texts" "[[B" ∈ WD := wdi 144 (by decide +kernel) rfl
theorem ml_X11_330 : Cond.methodLink RX11 330 yX6_render ∈ WD := wdi 738 (by decide +kernel) rfl
theorem im_yX6_render : Cond.instanceMethod yX6_render ∈ WD := wdi 739 (by decide +kernel) rfl
theorem se_yX6_render : Cond.selects RX6 yX6_render yX6_render ∈ WD := wdi 740 (by decide +kernel) rfl
theorem co_yX6_render : Cond.code yX6_render cX6_render 9 none ∈ WD := wdi 741 (by decide +kernel) rfl
theorem fl_X6_28 : Cond.fieldLink RX6 28 "LetterDrawer$MarkReader" "depth" "I" ∈ WD := wdi 271 (by decide +kernel) rfl
theorem ml_X6_19 : Cond.methodLink RX6 19 yX3_begin ∈ WD := wdi 742 (by decide +kernel) rfl
theorem ml_X6_24 : Cond.methodLink RX6 24 yX3_take ∈ WD := wdi 743 (by decide +kernel) rfl
theorem ml_X6_31 : Cond.methodLink RX6 31 yX6_add ∈ WD := wdi 744 (by decide +kernel) rfl
theorem im_yX6_add : Cond.instanceMethod yX6_add ∈ WD := wdi 746 (by decide +kernel) rfl
theorem se_yX6_add : Cond.selects RX6 yX6_add yX6_add ∈ WD := wdi 22 (by decide +kernel) rfl
theorem co_yX6_add : Cond.code yX6_add cX6_add 2 none ∈ WD := wdi 747 (by decide +kernel) rfl
theorem ml_X6_35 : Cond.methodLink RX6 35 yX6_isHidden ∈ WD := wdi 748 (by decide +kernel) rfl
theorem sm_yX6_isHidden : Cond.static yX6_isHidden ∈ WD := wdi 749 (by decide +kernel) rfl
theorem co_yX6_isHidden : Cond.code yX6_isHidden cX6_isHidden 3 (some .boolean) ∈ WD := wdi 750 (by decide +kernel) rfl
theorem fl_X6_43 : Cond.fieldLink RX6 43 "LetterDrawer$MarkReader" "sort" "I" ∈ WD := wdi 273 (by decide +kernel) rfl
theorem fl_X6_46 : Cond.fieldLink RX6 46 "LetterDrawer$MarkReader" "number" "I" ∈ WD := wdi 275 (by decide +kernel) rfl
theorem ml_X6_39 : Cond.methodLink RX6 39 yX6_addMark ∈ WD := wdi 751 (by decide +kernel) rfl
theorem im_yX6_addMark : Cond.instanceMethod yX6_addMark ∈ WD := wdi 753 (by decide +kernel) rfl
theorem se_yX6_addMark : Cond.selects RX6 yX6_addMark yX6_addMark ∈ WD := wdi 23 (by decide +kernel) rfl
theorem co_yX6_addMark : Cond.code yX6_addMark cX6_addMark 4 none ∈ WD := wdi 754 (by decide +kernel) rfl
theorem ml_X6_49 : Cond.methodLink RX6 49 yX6_addNumber ∈ WD := wdi 755 (by decide +kernel) rfl
theorem im_yX6_addNumber : Cond.instanceMethod yX6_addNumber ∈ WD := wdi 757 (by decide +kernel) rfl
theorem se_yX6_addNumber : Cond.selects RX6 yX6_addNumber yX6_addNumber ∈ WD := wdi 24 (by decide +kernel) rfl
theorem co_yX6_addNumber : Cond.code yX6_addNumber cX6_addNumber 3 none ∈ WD := wdi 758 (by decide +kernel) rfl
theorem ml_L_117 : Cond.methodLink RL 117 yX12_print ∈ WD := wdi 1206 (by decide +kernel) rfl
theorem im_yX12_print : Cond.instanceMethod yX12_print ∈ WD := wdi 1207 (by decide +kernel) rfl
theorem se_yX12_print : Cond.selects RX12 yX12_print yX12_print ∈ WD := wdi 1208 (by decide +kernel) rfl
theorem co_yX12_print : Cond.code yX12_print cX12_print 4 (some .int) ∈ WD := wdi 1209 (by decide +kernel) rfl
theorem fl_X12_247 : Cond.fieldLink RX12 247 "LetterDrawerModel" "printMany" "I" ∈ WD := wdi 914 (by decide +kernel) rfl
theorem ml_X12_263 : Cond.methodLink RX12 263 yX12_prints ∈ WD := wdi 1210 (by decide +kernel) rfl
theorem im_yX12_prints : Cond.instanceMethod yX12_prints ∈ WD := wdi 1212 (by decide +kernel) rfl
theorem se_yX12_prints : Cond.selects RX12 yX12_prints yX12_prints ∈ WD := wdi 47 (by decide +kernel) rfl
theorem co_yX12_prints : Cond.code yX12_prints cX12_prints 10 none ∈ WD := wdi 1213 (by decide +kernel) rfl
theorem ml_X12_254 : Cond.methodLink RX12 254 yX12_closes ∈ WD := wdi 1214 (by decide +kernel) rfl
theorem im_yX12_closes : Cond.instanceMethod yX12_closes ∈ WD := wdi 1216 (by decide +kernel) rfl
theorem se_yX12_closes : Cond.selects RX12 yX12_closes yX12_closes ∈ WD := wdi 48 (by decide +kernel) rfl
theorem co_yX12_closes : Cond.code yX12_closes cX12_closes 2 none ∈ WD := wdi 1217 (by decide +kernel) rfl
theorem ml_X12_250 : Cond.methodLink RX12 250 yX12_puts ∈ WD := wdi 1218 (by decide +kernel) rfl
theorem im_yX12_puts : Cond.instanceMethod yX12_puts ∈ WD := wdi 1220 (by decide +kernel) rfl
theorem se_yX12_puts : Cond.selects RX12 yX12_puts yX12_puts ∈ WD := wdi 49 (by decide +kernel) rfl
theorem co_yX12_puts : Cond.code yX12_puts cX12_puts 2 none ∈ WD := wdi 1221 (by decide +kernel) rfl
theorem ml_X12_257 : Cond.methodLink RX12 257 yX12_number ∈ WD := wdi 1222 (by decide +kernel) rfl
theorem im_yX12_number : Cond.instanceMethod yX12_number ∈ WD := wdi 1224 (by decide +kernel) rfl
theorem se_yX12_number : Cond.selects RX12 yX12_number yX12_number ∈ WD := wdi 50 (by decide +kernel) rfl
theorem co_yX12_number : Cond.code yX12_number cX12_number 4 none ∈ WD := wdi 1225 (by decide +kernel) rfl
theorem ml_X12_260 : Cond.methodLink RX12 260 yX12_opens ∈ WD := wdi 1226 (by decide +kernel) rfl
theorem im_yX12_opens : Cond.instanceMethod yX12_opens ∈ WD := wdi 1228 (by decide +kernel) rfl
theorem se_yX12_opens : Cond.selects RX12 yX12_opens yX12_opens ∈ WD := wdi 51 (by decide +kernel) rfl
theorem co_yX12_opens : Cond.code yX12_opens cX12_opens 2 none ∈ WD := wdi 1229 (by decide +kernel) rfl
theorem ml_L_118 : Cond.methodLink RL 118 yX11_printed ∈ WD := wdi 759 (by decide +kernel) rfl
theorem im_yX11_printed : Cond.instanceMethod yX11_printed ∈ WD := wdi 760 (by decide +kernel) rfl
theorem se_yX11_printed : Cond.selects RX11 yX11_printed yX11_printed ∈ WD := wdi 761 (by decide +kernel) rfl
theorem co_yX11_printed : Cond.code yX11_printed cX11_printed 5 (some .int) ∈ WD := wdi 762 (by decide +kernel) rfl
theorem fl_X11_257 : Cond.fieldLink RX11 257 "LetterDrawer$Printer" "bytes" "[B" ∈ WD := wdi 308 (by decide +kernel) rfl
theorem ml_L_121 : Cond.methodLink RL 121 yX12_printed ∈ WD := wdi 1230 (by decide +kernel) rfl
theorem im_yX12_printed : Cond.instanceMethod yX12_printed ∈ WD := wdi 1231 (by decide +kernel) rfl
theorem se_yX12_printed : Cond.selects RX12 yX12_printed yX12_printed ∈ WD := wdi 1232 (by decide +kernel) rfl
theorem co_yX12_printed : Cond.code yX12_printed cX12_printed 5 (some .int) ∈ WD := wdi 1233 (by decide +kernel) rfl
theorem ml_L_122 : Cond.methodLink RL 122 yX11_words ∈ WD := wdi 763 (by decide +kernel) rfl
theorem im_yX11_words : Cond.instanceMethod yX11_words ∈ WD := wdi 764 (by decide +kernel) rfl
theorem se_yX11_words : Cond.selects RX11 yX11_words yX11_words ∈ WD := wdi 765 (by decide +kernel) rfl
theorem co_yX11_words : Cond.code yX11_words cX11_words 2 (some .int) ∈ WD := wdi 766 (by decide +kernel) rfl
theorem fl_X11_262 : Cond.fieldLink RX11 262 "LetterDrawer$WordRow" "size" "I" ∈ WD := wdi 323 (by decide +kernel) rfl
theorem ml_X11_258 : Cond.methodLink RX11 258 yX11_readWords ∈ WD := wdi 767 (by decide +kernel) rfl
theorem im_yX11_readWords : Cond.instanceMethod yX11_readWords ∈ WD := wdi 769 (by decide +kernel) rfl
theorem se_yX11_readWords : Cond.selects RX11 yX11_readWords yX11_readWords ∈ WD := wdi 25 (by decide +kernel) rfl
theorem co_yX11_readWords : Cond.code yX11_readWords cX11_readWords 3 none ∈ WD := wdi 770 (by decide +kernel) rfl
theorem ml_X11_334 : Cond.methodLink RX11 334 yX10_split ∈ WD := wdi 771 (by decide +kernel) rfl
theorem im_yX10_split : Cond.instanceMethod yX10_split ∈ WD := wdi 772 (by decide +kernel) rfl
theorem se_yX10_split : Cond.selects RX10 yX10_split yX10_split ∈ WD := wdi 773 (by decide +kernel) rfl
theorem co_yX10_split : Cond.code yX10_split cX10_split 5 none ∈ WD := wdi 774 (by decide +kernel) rfl
theorem ml_X10_29 : Cond.methodLink RX10 29 yX3_isLetter ∈ WD := wdi 775 (by decide +kernel) rfl
theorem ml_L_125 : Cond.methodLink RL 125 yX12_words ∈ WD := wdi 1234 (by decide +kernel) rfl
theorem im_yX12_words : Cond.instanceMethod yX12_words ∈ WD := wdi 1235 (by decide +kernel) rfl
theorem se_yX12_words : Cond.selects RX12 yX12_words yX12_words ∈ WD := wdi 1236 (by decide +kernel) rfl
theorem co_yX12_words : Cond.code yX12_words cX12_words 2 (some .int) ∈ WD := wdi 1237 (by decide +kernel) rfl
theorem ml_X12_266 : Cond.methodLink RX12 266 yX12_findWords ∈ WD := wdi 1238 (by decide +kernel) rfl
theorem im_yX12_findWords : Cond.instanceMethod yX12_findWords ∈ WD := wdi 1240 (by decide +kernel) rfl
theorem se_yX12_findWords : Cond.selects RX12 yX12_findWords yX12_findWords ∈ WD := wdi 52 (by decide +kernel) rfl
theorem co_yX12_findWords : Cond.code yX12_findWords cX12_findWords 6 none ∈ WD := wdi 1241 (by decide +kernel) rfl
theorem ml_L_126 : Cond.methodLink RL 126 yX11_differ ∈ WD := wdi 776 (by decide +kernel) rfl
theorem im_yX11_differ : Cond.instanceMethod yX11_differ ∈ WD := wdi 777 (by decide +kernel) rfl
theorem se_yX11_differ : Cond.selects RX11 yX11_differ yX11_differ ∈ WD := wdi 778 (by decide +kernel) rfl
theorem co_yX11_differ : Cond.code yX11_differ cX11_differ 3 (some .int) ∈ WD := wdi 779 (by decide +kernel) rfl
theorem ml_X11_263 : Cond.methodLink RX11 263 yX10_stepsTo ∈ WD := wdi 780 (by decide +kernel) rfl
theorem im_yX10_stepsTo : Cond.instanceMethod yX10_stepsTo ∈ WD := wdi 781 (by decide +kernel) rfl
theorem se_yX10_stepsTo : Cond.selects RX10 yX10_stepsTo yX10_stepsTo ∈ WD := wdi 782 (by decide +kernel) rfl
theorem co_yX10_stepsTo : Cond.code yX10_stepsTo cX10_stepsTo 6 (some .int) ∈ WD := wdi 783 (by decide +kernel) rfl
theorem ml_X10_39 : Cond.methodLink RX10 39 Lib.Math.min.name ∈ WD := wdi 788 (by decide +kernel) rfl
theorem ml_X10_35 : Cond.methodLink RX10 35 yX10_isAlike ∈ WD := wdi 784 (by decide +kernel) rfl
theorem im_yX10_isAlike : Cond.instanceMethod yX10_isAlike ∈ WD := wdi 786 (by decide +kernel) rfl
theorem se_yX10_isAlike : Cond.selects RX10 yX10_isAlike yX10_isAlike ∈ WD := wdi 26 (by decide +kernel) rfl
theorem co_yX10_isAlike : Cond.code yX10_isAlike cX10_isAlike 6 (some .boolean) ∈ WD := wdi 787 (by decide +kernel) rfl
theorem ml_L_129 : Cond.methodLink RL 129 yX12_differ ∈ WD := wdi 1242 (by decide +kernel) rfl
theorem im_yX12_differ : Cond.instanceMethod yX12_differ ∈ WD := wdi 1243 (by decide +kernel) rfl
theorem se_yX12_differ : Cond.selects RX12 yX12_differ yX12_differ ∈ WD := wdi 1244 (by decide +kernel) rfl
theorem co_yX12_differ : Cond.code yX12_differ cX12_differ 7 (some .int) ∈ WD := wdi 1245 (by decide +kernel) rfl
theorem ml_X12_269 : Cond.methodLink RX12 269 yX12_isSame ∈ WD := wdi 1246 (by decide +kernel) rfl
theorem im_yX12_isSame : Cond.instanceMethod yX12_isSame ∈ WD := wdi 1248 (by decide +kernel) rfl
theorem se_yX12_isSame : Cond.selects RX12 yX12_isSame yX12_isSame ∈ WD := wdi 53 (by decide +kernel) rfl
theorem co_yX12_isSame : Cond.code yX12_isSame cX12_isSame 8 (some .boolean) ∈ WD := wdi 1249 (by decide +kernel) rfl
theorem ml_L_130 : Cond.methodLink RL 130 yX11_note ∈ WD := wdi 789 (by decide +kernel) rfl
theorem im_yX11_note : Cond.instanceMethod yX11_note ∈ WD := wdi 790 (by decide +kernel) rfl
theorem se_yX11_note : Cond.selects RX11 yX11_note yX11_note ∈ WD := wdi 791 (by decide +kernel) rfl
theorem co_yX11_note : Cond.code yX11_note cX11_note 6 (some .int) ∈ WD := wdi 792 (by decide +kernel) rfl
theorem ml_L_133 : Cond.methodLink RL 133 yX12_note ∈ WD := wdi 1250 (by decide +kernel) rfl
theorem im_yX12_note : Cond.instanceMethod yX12_note ∈ WD := wdi 1251 (by decide +kernel) rfl
theorem se_yX12_note : Cond.selects RX12 yX12_note yX12_note ∈ WD := wdi 1252 (by decide +kernel) rfl
theorem co_yX12_note : Cond.code yX12_note cX12_note 7 (some .int) ∈ WD := wdi 1253 (by decide +kernel) rfl
theorem ml_L_134 : Cond.methodLink RL 134 yX11_jumps ∈ WD := wdi 793 (by decide +kernel) rfl
theorem im_yX11_jumps : Cond.instanceMethod yX11_jumps ∈ WD := wdi 794 (by decide +kernel) rfl
theorem se_yX11_jumps : Cond.selects RX11 yX11_jumps yX11_jumps ∈ WD := wdi 795 (by decide +kernel) rfl
theorem co_yX11_jumps : Cond.code yX11_jumps cX11_jumps 2 (some .int) ∈ WD := wdi 796 (by decide +kernel) rfl
theorem fl_X11_286 : Cond.fieldLink RX11 286 "LetterDrawer$Sequence" "jumps" "I" ∈ WD := wdi 348 (by decide +kernel) rfl
theorem ml_X11_280 : Cond.methodLink RX11 280 yX11_isOrderable ∈ WD := wdi 797 (by decide +kernel) rfl
theorem im_yX11_isOrderable : Cond.instanceMethod yX11_isOrderable ∈ WD := wdi 799 (by decide +kernel) rfl
theorem se_yX11_isOrderable : Cond.selects RX11 yX11_isOrderable yX11_isOrderable ∈ WD := wdi 27 (by decide +kernel) rfl
theorem co_yX11_isOrderable : Cond.code yX11_isOrderable cX11_isOrderable 2 (some .boolean) ∈ WD := wdi 800 (by decide +kernel) rfl
theorem ml_X11_283 : Cond.methodLink RX11 283 yX11_arrange ∈ WD := wdi 801 (by decide +kernel) rfl
theorem im_yX11_arrange : Cond.instanceMethod yX11_arrange ∈ WD := wdi 803 (by decide +kernel) rfl
theorem se_yX11_arrange : Cond.selects RX11 yX11_arrange yX11_arrange ∈ WD := wdi 28 (by decide +kernel) rfl
theorem co_yX11_arrange : Cond.code yX11_arrange cX11_arrange 2 (some .boolean) ∈ WD := wdi 804 (by decide +kernel) rfl
theorem ml_X11_338 : Cond.methodLink RX11 338 yX7_arrange ∈ WD := wdi 805 (by decide +kernel) rfl
theorem im_yX7_arrange : Cond.instanceMethod yX7_arrange ∈ WD := wdi 806 (by decide +kernel) rfl
theorem se_yX7_arrange : Cond.selects RX7 yX7_arrange yX7_arrange ∈ WD := wdi 807 (by decide +kernel) rfl
theorem co_yX7_arrange : Cond.code yX7_arrange cX7_arrange 4 none ∈ WD := wdi 808 (by decide +kernel) rfl
theorem fl_X7_24 : Cond.fieldLink RX7 24 "LetterDrawer$Calendar" "lows" "[I" ∈ WD := wdi 181 (by decide +kernel) rfl
theorem ml_X7_20 : Cond.methodLink RX7 20 yX7_collect ∈ WD := wdi 809 (by decide +kernel) rfl
theorem im_yX7_collect : Cond.instanceMethod yX7_collect ∈ WD := wdi 811 (by decide +kernel) rfl
theorem se_yX7_collect : Cond.selects RX7 yX7_collect yX7_collect ∈ WD := wdi 29 (by decide +kernel) rfl
theorem co_yX7_collect : Cond.code yX7_collect cX7_collect 3 none ∈ WD := wdi 812 (by decide +kernel) rfl
theorem ml_X7_29 : Cond.methodLink RX7 29 yX7_sort ∈ WD := wdi 813 (by decide +kernel) rfl
theorem im_yX7_sort : Cond.instanceMethod yX7_sort ∈ WD := wdi 815 (by decide +kernel) rfl
theorem se_yX7_sort : Cond.selects RX7 yX7_sort yX7_sort ∈ WD := wdi 30 (by decide +kernel) rfl
theorem co_yX7_sort : Cond.code yX7_sort cX7_sort 6 none ∈ WD := wdi 816 (by decide +kernel) rfl
theorem ml_X7_33 : Cond.methodLink RX7 33 yX7_isFree ∈ WD := wdi 817 (by decide +kernel) rfl
theorem im_yX7_isFree : Cond.instanceMethod yX7_isFree ∈ WD := wdi 819 (by decide +kernel) rfl
theorem se_yX7_isFree : Cond.selects RX7 yX7_isFree yX7_isFree ∈ WD := wdi 31 (by decide +kernel) rfl
theorem co_yX7_isFree : Cond.code yX7_isFree cX7_isFree 4 (some .boolean) ∈ WD := wdi 820 (by decide +kernel) rfl
theorem ml_X7_39 : Cond.methodLink RX7 39 yX0_isAhead ∈ WD := wdi 821 (by decide +kernel) rfl
theorem ml_L_137 : Cond.methodLink RL 137 yX12_jumps ∈ WD := wdi 1254 (by decide +kernel) rfl
theorem im_yX12_jumps : Cond.instanceMethod yX12_jumps ∈ WD := wdi 1255 (by decide +kernel) rfl
theorem se_yX12_jumps : Cond.selects RX12 yX12_jumps yX12_jumps ∈ WD := wdi 1256 (by decide +kernel) rfl
theorem co_yX12_jumps : Cond.code yX12_jumps cX12_jumps 4 (some .int) ∈ WD := wdi 1257 (by decide +kernel) rfl
theorem cst_X12_282 : Cond.constant RX12 282 (100000000) ∈ WD := wdi 1266 (by decide +kernel) rfl
theorem ml_X12_289 : Cond.methodLink RX12 289 yX12_finds ∈ WD := wdi 1258 (by decide +kernel) rfl
theorem im_yX12_finds : Cond.instanceMethod yX12_finds ∈ WD := wdi 1260 (by decide +kernel) rfl
theorem se_yX12_finds : Cond.selects RX12 yX12_finds yX12_finds ∈ WD := wdi 54 (by decide +kernel) rfl
theorem co_yX12_finds : Cond.code yX12_finds cX12_finds 5 (some .int) ∈ WD := wdi 1261 (by decide +kernel) rfl
theorem fl_X12_272 : Cond.fieldLink RX12 272 "LetterDrawerModel" "many" "I" ∈ WD := wdi 923 (by decide +kernel) rfl
theorem ml_X12_275 : Cond.methodLink RX12 275 yX12_rest ∈ WD := wdi 1262 (by decide +kernel) rfl
theorem im_yX12_rest : Cond.instanceMethod yX12_rest ∈ WD := wdi 1264 (by decide +kernel) rfl
theorem se_yX12_rest : Cond.selects RX12 yX12_rest yX12_rest ∈ WD := wdi 55 (by decide +kernel) rfl
theorem co_yX12_rest : Cond.code yX12_rest cX12_rest 5 (some .int) ∈ WD := wdi 1265 (by decide +kernel) rfl
theorem ml_X12_283 : Cond.methodLink RX12 283 yX12_may ∈ WD := wdi 1267 (by decide +kernel) rfl
theorem im_yX12_may : Cond.instanceMethod yX12_may ∈ WD := wdi 1269 (by decide +kernel) rfl
theorem se_yX12_may : Cond.selects RX12 yX12_may yX12_may ∈ WD := wdi 56 (by decide +kernel) rfl
theorem co_yX12_may : Cond.code yX12_may cX12_may 4 (some .boolean) ∈ WD := wdi 1270 (by decide +kernel) rfl
theorem ml_X12_286 : Cond.methodLink RX12 286 yX12_jump ∈ WD := wdi 1271 (by decide +kernel) rfl
theorem im_yX12_jump : Cond.instanceMethod yX12_jump ∈ WD := wdi 1273 (by decide +kernel) rfl
theorem se_yX12_jump : Cond.selects RX12 yX12_jump yX12_jump ∈ WD := wdi 57 (by decide +kernel) rfl
theorem co_yX12_jump : Cond.code yX12_jump cX12_jump 3 (some .int) ∈ WD := wdi 1274 (by decide +kernel) rfl
theorem ml_X12_278 : Cond.methodLink RX12 278 Lib.Math.abs.name ∈ WD := wdi 1275 (by decide +kernel) rfl
theorem sm_Lib_Math_abs_name : Cond.static Lib.Math.abs.name ∈ WD := wdi 1276 (by decide +kernel) rfl
theorem co_Lib_Math_abs_name : Cond.code Lib.Math.abs.name Lib.Math.abs.code 1 (some .int) ∈ WD := wdi 1277 (by decide +kernel) rfl
theorem ml_X12_292 : Cond.methodLink RX12 292 yX12_leastOf ∈ WD := wdi 1278 (by decide +kernel) rfl
theorem im_yX12_leastOf : Cond.instanceMethod yX12_leastOf ∈ WD := wdi 1280 (by decide +kernel) rfl
theorem se_yX12_leastOf : Cond.selects RX12 yX12_leastOf yX12_leastOf ∈ WD := wdi 58 (by decide +kernel) rfl
theorem co_yX12_leastOf : Cond.code yX12_leastOf cX12_leastOf 3 (some .int) ∈ WD := wdi 1281 (by decide +kernel) rfl
theorem ml_L_138 : Cond.methodLink RL 138 yX11_order ∈ WD := wdi 822 (by decide +kernel) rfl
theorem im_yX11_order : Cond.instanceMethod yX11_order ∈ WD := wdi 823 (by decide +kernel) rfl
theorem se_yX11_order : Cond.selects RX11 yX11_order yX11_order ∈ WD := wdi 824 (by decide +kernel) rfl
theorem co_yX11_order : Cond.code yX11_order cX11_order 3 (some .int) ∈ WD := wdi 825 (by decide +kernel) rfl
theorem fl_X11_289 : Cond.fieldLink RX11 289 "LetterDrawer$Sequence" "row" "[I" ∈ WD := wdi 346 (by decide +kernel) rfl
theorem ml_L_141 : Cond.methodLink RL 141 yX12_order ∈ WD := wdi 1282 (by decide +kernel) rfl
theorem im_yX12_order : Cond.instanceMethod yX12_order ∈ WD := wdi 1283 (by decide +kernel) rfl
theorem se_yX12_order : Cond.selects RX12 yX12_order yX12_order ∈ WD := wdi 1284 (by decide +kernel) rfl
theorem co_yX12_order : Cond.code yX12_order cX12_order 9 (some .int) ∈ WD := wdi 1285 (by decide +kernel) rfl
theorem ml_L_142 : Cond.methodLink RL 142 yX11_count ∈ WD := wdi 826 (by decide +kernel) rfl
theorem im_yX11_count : Cond.instanceMethod yX11_count ∈ WD := wdi 827 (by decide +kernel) rfl
theorem se_yX11_count : Cond.selects RX11 yX11_count yX11_count ∈ WD := wdi 828 (by decide +kernel) rfl
theorem co_yX11_count : Cond.code yX11_count cX11_count 2 (some .int) ∈ WD := wdi 829 (by decide +kernel) rfl
theorem fl_X11_292 : Cond.fieldLink RX11 292 "LetterDrawer$People" "size" "I" ∈ WD := wdi 98 (by decide +kernel) rfl
theorem fl_X11_293 : Cond.fieldLink RX11 293 "LetterDrawer$Calendar" "size" "I" ∈ WD := wdi 186 (by decide +kernel) rfl
theorem fl_X11_297 : Cond.fieldLink RX11 297 "LetterDrawer$Hands" "size" "I" ∈ WD := wdi 237 (by decide +kernel) rfl
theorem ml_X11_294 : Cond.methodLink RX11 294 yX2_stillLost ∈ WD := wdi 830 (by decide +kernel) rfl
theorem im_yX2_stillLost : Cond.instanceMethod yX2_stillLost ∈ WD := wdi 831 (by decide +kernel) rfl
theorem se_yX2_stillLost : Cond.selects RX2 yX2_stillLost yX2_stillLost ∈ WD := wdi 832 (by decide +kernel) rfl
theorem co_yX2_stillLost : Cond.code yX2_stillLost cX2_stillLost 3 (some .int) ∈ WD := wdi 833 (by decide +kernel) rfl
theorem ml_X2_55 : Cond.methodLink RX2 55 yX2_isLost ∈ WD := wdi 834 (by decide +kernel) rfl
theorem ml_L_145 : Cond.methodLink RL 145 yX12_count ∈ WD := wdi 1286 (by decide +kernel) rfl
theorem im_yX12_count : Cond.instanceMethod yX12_count ∈ WD := wdi 1287 (by decide +kernel) rfl
theorem se_yX12_count : Cond.selects RX12 yX12_count yX12_count ∈ WD := wdi 1288 (by decide +kernel) rfl
theorem co_yX12_count : Cond.code yX12_count cX12_count 4 (some .int) ∈ WD := wdi 1289 (by decide +kernel) rfl
theorem ml_L_146 : Cond.methodLink RL 146 yX11_tray ∈ WD := wdi 835 (by decide +kernel) rfl
theorem im_yX11_tray : Cond.instanceMethod yX11_tray ∈ WD := wdi 836 (by decide +kernel) rfl
theorem se_yX11_tray : Cond.selects RX11 yX11_tray yX11_tray ∈ WD := wdi 837 (by decide +kernel) rfl
theorem co_yX11_tray : Cond.code yX11_tray cX11_tray 3 (some .int) ∈ WD := wdi 838 (by decide +kernel) rfl
theorem ml_X11_298 : Cond.methodLink RX11 298 yX9_has ∈ WD := wdi 839 (by decide +kernel) rfl
theorem sm_yX9_has : Cond.static yX9_has ∈ WD := wdi 840 (by decide +kernel) rfl
theorem co_yX9_has : Cond.code yX9_has cX9_has 1 (some .boolean) ∈ WD := wdi 841 (by decide +kernel) rfl
theorem ml_X11_299 : Cond.methodLink RX11 299 yX9_empty ∈ WD := wdi 842 (by decide +kernel) rfl
theorem im_yX9_empty : Cond.instanceMethod yX9_empty ∈ WD := wdi 843 (by decide +kernel) rfl
theorem se_yX9_empty : Cond.selects RX9 yX9_empty yX9_empty ∈ WD := wdi 844 (by decide +kernel) rfl
theorem co_yX9_empty : Cond.code yX9_empty cX9_empty 4 none ∈ WD := wdi 845 (by decide +kernel) rfl
theorem ml_L_149 : Cond.methodLink RL 149 yX12_tray ∈ WD := wdi 1290 (by decide +kernel) rfl
theorem im_yX12_tray : Cond.instanceMethod yX12_tray ∈ WD := wdi 1291 (by decide +kernel) rfl
theorem se_yX12_tray : Cond.selects RX12 yX12_tray yX12_tray ∈ WD := wdi 1292 (by decide +kernel) rfl
theorem co_yX12_tray : Cond.code yX12_tray cX12_tray 4 (some .int) ∈ WD := wdi 1293 (by decide +kernel) rfl
theorem ml_L_150 : Cond.methodLink RL 150 yX11_cell ∈ WD := wdi 846 (by decide +kernel) rfl
theorem im_yX11_cell : Cond.instanceMethod yX11_cell ∈ WD := wdi 847 (by decide +kernel) rfl
theorem se_yX11_cell : Cond.selects RX11 yX11_cell yX11_cell ∈ WD := wdi 848 (by decide +kernel) rfl
theorem co_yX11_cell : Cond.code yX11_cell cX11_cell 4 (some .int) ∈ WD := wdi 849 (by decide +kernel) rfl
theorem fl_X11_303 : Cond.fieldLink RX11 303 "LetterDrawer$Trays" "sizes" "[I" ∈ WD := wdi 367 (by decide +kernel) rfl
theorem fl_X11_307 : Cond.fieldLink RX11 307 "LetterDrawer$Trays" "rows" "[[B" ∈ WD := wdi 365 (by decide +kernel) rfl
theorem ml_X11_304 : Cond.methodLink RX11 304 yX9_hasCell ∈ WD := wdi 850 (by decide +kernel) rfl
theorem im_yX9_hasCell : Cond.instanceMethod yX9_hasCell ∈ WD := wdi 851 (by decide +kernel) rfl
theorem se_yX9_hasCell : Cond.selects RX9 yX9_hasCell yX9_hasCell ∈ WD := wdi 852 (by decide +kernel) rfl
theorem co_yX9_hasCell : Cond.code yX9_hasCell cX9_hasCell 3 (some .boolean) ∈ WD := wdi 853 (by decide +kernel) rfl
theorem ml_L_153 : Cond.methodLink RL 153 yX12_cell ∈ WD := wdi 1294 (by decide +kernel) rfl
theorem im_yX12_cell : Cond.instanceMethod yX12_cell ∈ WD := wdi 1295 (by decide +kernel) rfl
theorem se_yX12_cell : Cond.selects RX12 yX12_cell yX12_cell ∈ WD := wdi 1296 (by decide +kernel) rfl
theorem co_yX12_cell : Cond.code yX12_cell cX12_cell 4 (some .int) ∈ WD := wdi 1297 (by decide +kernel) rfl
theorem ml_L_154 : Cond.methodLink RL 154 yX11_lay ∈ WD := wdi 854 (by decide +kernel) rfl
theorem im_yX11_lay : Cond.instanceMethod yX11_lay ∈ WD := wdi 855 (by decide +kernel) rfl
theorem se_yX11_lay : Cond.selects RX11 yX11_lay yX11_lay ∈ WD := wdi 856 (by decide +kernel) rfl
theorem co_yX11_lay : Cond.code yX11_lay cX11_lay 5 (some .int) ∈ WD := wdi 857 (by decide +kernel) rfl
theorem ml_L_157 : Cond.methodLink RL 157 yX12_lay ∈ WD := wdi 1298 (by decide +kernel) rfl
theorem im_yX12_lay : Cond.instanceMethod yX12_lay ∈ WD := wdi 1299 (by decide +kernel) rfl
theorem se_yX12_lay : Cond.selects RX12 yX12_lay yX12_lay ∈ WD := wdi 1300 (by decide +kernel) rfl
theorem co_yX12_lay : Cond.code yX12_lay cX12_lay 7 (some .int) ∈ WD := wdi 1301 (by decide +kernel) rfl
theorem ml_L_158 : Cond.methodLink RL 158 yX11_taken ∈ WD := wdi 858 (by decide +kernel) rfl
theorem im_yX11_taken : Cond.instanceMethod yX11_taken ∈ WD := wdi 859 (by decide +kernel) rfl
theorem se_yX11_taken : Cond.selects RX11 yX11_taken yX11_taken ∈ WD := wdi 860 (by decide +kernel) rfl
theorem co_yX11_taken : Cond.code yX11_taken cX11_taken 3 (some .int) ∈ WD := wdi 861 (by decide +kernel) rfl
theorem ml_X11_310 : Cond.methodLink RX11 310 yX2_isUnder ∈ WD := wdi 862 (by decide +kernel) rfl
theorem sm_yX2_isUnder : Cond.static yX2_isUnder ∈ WD := wdi 863 (by decide +kernel) rfl
theorem co_yX2_isUnder : Cond.code yX2_isUnder cX2_isUnder 4 (some .boolean) ∈ WD := wdi 864 (by decide +kernel) rfl
theorem fl_X2_52 : Cond.fieldLink RX2 52 "LetterDrawer$Letters" "ABOVE" "[I" ∈ WD := wdi 866 (by decide +kernel) rfl
theorem ml_X2_48 : Cond.methodLink RX2 48 yX2_isKind ∈ WD := wdi 865 (by decide +kernel) rfl
theorem ml_L_161 : Cond.methodLink RL 161 yX12_taken ∈ WD := wdi 1302 (by decide +kernel) rfl
theorem im_yX12_taken : Cond.instanceMethod yX12_taken ∈ WD := wdi 1303 (by decide +kernel) rfl
theorem se_yX12_taken : Cond.selects RX12 yX12_taken yX12_taken ∈ WD := wdi 1304 (by decide +kernel) rfl
theorem co_yX12_taken : Cond.code yX12_taken cX12_taken 3 (some .int) ∈ WD := wdi 1305 (by decide +kernel) rfl
theorem inlX0 : ∀ w ∈ wsX00, w ∈ WD := by
  rw [show wsX00 = [Cond.laysFinal RX0 "LetterDrawer$Calendar" "lows" "[I", Cond.laysFinal RX0 "LetterDrawer$Calendar" "highs" "[I", Cond.lays RX0 "LetterDrawer$Calendar" "size" "I", Cond.laysFinal RX0 "LetterDrawer$Calendar" "froms" "[I", Cond.laysFinal RX0 "LetterDrawer$Calendar" "tos" "[I", Cond.laysFinal RX0 "LetterDrawer$Calendar" "shifts" "[I", Cond.laysFinal RX0 "LetterDrawer$Calendar" "roots" "[I", Cond.laysFinal RX0 "LetterDrawer$Calendar" "weekdays" "[I", Cond.laysFinal RX0 "LetterDrawer$Calendar" "paths" "[[I"] from rfl]
  exact List.forall_mem_cons.mpr ⟨wdi 193 (by decide +kernel) rfl, List.forall_mem_cons.mpr ⟨wdi 195 (by decide +kernel) rfl, List.forall_mem_cons.mpr ⟨wdi 197 (by decide +kernel) rfl, List.forall_mem_cons.mpr ⟨wdi 199 (by decide +kernel) rfl, List.forall_mem_cons.mpr ⟨wdi 201 (by decide +kernel) rfl, List.forall_mem_cons.mpr ⟨wdi 203 (by decide +kernel) rfl, List.forall_mem_cons.mpr ⟨wdi 205 (by decide +kernel) rfl, List.forall_mem_cons.mpr ⟨wdi 207 (by decide +kernel) rfl, List.forall_mem_cons.mpr ⟨wdi 209 (by decide +kernel) rfl, fun _ h => absurd h List.not_mem_nil⟩⟩⟩⟩⟩⟩⟩⟩⟩
theorem inlX1 : ∀ w ∈ wsX10, w ∈ WD := by
  rw [show wsX10 = [Cond.laysFinal RX1 "LetterDrawer$Hands" "persons" "[I", Cond.lays RX1 "LetterDrawer$Hands" "size" "I", Cond.laysFinal RX1 "LetterDrawer$Hands" "letters" "[I", Cond.laysFinal RX1 "LetterDrawer$Hands" "names" "[I"] from rfl]
  exact List.forall_mem_cons.mpr ⟨wdi 240 (by decide +kernel) rfl, List.forall_mem_cons.mpr ⟨wdi 242 (by decide +kernel) rfl, List.forall_mem_cons.mpr ⟨wdi 244 (by decide +kernel) rfl, List.forall_mem_cons.mpr ⟨wdi 246 (by decide +kernel) rfl, fun _ h => absurd h List.not_mem_nil⟩⟩⟩⟩
theorem inlX2 : ∀ w ∈ wsX20, w ∈ WD := by
  rw [show wsX20 = [Cond.laysFinal RX2 "LetterDrawer$Letters" "kinds" "[I", Cond.laysFinal RX2 "LetterDrawer$Letters" "writers" "[I", Cond.laysFinal RX2 "LetterDrawer$Letters" "readers" "[I", Cond.laysFinal RX2 "LetterDrawer$Letters" "places" "[I", Cond.laysFinal RX2 "LetterDrawer$Letters" "leasts" "[I", Cond.laysFinal RX2 "LetterDrawer$Letters" "greatests" "[I", Cond.laysFinal RX2 "LetterDrawer$Letters" "weekdays" "[I", Cond.laysFinal RX2 "LetterDrawer$Letters" "founds" "[I", Cond.laysFinal RX2 "LetterDrawer$Letters" "sizes" "[I", Cond.laysFinal RX2 "LetterDrawer$Letters" "texts" "[[B", Cond.lays RX2 "LetterDrawer$Letters" "size" "I"] from rfl]
  exact List.forall_mem_cons.mpr ⟨wdi 148 (by decide +kernel) rfl, List.forall_mem_cons.mpr ⟨wdi 150 (by decide +kernel) rfl, List.forall_mem_cons.mpr ⟨wdi 152 (by decide +kernel) rfl, List.forall_mem_cons.mpr ⟨wdi 154 (by decide +kernel) rfl, List.forall_mem_cons.mpr ⟨wdi 156 (by decide +kernel) rfl, List.forall_mem_cons.mpr ⟨wdi 158 (by decide +kernel) rfl, List.forall_mem_cons.mpr ⟨wdi 160 (by decide +kernel) rfl, List.forall_mem_cons.mpr ⟨wdi 162 (by decide +kernel) rfl, List.forall_mem_cons.mpr ⟨wdi 164 (by decide +kernel) rfl, List.forall_mem_cons.mpr ⟨wdi 166 (by decide +kernel) rfl, List.forall_mem_cons.mpr ⟨wdi 168 (by decide +kernel) rfl, fun _ h => absurd h List.not_mem_nil⟩⟩⟩⟩⟩⟩⟩⟩⟩⟩⟩
theorem inlX3 : ∀ w ∈ wsX30, w ∈ WD := by
  rw [show wsX30 = [Cond.lays RX3 "LetterDrawer$MarkReader" "depth" "I", Cond.lays RX3 "LetterDrawer$MarkReader" "sort" "I", Cond.lays RX3 "LetterDrawer$MarkReader" "number" "I", Cond.lays RX3 "LetterDrawer$MarkReader" "markAt" "I", Cond.lays RX3 "LetterDrawer$MarkReader" "wrongAt" "I", Cond.laysFinal RX3 "LetterDrawer$MarkReader" "open" "[I", Cond.lays RX3 "LetterDrawer$MarkReader" "state" "I", Cond.lays RX3 "LetterDrawer$MarkReader" "digits" "I"] from rfl]
  exact List.forall_mem_cons.mpr ⟨wdi 284 (by decide +kernel) rfl, List.forall_mem_cons.mpr ⟨wdi 286 (by decide +kernel) rfl, List.forall_mem_cons.mpr ⟨wdi 288 (by decide +kernel) rfl, List.forall_mem_cons.mpr ⟨wdi 290 (by decide +kernel) rfl, List.forall_mem_cons.mpr ⟨wdi 292 (by decide +kernel) rfl, List.forall_mem_cons.mpr ⟨wdi 294 (by decide +kernel) rfl, List.forall_mem_cons.mpr ⟨wdi 296 (by decide +kernel) rfl, List.forall_mem_cons.mpr ⟨wdi 298 (by decide +kernel) rfl, fun _ h => absurd h List.not_mem_nil⟩⟩⟩⟩⟩⟩⟩⟩
theorem inlX4 : ∀ w ∈ wsX40, w ∈ WD := by
  rw [show wsX40 = [Cond.laysFinal RX4 "LetterDrawer$People" "names" "[I", Cond.laysFinal RX4 "LetterDrawer$People" "places" "[I", Cond.laysFinal RX4 "LetterDrawer$People" "firsts" "[I", Cond.laysFinal RX4 "LetterDrawer$People" "lasts" "[I", Cond.laysFinal RX4 "LetterDrawer$People" "known" "[I", Cond.lays RX4 "LetterDrawer$People" "size" "I"] from rfl]
  exact List.forall_mem_cons.mpr ⟨wdi 99 (by decide +kernel) rfl, List.forall_mem_cons.mpr ⟨wdi 101 (by decide +kernel) rfl, List.forall_mem_cons.mpr ⟨wdi 103 (by decide +kernel) rfl, List.forall_mem_cons.mpr ⟨wdi 105 (by decide +kernel) rfl, List.forall_mem_cons.mpr ⟨wdi 107 (by decide +kernel) rfl, List.forall_mem_cons.mpr ⟨wdi 109 (by decide +kernel) rfl, fun _ h => absurd h List.not_mem_nil⟩⟩⟩⟩⟩⟩
theorem inlX5 : ∀ w ∈ wsX50, w ∈ WD := by
  rw [show wsX50 = [Cond.laysFinal RX5 "LetterDrawer$Posts" "leasts" "[[I", Cond.laysFinal RX5 "LetterDrawer$Posts" "mosts" "[[I"] from rfl]
  exact List.forall_mem_cons.mpr ⟨wdi 223 (by decide +kernel) rfl, List.forall_mem_cons.mpr ⟨wdi 225 (by decide +kernel) rfl, fun _ h => absurd h List.not_mem_nil⟩⟩
theorem inlX6 : ∀ w ∈ wsX60, w ∈ WD := by
  rw [show wsX60 = [Cond.laysFinal RX6 "LetterDrawer$Printer" "bytes" "[B", Cond.lays RX6 "LetterDrawer$Printer" "size" "I"] from rfl]
  exact List.forall_mem_cons.mpr ⟨wdi 311 (by decide +kernel) rfl, List.forall_mem_cons.mpr ⟨wdi 313 (by decide +kernel) rfl, fun _ h => absurd h List.not_mem_nil⟩⟩
theorem inlX7 : ∀ w ∈ wsX70, w ∈ WD := by
  rw [show wsX70 = [Cond.laysFinal RX7 "LetterDrawer$Sequence" "row" "[I", Cond.lays RX7 "LetterDrawer$Sequence" "jumps" "I", Cond.lays RX7 "LetterDrawer$Sequence" "size" "I"] from rfl]
  exact List.forall_mem_cons.mpr ⟨wdi 350 (by decide +kernel) rfl, List.forall_mem_cons.mpr ⟨wdi 352 (by decide +kernel) rfl, List.forall_mem_cons.mpr ⟨wdi 354 (by decide +kernel) rfl, fun _ h => absurd h List.not_mem_nil⟩⟩⟩
theorem inlX8 : ∀ w ∈ wsX80, w ∈ WD := by
  rw [show wsX80 = [Cond.laysFinal RX8 "LetterDrawer$Tape" "bytes" "[B", Cond.lays RX8 "LetterDrawer$Tape" "size" "I"] from rfl]
  exact List.forall_mem_cons.mpr ⟨wdi 259 (by decide +kernel) rfl, List.forall_mem_cons.mpr ⟨wdi 261 (by decide +kernel) rfl, fun _ h => absurd h List.not_mem_nil⟩⟩
theorem inlX9 : ∀ w ∈ wsX90, w ∈ WD := by
  rw [show wsX90 = [Cond.laysFinal RX9 "LetterDrawer$Trays" "rows" "[[B", Cond.laysFinal RX9 "LetterDrawer$Trays" "sizes" "[I"] from rfl]
  exact List.forall_mem_cons.mpr ⟨wdi 368 (by decide +kernel) rfl, List.forall_mem_cons.mpr ⟨wdi 370 (by decide +kernel) rfl, fun _ h => absurd h List.not_mem_nil⟩⟩
theorem inlX10 : ∀ w ∈ wsX100, w ∈ WD := by
  rw [show wsX100 = [Cond.lays RX10 "LetterDrawer$WordRow" "size" "I", Cond.laysFinal RX10 "LetterDrawer$WordRow" "bytes" "[B", Cond.laysFinal RX10 "LetterDrawer$WordRow" "starts" "[I", Cond.laysFinal RX10 "LetterDrawer$WordRow" "ends" "[I", Cond.laysFinal RX10 "LetterDrawer$WordRow" "costs" "[I"] from rfl]
  exact List.forall_mem_cons.mpr ⟨wdi 328 (by decide +kernel) rfl, List.forall_mem_cons.mpr ⟨wdi 330 (by decide +kernel) rfl, List.forall_mem_cons.mpr ⟨wdi 332 (by decide +kernel) rfl, List.forall_mem_cons.mpr ⟨wdi 334 (by decide +kernel) rfl, List.forall_mem_cons.mpr ⟨wdi 336 (by decide +kernel) rfl, fun _ h => absurd h List.not_mem_nil⟩⟩⟩⟩⟩
theorem inlX11 : ∀ w ∈ wsX110, w ∈ WD := by
  rw [show wsX110 = [Cond.laysFinal RX11 "LetterDrawer" "people" "LLetterDrawer$People;", Cond.laysFinal RX11 "LetterDrawer" "letters" "LLetterDrawer$Letters;", Cond.laysFinal RX11 "LetterDrawer" "calendar" "LLetterDrawer$Calendar;", Cond.laysFinal RX11 "LetterDrawer" "posts" "LLetterDrawer$Posts;", Cond.laysFinal RX11 "LetterDrawer" "hands" "LLetterDrawer$Hands;", Cond.laysFinal RX11 "LetterDrawer" "tape" "LLetterDrawer$Tape;", Cond.laysFinal RX11 "LetterDrawer" "reader" "LLetterDrawer$MarkReader;", Cond.laysFinal RX11 "LetterDrawer" "printer" "LLetterDrawer$Printer;", Cond.laysFinal RX11 "LetterDrawer" "someWords" "LLetterDrawer$WordRow;", Cond.laysFinal RX11 "LetterDrawer" "otherWords" "LLetterDrawer$WordRow;", Cond.laysFinal RX11 "LetterDrawer" "sequence" "LLetterDrawer$Sequence;", Cond.laysFinal RX11 "LetterDrawer" "trays" "LLetterDrawer$Trays;", Cond.lays RX11 "LetterDrawer" "faultKind" "I", Cond.lays RX11 "LetterDrawer" "faultPlace" "I"] from rfl]
  exact List.forall_mem_cons.mpr ⟨wdi 387 (by decide +kernel) rfl, List.forall_mem_cons.mpr ⟨wdi 389 (by decide +kernel) rfl, List.forall_mem_cons.mpr ⟨wdi 391 (by decide +kernel) rfl, List.forall_mem_cons.mpr ⟨wdi 393 (by decide +kernel) rfl, List.forall_mem_cons.mpr ⟨wdi 395 (by decide +kernel) rfl, List.forall_mem_cons.mpr ⟨wdi 397 (by decide +kernel) rfl, List.forall_mem_cons.mpr ⟨wdi 399 (by decide +kernel) rfl, List.forall_mem_cons.mpr ⟨wdi 401 (by decide +kernel) rfl, List.forall_mem_cons.mpr ⟨wdi 403 (by decide +kernel) rfl, List.forall_mem_cons.mpr ⟨wdi 405 (by decide +kernel) rfl, List.forall_mem_cons.mpr ⟨wdi 407 (by decide +kernel) rfl, List.forall_mem_cons.mpr ⟨wdi 409 (by decide +kernel) rfl, List.forall_mem_cons.mpr ⟨wdi 411 (by decide +kernel) rfl, List.forall_mem_cons.mpr ⟨wdi 413 (by decide +kernel) rfl, fun _ h => absurd h List.not_mem_nil⟩⟩⟩⟩⟩⟩⟩⟩⟩⟩⟩⟩⟩⟩
theorem inlX12 : ∀ w ∈ wsX120, w ∈ WD := by
  rw [show wsX120 = [Cond.lays RX12 "LetterDrawerModel" "persons" "I", Cond.lays RX12 "LetterDrawerModel" "letters" "I", Cond.lays RX12 "LetterDrawerModel" "bounds" "I", Cond.lays RX12 "LetterDrawerModel" "hands" "I", Cond.lays RX12 "LetterDrawerModel" "size" "I", Cond.laysFinal RX12 "LetterDrawerModel" "name" "[I", Cond.laysFinal RX12 "LetterDrawerModel" "home" "[I", Cond.laysFinal RX12 "LetterDrawerModel" "first" "[I", Cond.laysFinal RX12 "LetterDrawerModel" "last" "[I", Cond.laysFinal RX12 "LetterDrawerModel" "known" "[Z", Cond.laysFinal RX12 "LetterDrawerModel" "kind" "[I", Cond.laysFinal RX12 "LetterDrawerModel" "writer" "[I", Cond.laysFinal RX12 "LetterDrawerModel" "reader" "[I", Cond.laysFinal RX12 "LetterDrawerModel" "place" "[I", Cond.laysFinal RX12 "LetterDrawerModel" "least" "[I", Cond.laysFinal RX12 "LetterDrawerModel" "most" "[I", Cond.laysFinal RX12 "LetterDrawerModel" "week" "[I", Cond.laysFinal RX12 "LetterDrawerModel" "is" "[I", Cond.laysFinal RX12 "LetterDrawerModel" "length" "[I", Cond.laysFinal RX12 "LetterDrawerModel" "texts" "[I", Cond.laysFinal RX12 "LetterDrawerModel" "boundA" "[I", Cond.laysFinal RX12 "LetterDrawerModel" "boundB" "[I", Cond.laysFinal RX12 "LetterDrawerModel" "boundBy" "[I", Cond.laysFinal RX12 "LetterDrawerModel" "postLeast" "[I", Cond.laysFinal RX12 "LetterDrawerModel" "postMost" "[I", Cond.laysFinal RX12 "LetterDrawerModel" "handLetter" "[I", Cond.laysFinal RX12 "LetterDrawerModel" "handName" "[I", Cond.laysFinal RX12 "LetterDrawerModel" "handPerson" "[I", Cond.laysFinal RX12 "LetterDrawerModel" "tape" "[I", Cond.laysFinal RX12 "LetterDrawerModel" "low" "[I", Cond.laysFinal RX12 "LetterDrawerModel" "high" "[I", Cond.lays RX12 "LetterDrawerModel" "moved" "Z", Cond.laysFinal RX12 "LetterDrawerModel" "way" "[I", Cond.lays RX12 "LetterDrawerModel" "meant" "I", Cond.lays RX12 "LetterDrawerModel" "faultKind" "I", Cond.lays RX12 "LetterDrawerModel" "faultAt" "I", Cond.lays RX12 "LetterDrawerModel" "opened" "I", Cond.laysFinal RX12 "LetterDrawerModel" "open" "[I", Cond.laysFinal RX12 "LetterDrawerModel" "print" "[I", Cond.laysFinal RX12 "LetterDrawerModel" "row" "[I", Cond.lays RX12 "LetterDrawerModel" "printMany" "I", Cond.laysFinal RX12 "LetterDrawerModel" "signs" "[I", Cond.laysFinal RX12 "LetterDrawerModel" "begins" "[I", Cond.laysFinal RX12 "LetterDrawerModel" "ends" "[I", Cond.laysFinal RX12 "LetterDrawerModel" "wordMany" "[I", Cond.laysFinal RX12 "LetterDrawerModel" "above" "[I", Cond.laysFinal RX12 "LetterDrawerModel" "below" "[I", Cond.laysFinal RX12 "LetterDrawerModel" "some" "[I", Cond.laysFinal RX12 "LetterDrawerModel" "jumps" "[I", Cond.lays RX12 "LetterDrawerModel" "many" "I", Cond.laysFinal RX12 "LetterDrawerModel" "traySize" "[I", Cond.laysFinal RX12 "LetterDrawerModel" "trays" "[I"] from rfl]
  exact List.forall_mem_cons.mpr ⟨wdi 926 (by decide +kernel) rfl, List.forall_mem_cons.mpr ⟨wdi 928 (by decide +kernel) rfl, List.forall_mem_cons.mpr ⟨wdi 930 (by decide +kernel) rfl, List.forall_mem_cons.mpr ⟨wdi 932 (by decide +kernel) rfl, List.forall_mem_cons.mpr ⟨wdi 934 (by decide +kernel) rfl, List.forall_mem_cons.mpr ⟨wdi 936 (by decide +kernel) rfl, List.forall_mem_cons.mpr ⟨wdi 938 (by decide +kernel) rfl, List.forall_mem_cons.mpr ⟨wdi 940 (by decide +kernel) rfl, List.forall_mem_cons.mpr ⟨wdi 942 (by decide +kernel) rfl, List.forall_mem_cons.mpr ⟨wdi 944 (by decide +kernel) rfl, List.forall_mem_cons.mpr ⟨wdi 946 (by decide +kernel) rfl, List.forall_mem_cons.mpr ⟨wdi 948 (by decide +kernel) rfl, List.forall_mem_cons.mpr ⟨wdi 950 (by decide +kernel) rfl, List.forall_mem_cons.mpr ⟨wdi 952 (by decide +kernel) rfl, List.forall_mem_cons.mpr ⟨wdi 954 (by decide +kernel) rfl, List.forall_mem_cons.mpr ⟨wdi 956 (by decide +kernel) rfl, List.forall_mem_cons.mpr ⟨wdi 958 (by decide +kernel) rfl, List.forall_mem_cons.mpr ⟨wdi 960 (by decide +kernel) rfl, List.forall_mem_cons.mpr ⟨wdi 962 (by decide +kernel) rfl, List.forall_mem_cons.mpr ⟨wdi 964 (by decide +kernel) rfl, List.forall_mem_cons.mpr ⟨wdi 966 (by decide +kernel) rfl, List.forall_mem_cons.mpr ⟨wdi 968 (by decide +kernel) rfl, List.forall_mem_cons.mpr ⟨wdi 970 (by decide +kernel) rfl, List.forall_mem_cons.mpr ⟨wdi 972 (by decide +kernel) rfl, List.forall_mem_cons.mpr ⟨wdi 974 (by decide +kernel) rfl, List.forall_mem_cons.mpr ⟨wdi 976 (by decide +kernel) rfl, List.forall_mem_cons.mpr ⟨wdi 978 (by decide +kernel) rfl, List.forall_mem_cons.mpr ⟨wdi 980 (by decide +kernel) rfl, List.forall_mem_cons.mpr ⟨wdi 982 (by decide +kernel) rfl, List.forall_mem_cons.mpr ⟨wdi 984 (by decide +kernel) rfl, List.forall_mem_cons.mpr ⟨wdi 986 (by decide +kernel) rfl, List.forall_mem_cons.mpr ⟨wdi 988 (by decide +kernel) rfl, List.forall_mem_cons.mpr ⟨wdi 990 (by decide +kernel) rfl, List.forall_mem_cons.mpr ⟨wdi 992 (by decide +kernel) rfl, List.forall_mem_cons.mpr ⟨wdi 994 (by decide +kernel) rfl, List.forall_mem_cons.mpr ⟨wdi 996 (by decide +kernel) rfl, List.forall_mem_cons.mpr ⟨wdi 998 (by decide +kernel) rfl, List.forall_mem_cons.mpr ⟨wdi 1000 (by decide +kernel) rfl, List.forall_mem_cons.mpr ⟨wdi 1002 (by decide +kernel) rfl, List.forall_mem_cons.mpr ⟨wdi 1004 (by decide +kernel) rfl, List.forall_mem_cons.mpr ⟨wdi 1006 (by decide +kernel) rfl, List.forall_mem_cons.mpr ⟨wdi 1008 (by decide +kernel) rfl, List.forall_mem_cons.mpr ⟨wdi 1010 (by decide +kernel) rfl, List.forall_mem_cons.mpr ⟨wdi 1012 (by decide +kernel) rfl, List.forall_mem_cons.mpr ⟨wdi 1014 (by decide +kernel) rfl, List.forall_mem_cons.mpr ⟨wdi 1016 (by decide +kernel) rfl, List.forall_mem_cons.mpr ⟨wdi 1018 (by decide +kernel) rfl, List.forall_mem_cons.mpr ⟨wdi 1020 (by decide +kernel) rfl, List.forall_mem_cons.mpr ⟨wdi 1022 (by decide +kernel) rfl, List.forall_mem_cons.mpr ⟨wdi 1024 (by decide +kernel) rfl, List.forall_mem_cons.mpr ⟨wdi 1026 (by decide +kernel) rfl, List.forall_mem_cons.mpr ⟨wdi 1028 (by decide +kernel) rfl, fun _ h => absurd h List.not_mem_nil⟩⟩⟩⟩⟩⟩⟩⟩⟩⟩⟩⟩⟩⟩⟩⟩⟩⟩⟩⟩⟩⟩⟩⟩⟩⟩⟩⟩⟩⟩⟩⟩⟩⟩⟩⟩⟩⟩⟩⟩⟩⟩⟩⟩⟩⟩⟩⟩⟩⟩⟩⟩
/-- a call of an instance method by invokevirtual, as the tables have it -/
def LkV (own : String) (idx : Nat) (C : String) (y : MethodName) (b : ByteArray) (n : Nat) (r : Option FieldType) (k : Nat) : Prop := Cond.methodLink own idx y ∈ WD ∧ Cond.instanceMethod y ∈ WD ∧ Cond.selects C y y ∈ WD ∧ Cond.initialized C ∈ WD ∧ Cond.code y b n r ∈ WD ∧ C = y.cls ∧ y.cls ≠ "java/lang/invoke/MethodHandle" ∧ y.cls ≠ "java/lang/invoke/VarHandle" ∧ (parseMethodDescriptor y.desc).map (fun d => d.parameters.length) = some k
/-- a call of a static method -/
def LkS (own : String) (idx : Nat) (y : MethodName) (b : ByteArray) (n : Nat) (r : Option FieldType) (k : Nat) : Prop := Cond.methodLink own idx y ∈ WD ∧ Cond.static y ∈ WD ∧ Cond.initialized y.cls ∈ WD ∧ Cond.code y b n r ∈ WD ∧ y.cls ≠ "java/lang/invoke/MethodHandle" ∧ y.cls ≠ "java/lang/invoke/VarHandle" ∧ (parseMethodDescriptor y.desc).map (fun d => d.parameters.length) = some k
theorem lk_L_13 : LkV RL 13 RX11 yX11_person cX11_person 3 (some .int) 2 := ⟨ml_L_13, im_yX11_person, se_yX11_person, ini_X11, co_yX11_person, rfl, by decide +kernel, by decide +kernel, by decide +kernel⟩
theorem ls_X11_96 : LkS RX11 96 yX11_isName cX11_isName 1 (some .boolean) 1 := ⟨ml_X11_96, sm_yX11_isName, ini_X11, co_yX11_isName, by decide +kernel, by decide +kernel, by decide +kernel⟩
theorem ls_X11_100 : LkS RX11 100 yX11_isPlace cX11_isPlace 1 (some .boolean) 1 := ⟨ml_X11_100, sm_yX11_isPlace, ini_X11, co_yX11_isPlace, by decide +kernel, by decide +kernel, by decide +kernel⟩
theorem lk_X11_103 : LkV RX11 103 RX4 yX4_add cX4_add 3 (some .int) 2 := ⟨ml_X11_103, im_yX4_add, se_yX4_add, ini_X4, co_yX4_add, rfl, by decide +kernel, by decide +kernel, by decide +kernel⟩
theorem lk_L_17 : LkV RL 17 RX12 yX12_person cX12_person 3 (some .int) 2 := ⟨ml_L_17, im_yX12_person, se_yX12_person, ini_X12, co_yX12_person, rfl, by decide +kernel, by decide +kernel, by decide +kernel⟩
theorem ls_X12_135 : LkS RX12 135 yX12_isIn cX12_isIn 2 (some .boolean) 2 := ⟨ml_X12_135, sm_yX12_isIn, ini_X12, co_yX12_isIn, by decide +kernel, by decide +kernel, by decide +kernel⟩
theorem lk_L_18 : LkV RL 18 RX11 yX11_lived cX11_lived 4 (some .int) 3 := ⟨ml_L_18, im_yX11_lived, se_yX11_lived, ini_X11, co_yX11_lived, rfl, by decide +kernel, by decide +kernel, by decide +kernel⟩
theorem lk_X11_107 : LkV RX11 107 RX4 yX4_has cX4_has 2 (some .boolean) 1 := ⟨ml_X11_107, im_yX4_has, se_yX4_has, ini_X4, co_yX4_has, rfl, by decide +kernel, by decide +kernel, by decide +kernel⟩
theorem ls_X11_110 : LkS RX11 110 yX11_isDay cX11_isDay 1 (some .boolean) 1 := ⟨ml_X11_110, sm_yX11_isDay, ini_X11, co_yX11_isDay, by decide +kernel, by decide +kernel, by decide +kernel⟩
theorem lk_L_22 : LkV RL 22 RX12 yX12_lived cX12_lived 4 (some .int) 3 := ⟨ml_L_22, im_yX12_lived, se_yX12_lived, ini_X12, co_yX12_lived, rfl, by decide +kernel, by decide +kernel, by decide +kernel⟩
theorem lk_X12_145 : LkV RX12 145 RX12 yX12_isPerson cX12_isPerson 2 (some .boolean) 1 := ⟨ml_X12_145, im_yX12_isPerson, se_yX12_isPerson, ini_X12, co_yX12_isPerson, rfl, by decide +kernel, by decide +kernel, by decide +kernel⟩
theorem ls_X12_149 : LkS RX12 149 yX12_isDay cX12_isDay 1 (some .boolean) 1 := ⟨ml_X12_149, sm_yX12_isDay, ini_X12, co_yX12_isDay, by decide +kernel, by decide +kernel, by decide +kernel⟩
theorem lk_L_23 : LkV RL 23 RX11 yX11_knows cX11_knows 4 (some .int) 3 := ⟨ml_L_23, im_yX11_knows, se_yX11_knows, ini_X11, co_yX11_knows, rfl, by decide +kernel, by decide +kernel, by decide +kernel⟩
theorem lk_X11_120 : LkV RX11 120 RX4 yX4_acquaint cX4_acquaint 6 (some .boolean) 3 := ⟨ml_X11_120, im_yX4_acquaint, se_yX4_acquaint, ini_X4, co_yX4_acquaint, rfl, by decide +kernel, by decide +kernel, by decide +kernel⟩
theorem lk_L_27 : LkV RL 27 RX12 yX12_knows cX12_knows 5 (some .int) 3 := ⟨ml_L_27, im_yX12_knows, se_yX12_knows, ini_X12, co_yX12_knows, rfl, by decide +kernel, by decide +kernel, by decide +kernel⟩
theorem lk_L_28 : LkV RL 28 RX11 yX11_letter cX11_letter 5 (some .int) 4 := ⟨ml_L_28, im_yX11_letter, se_yX11_letter, ini_X11, co_yX11_letter, rfl, by decide +kernel, by decide +kernel, by decide +kernel⟩
theorem ls_X11_124 : LkS RX11 124 yX2_isKind cX2_isKind 1 (some .boolean) 1 := ⟨ml_X11_124, sm_yX2_isKind, ini_X2, co_yX2_isKind, by decide +kernel, by decide +kernel, by decide +kernel⟩
theorem lk_X11_127 : LkV RX11 127 RX2 yX2_add cX2_add 5 (some .int) 4 := ⟨ml_X11_127, im_yX2_add, se_yX2_add, ini_X2, co_yX2_add, rfl, by decide +kernel, by decide +kernel, by decide +kernel⟩
theorem lk_L_32 : LkV RL 32 RX12 yX12_letter cX12_letter 5 (some .int) 4 := ⟨ml_L_32, im_yX12_letter, se_yX12_letter, ini_X12, co_yX12_letter, rfl, by decide +kernel, by decide +kernel, by decide +kernel⟩
theorem lk_L_33 : LkV RL 33 RX11 yX11_told cX11_told 3 (some .int) 2 := ⟨ml_L_33, im_yX11_told, se_yX11_told, ini_X11, co_yX11_told, rfl, by decide +kernel, by decide +kernel, by decide +kernel⟩
theorem lk_X11_130 : LkV RX11 130 RX2 yX2_has cX2_has 2 (some .boolean) 1 := ⟨ml_X11_130, im_yX2_has, se_yX2_has, ini_X2, co_yX2_has, rfl, by decide +kernel, by decide +kernel, by decide +kernel⟩
theorem lk_L_36 : LkV RL 36 RX12 yX12_told cX12_told 3 (some .int) 2 := ⟨ml_L_36, im_yX12_told, se_yX12_told, ini_X12, co_yX12_told, rfl, by decide +kernel, by decide +kernel, by decide +kernel⟩
theorem lk_X12_152 : LkV RX12 152 RX12 yX12_isLetter cX12_isLetter 2 (some .boolean) 1 := ⟨ml_X12_152, im_yX12_isLetter, se_yX12_isLetter, ini_X12, co_yX12_isLetter, rfl, by decide +kernel, by decide +kernel, by decide +kernel⟩
theorem lk_L_37 : LkV RL 37 RX11 yX11_days cX11_days 4 (some .int) 3 := ⟨ml_L_37, im_yX11_days, se_yX11_days, ini_X11, co_yX11_days, rfl, by decide +kernel, by decide +kernel, by decide +kernel⟩
theorem lk_L_40 : LkV RL 40 RX12 yX12_days cX12_days 4 (some .int) 3 := ⟨ml_L_40, im_yX12_days, se_yX12_days, ini_X12, co_yX12_days, rfl, by decide +kernel, by decide +kernel, by decide +kernel⟩
theorem lk_L_41 : LkV RL 41 RX11 yX11_week cX11_week 3 (some .int) 2 := ⟨ml_L_41, im_yX11_week, se_yX11_week, ini_X11, co_yX11_week, rfl, by decide +kernel, by decide +kernel, by decide +kernel⟩
theorem lk_L_44 : LkV RL 44 RX12 yX12_week cX12_week 3 (some .int) 2 := ⟨ml_L_44, im_yX12_week, se_yX12_week, ini_X12, co_yX12_week, rfl, by decide +kernel, by decide +kernel, by decide +kernel⟩
theorem lk_L_45 : LkV RL 45 RX11 yX11_bound cX11_bound 4 (some .int) 3 := ⟨ml_L_45, im_yX11_bound, se_yX11_bound, ini_X11, co_yX11_bound, rfl, by decide +kernel, by decide +kernel, by decide +kernel⟩
theorem ls_X11_158 : LkS RX11 158 yX0_isShift cX0_isShift 1 (some .boolean) 1 := ⟨ml_X11_158, sm_yX0_isShift, ini_X0, co_yX0_isShift, by decide +kernel, by decide +kernel, by decide +kernel⟩
theorem lk_X11_161 : LkV RX11 161 RX0 yX0_add cX0_add 4 (some .int) 3 := ⟨ml_X11_161, im_yX0_add, se_yX0_add, ini_X0, co_yX0_add, rfl, by decide +kernel, by decide +kernel, by decide +kernel⟩
theorem lk_L_48 : LkV RL 48 RX12 yX12_bound cX12_bound 4 (some .int) 3 := ⟨ml_L_48, im_yX12_bound, se_yX12_bound, ini_X12, co_yX12_bound, rfl, by decide +kernel, by decide +kernel, by decide +kernel⟩
theorem lk_L_49 : LkV RL 49 RX11 yX11_loose cX11_loose 1 (some .int) 0 := ⟨ml_L_49, im_yX11_loose, se_yX11_loose, ini_X11, co_yX11_loose, rfl, by decide +kernel, by decide +kernel, by decide +kernel⟩
theorem lk_X11_164 : LkV RX11 164 RX0 yX0_removeLast cX0_removeLast 1 (some .int) 0 := ⟨ml_X11_164, im_yX0_removeLast, se_yX0_removeLast, ini_X0, co_yX0_removeLast, rfl, by decide +kernel, by decide +kernel, by decide +kernel⟩
theorem lk_L_53 : LkV RL 53 RX12 yX12_loose cX12_loose 1 (some .int) 0 := ⟨ml_L_53, im_yX12_loose, se_yX12_loose, ini_X12, co_yX12_loose, rfl, by decide +kernel, by decide +kernel, by decide +kernel⟩
theorem lk_L_54 : LkV RL 54 RX11 yX11_found cX11_found 3 (some .int) 2 := ⟨ml_L_54, im_yX11_found, se_yX11_found, ini_X11, co_yX11_found, rfl, by decide +kernel, by decide +kernel, by decide +kernel⟩
theorem lk_X11_168 : LkV RX11 168 RX2 yX2_isLost cX2_isLost 2 (some .boolean) 1 := ⟨ml_X11_168, im_yX2_isLost, se_yX2_isLost, ini_X2, co_yX2_isLost, rfl, by decide +kernel, by decide +kernel, by decide +kernel⟩
theorem lk_L_57 : LkV RL 57 RX12 yX12_found cX12_found 3 (some .int) 2 := ⟨ml_L_57, im_yX12_found, se_yX12_found, ini_X12, co_yX12_found, rfl, by decide +kernel, by decide +kernel, by decide +kernel⟩
theorem lk_L_58 : LkV RL 58 RX11 yX11_lose cX11_lose 2 (some .int) 1 := ⟨ml_L_58, im_yX11_lose, se_yX11_lose, ini_X11, co_yX11_lose, rfl, by decide +kernel, by decide +kernel, by decide +kernel⟩
theorem lk_L_62 : LkV RL 62 RX12 yX12_lose cX12_lose 2 (some .int) 1 := ⟨ml_L_62, im_yX12_lose, se_yX12_lose, ini_X12, co_yX12_lose, rfl, by decide +kernel, by decide +kernel, by decide +kernel⟩
theorem lk_L_63 : LkV RL 63 RX11 yX11_span cX11_span 3 (some .int) 2 := ⟨ml_L_63, im_yX11_span, se_yX11_span, ini_X11, co_yX11_span, rfl, by decide +kernel, by decide +kernel, by decide +kernel⟩
theorem lk_X11_171 : LkV RX11 171 RX0 yX0_settle cX0_settle 3 (some .boolean) 1 := ⟨ml_X11_171, im_yX0_settle, se_yX0_settle, ini_X0, co_yX0_settle, rfl, by decide +kernel, by decide +kernel, by decide +kernel⟩
theorem lk_X0_44 : LkV RX0 44 RX0 yX0_allBounds cX0_allBounds 1 (some .int) 0 := ⟨ml_X0_44, im_yX0_allBounds, se_yX0_allBounds, ini_X0, co_yX0_allBounds, rfl, by decide +kernel, by decide +kernel, by decide +kernel⟩
theorem lk_X0_48 : LkV RX0 48 RX0 yX0_isPossible cX0_isPossible 4 (some .boolean) 2 := ⟨ml_X0_48, im_yX0_isPossible, se_yX0_isPossible, ini_X0, co_yX0_isPossible, rfl, by decide +kernel, by decide +kernel, by decide +kernel⟩
theorem lk_X0_77 : LkV RX0 77 RX0 yX0_joinFound cX0_joinFound 4 (some .boolean) 1 := ⟨ml_X0_77, im_yX0_joinFound, se_yX0_joinFound, ini_X0, co_yX0_joinFound, rfl, by decide +kernel, by decide +kernel, by decide +kernel⟩
theorem ls_X0_88 : LkS RX0 88 yX0_dayFrom cX0_dayFrom 2 (some .int) 2 := ⟨ml_X0_88, sm_yX0_dayFrom, ini_X0, co_yX0_dayFrom, by decide +kernel, by decide +kernel, by decide +kernel⟩
theorem ls_X0_103 : LkS RX0 103 yJ9_floorMod_7cf53 cJ9_floorMod_7cf53 3 (some .int) 2 := ⟨ml_X0_103, sm_yJ9_floorMod_7cf53, ini_J9, co_yJ9_floorMod_7cf53, by decide +kernel, by decide +kernel, by decide +kernel⟩
theorem ls_X0_91 : LkS RX0 91 yX0_dayUpTo cX0_dayUpTo 2 (some .int) 2 := ⟨ml_X0_91, sm_yX0_dayUpTo, ini_X0, co_yX0_dayUpTo, by decide +kernel, by decide +kernel, by decide +kernel⟩
theorem lk_X0_81 : LkV RX0 81 RX0 yX0_raiseLows cX0_raiseLows 6 (some .boolean) 2 := ⟨ml_X0_81, im_yX0_raiseLows, se_yX0_raiseLows, ini_X0, co_yX0_raiseLows, rfl, by decide +kernel, by decide +kernel, by decide +kernel⟩
theorem lk_X0_94 : LkV RX0 94 RX0 yX0_raiseBy cX0_raiseBy 4 (some .boolean) 1 := ⟨ml_X0_94, im_yX0_raiseBy, se_yX0_raiseBy, ini_X0, co_yX0_raiseBy, rfl, by decide +kernel, by decide +kernel, by decide +kernel⟩
theorem lk_X0_97 : LkV RX0 97 RX0 yX0_isOrdered cX0_isOrdered 3 (some .boolean) 1 := ⟨ml_X0_97, im_yX0_isOrdered, se_yX0_isOrdered, ini_X0, co_yX0_isOrdered, rfl, by decide +kernel, by decide +kernel, by decide +kernel⟩
theorem lk_X0_52 : LkV RX0 52 RX0 yX0_sinkHighs cX0_sinkHighs 4 none 0 := ⟨ml_X0_52, im_yX0_sinkHighs, se_yX0_sinkHighs, ini_X0, co_yX0_sinkHighs, rfl, by decide +kernel, by decide +kernel, by decide +kernel⟩
theorem lk_X0_100 : LkV RX0 100 RX0 yX0_sinkBy cX0_sinkBy 4 (some .boolean) 1 := ⟨ml_X0_100, im_yX0_sinkBy, se_yX0_sinkBy, ini_X0, co_yX0_sinkBy, rfl, by decide +kernel, by decide +kernel, by decide +kernel⟩
theorem lk_L_66 : LkV RL 66 RX12 yX12_span cX12_span 3 (some .int) 2 := ⟨ml_L_66, im_yX12_span, se_yX12_span, ini_X12, co_yX12_span, rfl, by decide +kernel, by decide +kernel, by decide +kernel⟩
theorem lk_X12_184 : LkV RX12 184 RX12 yX12_clashAll cX12_clashAll 1 (some .boolean) 0 := ⟨ml_X12_184, im_yX12_clashAll, se_yX12_clashAll, ini_X12, co_yX12_clashAll, rfl, by decide +kernel, by decide +kernel, by decide +kernel⟩
theorem lk_X12_181 : LkV RX12 181 RX12 yX12_clashes cX12_clashes 3 (some .boolean) 1 := ⟨ml_X12_181, im_yX12_clashes, se_yX12_clashes, ini_X12, co_yX12_clashes, rfl, by decide +kernel, by decide +kernel, by decide +kernel⟩
theorem lk_X12_168 : LkV RX12 168 RX12 yX12_raise cX12_raise 4 none 2 := ⟨ml_X12_168, im_yX12_raise, se_yX12_raise, ini_X12, co_yX12_raise, rfl, by decide +kernel, by decide +kernel, by decide +kernel⟩
theorem lk_X12_172 : LkV RX12 172 RX12 yX12_sink cX12_sink 4 none 2 := ⟨ml_X12_172, im_yX12_sink, se_yX12_sink, ini_X12, co_yX12_sink, rfl, by decide +kernel, by decide +kernel, by decide +kernel⟩
theorem ls_X12_162 : LkS RX12 162 yJ9_floorMod_7cf53 cJ9_floorMod_7cf53 3 (some .int) 2 := ⟨ml_X12_162, sm_yJ9_floorMod_7cf53, ini_J9, co_yJ9_floorMod_7cf53, by decide +kernel, by decide +kernel, by decide +kernel⟩
theorem lk_L_67 : LkV RL 67 RX11 yX11_clash cX11_clash 1 (some .int) 0 := ⟨ml_L_67, im_yX11_clash, se_yX11_clash, ini_X11, co_yX11_clash, rfl, by decide +kernel, by decide +kernel, by decide +kernel⟩
theorem lk_X11_181 : LkV RX11 181 RX0 yX0_conflict cX0_conflict 5 (some .int) 1 := ⟨ml_X11_181, im_yX0_conflict, se_yX0_conflict, ini_X0, co_yX0_conflict, rfl, by decide +kernel, by decide +kernel, by decide +kernel⟩
theorem lk_L_70 : LkV RL 70 RX12 yX12_clash cX12_clash 3 (some .int) 0 := ⟨ml_L_70, im_yX12_clash, se_yX12_clash, ini_X12, co_yX12_clash, rfl, by decide +kernel, by decide +kernel, by decide +kernel⟩
theorem lk_L_71 : LkV RL 71 RX11 yX11_before cX11_before 3 (some .int) 2 := ⟨ml_L_71, im_yX11_before, se_yX11_before, ini_X11, co_yX11_before, rfl, by decide +kernel, by decide +kernel, by decide +kernel⟩
theorem lk_X11_188 : LkV RX11 188 RX0 yX0_measurePaths cX0_measurePaths 5 none 1 := ⟨ml_X11_188, im_yX0_measurePaths, se_yX0_measurePaths, ini_X0, co_yX0_measurePaths, rfl, by decide +kernel, by decide +kernel, by decide +kernel⟩
theorem lk_X0_63 : LkV RX0 63 RX0 yX0_joinPaths cX0_joinPaths 5 none 2 := ⟨ml_X0_63, im_yX0_joinPaths, se_yX0_joinPaths, ini_X0, co_yX0_joinPaths, rfl, by decide +kernel, by decide +kernel, by decide +kernel⟩
theorem lk_X11_192 : LkV RX11 192 RX0 yX0_isAhead cX0_isAhead 3 (some .boolean) 2 := ⟨ml_X11_192, im_yX0_isAhead, se_yX0_isAhead, ini_X0, co_yX0_isAhead, rfl, by decide +kernel, by decide +kernel, by decide +kernel⟩
theorem lk_L_74 : LkV RL 74 RX12 yX12_before cX12_before 3 (some .int) 2 := ⟨ml_L_74, im_yX12_before, se_yX12_before, ini_X12, co_yX12_before, rfl, by decide +kernel, by decide +kernel, by decide +kernel⟩
theorem lk_X12_193 : LkV RX12 193 RX12 yX12_findWays cX12_findWays 4 none 0 := ⟨ml_X12_193, im_yX12_findWays, se_yX12_findWays, ini_X12, co_yX12_findWays, rfl, by decide +kernel, by decide +kernel, by decide +kernel⟩
theorem lk_X12_189 : LkV RX12 189 RX12 yX12_leads cX12_leads 4 none 3 := ⟨ml_X12_189, im_yX12_leads, se_yX12_leads, ini_X12, co_yX12_leads, rfl, by decide +kernel, by decide +kernel, by decide +kernel⟩
theorem lk_X12_196 : LkV RX12 196 RX12 yX12_isBefore cX12_isBefore 3 (some .boolean) 2 := ⟨ml_X12_196, im_yX12_isBefore, se_yX12_isBefore, ini_X12, co_yX12_isBefore, rfl, by decide +kernel, by decide +kernel, by decide +kernel⟩
theorem lk_L_75 : LkV RL 75 RX11 yX11_post cX11_post 5 (some .int) 4 := ⟨ml_L_75, im_yX11_post, se_yX11_post, ini_X11, co_yX11_post, rfl, by decide +kernel, by decide +kernel, by decide +kernel⟩
theorem ls_X11_196 : LkS RX11 196 yX5_isTime cX5_isTime 1 (some .boolean) 1 := ⟨ml_X11_196, sm_yX5_isTime, ini_X5, co_yX5_isTime, by decide +kernel, by decide +kernel, by decide +kernel⟩
theorem lk_L_78 : LkV RL 78 RX12 yX12_post cX12_post 5 (some .int) 4 := ⟨ml_L_78, im_yX12_post, se_yX12_post, ini_X12, co_yX12_post, rfl, by decide +kernel, by decide +kernel, by decide +kernel⟩
theorem lk_L_79 : LkV RL 79 RX11 yX11_read cX11_read 5 (some .int) 4 := ⟨ml_L_79, im_yX11_read, se_yX11_read, ini_X11, co_yX11_read, rfl, by decide +kernel, by decide +kernel, by decide +kernel⟩
theorem lk_X11_205 : LkV RX11 205 RX11 yX11_isReading cX11_isReading 4 (some .boolean) 3 := ⟨ml_X11_205, im_yX11_isReading, se_yX11_isReading, ini_X11, co_yX11_isReading, rfl, by decide +kernel, by decide +kernel, by decide +kernel⟩
theorem lk_X11_209 : LkV RX11 209 RX11 yX11_hasRead cX11_hasRead 7 (some .boolean) 4 := ⟨ml_X11_209, im_yX11_hasRead, se_yX11_hasRead, ini_X11, co_yX11_hasRead, rfl, by decide +kernel, by decide +kernel, by decide +kernel⟩
theorem lk_X11_313 : LkV RX11 313 RX2 yX2_isReader cX2_isReader 3 (some .boolean) 2 := ⟨ml_X11_313, im_yX2_isReader, se_yX2_isReader, ini_X2, co_yX2_isReader, rfl, by decide +kernel, by decide +kernel, by decide +kernel⟩
theorem lk_L_82 : LkV RL 82 RX12 yX12_read cX12_read 5 (some .int) 4 := ⟨ml_L_82, im_yX12_read, se_yX12_read, ini_X12, co_yX12_read, rfl, by decide +kernel, by decide +kernel, by decide +kernel⟩
theorem lk_X12_199 : LkV RX12 199 RX12 yX12_hasRead cX12_hasRead 6 (some .boolean) 4 := ⟨ml_X12_199, im_yX12_hasRead, se_yX12_hasRead, ini_X12, co_yX12_hasRead, rfl, by decide +kernel, by decide +kernel, by decide +kernel⟩
theorem lk_L_83 : LkV RL 83 RX11 yX11_reads cX11_reads 6 (some .int) 3 := ⟨ml_L_83, im_yX11_reads, se_yX11_reads, ini_X11, co_yX11_reads, rfl, by decide +kernel, by decide +kernel, by decide +kernel⟩
theorem lk_L_86 : LkV RL 86 RX12 yX12_reads cX12_reads 6 (some .int) 3 := ⟨ml_L_86, im_yX12_reads, se_yX12_reads, ini_X12, co_yX12_reads, rfl, by decide +kernel, by decide +kernel, by decide +kernel⟩
theorem lk_L_87 : LkV RL 87 RX11 yX11_means cX11_means 3 (some .int) 2 := ⟨ml_L_87, im_yX11_means, se_yX11_means, ini_X11, co_yX11_means, rfl, by decide +kernel, by decide +kernel, by decide +kernel⟩
theorem lk_X11_213 : LkV RX11 213 RX1 yX1_find cX1_find 4 (some .int) 2 := ⟨ml_X11_213, im_yX1_find, se_yX1_find, ini_X1, co_yX1_find, rfl, by decide +kernel, by decide +kernel, by decide +kernel⟩
theorem lk_X11_216 : LkV RX11 216 RX11 yX11_meant cX11_meant 6 (some .int) 2 := ⟨ml_X11_216, im_yX11_meant, se_yX11_meant, ini_X11, co_yX11_meant, rfl, by decide +kernel, by decide +kernel, by decide +kernel⟩
theorem lk_X11_317 : LkV RX11 317 RX4 yX4_knownBy cX4_knownBy 8 (some .int) 4 := ⟨ml_X11_317, im_yX4_knownBy, se_yX4_knownBy, ini_X4, co_yX4_knownBy, rfl, by decide +kernel, by decide +kernel, by decide +kernel⟩
theorem lk_X4_31 : LkV RX4 31 RX4 yX4_isAlive cX4_isAlive 4 (some .boolean) 3 := ⟨ml_X4_31, im_yX4_isAlive, se_yX4_isAlive, ini_X4, co_yX4_isAlive, rfl, by decide +kernel, by decide +kernel, by decide +kernel⟩
theorem ls_X11_219 : LkS RX11 219 yJ6_bitCount_0f7a4 cJ6_bitCount_0f7a4 1 (some .int) 1 := ⟨ml_X11_219, sm_yJ6_bitCount_0f7a4, ini_J6, co_yJ6_bitCount_0f7a4, by decide +kernel, by decide +kernel, by decide +kernel⟩
theorem lk_L_90 : LkV RL 90 RX12 yX12_means cX12_means 3 (some .int) 2 := ⟨ml_L_90, im_yX12_means, se_yX12_means, ini_X12, co_yX12_means, rfl, by decide +kernel, by decide +kernel, by decide +kernel⟩
theorem lk_X12_212 : LkV RX12 212 RX12 yX12_meansOf cX12_meansOf 8 (some .int) 2 := ⟨ml_X12_212, im_yX12_meansOf, se_yX12_meansOf, ini_X12, co_yX12_meansOf, rfl, by decide +kernel, by decide +kernel, by decide +kernel⟩
theorem lk_X12_206 : LkV RX12 206 RX12 yX12_handOf cX12_handOf 4 (some .int) 2 := ⟨ml_X12_206, im_yX12_handOf, se_yX12_handOf, ini_X12, co_yX12_handOf, rfl, by decide +kernel, by decide +kernel, by decide +kernel⟩
theorem lk_L_91 : LkV RL 91 RX11 yX11_who cX11_who 4 (some .int) 2 := ⟨ml_L_91, im_yX11_who, se_yX11_who, ini_X11, co_yX11_who, rfl, by decide +kernel, by decide +kernel, by decide +kernel⟩
theorem lk_X11_228 : LkV RX11 228 RX4 yX4_onlyOne cX4_onlyOne 4 (some .int) 1 := ⟨ml_X11_228, im_yX4_onlyOne, se_yX4_onlyOne, ini_X4, co_yX4_onlyOne, rfl, by decide +kernel, by decide +kernel, by decide +kernel⟩
theorem lk_L_94 : LkV RL 94 RX12 yX12_who cX12_who 3 (some .int) 2 := ⟨ml_L_94, im_yX12_who, se_yX12_who, ini_X12, co_yX12_who, rfl, by decide +kernel, by decide +kernel, by decide +kernel⟩
theorem lk_L_95 : LkV RL 95 RX11 yX11_hand cX11_hand 4 (some .int) 3 := ⟨ml_L_95, im_yX11_hand, se_yX11_hand, ini_X11, co_yX11_hand, rfl, by decide +kernel, by decide +kernel, by decide +kernel⟩
theorem lk_X11_231 : LkV RX11 231 RX1 yX1_put cX1_put 5 (some .int) 3 := ⟨ml_X11_231, im_yX1_put, se_yX1_put, ini_X1, co_yX1_put, rfl, by decide +kernel, by decide +kernel, by decide +kernel⟩
theorem lk_X1_25 : LkV RX1 25 RX1 yX1_find cX1_find 4 (some .int) 2 := ⟨ml_X1_25, im_yX1_find, se_yX1_find, ini_X1, co_yX1_find, rfl, by decide +kernel, by decide +kernel, by decide +kernel⟩
theorem lk_L_98 : LkV RL 98 RX12 yX12_hand cX12_hand 5 (some .int) 3 := ⟨ml_L_98, im_yX12_hand, se_yX12_hand, ini_X12, co_yX12_hand, rfl, by decide +kernel, by decide +kernel, by decide +kernel⟩
theorem lk_L_101 : LkV RL 101 RX11 yX11_feed cX11_feed 5 (some .int) 2 := ⟨ml_L_101, im_yX11_feed, se_yX11_feed, ini_X11, co_yX11_feed, rfl, by decide +kernel, by decide +kernel, by decide +kernel⟩
theorem lk_X11_235 : LkV RX11 235 RX8 yX8_add cX8_add 2 none 1 := ⟨ml_X11_235, im_yX8_add, se_yX8_add, ini_X8, co_yX8_add, rfl, by decide +kernel, by decide +kernel, by decide +kernel⟩
theorem lk_L_105 : LkV RL 105 RX12 yX12_feed cX12_feed 5 (some .int) 2 := ⟨ml_L_105, im_yX12_feed, se_yX12_feed, ini_X12, co_yX12_feed, rfl, by decide +kernel, by decide +kernel, by decide +kernel⟩
theorem lk_L_106 : LkV RL 106 RX11 yX11_text cX11_text 3 (some .int) 1 := ⟨ml_L_106, im_yX11_text, se_yX11_text, ini_X11, co_yX11_text, rfl, by decide +kernel, by decide +kernel, by decide +kernel⟩
theorem lk_X11_238 : LkV RX11 238 RX11 yX11_examineTape cX11_examineTape 3 none 0 := ⟨ml_X11_238, im_yX11_examineTape, se_yX11_examineTape, ini_X11, co_yX11_examineTape, rfl, by decide +kernel, by decide +kernel, by decide +kernel⟩
theorem lk_X11_271 : LkV RX11 271 RX3 yX3_begin cX3_begin 1 none 0 := ⟨ml_X11_271, im_yX3_begin, se_yX3_begin, ini_X3, co_yX3_begin, rfl, by decide +kernel, by decide +kernel, by decide +kernel⟩
theorem lk_X11_274 : LkV RX11 274 RX3 yX3_take cX3_take 3 (some .int) 2 := ⟨ml_X11_274, im_yX3_take, se_yX3_take, ini_X3, co_yX3_take, rfl, by decide +kernel, by decide +kernel, by decide +kernel⟩
theorem lk_X3_35 : LkV RX3 35 RX3 yX3_takeSort cX3_takeSort 3 (some .int) 2 := ⟨ml_X3_35, im_yX3_takeSort, se_yX3_takeSort, ini_X3, co_yX3_takeSort, rfl, by decide +kernel, by decide +kernel, by decide +kernel⟩
theorem ls_X3_53 : LkS RX3 53 yX3_isSort cX3_isSort 1 (some .boolean) 1 := ⟨ml_X3_53, sm_yX3_isSort, ini_X3, co_yX3_isSort, by decide +kernel, by decide +kernel, by decide +kernel⟩
theorem lk_X3_49 : LkV RX3 49 RX3 yX3_stopAt cX3_stopAt 2 (some .int) 1 := ⟨ml_X3_49, im_yX3_stopAt, se_yX3_stopAt, ini_X3, co_yX3_stopAt, rfl, by decide +kernel, by decide +kernel, by decide +kernel⟩
theorem lk_X3_56 : LkV RX3 56 RX3 yX3_isOpen cX3_isOpen 3 (some .boolean) 1 := ⟨ml_X3_56, im_yX3_isOpen, se_yX3_isOpen, ini_X3, co_yX3_isOpen, rfl, by decide +kernel, by decide +kernel, by decide +kernel⟩
theorem lk_X3_59 : LkV RX3 59 RX3 yX3_openMark cX3_openMark 1 (some .int) 0 := ⟨ml_X3_59, im_yX3_openMark, se_yX3_openMark, ini_X3, co_yX3_openMark, rfl, by decide +kernel, by decide +kernel, by decide +kernel⟩
theorem lk_X3_39 : LkV RX3 39 RX3 yX3_takeNumber cX3_takeNumber 3 (some .int) 2 := ⟨ml_X3_39, im_yX3_takeNumber, se_yX3_takeNumber, ini_X3, co_yX3_takeNumber, rfl, by decide +kernel, by decide +kernel, by decide +kernel⟩
theorem lk_X3_42 : LkV RX3 42 RX3 yX3_takeText cX3_takeText 3 (some .int) 2 := ⟨ml_X3_42, im_yX3_takeText, se_yX3_takeText, ini_X3, co_yX3_takeText, rfl, by decide +kernel, by decide +kernel, by decide +kernel⟩
theorem ls_X3_45 : LkS RX3 45 yX3_isLetter cX3_isLetter 1 (some .boolean) 1 := ⟨ml_X3_45, sm_yX3_isLetter, ini_X3, co_yX3_isLetter, by decide +kernel, by decide +kernel, by decide +kernel⟩
theorem lk_X11_326 : LkV RX11 326 RX3 yX3_isWhole cX3_isWhole 1 (some .boolean) 0 := ⟨ml_X11_326, im_yX3_isWhole, se_yX3_isWhole, ini_X3, co_yX3_isWhole, rfl, by decide +kernel, by decide +kernel, by decide +kernel⟩
theorem lk_X11_245 : LkV RX11 245 RX2 yX2_write cX2_write 5 none 3 := ⟨ml_X11_245, im_yX2_write, se_yX2_write, ini_X2, co_yX2_write, rfl, by decide +kernel, by decide +kernel, by decide +kernel⟩
theorem lk_L_109 : LkV RL 109 RX12 yX12_text cX12_text 4 (some .int) 1 := ⟨ml_L_109, im_yX12_text, se_yX12_text, ini_X12, co_yX12_text, rfl, by decide +kernel, by decide +kernel, by decide +kernel⟩
theorem lk_X12_239 : LkV RX12 239 RX12 yX12_wrongAt cX12_wrongAt 5 (some .int) 0 := ⟨ml_X12_239, im_yX12_wrongAt, se_yX12_wrongAt, ini_X12, co_yX12_wrongAt, rfl, by decide +kernel, by decide +kernel, by decide +kernel⟩
theorem ls_X12_224 : LkS RX12 224 yX12_isPlain cX12_isPlain 1 (some .boolean) 1 := ⟨ml_X12_224, sm_yX12_isPlain, ini_X12, co_yX12_isPlain, by decide +kernel, by decide +kernel, by decide +kernel⟩
theorem ls_X12_227 : LkS RX12 227 yX12_isSort cX12_isSort 1 (some .boolean) 1 := ⟨ml_X12_227, sm_yX12_isSort, ini_X12, co_yX12_isSort, by decide +kernel, by decide +kernel, by decide +kernel⟩
theorem lk_X12_230 : LkV RX12 230 RX12 yX12_isOpen cX12_isOpen 4 (some .boolean) 1 := ⟨ml_X12_230, im_yX12_isOpen, se_yX12_isOpen, ini_X12, co_yX12_isOpen, rfl, by decide +kernel, by decide +kernel, by decide +kernel⟩
theorem lk_X12_233 : LkV RX12 233 RX12 yX12_digits cX12_digits 4 (some .int) 2 := ⟨ml_X12_233, im_yX12_digits, se_yX12_digits, ini_X12, co_yX12_digits, rfl, by decide +kernel, by decide +kernel, by decide +kernel⟩
theorem ls_X12_221 : LkS RX12 221 yX12_isDigit cX12_isDigit 1 (some .boolean) 1 := ⟨ml_X12_221, sm_yX12_isDigit, ini_X12, co_yX12_isDigit, by decide +kernel, by decide +kernel, by decide +kernel⟩
theorem ls_X12_243 : LkS RX12 243 yX12_numberAt cX12_numberAt 4 (some .int) 2 := ⟨ml_X12_243, sm_yX12_numberAt, ini_X12, co_yX12_numberAt, by decide +kernel, by decide +kernel, by decide +kernel⟩
theorem lk_L_110 : LkV RL 110 RX11 yX11_fault cX11_fault 2 (some .int) 1 := ⟨ml_L_110, im_yX11_fault, se_yX11_fault, ini_X11, co_yX11_fault, rfl, by decide +kernel, by decide +kernel, by decide +kernel⟩
theorem lk_L_113 : LkV RL 113 RX12 yX12_fault cX12_fault 2 (some .int) 1 := ⟨ml_L_113, im_yX12_fault, se_yX12_fault, ini_X12, co_yX12_fault, rfl, by decide +kernel, by decide +kernel, by decide +kernel⟩
theorem lk_L_114 : LkV RL 114 RX11 yX11_print cX11_print 4 (some .int) 3 := ⟨ml_L_114, im_yX11_print, se_yX11_print, ini_X11, co_yX11_print, rfl, by decide +kernel, by decide +kernel, by decide +kernel⟩
theorem lk_X11_249 : LkV RX11 249 RX11 yX11_isPrinting cX11_isPrinting 4 (some .boolean) 3 := ⟨ml_X11_249, im_yX11_isPrinting, se_yX11_isPrinting, ini_X11, co_yX11_isPrinting, rfl, by decide +kernel, by decide +kernel, by decide +kernel⟩
theorem lk_X11_252 : LkV RX11 252 RX11 yX11_printText cX11_printText 4 none 3 := ⟨ml_X11_252, im_yX11_printText, se_yX11_printText, ini_X11, co_yX11_printText, rfl, by decide +kernel, by decide +kernel, by decide +kernel⟩
theorem lk_X11_330 : LkV RX11 330 RX6 yX6_render cX6_render 9 none 5 := ⟨ml_X11_330, im_yX6_render, se_yX6_render, ini_X6, co_yX6_render, rfl, by decide +kernel, by decide +kernel, by decide +kernel⟩
theorem lk_X6_19 : LkV RX6 19 RX3 yX3_begin cX3_begin 1 none 0 := ⟨ml_X6_19, im_yX3_begin, se_yX3_begin, ini_X3, co_yX3_begin, rfl, by decide +kernel, by decide +kernel, by decide +kernel⟩
theorem lk_X6_24 : LkV RX6 24 RX3 yX3_take cX3_take 3 (some .int) 2 := ⟨ml_X6_24, im_yX3_take, se_yX3_take, ini_X3, co_yX3_take, rfl, by decide +kernel, by decide +kernel, by decide +kernel⟩
theorem lk_X6_31 : LkV RX6 31 RX6 yX6_add cX6_add 2 none 1 := ⟨ml_X6_31, im_yX6_add, se_yX6_add, ini_X6, co_yX6_add, rfl, by decide +kernel, by decide +kernel, by decide +kernel⟩
theorem ls_X6_35 : LkS RX6 35 yX6_isHidden cX6_isHidden 3 (some .boolean) 3 := ⟨ml_X6_35, sm_yX6_isHidden, ini_X6, co_yX6_isHidden, by decide +kernel, by decide +kernel, by decide +kernel⟩
theorem lk_X6_39 : LkV RX6 39 RX6 yX6_addMark cX6_addMark 4 none 2 := ⟨ml_X6_39, im_yX6_addMark, se_yX6_addMark, ini_X6, co_yX6_addMark, rfl, by decide +kernel, by decide +kernel, by decide +kernel⟩
theorem lk_X6_49 : LkV RX6 49 RX6 yX6_addNumber cX6_addNumber 3 none 1 := ⟨ml_X6_49, im_yX6_addNumber, se_yX6_addNumber, ini_X6, co_yX6_addNumber, rfl, by decide +kernel, by decide +kernel, by decide +kernel⟩
theorem lk_L_117 : LkV RL 117 RX12 yX12_print cX12_print 4 (some .int) 3 := ⟨ml_L_117, im_yX12_print, se_yX12_print, ini_X12, co_yX12_print, rfl, by decide +kernel, by decide +kernel, by decide +kernel⟩
theorem lk_X12_263 : LkV RX12 263 RX12 yX12_prints cX12_prints 10 none 3 := ⟨ml_X12_263, im_yX12_prints, se_yX12_prints, ini_X12, co_yX12_prints, rfl, by decide +kernel, by decide +kernel, by decide +kernel⟩
theorem lk_X12_254 : LkV RX12 254 RX12 yX12_closes cX12_closes 2 none 1 := ⟨ml_X12_254, im_yX12_closes, se_yX12_closes, ini_X12, co_yX12_closes, rfl, by decide +kernel, by decide +kernel, by decide +kernel⟩
theorem lk_X12_250 : LkV RX12 250 RX12 yX12_puts cX12_puts 2 none 1 := ⟨ml_X12_250, im_yX12_puts, se_yX12_puts, ini_X12, co_yX12_puts, rfl, by decide +kernel, by decide +kernel, by decide +kernel⟩
theorem lk_X12_257 : LkV RX12 257 RX12 yX12_number cX12_number 4 none 1 := ⟨ml_X12_257, im_yX12_number, se_yX12_number, ini_X12, co_yX12_number, rfl, by decide +kernel, by decide +kernel, by decide +kernel⟩
theorem lk_X12_260 : LkV RX12 260 RX12 yX12_opens cX12_opens 2 none 1 := ⟨ml_X12_260, im_yX12_opens, se_yX12_opens, ini_X12, co_yX12_opens, rfl, by decide +kernel, by decide +kernel, by decide +kernel⟩
theorem lk_L_118 : LkV RL 118 RX11 yX11_printed cX11_printed 5 (some .int) 4 := ⟨ml_L_118, im_yX11_printed, se_yX11_printed, ini_X11, co_yX11_printed, rfl, by decide +kernel, by decide +kernel, by decide +kernel⟩
theorem lk_L_121 : LkV RL 121 RX12 yX12_printed cX12_printed 5 (some .int) 4 := ⟨ml_L_121, im_yX12_printed, se_yX12_printed, ini_X12, co_yX12_printed, rfl, by decide +kernel, by decide +kernel, by decide +kernel⟩
theorem lk_L_122 : LkV RL 122 RX11 yX11_words cX11_words 2 (some .int) 1 := ⟨ml_L_122, im_yX11_words, se_yX11_words, ini_X11, co_yX11_words, rfl, by decide +kernel, by decide +kernel, by decide +kernel⟩
theorem lk_X11_258 : LkV RX11 258 RX11 yX11_readWords cX11_readWords 3 none 2 := ⟨ml_X11_258, im_yX11_readWords, se_yX11_readWords, ini_X11, co_yX11_readWords, rfl, by decide +kernel, by decide +kernel, by decide +kernel⟩
theorem lk_X11_334 : LkV RX11 334 RX10 yX10_split cX10_split 5 none 2 := ⟨ml_X11_334, im_yX10_split, se_yX10_split, ini_X10, co_yX10_split, rfl, by decide +kernel, by decide +kernel, by decide +kernel⟩
theorem ls_X10_29 : LkS RX10 29 yX3_isLetter cX3_isLetter 1 (some .boolean) 1 := ⟨ml_X10_29, sm_yX3_isLetter, ini_X3, co_yX3_isLetter, by decide +kernel, by decide +kernel, by decide +kernel⟩
theorem lk_L_125 : LkV RL 125 RX12 yX12_words cX12_words 2 (some .int) 1 := ⟨ml_L_125, im_yX12_words, se_yX12_words, ini_X12, co_yX12_words, rfl, by decide +kernel, by decide +kernel, by decide +kernel⟩
theorem lk_X12_266 : LkV RX12 266 RX12 yX12_findWords cX12_findWords 6 none 2 := ⟨ml_X12_266, im_yX12_findWords, se_yX12_findWords, ini_X12, co_yX12_findWords, rfl, by decide +kernel, by decide +kernel, by decide +kernel⟩
theorem lk_L_126 : LkV RL 126 RX11 yX11_differ cX11_differ 3 (some .int) 2 := ⟨ml_L_126, im_yX11_differ, se_yX11_differ, ini_X11, co_yX11_differ, rfl, by decide +kernel, by decide +kernel, by decide +kernel⟩
theorem lk_X11_263 : LkV RX11 263 RX10 yX10_stepsTo cX10_stepsTo 6 (some .int) 1 := ⟨ml_X11_263, im_yX10_stepsTo, se_yX10_stepsTo, ini_X10, co_yX10_stepsTo, rfl, by decide +kernel, by decide +kernel, by decide +kernel⟩
theorem lk_X10_35 : LkV RX10 35 RX10 yX10_isAlike cX10_isAlike 6 (some .boolean) 3 := ⟨ml_X10_35, im_yX10_isAlike, se_yX10_isAlike, ini_X10, co_yX10_isAlike, rfl, by decide +kernel, by decide +kernel, by decide +kernel⟩
theorem lk_L_129 : LkV RL 129 RX12 yX12_differ cX12_differ 7 (some .int) 2 := ⟨ml_L_129, im_yX12_differ, se_yX12_differ, ini_X12, co_yX12_differ, rfl, by decide +kernel, by decide +kernel, by decide +kernel⟩
theorem lk_X12_269 : LkV RX12 269 RX12 yX12_isSame cX12_isSame 8 (some .boolean) 2 := ⟨ml_X12_269, im_yX12_isSame, se_yX12_isSame, ini_X12, co_yX12_isSame, rfl, by decide +kernel, by decide +kernel, by decide +kernel⟩
theorem lk_L_130 : LkV RL 130 RX11 yX11_note cX11_note 6 (some .int) 2 := ⟨ml_L_130, im_yX11_note, se_yX11_note, ini_X11, co_yX11_note, rfl, by decide +kernel, by decide +kernel, by decide +kernel⟩
theorem lk_L_133 : LkV RL 133 RX12 yX12_note cX12_note 7 (some .int) 2 := ⟨ml_L_133, im_yX12_note, se_yX12_note, ini_X12, co_yX12_note, rfl, by decide +kernel, by decide +kernel, by decide +kernel⟩
theorem lk_L_134 : LkV RL 134 RX11 yX11_jumps cX11_jumps 2 (some .int) 1 := ⟨ml_L_134, im_yX11_jumps, se_yX11_jumps, ini_X11, co_yX11_jumps, rfl, by decide +kernel, by decide +kernel, by decide +kernel⟩
theorem lk_X11_280 : LkV RX11 280 RX11 yX11_isOrderable cX11_isOrderable 2 (some .boolean) 1 := ⟨ml_X11_280, im_yX11_isOrderable, se_yX11_isOrderable, ini_X11, co_yX11_isOrderable, rfl, by decide +kernel, by decide +kernel, by decide +kernel⟩
theorem lk_X11_283 : LkV RX11 283 RX11 yX11_arrange cX11_arrange 2 (some .boolean) 1 := ⟨ml_X11_283, im_yX11_arrange, se_yX11_arrange, ini_X11, co_yX11_arrange, rfl, by decide +kernel, by decide +kernel, by decide +kernel⟩
theorem lk_X11_338 : LkV RX11 338 RX7 yX7_arrange cX7_arrange 4 none 2 := ⟨ml_X11_338, im_yX7_arrange, se_yX7_arrange, ini_X7, co_yX7_arrange, rfl, by decide +kernel, by decide +kernel, by decide +kernel⟩
theorem lk_X7_20 : LkV RX7 20 RX7 yX7_collect cX7_collect 3 none 1 := ⟨ml_X7_20, im_yX7_collect, se_yX7_collect, ini_X7, co_yX7_collect, rfl, by decide +kernel, by decide +kernel, by decide +kernel⟩
theorem lk_X7_29 : LkV RX7 29 RX7 yX7_sort cX7_sort 6 none 2 := ⟨ml_X7_29, im_yX7_sort, se_yX7_sort, ini_X7, co_yX7_sort, rfl, by decide +kernel, by decide +kernel, by decide +kernel⟩
theorem lk_X7_33 : LkV RX7 33 RX7 yX7_isFree cX7_isFree 4 (some .boolean) 1 := ⟨ml_X7_33, im_yX7_isFree, se_yX7_isFree, ini_X7, co_yX7_isFree, rfl, by decide +kernel, by decide +kernel, by decide +kernel⟩
theorem lk_X7_39 : LkV RX7 39 RX0 yX0_isAhead cX0_isAhead 3 (some .boolean) 2 := ⟨ml_X7_39, im_yX0_isAhead, se_yX0_isAhead, ini_X0, co_yX0_isAhead, rfl, by decide +kernel, by decide +kernel, by decide +kernel⟩
theorem lk_L_137 : LkV RL 137 RX12 yX12_jumps cX12_jumps 4 (some .int) 1 := ⟨ml_L_137, im_yX12_jumps, se_yX12_jumps, ini_X12, co_yX12_jumps, rfl, by decide +kernel, by decide +kernel, by decide +kernel⟩
theorem lk_X12_289 : LkV RX12 289 RX12 yX12_finds cX12_finds 5 (some .int) 1 := ⟨ml_X12_289, im_yX12_finds, se_yX12_finds, ini_X12, co_yX12_finds, rfl, by decide +kernel, by decide +kernel, by decide +kernel⟩
theorem lk_X12_275 : LkV RX12 275 RX12 yX12_rest cX12_rest 5 (some .int) 2 := ⟨ml_X12_275, im_yX12_rest, se_yX12_rest, ini_X12, co_yX12_rest, rfl, by decide +kernel, by decide +kernel, by decide +kernel⟩
theorem lk_X12_283 : LkV RX12 283 RX12 yX12_may cX12_may 4 (some .boolean) 2 := ⟨ml_X12_283, im_yX12_may, se_yX12_may, ini_X12, co_yX12_may, rfl, by decide +kernel, by decide +kernel, by decide +kernel⟩
theorem lk_X12_286 : LkV RX12 286 RX12 yX12_jump cX12_jump 3 (some .int) 2 := ⟨ml_X12_286, im_yX12_jump, se_yX12_jump, ini_X12, co_yX12_jump, rfl, by decide +kernel, by decide +kernel, by decide +kernel⟩
theorem lk_X12_292 : LkV RX12 292 RX12 yX12_leastOf cX12_leastOf 3 (some .int) 0 := ⟨ml_X12_292, im_yX12_leastOf, se_yX12_leastOf, ini_X12, co_yX12_leastOf, rfl, by decide +kernel, by decide +kernel, by decide +kernel⟩
theorem lk_L_138 : LkV RL 138 RX11 yX11_order cX11_order 3 (some .int) 2 := ⟨ml_L_138, im_yX11_order, se_yX11_order, ini_X11, co_yX11_order, rfl, by decide +kernel, by decide +kernel, by decide +kernel⟩
theorem lk_L_141 : LkV RL 141 RX12 yX12_order cX12_order 9 (some .int) 2 := ⟨ml_L_141, im_yX12_order, se_yX12_order, ini_X12, co_yX12_order, rfl, by decide +kernel, by decide +kernel, by decide +kernel⟩
theorem lk_L_142 : LkV RL 142 RX11 yX11_count cX11_count 2 (some .int) 1 := ⟨ml_L_142, im_yX11_count, se_yX11_count, ini_X11, co_yX11_count, rfl, by decide +kernel, by decide +kernel, by decide +kernel⟩
theorem lk_X11_294 : LkV RX11 294 RX2 yX2_stillLost cX2_stillLost 3 (some .int) 0 := ⟨ml_X11_294, im_yX2_stillLost, se_yX2_stillLost, ini_X2, co_yX2_stillLost, rfl, by decide +kernel, by decide +kernel, by decide +kernel⟩
theorem lk_X2_55 : LkV RX2 55 RX2 yX2_isLost cX2_isLost 2 (some .boolean) 1 := ⟨ml_X2_55, im_yX2_isLost, se_yX2_isLost, ini_X2, co_yX2_isLost, rfl, by decide +kernel, by decide +kernel, by decide +kernel⟩
theorem lk_L_145 : LkV RL 145 RX12 yX12_count cX12_count 4 (some .int) 1 := ⟨ml_L_145, im_yX12_count, se_yX12_count, ini_X12, co_yX12_count, rfl, by decide +kernel, by decide +kernel, by decide +kernel⟩
theorem lk_L_146 : LkV RL 146 RX11 yX11_tray cX11_tray 3 (some .int) 2 := ⟨ml_L_146, im_yX11_tray, se_yX11_tray, ini_X11, co_yX11_tray, rfl, by decide +kernel, by decide +kernel, by decide +kernel⟩
theorem ls_X11_298 : LkS RX11 298 yX9_has cX9_has 1 (some .boolean) 1 := ⟨ml_X11_298, sm_yX9_has, ini_X9, co_yX9_has, by decide +kernel, by decide +kernel, by decide +kernel⟩
theorem lk_X11_299 : LkV RX11 299 RX9 yX9_empty cX9_empty 4 none 2 := ⟨ml_X11_299, im_yX9_empty, se_yX9_empty, ini_X9, co_yX9_empty, rfl, by decide +kernel, by decide +kernel, by decide +kernel⟩
theorem lk_L_149 : LkV RL 149 RX12 yX12_tray cX12_tray 4 (some .int) 2 := ⟨ml_L_149, im_yX12_tray, se_yX12_tray, ini_X12, co_yX12_tray, rfl, by decide +kernel, by decide +kernel, by decide +kernel⟩
theorem lk_L_150 : LkV RL 150 RX11 yX11_cell cX11_cell 4 (some .int) 3 := ⟨ml_L_150, im_yX11_cell, se_yX11_cell, ini_X11, co_yX11_cell, rfl, by decide +kernel, by decide +kernel, by decide +kernel⟩
theorem lk_X11_304 : LkV RX11 304 RX9 yX9_hasCell cX9_hasCell 3 (some .boolean) 2 := ⟨ml_X11_304, im_yX9_hasCell, se_yX9_hasCell, ini_X9, co_yX9_hasCell, rfl, by decide +kernel, by decide +kernel, by decide +kernel⟩
theorem lk_L_153 : LkV RL 153 RX12 yX12_cell cX12_cell 4 (some .int) 3 := ⟨ml_L_153, im_yX12_cell, se_yX12_cell, ini_X12, co_yX12_cell, rfl, by decide +kernel, by decide +kernel, by decide +kernel⟩
theorem lk_L_154 : LkV RL 154 RX11 yX11_lay cX11_lay 5 (some .int) 3 := ⟨ml_L_154, im_yX11_lay, se_yX11_lay, ini_X11, co_yX11_lay, rfl, by decide +kernel, by decide +kernel, by decide +kernel⟩
theorem lk_L_157 : LkV RL 157 RX12 yX12_lay cX12_lay 7 (some .int) 3 := ⟨ml_L_157, im_yX12_lay, se_yX12_lay, ini_X12, co_yX12_lay, rfl, by decide +kernel, by decide +kernel, by decide +kernel⟩
theorem lk_L_158 : LkV RL 158 RX11 yX11_taken cX11_taken 3 (some .int) 2 := ⟨ml_L_158, im_yX11_taken, se_yX11_taken, ini_X11, co_yX11_taken, rfl, by decide +kernel, by decide +kernel, by decide +kernel⟩
theorem ls_X11_310 : LkS RX11 310 yX2_isUnder cX2_isUnder 4 (some .boolean) 2 := ⟨ml_X11_310, sm_yX2_isUnder, ini_X2, co_yX2_isUnder, by decide +kernel, by decide +kernel, by decide +kernel⟩
theorem ls_X2_48 : LkS RX2 48 yX2_isKind cX2_isKind 1 (some .boolean) 1 := ⟨ml_X2_48, sm_yX2_isKind, ini_X2, co_yX2_isKind, by decide +kernel, by decide +kernel, by decide +kernel⟩
theorem lk_L_161 : LkV RL 161 RX12 yX12_taken cX12_taken 3 (some .int) 2 := ⟨ml_L_161, im_yX12_taken, se_yX12_taken, ini_X12, co_yX12_taken, rfl, by decide +kernel, by decide +kernel, by decide +kernel⟩
end
section
/-! ===== the fixed world: what the heap is between the constructors and the law's end; cells by number, contents by a pair of functions ===== -/
abbrev ST : Type := (Nat → Int32) × (Nat → Nat → Int32)
abbrev WL : Type := va_G × (Nat → Nat) × (Nat → ClassId)
def xlens : List Nat := [10, 10, 10, 10, 10, 12, 12, 12, 12, 12, 12, 12, 12, 12, 12, 12, 20, 20, 20, 12, 12, 10, 10, 10, 160, 4, 160, 160, 80, 80, 81, 160, 80, 80, 81, 8, 4, 160, 160, 160, 160, 160, 160, 160, 160, 160, 160, 160, 160, 12, 12, 12, 12, 12, 12, 12, 12, 12, 12, 12, 12, 6, 6, 6, 6, 6, 6, 6, 6, 6, 6, 6, 6, 60, 60, 60, 60, 10, 10, 10, 10, 100, 12, 12, 12, 12, 12, 12, 12, 12, 12, 1920, 20, 20, 20, 36, 36, 10, 10, 10, 160, 12, 12, 144, 5, 320, 161, 320, 320, 320, 2, 161, 161, 8, 2048, 4, 240]
def alen (k : Nat) : Nat := xlens.getD (k - 19) 0
def xtys : List FieldType := [.array .byte, .array .int, .array .int, .array .int, .array .byte, .int, .int, .int, .int, .int, .int, .int, .int, .int, .int, .int, .int, .int, .int, .int, .int, .int, .int, .int, .int, .int, .int, .int, .int, .byte, .int, .byte, .byte, .int, .int, .int, .byte, .int, .int, .int, .int, .int, .byte, .byte, .byte, .byte, .byte, .byte, .byte, .byte, .byte, .byte, .byte, .byte, .int, .int, .int, .int, .int, .int, .int, .int, .int, .int, .int, .int, .int, .int, .int, .int, .int, .int, .int, .int, .int, .int, .int, .int, .byte, .byte, .byte, .byte, .int, .int, .int, .int, .boolean, .int, .int, .int, .int, .int, .int, .int, .int, .int, .int, .int, .int, .int, .int, .int, .int, .int, .int, .int, .int, .int, .int, .int, .int, .int, .int, .int, .int, .int, .int, .int, .int, .int, .int, .int]
def aty (k : Nat) : FieldType := xtys.getD (k - 14) .int
def xob (ad : Nat → Nat) (i : Nat → Int32) (k : Nat) : va_E := match k with
  | 0 => .inr (11, [.ref (ad 1), .ref (ad 2), .ref (ad 3), .ref (ad 4), .ref (ad 5), .ref (ad 6), .ref (ad 7), .ref (ad 8), .ref (ad 9), .ref (ad 10), .ref (ad 11), .ref (ad 12), .int (i 0), .int (i 1)])
  | 1 => .inr (4, [.ref (ad 19), .ref (ad 20), .ref (ad 21), .ref (ad 22), .ref (ad 23), .int (i 2)])
  | 2 => .inr (2, [.ref (ad 24), .ref (ad 25), .ref (ad 26), .ref (ad 27), .ref (ad 28), .ref (ad 29), .ref (ad 30), .ref (ad 31), .ref (ad 32), .ref (ad 14), .int (i 3)])
  | 3 => .inr (0, [.ref (ad 33), .ref (ad 34), .int (i 4), .ref (ad 35), .ref (ad 36), .ref (ad 37), .ref (ad 38), .ref (ad 39), .ref (ad 15)])
  | 4 => .inr (5, [.ref (ad 16), .ref (ad 17)])
  | 5 => .inr (1, [.ref (ad 40), .int (i 5), .ref (ad 41), .ref (ad 42)])
  | 6 => .inr (8, [.ref (ad 43), .int (i 6)])
  | 7 => .inr (3, [.int (i 7), .int (i 8), .int (i 9), .int (i 10), .int (i 11), .ref (ad 44), .int (i 12), .int (i 13)])
  | 8 => .inr (6, [.ref (ad 45), .int (i 14)])
  | 9 => .inr (10, [.int (i 15), .ref (ad 46), .ref (ad 47), .ref (ad 48), .ref (ad 49)])
  | 10 => .inr (10, [.int (i 16), .ref (ad 50), .ref (ad 51), .ref (ad 52), .ref (ad 53)])
  | 11 => .inr (7, [.ref (ad 54), .int (i 17), .int (i 18)])
  | 12 => .inr (9, [.ref (ad 18), .ref (ad 55)])
  | 13 => .inr (12, [.int (i 19), .int (i 20), .int (i 21), .int (i 22), .int (i 23), .ref (ad 96), .ref (ad 97), .ref (ad 98), .ref (ad 99), .ref (ad 100), .ref (ad 101), .ref (ad 102), .ref (ad 103), .ref (ad 104), .ref (ad 105), .ref (ad 106), .ref (ad 107), .ref (ad 108), .ref (ad 109), .ref (ad 110), .ref (ad 111), .ref (ad 112), .ref (ad 113), .ref (ad 114), .ref (ad 115), .ref (ad 116), .ref (ad 117), .ref (ad 118), .ref (ad 119), .ref (ad 120), .ref (ad 121), .int (i 24), .ref (ad 122), .int (i 25), .int (i 26), .int (i 27), .int (i 28), .ref (ad 123), .ref (ad 124), .ref (ad 125), .int (i 29), .ref (ad 126), .ref (ad 127), .ref (ad 128), .ref (ad 129), .ref (ad 130), .ref (ad 131), .ref (ad 132), .ref (ad 133), .int (i 30), .ref (ad 134), .ref (ad 135)])
  | _ => .inr (0, [])
/-- the rows of an outer array: how many, the first one -/
def xon (k : Nat) : Nat := match k with
  | 14 => 12
  | 15 => 12
  | 16 => 6
  | 17 => 6
  | 18 => 4
  | _ => 0
def xof (k : Nat) : Nat := match k with
  | 14 => 56
  | 15 => 68
  | 16 => 80
  | 17 => 86
  | 18 => 92
  | _ => 0
def cellOf (L : WL) (σ : ST) (k : Nat) : va_E := if k < 14 then xob L.2.1 σ.1 k else if k < 19 then .inl (L.2.2 k, xon k, .inr (.inr (.inr (.inr (fun j => if j < xon k then some (L.2.1 (xof k + j)) else none))))) else .inl (L.2.2 k, alen k, .inl (σ.2 k))
def xw (L : WL) (σ : ST) : va_W := (List.range 136).map (fun k => (L.2.1 k, cellOf L σ k))
def tysOf (L : WL) : List (ClassId × FieldType) := (List.range 122).map (fun j => (L.2.2 (14 + j), aty (14 + j)))
def setI (σ : ST) (i : Nat) (v : Int32) : ST := (upd σ.1 i v, σ.2)
def setA (σ : ST) (k j : Nat) (v : Int32) : ST := (σ.1, fun a => if a = k then upd (σ.2 k) j v else σ.2 a)
theorem xw_get (L : WL) (σ : ST) {k : Nat} (h : k < 136) : (xw L σ)[k]? = some (L.2.1 k, cellOf L σ k) := by simp [xw, h]
theorem xw_len (L : WL) (σ : ST) : (xw L σ).length = 136 := by simp [xw]
theorem xw_set {L : WL} {σ σ' : ST} {k : Nat} {e : va_E} (h : k < 136) (he : cellOf L σ' k = e) (ho : ∀ j : Nat, j ≠ k → cellOf L σ' j = cellOf L σ j) : (xw L σ).set k (L.2.1 k, e) = xw L σ' := by
  apply List.ext_getElem?
  intro j
  by_cases hj : j < 136
  · rw [xw_get L σ' hj]
    by_cases e1 : j = k
    · subst e1
      rw [List.getElem?_set_self (by rw [xw_len]; exact h), he]
    · rw [List.getElem?_set_ne (fun q => e1 q.symm), xw_get L σ hj, ho j e1]
  · rw [List.getElem?_eq_none (by rw [List.length_set, xw_len]; omega), List.getElem?_eq_none (by rw [xw_len]; omega)]
theorem tys_get (L : WL) {k : Nat} (h : 14 ≤ k) (h2 : k < 136) : (tysOf L)[k - 14]? = some (L.2.2 k, aty k) := by
  have h3 : k - 14 < 122 := by omega
  have h4 : 14 + (k - 14) = k := by omega
  simp [tysOf, h3, h4]
theorem cell_arr (L : WL) (σ : ST) {k : Nat} (h : 19 ≤ k) : cellOf L σ k = .inl (L.2.2 k, alen k, .inl (σ.2 k)) := by
  unfold cellOf
  rw [if_neg (by omega), if_neg (by omega)]
theorem cell_out (L : WL) (σ : ST) {k : Nat} (h : 14 ≤ k) (h2 : k < 19) : cellOf L σ k = .inl (L.2.2 k, xon k, .inr (.inr (.inr (.inr (fun j => if j < xon k then some (L.2.1 (xof k + j)) else none))))) := by
  unfold cellOf
  rw [if_neg (by omega), if_pos h2]
theorem cell_obj (L : WL) (σ : ST) {k : Nat} (h : k < 14) : cellOf L σ k = xob L.2.1 σ.1 k := by
  unfold cellOf
  rw [if_pos h]
theorem cell_setA (L : WL) (σ : ST) (k j : Nat) (v : Int32) (h : 19 ≤ k) : ∀ a : Nat, a ≠ k → cellOf L (setA σ k j v) a = cellOf L σ a := by
  intro a ha
  unfold cellOf setA
  by_cases h1 : a < 14
  · rw [if_pos h1, if_pos h1]
  · rw [if_neg h1, if_neg h1]
    by_cases h2 : a < 19
    · rw [if_pos h2, if_pos h2]
    · rw [if_neg h2, if_neg h2]
      simp only [if_neg ha]
theorem setA_same (σ : ST) (k j : Nat) (v : Int32) : (setA σ k j v).2 k = upd (σ.2 k) j v := if_pos rfl
theorem setA_ne (σ : ST) (k j : Nat) (v : Int32) {a : Nat} (h : a ≠ k) : (setA σ k j v).2 a = σ.2 a := if_neg h
theorem setA_1 (σ : ST) (k j : Nat) (v : Int32) : (setA σ k j v).1 = σ.1 := rfl
theorem setI_2 (σ : ST) (i : Nat) (v : Int32) : (setI σ i v).2 = σ.2 := rfl
theorem setI_same (σ : ST) (i : Nat) (v : Int32) : (setI σ i v).1 i = v := if_pos rfl
theorem setI_ne (σ : ST) (i : Nat) (v : Int32) {a : Nat} (h : a ≠ i) : (setI σ i v).1 a = σ.1 a := if_neg h
/-- the object that holds the int i -/
def xown (i : Nat) : Nat := match i with
  | 0 => 0
  | 1 => 0
  | 2 => 1
  | 3 => 2
  | 4 => 3
  | 5 => 5
  | 6 => 6
  | 7 => 7
  | 8 => 7
  | 9 => 7
  | 10 => 7
  | 11 => 7
  | 12 => 7
  | 13 => 7
  | 14 => 8
  | 15 => 9
  | 16 => 10
  | 17 => 11
  | 18 => 11
  | 19 => 13
  | 20 => 13
  | 21 => 13
  | 22 => 13
  | 23 => 13
  | 24 => 13
  | 25 => 13
  | 26 => 13
  | 27 => 13
  | 28 => 13
  | 29 => 13
  | 30 => 13
  | _ => 99
theorem cell_setI (L : WL) (σ : ST) (i : Nat) (v : Int32) : ∀ a : Nat, a ≠ xown i → cellOf L (setI σ i v) a = cellOf L σ a := by
  intro a ha
  unfold cellOf
  by_cases h1 : a < 14
  · rw [if_pos h1, if_pos h1]
    have hn : ∀ b : Nat, xown b = a → upd σ.1 i v b = σ.1 b := fun b hb => if_neg (fun e => ha (by rw [← e]; exact hb.symm))
    rcases (show a = 0 ∨ a = 1 ∨ a = 2 ∨ a = 3 ∨ a = 4 ∨ a = 5 ∨ a = 6 ∨ a = 7 ∨ a = 8 ∨ a = 9 ∨ a = 10 ∨ a = 11 ∨ a = 12 ∨ a = 13 by omega) with rfl | rfl | rfl | rfl | rfl | rfl | rfl | rfl | rfl | rfl | rfl | rfl | rfl | rfl
    · show xob L.2.1 (upd σ.1 i v) 0 = xob L.2.1 σ.1 0
      simp only [xob]
      rw [hn 0 rfl, hn 1 rfl]
    · show xob L.2.1 (upd σ.1 i v) 1 = xob L.2.1 σ.1 1
      simp only [xob]
      rw [hn 2 rfl]
    · show xob L.2.1 (upd σ.1 i v) 2 = xob L.2.1 σ.1 2
      simp only [xob]
      rw [hn 3 rfl]
    · show xob L.2.1 (upd σ.1 i v) 3 = xob L.2.1 σ.1 3
      simp only [xob]
      rw [hn 4 rfl]
    · show xob L.2.1 (upd σ.1 i v) 4 = xob L.2.1 σ.1 4
      rfl
    · show xob L.2.1 (upd σ.1 i v) 5 = xob L.2.1 σ.1 5
      simp only [xob]
      rw [hn 5 rfl]
    · show xob L.2.1 (upd σ.1 i v) 6 = xob L.2.1 σ.1 6
      simp only [xob]
      rw [hn 6 rfl]
    · show xob L.2.1 (upd σ.1 i v) 7 = xob L.2.1 σ.1 7
      simp only [xob]
      rw [hn 7 rfl, hn 8 rfl, hn 9 rfl, hn 10 rfl, hn 11 rfl, hn 12 rfl, hn 13 rfl]
    · show xob L.2.1 (upd σ.1 i v) 8 = xob L.2.1 σ.1 8
      simp only [xob]
      rw [hn 14 rfl]
    · show xob L.2.1 (upd σ.1 i v) 9 = xob L.2.1 σ.1 9
      simp only [xob]
      rw [hn 15 rfl]
    · show xob L.2.1 (upd σ.1 i v) 10 = xob L.2.1 σ.1 10
      simp only [xob]
      rw [hn 16 rfl]
    · show xob L.2.1 (upd σ.1 i v) 11 = xob L.2.1 σ.1 11
      simp only [xob]
      rw [hn 17 rfl, hn 18 rfl]
    · show xob L.2.1 (upd σ.1 i v) 12 = xob L.2.1 σ.1 12
      rfl
    · show xob L.2.1 (upd σ.1 i v) 13 = xob L.2.1 σ.1 13
      simp only [xob]
      rw [hn 19 rfl, hn 20 rfl, hn 21 rfl, hn 22 rfl, hn 23 rfl, hn 24 rfl, hn 25 rfl, hn 26 rfl, hn 27 rfl, hn 28 rfl, hn 29 rfl, hn 30 rfl]
  · rw [if_neg h1, if_neg h1]
    rfl
/-! ===== the judgement: at pc, with these locals and this stack, in any heap that holds the world σ, the machine comes to Q ===== -/
/-- program, launch, env, start, method, arguments, below, meth, code, what may change, cells, slots -/
abbrev FX : Type := Program × Launch × Env × State × MethodId × Array Value × List Frame × Method × Code × (Nat → Prop) × Nat × Nat
def AW (L : WL) : Nat → Prop := fun q => ∃ k : Nat, k < 136 ∧ q = L.2.1 k
def INJ (L : WL) : Prop := ∀ i j : Nat, i < 136 → j < 136 → L.2.1 i = L.2.1 j → i = j
def abvF (j : Nat) : Value := match j with
  | 0 => .int (-1)
  | 5 => .int 2
  | _ => .int 0
def abv (A : Nat → Prop) (U : State) (H : Heap) : Prop := ∃ t : Nat, va_Z "LetterDrawer$Letters" "ABOVE" "[I" (.ref t) A U H ∧ va_T .int t 6 abvF A U H
theorem abv_moved {A : Nat → Prop} {u U : State} {H : Heap} (hvm : u.vm.Alike U.vm) (h : abv A u H) : abv A U H := by
  obtain ⟨t, h1, h2⟩ := h
  exact ⟨t, h1.moved hvm, h2.moved hvm⟩
theorem abv_kept {A : Nat → Prop} {U : State} {H H1 : Heap} (h : abv A U H) (hq : ∀ a : Nat, a < H.size → ¬ A a → H1[a]? = H[a]?) : abv A U H1 := by
  obtain ⟨t, h1, h2⟩ := h
  exact ⟨t, h1.kept hq, h2.kept hq⟩
theorem abv_narrow {A B : Nat → Prop} {U : State} {H : Heap} (h : abv A U H) (hAB : ∀ q, B q → A q) : abv B U H := by
  obtain ⟨t, h1, h2⟩ := h
  exact ⟨t, h1.narrow hAB, h2.narrow hAB⟩
def WOK (L : WL) (σ : ST) (U : State) : Prop := va_P L.1 vwCl (xw L σ) U.heap ∧ va_K L.1 vwCl (tysOf L) U ∧ INJ L ∧ abv (AW L) U U.heap
def OKx (F : FX) (L : WL) (own : String) (cc : ByteArray) (nL : Nat) (R : Room) (ret : Option FieldType) : Prop :=
  F.1.tables.exec = Jvm.exec ∧ F.2.2.2.2.2.2.2.2.1.code = cc ∧ F.2.2.2.2.2.2.2.2.1.maxLocals = nL ∧ F.2.2.2.1.vm.findClass own = some F.2.2.2.2.1.cls ∧ (∀ w ∈ WD, w.before F.2.2.2.2.2.1 F.2.2.2.1 = true) ∧ va_K L.1 vwCl (tysOf L) F.2.2.2.1 ∧ INJ L ∧ (∀ q, AW L q → F.2.2.2.2.2.2.2.2.2.1 q) ∧ F.2.2.2.2.2.2.2.1.sig.returnType = ret ∧ F.2.2.2.2.2.2.2.1.locks = false ∧ abv F.2.2.2.2.2.2.2.2.2.1 F.2.2.2.1 F.2.2.2.1.heap ∧ F.2.2.2.2.2.2.2.2.2.2.1 ≤ R.cells ∧ F.2.2.2.2.2.2.2.2.2.2.2 ≤ R.slots
def Go (F : FX) (L : WL) (own : String) (cc : ByteArray) (nL : Nat) (R : Room) (ret : Option FieldType) (Q : State → Prop) (σ : ST) (pc : Nat) (lv : List (Nat × Value)) (st : List Value) : Prop :=
  OKx F L own cc nL R ret → ∀ (H : Heap) (locs : List Loc) (ls : Array Slot), va_P L.1 vwCl (xw L σ) H → va_S F.2.2.2.2.2.2.2.2.2.1 F.2.2.2.1.heap H locs → lv_has ls nL lv →
    W F.1 F.2.1 F.2.2.1 R F.2.2.2.1 F.2.2.2.2.1 F.2.2.2.2.2.1 F.2.2.2.2.2.2.1 F.2.2.2.2.2.2.2.1 F.2.2.2.2.2.2.2.2.1 H locs F.2.2.2.2.2.2.2.2.2.2.1 F.2.2.2.2.2.2.2.2.2.2.2 Q (F0 F.2.2.2.2.1 pc ls st)
/-- the ends of a method -/
def RI (F : FX) (L : WL) (post : Int32 → ST → Prop) : State → Prop := MQ F.2.2.2.2.2.2.1 (va_Qi post (fun σ' t => va_P L.1 vwCl (xw L σ') t.heap) F.2.2.2.2.2.2.2.2.2.1) F.2.2.2.2.2.1 F.2.2.2.1 F.2.2.2.2.2.2.2.2.2.2.1 F.2.2.2.2.2.2.2.2.2.2.2 F.2.2.2.2.2.2.2.2.2.1
def RV (F : FX) (L : WL) (post : ST → Prop) : State → Prop := MQ F.2.2.2.2.2.2.1 (va_Qv post (fun σ' t => va_P L.1 vwCl (xw L σ') t.heap) F.2.2.2.2.2.2.2.2.2.1) F.2.2.2.2.2.1 F.2.2.2.1 F.2.2.2.2.2.2.2.2.2.2.1 F.2.2.2.2.2.2.2.2.2.2.2 F.2.2.2.2.2.2.2.2.2.1
/-- contracts: from the world σ, with these arguments, the method answers r in the world σ' with post r σ' -/
def CtI (l : Launch) (L : WL) (y : MethodName) (cc : ByteArray) (nL : Nat) (ret : Option FieldType) (rm : Room) (av : List Value) (σ : ST) (post : Int32 → ST → Prop) : Prop :=
  Met l y (Cond.code y cc nL ret :: WD) rm (va_Pc av (WOK L σ)) (va_Qi post (fun σ' t => va_P L.1 vwCl (xw L σ') t.heap) (AW L)) 0 0 (AW L)
def CtV (l : Launch) (L : WL) (y : MethodName) (cc : ByteArray) (nL : Nat) (ret : Option FieldType) (rm : Room) (av : List Value) (σ : ST) (post : ST → Prop) : Prop :=
  Met l y (Cond.code y cc nL ret :: WD) rm (va_Pc av (WOK L σ)) (va_Qv post (fun σ' t => va_P L.1 vwCl (xw L σ') t.heap) (AW L)) 0 0 (AW L)
theorem xw_D {L : WL} {A : Nat → Prop} (hI : INJ L) (hA : ∀ q, AW L q → A q) (σ : ST) : va_D A (xw L σ) := by
  have key : ∀ (k : Nat) (q : Nat × va_E), (xw L σ)[k]? = some q → k < 136 ∧ q = (L.2.1 k, cellOf L σ k) := fun k q h => by
    have hk : k < 136 := by have := (List.getElem?_eq_some_iff.mp h).1; rw [xw_len] at this; exact this
    rw [xw_get L σ hk] at h
    exact ⟨hk, (Option.some.inj h).symm⟩
  refine ⟨fun i j p q hi hj e => ?_, fun k q hk => ?_⟩
  · obtain ⟨h1, rfl⟩ := key i p hi
    obtain ⟨h2, rfl⟩ := key j q hj
    exact hI i j h1 h2 e
  · obtain ⟨h1, rfl⟩ := key k q hk
    exact hA _ ⟨k, h1, rfl⟩
theorem WOK_blind (L : WL) (σ : ST) (av : List Value) : FrameBlind (va_Pc av (WOK L σ)) := fun a U g mk q => by
  obtain ⟨q0, qP, qK, qI, qa⟩ := q
  exact ⟨q0, qP, va_K.moved (u := U) (U := U.calling g mk a) (Vm.Alike.refl U.vm) qK, qI, abv_moved (u := U) (U := U.calling g mk a) (Vm.Alike.refl U.vm) qa⟩
theorem wd_goodIn (y : MethodName) (b : ByteArray) (n : Nat) (r : Option FieldType) (hc : Cond.code y b n r ∈ WD) : GoodIn WD (Cond.code y b n r :: WD) := fun w hw => by
  rcases List.mem_cons.mp hw with rfl | h
  · exact ⟨hc, good_of_word (wd_good hc)⟩
  · exact ⟨h, good_of_word (wd_good h)⟩
/-- from a contract's head to the judgement at the first instruction -/
theorem ctI_go {l : Launch} {L : WL} {y : MethodName} {cc : ByteArray} {nL : Nat} {ret : Option FieldType} {rm : Room} {av : List Value} {σ : ST} {post : Int32 → ST → Prop} {own : String} (hy : plainName y.cls = true) (ho : y.cls = own) (hn : (lg_sl av).length ≤ nL)
    (body : ∀ F : FX, F.2.1 = l → Go F L own cc nL rm ret (RI F L post) σ 0 (lv_args 0 av) []) : CtI l L y cc nL ret rm av σ post := by
  subst ho
  refine Met.ofW (cc := cc) (maxL := nL) (ret := ret) hy rfl ?_
  intro p e s m args below meth c s₁ B hml hv
  obtain ⟨rfl, hP, hK, hI, ha⟩ := hv
  have hts := atoms_spec (ws := Cond.code y cc nL ret :: WD) B.pre
  have hown : s.vm.findClass y.cls = some m.cls := findClass_of_methodNamed B.named
  have hl := lv_entry av (n := nL) hn
  rw [lg_entry_eq]
  exact body (p, l, e, s, m, av.toArray, below, meth, c, AW L, 0, 0) rfl ⟨B.exec, B.bytes, hml, hown, fun w h => hts w (List.mem_cons_of_mem _ h), hK, hI, fun _ h => h, B.returns, B.notSynchronized, ha, Nat.zero_le _, Nat.zero_le _⟩ s.heap [] _ hP va_S.rf hl
theorem ctV_go {l : Launch} {L : WL} {y : MethodName} {cc : ByteArray} {nL : Nat} {ret : Option FieldType} {rm : Room} {av : List Value} {σ : ST} {post : ST → Prop} {own : String} (hy : plainName y.cls = true) (ho : y.cls = own) (hn : (lg_sl av).length ≤ nL)
    (body : ∀ F : FX, F.2.1 = l → Go F L own cc nL rm ret (RV F L post) σ 0 (lv_args 0 av) []) : CtV l L y cc nL ret rm av σ post := by
  subst ho
  refine Met.ofW (cc := cc) (maxL := nL) (ret := ret) hy rfl ?_
  intro p e s m args below meth c s₁ B hml hv
  obtain ⟨rfl, hP, hK, hI, ha⟩ := hv
  have hts := atoms_spec (ws := Cond.code y cc nL ret :: WD) B.pre
  have hown : s.vm.findClass y.cls = some m.cls := findClass_of_methodNamed B.named
  have hl := lv_entry av (n := nL) hn
  rw [lg_entry_eq]
  exact body (p, l, e, s, m, av.toArray, below, meth, c, AW L, 0, 0) rfl ⟨B.exec, B.bytes, hml, hown, fun w h => hts w (List.mem_cons_of_mem _ h), hK, hI, fun _ h => h, B.returns, B.notSynchronized, ha, Nat.zero_le _, Nat.zero_le _⟩ s.heap [] _ hP va_S.rf hl

section GOR
variable {F : FX} {L : WL} {own : String} {cc : ByteArray} {nL : Nat} {R : Room} {ret : Option FieldType} {Q : State → Prop} {σ : ST} {pc pc' : Nat} {lv : List (Nat × Value)} {st : List Value}
/-- what a local holds, by the list -/
def lvg (lv : List (Nat × Value)) (i : Nat) : Option Value := match lv with
  | [] => none
  | q :: r => bif Nat.beq q.1 i then some q.2 else lvg r i
theorem lvg_mem {lv : List (Nat × Value)} {i : Nat} {v : Value} (h : lvg lv i = some v) : (i, v) ∈ lv := by
  induction lv with
  | nil => cases h
  | cons q r ih =>
    unfold lvg at h
    cases e : Nat.beq q.1 i with
    | true =>
      rw [e] at h
      have e2 := Nat.eq_of_beq_eq_true e
      subst e2
      cases h
      exact List.mem_cons_self
    | false =>
      rw [e] at h
      exact List.mem_cons_of_mem _ (ih h)
theorem lvg_at {ls : Array Slot} {n : Nat} {lv : List (Nat × Value)} {i : Nat} {v : Value} (hl : lv_has ls n lv) (h : lvg lv i = some v) : ls[i]? = some (.val v) := hl.2.2 (i, v) (lvg_mem h)
/-- behind a store -/
def lvs (lv : List (Nat × Value)) (i : Nat) (v : Value) : List (Nat × Value) := (i, v) :: lv.filter (fun q => !(q.1 == i) && !(q.1 + 1 == i && q.2.category == 2))
def lvsl (lv : List (Nat × Value)) (i : Nat) (v : Value) : List (Nat × Value) := (i, v) :: lv.filter (fun q => !(q.1 == i) && (!(q.1 == i + 1) && !(q.1 + 1 == i && q.2.category == 2)))
/-- fewer locals, in any order -/
theorem go_lv {lv' : List (Nat × Value)} (h : lv'.map (fun q => lvg lv q.1) = lv'.map (fun q => some q.2)) (k : Go F L own cc nL R ret Q σ pc lv' st) : Go F L own cc nL R ret Q σ pc lv st := by
  intro hok H locs ls hP hS hl
  refine k hok H locs ls hP hS ⟨hl.1, hl.2.1, fun q hq => ?_⟩
  obtain ⟨i, hi⟩ := List.getElem?_of_mem hq
  have h2 := congrArg (fun l => l[i]?) h
  simp only [List.getElem?_map, hi, Option.map_some] at h2
  exact lvg_at hl (Option.some.inj h2)
theorem go_topi {x : Int32} (k : ∀ y : Int32, y = x → Go F L own cc nL R ret Q σ pc lv (.int y :: st)) : Go F L own cc nL R ret Q σ pc lv (.int x :: st) := k x rfl
theorem go_sig {σ' : ST} (h : σ = σ') (k : Go F L own cc nL R ret Q σ' pc lv st) : Go F L own cc nL R ret Q σ pc lv st := h ▸ k
theorem go_st {st' : List Value} (h : st = st') (k : Go F L own cc nL R ret Q σ pc lv st') : Go F L own cc nL R ret Q σ pc lv st := h ▸ k
theorem go_iconst {n : Int} {v : Int32} (hdg : decode cc pc = .ok (.iconst n, 1)) (hp : pc + 1 = pc') (hv : Int32.ofInt n = v) (k : Go F L own cc nL R ret Q σ pc' lv (.int v :: st)) : Go F L own cc nL R ret Q σ pc lv (st) := by
  subst hp
  intro hok H locs ls hP hS hl
  exact lv_iconst hok.1 hok.2.1 hdg hv (k hok H locs ls hP hS hl)
theorem go_bipush {n : Int} {v : Int32} (hdg : decode cc pc = .ok (.bipush n, 2)) (hp : pc + 2 = pc') (hv : (Int8.ofInt n).toInt32 = v) (k : Go F L own cc nL R ret Q σ pc' lv (.int v :: st)) : Go F L own cc nL R ret Q σ pc lv (st) := by
  subst hp
  intro hok H locs ls hP hS hl
  exact lv_bipush hok.1 hok.2.1 hdg hv (k hok H locs ls hP hS hl)
theorem go_sipush {n : Int} {v : Int32} (hdg : decode cc pc = .ok (.sipush n, 3)) (hp : pc + 3 = pc') (hv : (Int16.ofInt n).toInt32 = v) (k : Go F L own cc nL R ret Q σ pc' lv (.int v :: st)) : Go F L own cc nL R ret Q σ pc lv (st) := by
  subst hp
  intro hok H locs ls hP hS hl
  exact lv_sipush hok.1 hok.2.1 hdg hv (k hok H locs ls hP hS hl)
theorem go_lconst {n : Fin 2} {v : Int64} (hdg : decode cc pc = .ok (.lconst n, 1)) (hp : pc + 1 = pc') (hv : Int64.ofNat (n : Nat) = v) (k : Go F L own cc nL R ret Q σ pc' lv (.long v :: st)) : Go F L own cc nL R ret Q σ pc lv (st) := by
  subst hp
  intro hok H locs ls hP hS hl
  exact lv_lconst hok.1 hok.2.1 hdg hv (k hok H locs ls hP hS hl)
theorem go_iload_n {n : Fin 4} {x : Int32} (hdg : decode cc pc = .ok (.iload_n n, 1)) (hp : pc + 1 = pc') {i : Nat} (hi : (n : Nat) = i) (hv : lvg lv i = some (.int x)) (k : Go F L own cc nL R ret Q σ pc' lv (.int x :: st)) : Go F L own cc nL R ret Q σ pc lv (st) := by
  subst hp
  intro hok H locs ls hP hS hl
  exact lv_iload_n hok.1 hok.2.1 hdg hi (lvg_at hl hv) (k hok H locs ls hP hS hl)
theorem go_iload {n : Nat} {x : Int32} (hdg : decode cc pc = .ok (.iload n, 2)) (hp : pc + 2 = pc') (hv : lvg lv n = some (.int x)) (k : Go F L own cc nL R ret Q σ pc' lv (.int x :: st)) : Go F L own cc nL R ret Q σ pc lv (st) := by
  subst hp
  intro hok H locs ls hP hS hl
  exact lv_iload hok.1 hok.2.1 hdg (lvg_at hl hv) (k hok H locs ls hP hS hl)
theorem go_lload_n {n : Fin 4} {x : Int64} (hdg : decode cc pc = .ok (.lload_n n, 1)) (hp : pc + 1 = pc') {i : Nat} (hi : (n : Nat) = i) (hv : lvg lv i = some (.long x)) (k : Go F L own cc nL R ret Q σ pc' lv (.long x :: st)) : Go F L own cc nL R ret Q σ pc lv (st) := by
  subst hp
  intro hok H locs ls hP hS hl
  exact lv_lload_n hok.1 hok.2.1 hdg hi (lvg_at hl hv) (k hok H locs ls hP hS hl)
theorem go_lload {n : Nat} {x : Int64} (hdg : decode cc pc = .ok (.lload n, 2)) (hp : pc + 2 = pc') (hv : lvg lv n = some (.long x)) (k : Go F L own cc nL R ret Q σ pc' lv (.long x :: st)) : Go F L own cc nL R ret Q σ pc lv (st) := by
  subst hp
  intro hok H locs ls hP hS hl
  exact lv_lload hok.1 hok.2.1 hdg (lvg_at hl hv) (k hok H locs ls hP hS hl)
theorem go_aload_n {n : Fin 4} {x : Nat} (hdg : decode cc pc = .ok (.aload_n n, 1)) (hp : pc + 1 = pc') {i : Nat} (hi : (n : Nat) = i) (hv : lvg lv i = some (.ref x)) (k : Go F L own cc nL R ret Q σ pc' lv (.ref x :: st)) : Go F L own cc nL R ret Q σ pc lv (st) := by
  subst hp
  intro hok H locs ls hP hS hl
  exact lv_aload_n hok.1 hok.2.1 hdg hi (lvg_at hl hv) (k hok H locs ls hP hS hl)
theorem go_aload {n : Nat} {x : Nat} (hdg : decode cc pc = .ok (.aload n, 2)) (hp : pc + 2 = pc') (hv : lvg lv n = some (.ref x)) (k : Go F L own cc nL R ret Q σ pc' lv (.ref x :: st)) : Go F L own cc nL R ret Q σ pc lv (st) := by
  subst hp
  intro hok H locs ls hP hS hl
  exact lv_aload hok.1 hok.2.1 hdg (lvg_at hl hv) (k hok H locs ls hP hS hl)
theorem go_istore_n {n : Fin 4} {x : Int32} (hdg : decode cc pc = .ok (.istore_n n, 1)) (hp : pc + 1 = pc') {i : Nat} (hi : (n : Nat) = i) (hn : i < nL) (k : Go F L own cc nL R ret Q σ pc' (lvs lv i (.int x)) (st)) : Go F L own cc nL R ret Q σ pc lv (.int x :: st) := by
  subst hp
  intro hok H locs ls hP hS hl
  exact lv_istore_n hok.1 hok.2.1 hdg hi hl hn rfl (fun ls2 hl2 => k hok H locs ls2 hP hS hl2)
theorem go_istore {n : Nat} {x : Int32} (hdg : decode cc pc = .ok (.istore n, 2)) (hp : pc + 2 = pc') (hn : n < nL) (k : Go F L own cc nL R ret Q σ pc' (lvs lv n (.int x)) (st)) : Go F L own cc nL R ret Q σ pc lv (.int x :: st) := by
  subst hp
  intro hok H locs ls hP hS hl
  exact lv_istore hok.1 hok.2.1 hdg hl hn rfl (fun ls2 hl2 => k hok H locs ls2 hP hS hl2)
theorem go_lstore_n {n : Fin 4} {x : Int64} (hdg : decode cc pc = .ok (.lstore_n n, 1)) (hp : pc + 1 = pc') {i : Nat} (hi : (n : Nat) = i) (hn : i + 1 < nL) (k : Go F L own cc nL R ret Q σ pc' (lvsl lv i (.long x)) (st)) : Go F L own cc nL R ret Q σ pc lv (.long x :: st) := by
  subst hp
  intro hok H locs ls hP hS hl
  exact lv_lstore_n hok.1 hok.2.1 hdg hi hl hn rfl (fun ls2 hl2 => k hok H locs ls2 hP hS hl2)
theorem go_lstore {n : Nat} {x : Int64} (hdg : decode cc pc = .ok (.lstore n, 2)) (hp : pc + 2 = pc') (hn : n + 1 < nL) (k : Go F L own cc nL R ret Q σ pc' (lvsl lv n (.long x)) (st)) : Go F L own cc nL R ret Q σ pc lv (.long x :: st) := by
  subst hp
  intro hok H locs ls hP hS hl
  exact lv_lstore hok.1 hok.2.1 hdg hl hn rfl (fun ls2 hl2 => k hok H locs ls2 hP hS hl2)
theorem go_astore_n {n : Fin 4} {x : Nat} (hdg : decode cc pc = .ok (.astore_n n, 1)) (hp : pc + 1 = pc') {i : Nat} (hi : (n : Nat) = i) (hn : i < nL) (k : Go F L own cc nL R ret Q σ pc' (lvs lv i (.ref x)) (st)) : Go F L own cc nL R ret Q σ pc lv (.ref x :: st) := by
  subst hp
  intro hok H locs ls hP hS hl
  exact lv_astore_n hok.1 hok.2.1 hdg hi hl hn rfl (fun ls2 hl2 => k hok H locs ls2 hP hS hl2)
theorem go_astore {n : Nat} {x : Nat} (hdg : decode cc pc = .ok (.astore n, 2)) (hp : pc + 2 = pc') (hn : n < nL) (k : Go F L own cc nL R ret Q σ pc' (lvs lv n (.ref x)) (st)) : Go F L own cc nL R ret Q σ pc lv (.ref x :: st) := by
  subst hp
  intro hok H locs ls hP hS hl
  exact lv_astore hok.1 hok.2.1 hdg hl hn rfl (fun ls2 hl2 => k hok H locs ls2 hP hS hl2)
theorem lvg_idx {lv : List (Nat × Value)} {i : Nat} {v : Value} (h : lvg lv i = some v) : ∃ k : Nat, lv[k]? = some (i, v) := List.getElem?_of_mem (lvg_mem h)
theorem go_iinc {n : Nat} {d : Int} {x c : Int32} (hdg : decode cc pc = .ok (.iinc n d, 3)) (hp : pc + 3 = pc') (hv : lvg lv n = some (.int x)) (hc : Int32.ofInt d = c) (hn : n < nL) (k : Go F L own cc nL R ret Q σ pc' (lvs lv n (.int (x + c))) st) : Go F L own cc nL R ret Q σ pc lv st := by
  subst hp
  intro hok H locs ls hP hS hl
  obtain ⟨j, hj⟩ := lvg_idx hv
  exact lv_iinc hok.1 hok.2.1 hdg hl hj (by rw [hc]) hn rfl (fun ls2 hl2 => k hok H locs ls2 hP hS hl2)
theorem go_iadd {x y : Int32} (hdg : decode cc pc = .ok (.iadd, 1)) (hp : pc + 1 = pc') (k : Go F L own cc nL R ret Q σ pc' lv (.int (x + y) :: st)) : Go F L own cc nL R ret Q σ pc lv (.int y :: .int x :: st) := by
  subst hp
  intro hok H locs ls hP hS hl
  exact lv_iadd hok.1 hok.2.1 hdg (k hok H locs ls hP hS hl)
theorem go_isub {x y : Int32} (hdg : decode cc pc = .ok (.isub, 1)) (hp : pc + 1 = pc') (k : Go F L own cc nL R ret Q σ pc' lv (.int (x - y) :: st)) : Go F L own cc nL R ret Q σ pc lv (.int y :: .int x :: st) := by
  subst hp
  intro hok H locs ls hP hS hl
  exact lv_isub hok.1 hok.2.1 hdg (k hok H locs ls hP hS hl)
theorem go_imul {x y : Int32} (hdg : decode cc pc = .ok (.imul, 1)) (hp : pc + 1 = pc') (k : Go F L own cc nL R ret Q σ pc' lv (.int (x * y) :: st)) : Go F L own cc nL R ret Q σ pc lv (.int y :: .int x :: st) := by
  subst hp
  intro hok H locs ls hP hS hl
  exact lv_imul hok.1 hok.2.1 hdg (k hok H locs ls hP hS hl)
theorem go_iand {x y : Int32} (hdg : decode cc pc = .ok (.iand, 1)) (hp : pc + 1 = pc') (k : Go F L own cc nL R ret Q σ pc' lv (.int (x &&& y) :: st)) : Go F L own cc nL R ret Q σ pc lv (.int y :: .int x :: st) := by
  subst hp
  intro hok H locs ls hP hS hl
  exact lv_iand hok.1 hok.2.1 hdg (k hok H locs ls hP hS hl)
theorem go_ior {x y : Int32} (hdg : decode cc pc = .ok (.ior, 1)) (hp : pc + 1 = pc') (k : Go F L own cc nL R ret Q σ pc' lv (.int (x ||| y) :: st)) : Go F L own cc nL R ret Q σ pc lv (.int y :: .int x :: st) := by
  subst hp
  intro hok H locs ls hP hS hl
  exact lv_ior hok.1 hok.2.1 hdg (k hok H locs ls hP hS hl)
theorem go_ixor {x y : Int32} (hdg : decode cc pc = .ok (.ixor, 1)) (hp : pc + 1 = pc') (k : Go F L own cc nL R ret Q σ pc' lv (.int (x ^^^ y) :: st)) : Go F L own cc nL R ret Q σ pc lv (.int y :: .int x :: st) := by
  subst hp
  intro hok H locs ls hP hS hl
  exact lv_ixor hok.1 hok.2.1 hdg (k hok H locs ls hP hS hl)
theorem go_ishl {x y : Int32} (hdg : decode cc pc = .ok (.ishl, 1)) (hp : pc + 1 = pc') (k : Go F L own cc nL R ret Q σ pc' lv (.int (x <<< (y &&& 31)) :: st)) : Go F L own cc nL R ret Q σ pc lv (.int y :: .int x :: st) := by
  subst hp
  intro hok H locs ls hP hS hl
  exact lv_ishl hok.1 hok.2.1 hdg (k hok H locs ls hP hS hl)
theorem go_ishr {x y : Int32} (hdg : decode cc pc = .ok (.ishr, 1)) (hp : pc + 1 = pc') (k : Go F L own cc nL R ret Q σ pc' lv (.int (x >>> (y &&& 31)) :: st)) : Go F L own cc nL R ret Q σ pc lv (.int y :: .int x :: st) := by
  subst hp
  intro hok H locs ls hP hS hl
  exact lv_ishr hok.1 hok.2.1 hdg (k hok H locs ls hP hS hl)
theorem go_idiv {x y : Int32} (hdg : decode cc pc = .ok (.idiv, 1)) (hp : pc + 1 = pc') (hne : ¬ y = 0) (k : Go F L own cc nL R ret Q σ pc' lv (.int (x / y) :: st)) : Go F L own cc nL R ret Q σ pc lv (.int y :: .int x :: st) := by
  subst hp
  intro hok H locs ls hP hS hl
  exact lv_idiv hok.1 hok.2.1 hdg hne (k hok H locs ls hP hS hl)
theorem go_irem {x y : Int32} (hdg : decode cc pc = .ok (.irem, 1)) (hp : pc + 1 = pc') (hne : ¬ y = 0) (k : Go F L own cc nL R ret Q σ pc' lv (.int (x - x / y * y) :: st)) : Go F L own cc nL R ret Q σ pc lv (.int y :: .int x :: st) := by
  subst hp
  intro hok H locs ls hP hS hl
  exact lv_irem hok.1 hok.2.1 hdg hne (k hok H locs ls hP hS hl)
theorem go_iushr {x y v : Int32} (hdg : decode cc pc = .ok (.iushr, 1)) (hp : pc + 1 = pc') (hv : (x.toUInt32 >>> (y.toUInt32 &&& Int32.toUInt32 31)).toInt32 = v) (k : Go F L own cc nL R ret Q σ pc' lv (.int v :: st)) : Go F L own cc nL R ret Q σ pc lv (.int y :: .int x :: st) := by
  subst hp
  intro hok H locs ls hP hS hl
  exact lv_iushr hok.1 hok.2.1 hdg hv (k hok H locs ls hP hS hl)
theorem go_ineg {x : Int32} (hdg : decode cc pc = .ok (.ineg, 1)) (hp : pc + 1 = pc') (k : Go F L own cc nL R ret Q σ pc' lv (.int (-x) :: st)) : Go F L own cc nL R ret Q σ pc lv (.int x :: st) := by
  subst hp
  intro hok H locs ls hP hS hl
  exact lv_ineg hok.1 hok.2.1 hdg (k hok H locs ls hP hS hl)
theorem go_i2l {x : Int32} (hdg : decode cc pc = .ok (.i2l, 1)) (hp : pc + 1 = pc') (k : Go F L own cc nL R ret Q σ pc' lv (.long x.toInt64 :: st)) : Go F L own cc nL R ret Q σ pc lv (.int x :: st) := by
  subst hp
  intro hok H locs ls hP hS hl
  exact lv_i2l hok.1 hok.2.1 hdg rfl (k hok H locs ls hP hS hl)
theorem go_l2i {x : Int64} (hdg : decode cc pc = .ok (.l2i, 1)) (hp : pc + 1 = pc') (k : Go F L own cc nL R ret Q σ pc' lv (.int x.toInt32 :: st)) : Go F L own cc nL R ret Q σ pc lv (.long x :: st) := by
  subst hp
  intro hok H locs ls hP hS hl
  exact lv_l2i hok.1 hok.2.1 hdg rfl (k hok H locs ls hP hS hl)
theorem go_i2b {x : Int32} (hdg : decode cc pc = .ok (.i2b, 1)) (hp : pc + 1 = pc') (k : Go F L own cc nL R ret Q σ pc' lv (.int x.toInt8.toInt32 :: st)) : Go F L own cc nL R ret Q σ pc lv (.int x :: st) := by
  subst hp
  intro hok H locs ls hP hS hl
  exact lv_i2b hok.1 hok.2.1 hdg rfl (k hok H locs ls hP hS hl)
theorem go_ladd {x y : Int64} (hdg : decode cc pc = .ok (.ladd, 1)) (hp : pc + 1 = pc') (k : Go F L own cc nL R ret Q σ pc' lv (.long (x + y) :: st)) : Go F L own cc nL R ret Q σ pc lv (.long y :: .long x :: st) := by
  subst hp
  intro hok H locs ls hP hS hl
  exact lv_ladd hok.1 hok.2.1 hdg (k hok H locs ls hP hS hl)
theorem go_land {x y : Int64} (hdg : decode cc pc = .ok (.land, 1)) (hp : pc + 1 = pc') (k : Go F L own cc nL R ret Q σ pc' lv (.long (x &&& y) :: st)) : Go F L own cc nL R ret Q σ pc lv (.long y :: .long x :: st) := by
  subst hp
  intro hok H locs ls hP hS hl
  exact lv_land hok.1 hok.2.1 hdg (k hok H locs ls hP hS hl)
theorem go_lor {x y : Int64} (hdg : decode cc pc = .ok (.lor, 1)) (hp : pc + 1 = pc') (k : Go F L own cc nL R ret Q σ pc' lv (.long (x ||| y) :: st)) : Go F L own cc nL R ret Q σ pc lv (.long y :: .long x :: st) := by
  subst hp
  intro hok H locs ls hP hS hl
  exact lv_lor hok.1 hok.2.1 hdg (k hok H locs ls hP hS hl)
theorem go_lushr {x v : Int64} {y : Int32} (hdg : decode cc pc = .ok (.lushr, 1)) (hp : pc + 1 = pc') (hv : (x.toUInt64 >>> (y.toInt64.toUInt64 &&& Int64.toUInt64 63)).toInt64 = v) (k : Go F L own cc nL R ret Q σ pc' lv (.long v :: st)) : Go F L own cc nL R ret Q σ pc lv (.int y :: .long x :: st) := by
  subst hp
  intro hok H locs ls hP hS hl
  exact lv_lushr hok.1 hok.2.1 hdg hv (k hok H locs ls hP hS hl)
theorem go_lshl {x : Int64} {y : Int32} (hdg : decode cc pc = .ok (.lshl, 1)) (hp : pc + 1 = pc') (k : Go F L own cc nL R ret Q σ pc' lv (.long (x <<< (y.toInt64 &&& 63)) :: st)) : Go F L own cc nL R ret Q σ pc lv (.int y :: .long x :: st) := by
  subst hp
  intro hok H locs ls hP hS hl
  exact lv_lshl hok.1 hok.2.1 hdg rfl (k hok H locs ls hP hS hl)
theorem go_lshr {x : Int64} {y : Int32} (hdg : decode cc pc = .ok (.lshr, 1)) (hp : pc + 1 = pc') (k : Go F L own cc nL R ret Q σ pc' lv (.long (x >>> (y.toInt64 &&& 63)) :: st)) : Go F L own cc nL R ret Q σ pc lv (.int y :: .long x :: st) := by
  subst hp
  intro hok H locs ls hP hS hl
  exact lv_lshr hok.1 hok.2.1 hdg rfl (k hok H locs ls hP hS hl)
theorem go_lcmp {x y : Int64} (hdg : decode cc pc = .ok (.lcmp, 1)) (hp : pc + 1 = pc') (k : Go F L own cc nL R ret Q σ pc' lv (.int (lg_cmp x y) :: st)) : Go F L own cc nL R ret Q σ pc lv (.long y :: .long x :: st) := by
  subst hp
  intro hok H locs ls hP hS hl
  exact W.lcmp hok.1 hok.2.1 hdg (k hok H locs ls hP hS hl)
theorem go_dup {v : Value} (hdg : decode cc pc = .ok (.dup, 1)) (hp : pc + 1 = pc') (hv : v.category = 1) (k : Go F L own cc nL R ret Q σ pc' lv (v :: v :: st)) : Go F L own cc nL R ret Q σ pc lv (v :: st) := by
  subst hp
  intro hok H locs ls hP hS hl
  exact lv_dup hok.1 hok.2.1 hdg hv (k hok H locs ls hP hS hl)
theorem go_pop {v : Value} (hdg : decode cc pc = .ok (.pop, 1)) (hp : pc + 1 = pc') (hv : v.category = 1) (k : Go F L own cc nL R ret Q σ pc' lv (st)) : Go F L own cc nL R ret Q σ pc lv (v :: st) := by
  subst hp
  intro hok H locs ls hP hS hl
  exact lv_pop hok.1 hok.2.1 hdg hv (k hok H locs ls hP hS hl)
theorem go_ldc {i : Nat} {v : Int32} (hdg : decode cc pc = .ok (.ldc i, 2)) (hp : pc + 2 = pc') (hc : Cond.constant own i v ∈ WD) (k : Go F L own cc nL R ret Q σ pc' lv (.int v :: st)) : Go F L own cc nL R ret Q σ pc lv (st) := by
  subst hp
  intro hok H locs ls hP hS hl
  exact lv_ldc hok.1 hok.2.1 hok.2.2.2.1 (hok.2.2.2.2.1 _ hc) hdg (k hok H locs ls hP hS hl)
theorem go_ldcw {i : Nat} {v : Int32} (hdg : decode cc pc = .ok (.ldc_w i, 3)) (hp : pc + 3 = pc') (hc : Cond.constant own i v ∈ WD) (k : Go F L own cc nL R ret Q σ pc' lv (.int v :: st)) : Go F L own cc nL R ret Q σ pc lv (st) := by
  subst hp
  intro hok H locs ls hP hS hl
  exact lv_ldcw hok.1 hok.2.1 hok.2.2.2.1 (hok.2.2.2.2.1 _ hc) hdg (k hok H locs ls hP hS hl)
theorem go_ldc2 {i : Nat} {v : Int64} (hdg : decode cc pc = .ok (.ldc2_w i, 3)) (hp : pc + 3 = pc') (hc : Cond.constantLong own i v ∈ WD) (k : Go F L own cc nL R ret Q σ pc' lv (.long v :: st)) : Go F L own cc nL R ret Q σ pc lv (st) := by
  subst hp
  intro hok H locs ls hP hS hl
  exact lv_ldc2 hok.1 hok.2.1 hok.2.2.2.1 (hok.2.2.2.2.1 _ hc) hdg (k hok H locs ls hP hS hl)
theorem go_if_eq {x : Int32} {off : Int} {tgt : Nat} (hdg : decode cc pc = .ok (.ifCond .eq off, 3)) (hp : pc + 3 = pc') (ht : (pc : Int) + off = (tgt : Int)) (k1 : x = 0 → Go F L own cc nL R ret Q σ tgt lv st) (k2 : ¬ (x = 0) → Go F L own cc nL R ret Q σ pc' lv st) : Go F L own cc nL R ret Q σ pc lv (.int x :: st) := by
  subst hp
  intro hok H locs ls hP hS hl
  exact lv_if_eq hok.1 hok.2.1 hdg ht (fun h => k1 h hok H locs ls hP hS hl) (fun h => k2 h hok H locs ls hP hS hl)
theorem go_icmp_eq {x y : Int32} {off : Int} {tgt : Nat} (hdg : decode cc pc = .ok (.if_icmp .eq off, 3)) (hp : pc + 3 = pc') (ht : (pc : Int) + off = (tgt : Int)) (k1 : x = y → Go F L own cc nL R ret Q σ tgt lv st) (k2 : ¬ (x = y) → Go F L own cc nL R ret Q σ pc' lv st) : Go F L own cc nL R ret Q σ pc lv (.int y :: .int x :: st) := by
  subst hp
  intro hok H locs ls hP hS hl
  exact lv_icmp_eq hok.1 hok.2.1 hdg ht (fun h => k1 h hok H locs ls hP hS hl) (fun h => k2 h hok H locs ls hP hS hl)
theorem go_if_ne {x : Int32} {off : Int} {tgt : Nat} (hdg : decode cc pc = .ok (.ifCond .ne off, 3)) (hp : pc + 3 = pc') (ht : (pc : Int) + off = (tgt : Int)) (k1 : x ≠ 0 → Go F L own cc nL R ret Q σ tgt lv st) (k2 : x = 0 → Go F L own cc nL R ret Q σ pc' lv st) : Go F L own cc nL R ret Q σ pc lv (.int x :: st) := by
  subst hp
  intro hok H locs ls hP hS hl
  exact lv_if_ne hok.1 hok.2.1 hdg ht (fun h => k1 h hok H locs ls hP hS hl) (fun h => k2 h hok H locs ls hP hS hl)
theorem go_icmp_ne {x y : Int32} {off : Int} {tgt : Nat} (hdg : decode cc pc = .ok (.if_icmp .ne off, 3)) (hp : pc + 3 = pc') (ht : (pc : Int) + off = (tgt : Int)) (k1 : x ≠ y → Go F L own cc nL R ret Q σ tgt lv st) (k2 : x = y → Go F L own cc nL R ret Q σ pc' lv st) : Go F L own cc nL R ret Q σ pc lv (.int y :: .int x :: st) := by
  subst hp
  intro hok H locs ls hP hS hl
  exact lv_icmp_ne hok.1 hok.2.1 hdg ht (fun h => k1 h hok H locs ls hP hS hl) (fun h => k2 h hok H locs ls hP hS hl)
theorem go_if_lt {x : Int32} {off : Int} {tgt : Nat} (hdg : decode cc pc = .ok (.ifCond .lt off, 3)) (hp : pc + 3 = pc') (ht : (pc : Int) + off = (tgt : Int)) (k1 : x < 0 → Go F L own cc nL R ret Q σ tgt lv st) (k2 : ¬ (x < 0) → Go F L own cc nL R ret Q σ pc' lv st) : Go F L own cc nL R ret Q σ pc lv (.int x :: st) := by
  subst hp
  intro hok H locs ls hP hS hl
  exact lv_if_lt hok.1 hok.2.1 hdg ht (fun h => k1 h hok H locs ls hP hS hl) (fun h => k2 h hok H locs ls hP hS hl)
theorem go_icmp_lt {x y : Int32} {off : Int} {tgt : Nat} (hdg : decode cc pc = .ok (.if_icmp .lt off, 3)) (hp : pc + 3 = pc') (ht : (pc : Int) + off = (tgt : Int)) (k1 : x < y → Go F L own cc nL R ret Q σ tgt lv st) (k2 : ¬ (x < y) → Go F L own cc nL R ret Q σ pc' lv st) : Go F L own cc nL R ret Q σ pc lv (.int y :: .int x :: st) := by
  subst hp
  intro hok H locs ls hP hS hl
  exact lv_icmp_lt hok.1 hok.2.1 hdg ht (fun h => k1 h hok H locs ls hP hS hl) (fun h => k2 h hok H locs ls hP hS hl)
theorem go_if_ge {x : Int32} {off : Int} {tgt : Nat} (hdg : decode cc pc = .ok (.ifCond .ge off, 3)) (hp : pc + 3 = pc') (ht : (pc : Int) + off = (tgt : Int)) (k1 : x ≥ 0 → Go F L own cc nL R ret Q σ tgt lv st) (k2 : ¬ (x ≥ 0) → Go F L own cc nL R ret Q σ pc' lv st) : Go F L own cc nL R ret Q σ pc lv (.int x :: st) := by
  subst hp
  intro hok H locs ls hP hS hl
  exact lv_if_ge hok.1 hok.2.1 hdg ht (fun h => k1 h hok H locs ls hP hS hl) (fun h => k2 h hok H locs ls hP hS hl)
theorem go_icmp_ge {x y : Int32} {off : Int} {tgt : Nat} (hdg : decode cc pc = .ok (.if_icmp .ge off, 3)) (hp : pc + 3 = pc') (ht : (pc : Int) + off = (tgt : Int)) (k1 : x ≥ y → Go F L own cc nL R ret Q σ tgt lv st) (k2 : ¬ (x ≥ y) → Go F L own cc nL R ret Q σ pc' lv st) : Go F L own cc nL R ret Q σ pc lv (.int y :: .int x :: st) := by
  subst hp
  intro hok H locs ls hP hS hl
  exact lv_icmp_ge hok.1 hok.2.1 hdg ht (fun h => k1 h hok H locs ls hP hS hl) (fun h => k2 h hok H locs ls hP hS hl)
theorem go_if_gt {x : Int32} {off : Int} {tgt : Nat} (hdg : decode cc pc = .ok (.ifCond .gt off, 3)) (hp : pc + 3 = pc') (ht : (pc : Int) + off = (tgt : Int)) (k1 : x > 0 → Go F L own cc nL R ret Q σ tgt lv st) (k2 : ¬ (x > 0) → Go F L own cc nL R ret Q σ pc' lv st) : Go F L own cc nL R ret Q σ pc lv (.int x :: st) := by
  subst hp
  intro hok H locs ls hP hS hl
  exact lv_if_gt hok.1 hok.2.1 hdg ht (fun h => k1 h hok H locs ls hP hS hl) (fun h => k2 h hok H locs ls hP hS hl)
theorem go_icmp_gt {x y : Int32} {off : Int} {tgt : Nat} (hdg : decode cc pc = .ok (.if_icmp .gt off, 3)) (hp : pc + 3 = pc') (ht : (pc : Int) + off = (tgt : Int)) (k1 : x > y → Go F L own cc nL R ret Q σ tgt lv st) (k2 : ¬ (x > y) → Go F L own cc nL R ret Q σ pc' lv st) : Go F L own cc nL R ret Q σ pc lv (.int y :: .int x :: st) := by
  subst hp
  intro hok H locs ls hP hS hl
  exact lv_icmp_gt hok.1 hok.2.1 hdg ht (fun h => k1 h hok H locs ls hP hS hl) (fun h => k2 h hok H locs ls hP hS hl)
theorem go_if_le {x : Int32} {off : Int} {tgt : Nat} (hdg : decode cc pc = .ok (.ifCond .le off, 3)) (hp : pc + 3 = pc') (ht : (pc : Int) + off = (tgt : Int)) (k1 : x ≤ 0 → Go F L own cc nL R ret Q σ tgt lv st) (k2 : ¬ (x ≤ 0) → Go F L own cc nL R ret Q σ pc' lv st) : Go F L own cc nL R ret Q σ pc lv (.int x :: st) := by
  subst hp
  intro hok H locs ls hP hS hl
  exact lv_if_le hok.1 hok.2.1 hdg ht (fun h => k1 h hok H locs ls hP hS hl) (fun h => k2 h hok H locs ls hP hS hl)
theorem go_icmp_le {x y : Int32} {off : Int} {tgt : Nat} (hdg : decode cc pc = .ok (.if_icmp .le off, 3)) (hp : pc + 3 = pc') (ht : (pc : Int) + off = (tgt : Int)) (k1 : x ≤ y → Go F L own cc nL R ret Q σ tgt lv st) (k2 : ¬ (x ≤ y) → Go F L own cc nL R ret Q σ pc' lv st) : Go F L own cc nL R ret Q σ pc lv (.int y :: .int x :: st) := by
  subst hp
  intro hok H locs ls hP hS hl
  exact lv_icmp_le hok.1 hok.2.1 hdg ht (fun h => k1 h hok H locs ls hP hS hl) (fun h => k2 h hok H locs ls hP hS hl)
/-- a boolean answer -/
def bq (A : Prop) (r : Int32) : Prop := (r = 1 ∧ A) ∨ (r = 0 ∧ ¬ A)
theorem bq_t {A : Prop} (h : A) : bq A 1 := Or.inl ⟨rfl, h⟩
theorem bq_f {A : Prop} (h : ¬ A) : bq A 0 := Or.inr ⟨rfl, h⟩
theorem bq_0 {A : Prop} {r : Int32} (h : bq A r) (e : r = 0) : ¬ A := by
  rcases h with ⟨h1, -⟩ | ⟨-, h2⟩
  · exact absurd (h1.symm.trans e) (by decide)
  · exact h2
theorem bq_1 {A : Prop} {r : Int32} (h : bq A r) (e : ¬ r = 0) : A := by
  rcases h with ⟨-, h2⟩ | ⟨h1, -⟩
  · exact h2
  · exact absurd h1 e
theorem bq_n {A : Prop} {r : Int32} (h : bq A r) : narrow .boolean (.int r) = .int r := by
  rcases h with ⟨rfl, -⟩ | ⟨rfl, -⟩ <;> rfl
theorem go_eqB {A : Prop} {x : Int32} {off : Int} {tgt : Nat} (hB : bq A x) (hdg : decode cc pc = .ok (.ifCond .eq off, 3)) (hp : pc + 3 = pc') (ht : (pc : Int) + off = (tgt : Int)) (k1 : ¬ A → Go F L own cc nL R ret Q σ tgt lv st) (k2 : A → Go F L own cc nL R ret Q σ pc' lv st) : Go F L own cc nL R ret Q σ pc lv (.int x :: st) := go_if_eq hdg hp ht (fun h => k1 (bq_0 hB h)) (fun h => k2 (bq_1 hB h))
theorem go_neB {A : Prop} {x : Int32} {off : Int} {tgt : Nat} (hB : bq A x) (hdg : decode cc pc = .ok (.ifCond .ne off, 3)) (hp : pc + 3 = pc') (ht : (pc : Int) + off = (tgt : Int)) (k1 : A → Go F L own cc nL R ret Q σ tgt lv st) (k2 : ¬ A → Go F L own cc nL R ret Q σ pc' lv st) : Go F L own cc nL R ret Q σ pc lv (.int x :: st) := go_if_ne hdg hp ht (fun h => k1 (bq_1 hB h)) (fun h => k2 (bq_0 hB h))
theorem go_goto {off : Int} {tgt : Nat} (hdg : decode cc pc = .ok (.goto off, 3)) (ht : (pc : Int) + off = (tgt : Int)) (k : Go F L own cc nL R ret Q σ tgt lv st) : Go F L own cc nL R ret Q σ pc lv st := by
  intro hok H locs ls hP hS hl
  exact lv_goto hok.1 hok.2.1 hdg ht (k hok H locs ls hP hS hl)
theorem go_swOut {dflt lo hi : Int} {offs : Array Int} {len : Nat} {x : Int32} {tgt : Nat} (hdg : decode cc pc = .ok (.tableswitch dflt lo hi offs, len)) (h : x.toInt < lo ∨ hi < x.toInt) (ht : (pc : Int) + dflt = (tgt : Int)) (k : Go F L own cc nL R ret Q σ tgt lv st) : Go F L own cc nL R ret Q σ pc lv (.int x :: st) := by
  intro hok H locs ls hP hS hl
  exact lv_tableOut hok.1 hok.2.1 hdg h ht (k hok H locs ls hP hS hl)
theorem go_swIn {dflt lo hi : Int} {offs : Array Int} {len : Nat} {x : Int32} {off : Int} {tgt : Nat} (hdg : decode cc pc = .ok (.tableswitch dflt lo hi offs, len)) (h1 : ¬ x.toInt < lo) (h2 : ¬ hi < x.toInt) (ho : offs[(x.toInt - lo).toNat]? = some off) (ht : (pc : Int) + off = (tgt : Int)) (k : Go F L own cc nL R ret Q σ tgt lv st) : Go F L own cc nL R ret Q σ pc lv (.int x :: st) := by
  intro hok H locs ls hP hS hl
  exact lv_tableIn hok.1 hok.2.1 hdg h1 h2 ho ht (k hok H locs ls hP hS hl)
theorem go_lookup {dflt : Int} {ps : Array (Int × Int)} {len : Nat} {x : Int32} {off : Int} {tgt : Nat} (hdg : decode cc pc = .ok (.lookupswitch dflt ps, len)) (hq : (ps.toList.zip (ps.toList.drop 1)).all (fun (a, next) => a.1 < next.1) = true) (ho : Op.lookupswitch.offset ps.toList dflt x.toInt = off) (ht : (pc : Int) + off = (tgt : Int)) (k : Go F L own cc nL R ret Q σ tgt lv st) : Go F L own cc nL R ret Q σ pc lv (.int x :: st) := by
  intro hok H locs ls hP hS hl
  exact lv_lookup hok.1 hok.2.1 hdg hq ho ht (k hok H locs ls hP hS hl)
/-- the heap's rows: fields -/
theorem go_get {C ref nm ds : String} {T : u_T} {N ci idx o kf : Nat} {fs : List Value} {v : Value} (hin : ∀ w ∈ u_ws C T N, w ∈ WD) (hc : vwCl[ci]? = some (C, T, N)) (hdg : decode cc pc = .ok (.getfield idx, 3)) (hp : pc + 3 = pc') (hlk : Cond.fieldLink own idx ref nm ds ∈ WD) (he : cellOf L σ o = .inr (ci, fs)) (ho : o < 136) (hk : kf < N) (hT : T kf = (ref, nm, ds, (T kf).2.2.2)) (hv : fs[kf]? = some v)
    (k : Go F L own cc nL R ret Q σ pc' lv (v :: st)) : Go F L own cc nL R ret Q σ pc lv (.ref (L.2.1 o) :: st) := by
  subst hp
  intro hok H locs ls hP hS hl
  have hg := xw_get L σ ho
  rw [he] at hg
  have e1 : (T kf).1 = ref := by rw [hT]
  have e2 : (T kf).2.1 = nm := by rw [hT]
  have e3 : (T kf).2.2.1 = ds := by rw [hT]
  exact va_get (ref := ref) (C := C) (T := T) (N := N) (ci := ci) (index := idx) hok.1 hok.2.1 hok.2.2.2.2.1 hin hok.2.2.2.1 hok.2.2.2.2.2.1 hP o hg hc kf hk (by rw [e2, e3]; exact hok.2.2.2.2.1 _ hlk) (fun _ h9 => by rw [e1] at h9; exact h9) hv hdg (k hok H locs ls hP hS hl)
theorem go_put {C ref nm ds : String} {T : u_T} {N ci idx o kf : Nat} {fs : List Value} {v : Value} {ty : FieldType} {σ' : ST} (hin : ∀ w ∈ u_ws C T N, w ∈ WD) (ty0 : Nat → FieldType) (hty : ∀ k, k < N → parseFieldDescriptor (T k).2.2.1 = some (ty0 k)) (hnm : ∀ a, a < N → ∀ b, b < N → a ≠ b → (T a).2.1 ≠ (T b).2.1) (hc : vwCl[ci]? = some (C, T, N)) (hdg : decode cc pc = .ok (.putfield idx, 3)) (hp : pc + 3 = pc') (hlk : Cond.fieldLink own idx ref nm ds ∈ WD) (he : cellOf L σ o = .inr (ci, fs)) (ho : o < 136) (hk : kf < N) (hT : T kf = (ref, nm, ds, false)) (hd : ty0 kf = ty) (hn : narrow ty v = v) (hf : fits ty v = true) (hl9 : kf < fs.length) (he' : cellOf L σ' o = .inr (ci, fs.set kf v)) (hoth : ∀ j : Nat, j ≠ o → cellOf L σ' j = cellOf L σ j)
    (k : Go F L own cc nL R ret Q σ' pc' lv st) : Go F L own cc nL R ret Q σ pc lv (v :: .ref (L.2.1 o) :: st) := by
  subst hp
  intro hok H locs ls hP hS hl
  have hg := xw_get L σ ho
  rw [he] at hg
  have e1 : (T kf).1 = ref := by rw [hT]
  have e2 : (T kf).2.1 = nm := by rw [hT]
  have e3 : (T kf).2.2.1 = ds := by rw [hT]
  have e4 : (T kf).2.2.2 = false := by rw [hT]
  refine va_put (ref := ref) (C := C) (T := T) (N := N) (ci := ci) (index := idx) (ty := ty) hok.1 hok.2.1 hok.2.2.2.2.1 hin ty0 hty hnm hok.2.2.2.1 hok.2.2.2.2.2.1 hP (xw_D hok.2.2.2.2.2.2.1 hok.2.2.2.2.2.2.2.1 σ) hS o hg hc kf hk (by rw [e2, e3]; exact hok.2.2.2.2.1 _ hlk) (fun _ h9 => by rw [e1] at h9; exact h9) e4 (by rw [hty kf hk, hd]) hn hf hl9 hdg (fun H1 locs1 hP1 hD1 hS1 => ?_)
  rw [xw_set ho he' hoth] at hP1
  exact k hok H1 locs1 ls hP1 hS1 hl
/-- arrays of numbers -/
theorem go_iald {a : Nat} {j : Int32} (hdg : decode cc pc = .ok (.iaload, 1)) (hp : pc + 1 = pc') (h19 : 19 ≤ a) (hN : a < 136) (hty : aty a = .int) (hin : vp_in j (alen a))
    (k : Go F L own cc nL R ret Q σ pc' lv (.int (σ.2 a j.toNatClampNeg) :: st)) : Go F L own cc nL R ret Q σ pc lv (.int j :: .ref (L.2.1 a) :: st) := by
  subst hp
  intro hok H locs ls hP hS hl
  have hg := xw_get L σ hN
  rw [cell_arr L σ h19] at hg
  have ht := tys_get L (show 14 ≤ a by omega) hN
  rw [hty] at ht
  exact va_iald hok.1 hok.2.1 hok.2.2.2.2.2.1 hP a (a - 14) hg ht hin hdg (k hok H locs ls hP hS hl)
theorem go_bald {a : Nat} {j : Int32} (hdg : decode cc pc = .ok (.baload, 1)) (hp : pc + 1 = pc') (h19 : 19 ≤ a) (hN : a < 136) (hty : aty a = .byte) (hin : vp_in j (alen a))
    (k : Go F L own cc nL R ret Q σ pc' lv (.int (σ.2 a j.toNatClampNeg) :: st)) : Go F L own cc nL R ret Q σ pc lv (.int j :: .ref (L.2.1 a) :: st) := by
  subst hp
  intro hok H locs ls hP hS hl
  have hg := xw_get L σ hN
  rw [cell_arr L σ h19] at hg
  have ht := tys_get L (show 14 ≤ a by omega) hN
  rw [hty] at ht
  exact va_bald hok.1 hok.2.1 hok.2.2.2.2.2.1 hP a (a - 14) hg ht hin hdg (k hok H locs ls hP hS hl)
theorem go_zald {a : Nat} {j : Int32} (hdg : decode cc pc = .ok (.baload, 1)) (hp : pc + 1 = pc') (h19 : 19 ≤ a) (hN : a < 136) (hty : aty a = .boolean) (hin : vp_in j (alen a))
    (k : Go F L own cc nL R ret Q σ pc' lv (.int (σ.2 a j.toNatClampNeg) :: st)) : Go F L own cc nL R ret Q σ pc lv (.int j :: .ref (L.2.1 a) :: st) := by
  subst hp
  intro hok H locs ls hP hS hl
  have hg := xw_get L σ hN
  rw [cell_arr L σ h19] at hg
  have ht := tys_get L (show 14 ≤ a by omega) hN
  rw [hty] at ht
  exact va_zald hok.1 hok.2.1 hok.2.2.2.2.2.1 hP a (a - 14) hg ht hin hdg (k hok H locs ls hP hS hl)
theorem go_iast {a : Nat} {j x : Int32} (hdg : decode cc pc = .ok (.iastore, 1)) (hp : pc + 1 = pc') (h19 : 19 ≤ a) (hN : a < 136) (hty : aty a = .int) (hin : vp_in j (alen a))
    (k : Go F L own cc nL R ret Q (setA σ a j.toNatClampNeg x) pc' lv st) : Go F L own cc nL R ret Q σ pc lv (.int x :: .int j :: .ref (L.2.1 a) :: st) := by
  subst hp
  intro hok H locs ls hP hS hl
  have hg := xw_get L σ hN
  rw [cell_arr L σ h19] at hg
  have ht := tys_get L (show 14 ≤ a by omega) hN
  rw [hty] at ht
  refine va_iast hok.1 hok.2.1 hok.2.2.2.2.2.1 hP (xw_D hok.2.2.2.2.2.2.1 hok.2.2.2.2.2.2.2.1 σ) hS a (a - 14) hg ht hin hdg (fun H1 locs1 hP1 hD1 hS1 => ?_)
  rw [xw_set (σ' := setA σ a j.toNatClampNeg x) hN (by rw [cell_arr L _ h19, setA_same]) (cell_setA L σ a _ x h19)] at hP1
  exact k hok H1 locs1 ls hP1 hS1 hl
theorem go_bast {a : Nat} {j x : Int32} (hdg : decode cc pc = .ok (.bastore, 1)) (hp : pc + 1 = pc') (h19 : 19 ≤ a) (hN : a < 136) (hty : aty a = .byte) (hin : vp_in j (alen a))
    (k : Go F L own cc nL R ret Q (setA σ a j.toNatClampNeg x.toInt8.toInt32) pc' lv st) : Go F L own cc nL R ret Q σ pc lv (.int x :: .int j :: .ref (L.2.1 a) :: st) := by
  subst hp
  intro hok H locs ls hP hS hl
  have hg := xw_get L σ hN
  rw [cell_arr L σ h19] at hg
  have ht := tys_get L (show 14 ≤ a by omega) hN
  rw [hty] at ht
  refine va_bast hok.1 hok.2.1 hok.2.2.2.2.2.1 hP (xw_D hok.2.2.2.2.2.2.1 hok.2.2.2.2.2.2.2.1 σ) hS a (a - 14) hg ht hin hdg (fun H1 locs1 hP1 hD1 hS1 => ?_)
  rw [vp_nar_byte, xw_set (σ' := setA σ a j.toNatClampNeg x.toInt8.toInt32) hN (by rw [cell_arr L _ h19, setA_same]) (cell_setA L σ a _ _ h19)] at hP1
  exact k hok H1 locs1 ls hP1 hS1 hl
theorem go_zast {a : Nat} {j x : Int32} (hdg : decode cc pc = .ok (.bastore, 1)) (hp : pc + 1 = pc') (h19 : 19 ≤ a) (hN : a < 136) (hty : aty a = .boolean) (hin : vp_in j (alen a)) (hz : vp_nar .boolean x = x)
    (k : Go F L own cc nL R ret Q (setA σ a j.toNatClampNeg x) pc' lv st) : Go F L own cc nL R ret Q σ pc lv (.int x :: .int j :: .ref (L.2.1 a) :: st) := by
  subst hp
  intro hok H locs ls hP hS hl
  have hg := xw_get L σ hN
  rw [cell_arr L σ h19] at hg
  have ht := tys_get L (show 14 ≤ a by omega) hN
  rw [hty] at ht
  refine va_zast hok.1 hok.2.1 hok.2.2.2.2.2.1 hP (xw_D hok.2.2.2.2.2.2.1 hok.2.2.2.2.2.2.2.1 σ) hS a (a - 14) hg ht hin hdg (fun H1 locs1 hP1 hD1 hS1 => ?_)
  rw [hz, xw_set (σ' := setA σ a j.toNatClampNeg x) hN (by rw [cell_arr L _ h19, setA_same]) (cell_setA L σ a _ _ h19)] at hP1
  exact k hok H1 locs1 ls hP1 hS1 hl
theorem go_alen {a : Nat} {v : Int32} (hdg : decode cc pc = .ok (.arraylength, 1)) (hp : pc + 1 = pc') (h19 : 19 ≤ a) (hN : a < 136) (hv : Int32.ofNat (alen a) = v)
    (k : Go F L own cc nL R ret Q σ pc' lv (.int v :: st)) : Go F L own cc nL R ret Q σ pc lv (.ref (L.2.1 a) :: st) := by
  subst hp
  intro hok H locs ls hP hS hl
  have hg := xw_get L σ hN
  rw [cell_arr L σ h19] at hg
  have ht := tys_get L (show 14 ≤ a by omega) hN
  exact va_alen hok.1 hok.2.1 hok.2.2.2.2.2.1 hP a (a - 14) hg ht hv hdg (k hok H locs ls hP hS hl)
/-- a row of an array of arrays -/
theorem go_aald {a b : Nat} {j : Int32} (hdg : decode cc pc = .ok (.aaload, 1)) (hp : pc + 1 = pc') (h14 : 14 ≤ a) (hN : a < 19) (hty : ∃ t, aty a = .array t) (hin : vp_in j (xon a)) (hb : xof a = b)
    (k : Go F L own cc nL R ret Q σ pc' lv (.ref (L.2.1 (b + j.toNatClampNeg)) :: st)) : Go F L own cc nL R ret Q σ pc lv (.int j :: .ref (L.2.1 a) :: st) := by
  subst hp
  subst hb
  intro hok H locs ls hP hS hl
  have hg := xw_get L σ (show a < 136 by omega)
  rw [cell_out L σ h14 hN] at hg
  have ht := tys_get L h14 (show a < 136 by omega)
  obtain ⟨t, hty⟩ := hty
  have hlt : j.toNatClampNeg < xon a := Nat.not_le.mp fun q => hin (Or.inr q)
  refine W.aald (v := .ref (L.2.1 (xof a + j.toNatClampNeg))) (ty := .array t) hok.1 hok.2.1 (hP a _ hg) (by rw [hty] at ht; exact (hok.2.2.2.2.2.1.2 _ _ ht).1 (xon a) (fun i => va_rf (if i < xon a then some (L.2.1 (xof a + i)) else none))) rfl (fun q => by cases q) (by show ¬ (j < 0 ∨ (arrV _ _ _).slots.size ≤ _); rw [arrV_size]; exact hin) (by show (arrV _ _ _).slots[_]? = _; rw [arrV_read _ _ hlt]; show some (va_rf (if j.toNatClampNeg < xon a then some (L.2.1 (xof a + j.toNatClampNeg)) else none)) = _; rw [if_pos hlt]; rfl) rfl rfl hdg (k hok H locs ls hP hS hl)
/-- the constant table ABOVE: its reference is carried by a name -/
theorem go_above {idx : Nat} (hdg : decode cc pc = .ok (.getstatic idx, 3)) (hp : pc + 3 = pc') (hlk : Cond.fieldLink own idx "LetterDrawer$Letters" "ABOVE" "[I" ∈ WD)
    (k : ∀ t : Nat, va_T .int t 6 abvF F.2.2.2.2.2.2.2.2.2.1 F.2.2.2.1 F.2.2.2.1.heap → Go F L own cc nL R ret Q σ pc' lv (.ref t :: st)) : Go F L own cc nL R ret Q σ pc lv st := by
  subst hp
  intro hok H locs ls hP hS hl
  obtain ⟨t, hZ, hT⟩ := hok.2.2.2.2.2.2.2.2.2.2.1
  exact va_gets hok.1 hok.2.1 hZ hS hok.2.2.2.1 (hok.2.2.2.2.1 _ hlk) (fun _ h => h) hdg (k t hT hok H locs ls hP hS hl)
theorem go_tld {t : Nat} {j v : Int32} (hT : va_T .int t 6 abvF F.2.2.2.2.2.2.2.2.2.1 F.2.2.2.1 F.2.2.2.1.heap) (hdg : decode cc pc = .ok (.iaload, 1)) (hp : pc + 1 = pc') (hin : vp_in j 6) (hv : abvF j.toNatClampNeg = .int v)
    (k : Go F L own cc nL R ret Q σ pc' lv (.int v :: st)) : Go F L own cc nL R ret Q σ pc lv (.int j :: .ref t :: st) := by
  subst hp
  intro hok H locs ls hP hS hl
  exact va_ti hok.1 hok.2.1 hT hS hin hv hdg (k hok H locs ls hP hS hl)
/-- ends -/
theorem go_iret {post : Int32 → ST → Prop} {v : Int32} (hdg : decode cc pc = .ok (.ireturn, 1)) (hr : ret = some .int) (h : post v σ) : Go F L own cc nL R ret (RI F L post) σ pc lv [.int v] := by
  subst hr
  intro hok H locs ls hP hS hl
  exact W.iret hok.1 hok.2.1 hok.2.2.2.2.2.2.2.2.1 (fun t ht hW => ⟨⟨v, σ, rfl, h, by show va_P _ _ _ t.heap; rw [ht]; exact hP⟩, hS.F ht⟩) hS.2.2 hdg hok.2.2.2.2.2.2.2.2.2.1
theorem go_zret {post : Int32 → ST → Prop} {v : Int32} (hdg : decode cc pc = .ok (.ireturn, 1)) (hr : ret = some .boolean) (hz : narrow .boolean (.int v) = .int v) (h : post v σ) : Go F L own cc nL R ret (RI F L post) σ pc lv [.int v] := by
  subst hr
  intro hok H locs ls hP hS hl
  exact W.zret hok.1 hok.2.1 hok.2.2.2.2.2.2.2.2.1 hz (fun t ht hW => ⟨⟨v, σ, rfl, h, by show va_P _ _ _ t.heap; rw [ht]; exact hP⟩, hS.F ht⟩) hS.2.2 hdg hok.2.2.2.2.2.2.2.2.2.1
theorem go_vret {post : ST → Prop} (hdg : decode cc pc = .ok (.return_, 1)) (hr : ret = none) (h : post σ) : Go F L own cc nL R ret (RV F L post) σ pc lv [] := by
  subst hr
  intro hok H locs ls hP hS hl
  exact W.vret hok.1 hok.2.1 hok.2.2.2.2.2.2.2.2.1 (fun t ht hW => ⟨⟨σ, rfl, h, by show va_P _ _ _ t.heap; rw [ht]; exact hP⟩, hS.F ht⟩) hS.2.2 hdg hok.2.2.2.2.2.2.2.2.2.1
/-- calls -/
theorem go_pre (hok : OKx F L own cc nL R ret) {H : Heap} {locs : List Loc} (hP : va_P L.1 vwCl (xw L σ) H) (hS : va_S F.2.2.2.2.2.2.2.2.2.1 F.2.2.2.1.heap H locs) (av : List Value) : ∀ U : State, U.heap = H → F.2.2.2.1.WarmedH U.vm → va_Pc av (WOK L σ) av.toArray U := fun U hU hW =>
  ⟨rfl, by rw [hU]; exact hP, va_K.moved hW.alike hok.2.2.2.2.2.1, hok.2.2.2.2.2.2.1, by rw [hU]; exact abv_moved hW.alike (abv_narrow (abv_kept hok.2.2.2.2.2.2.2.2.2.2.1 (fun a h1 h2 => hS.2.1 a h1 h2)) hok.2.2.2.2.2.2.2.1)⟩
section GOC
variable {C : String} {y : MethodName} {b2 : ByteArray} {n2 kn idx o ci : Nat} {r2 : Option FieldType} {rm : Room} {As rest : List Value}
theorem go_cb (hok : OKx F L own cc nL R ret) (hm : Cond.methodLink own idx y ∈ WD) (hcl : Cond.initialized y.cls ∈ WD) (hco : Cond.code y b2 n2 r2 ∈ WD) (hd : y.cls ≠ "java/lang/invoke/MethodHandle" ∧ y.cls ≠ "java/lang/invoke/VarHandle" ∧ (parseMethodDescriptor y.desc).map (fun d => d.parameters.length) = some kn) (hR : rm.frames + 1 ≤ R.frames ∧ 8 + (n2 + 11) + rm.locals ≤ R.locals) (h0 : rm.cells = 0 ∧ rm.slots = 0) : CallB R F.2.2.2.1 F.2.2.2.2.2.1 own idx y b2 n2 r2 (Cond.code y b2 n2 r2 :: WD) rm 0 0 kn :=
  callB_of kn hok.2.2.2.2.1 (wd_goodIn y b2 n2 r2 hco) rfl h0.1 h0.2 (hok.2.2.2.2.1 _ hcl) (hok.2.2.2.2.1 _ hm) hd hR
theorem go_cvi {post : Int32 → ST → Prop} (lk : LkV own idx C y b2 n2 r2 kn) (hc : CtI F.2.1 L y b2 n2 r2 rm (.ref (L.2.1 o) :: As) σ post) (hst : st = As.reverse ++ .ref (L.2.1 o) :: rest) (hAs : As.length = kn) (hrest : (rest.map fun v => v.category).sum ≤ 8) (ho : o < 14) {fs : List Value} {cq : vw_C} (he : cellOf L σ o = .inr (ci, fs)) (hci : vwCl[ci]? = some cq) (hcq : cq.1 = C) (hR : rm.frames + 1 ≤ R.frames ∧ 8 + (n2 + 11) + rm.locals ≤ R.locals) (h0 : rm.cells = 0 ∧ rm.slots = 0) (hdg : decode cc pc = .ok (.invokevirtual idx, 3)) (hp : pc + 3 = pc')
    (k : ∀ (r : Int32) (σ' : ST), post r σ' → Go F L own cc nL R ret Q σ' pc' lv (.int r :: rest)) : Go F L own cc nL R ret Q σ pc lv st := by
  subst hp
  subst hst
  subst hcq
  intro hok H locs ls hP hS hl
  obtain ⟨l1, l2, l3, l4, l5, l6, l7, l8, l9⟩ := lk
  have hg := xw_get L σ (show o < 136 by omega)
  rw [he] at hg
  refine va_calli (va_runV (As := As) (rest := rest) ⟨hok.1, hok.2.1, hok.2.2.1, hok.2.2.2.1, hok.2.2.2.2.1⟩ hc ⟨go_cb hok l1 (l6 ▸ l4) l5 ⟨l7, l8, l9⟩ hR h0, hok.2.2.2.2.1 _ l2, hok.2.2.2.2.1 _ l3⟩ ⟨WOK_blind L σ _, va_recv hok.2.2.2.2.2.1 hP hci hg, go_pre hok hP hS _⟩ rfl hAs hl.1 rfl (lv_room hrest) hdg ⟨hok.2.2.2.2.2.2.2.2.2.2.2.1, hok.2.2.2.2.2.2.2.2.2.2.2.2⟩) hS (fun q _ h => hok.2.2.2.2.2.2.2.1 q h) hok.2.2.2.2.2.2.2.1 (fun r σ' t H1 locs1 ht hvm hw hB hz1 hk1 hS1 => ?_)
  rw [ht] at hB
  exact k r σ' hw hok H1 locs1 ls hB hS1 hl
theorem go_cvv {post : ST → Prop} (lk : LkV own idx C y b2 n2 r2 kn) (hc : CtV F.2.1 L y b2 n2 r2 rm (.ref (L.2.1 o) :: As) σ post) (hst : st = As.reverse ++ .ref (L.2.1 o) :: rest) (hAs : As.length = kn) (hrest : (rest.map fun v => v.category).sum ≤ 8) (ho : o < 14) {fs : List Value} {cq : vw_C} (he : cellOf L σ o = .inr (ci, fs)) (hci : vwCl[ci]? = some cq) (hcq : cq.1 = C) (hR : rm.frames + 1 ≤ R.frames ∧ 8 + (n2 + 11) + rm.locals ≤ R.locals) (h0 : rm.cells = 0 ∧ rm.slots = 0) (hdg : decode cc pc = .ok (.invokevirtual idx, 3)) (hp : pc + 3 = pc')
    (k : ∀ (σ' : ST), post σ' → Go F L own cc nL R ret Q σ' pc' lv rest) : Go F L own cc nL R ret Q σ pc lv st := by
  subst hp
  subst hst
  subst hcq
  intro hok H locs ls hP hS hl
  obtain ⟨l1, l2, l3, l4, l5, l6, l7, l8, l9⟩ := lk
  have hg := xw_get L σ (show o < 136 by omega)
  rw [he] at hg
  refine va_callv (va_runV (As := As) (rest := rest) ⟨hok.1, hok.2.1, hok.2.2.1, hok.2.2.2.1, hok.2.2.2.2.1⟩ hc ⟨go_cb hok l1 (l6 ▸ l4) l5 ⟨l7, l8, l9⟩ hR h0, hok.2.2.2.2.1 _ l2, hok.2.2.2.2.1 _ l3⟩ ⟨WOK_blind L σ _, va_recv hok.2.2.2.2.2.1 hP hci hg, go_pre hok hP hS _⟩ rfl hAs hl.1 rfl (lv_room hrest) hdg ⟨hok.2.2.2.2.2.2.2.2.2.2.2.1, hok.2.2.2.2.2.2.2.2.2.2.2.2⟩) hS (fun q _ h => hok.2.2.2.2.2.2.2.1 q h) hok.2.2.2.2.2.2.2.1 (fun σ' t H1 locs1 ht hvm hw hB hz1 hk1 hS1 => ?_)
  rw [ht] at hB
  exact k σ' hw hok H1 locs1 ls hB hS1 hl
theorem go_csi {post : Int32 → ST → Prop} (lk : LkS own idx y b2 n2 r2 kn) (hc : CtI F.2.1 L y b2 n2 r2 rm As σ post) (hst : st = As.reverse ++ rest) (hAs : As.length = kn) (hrest : (rest.map fun v => v.category).sum ≤ 8) (hR : rm.frames + 1 ≤ R.frames ∧ 8 + (n2 + 11) + rm.locals ≤ R.locals) (h0 : rm.cells = 0 ∧ rm.slots = 0) (hdg : decode cc pc = .ok (.invokestatic idx, 3)) (hp : pc + 3 = pc')
    (k : ∀ (r : Int32) (σ' : ST), post r σ' → Go F L own cc nL R ret Q σ' pc' lv (.int r :: rest)) : Go F L own cc nL R ret Q σ pc lv st := by
  subst hp
  subst hst
  intro hok H locs ls hP hS hl
  obtain ⟨l1, l2, l4, l5, l7, l8, l9⟩ := lk
  refine va_calli (va_runS (As := As) (rest := rest) ⟨hok.1, hok.2.1, hok.2.2.1, hok.2.2.2.1, hok.2.2.2.2.1⟩ hc ⟨go_cb hok l1 l4 l5 ⟨l7, l8, l9⟩ hR h0, hok.2.2.2.2.1 _ l2⟩ ⟨WOK_blind L σ _, go_pre hok hP hS _⟩ rfl hAs hl.1 rfl (lv_room hrest) hdg ⟨hok.2.2.2.2.2.2.2.2.2.2.2.1, hok.2.2.2.2.2.2.2.2.2.2.2.2⟩) hS (fun q _ h => hok.2.2.2.2.2.2.2.1 q h) hok.2.2.2.2.2.2.2.1 (fun r σ' t H1 locs1 ht hvm hw hB hz1 hk1 hS1 => ?_)
  rw [ht] at hB
  exact k r σ' hw hok H1 locs1 ls hB hS1 hl
end GOC
theorem go_max {idx : Nat} {x y : Int32} (hdg : decode cc pc = .ok (.invokestatic idx, 3)) (hp : pc + 3 = pc') (hlk : Cond.methodLink own idx Lib.Math.max.name ∈ WD) (hw : (st.map fun v => v.category).sum + 13 ≤ R.locals) (hf : 1 ≤ R.frames)
    (k : Go F L own cc nL R ret Q σ pc' lv (.int (if x < y then y else x) :: st)) : Go F L own cc nL R ret Q σ pc lv (.int y :: .int x :: st) := by
  subst hp
  intro hok H locs ls hP hS hl
  exact va_mmax hok.1 hok.2.1 (hok.2.2.1.trans hl.1.symm) hok.2.2.2.1 (hok.2.2.2.2.1 _ hlk) (hok.2.2.2.2.1 _ sm_Lib_Math_max_name) (hok.2.2.2.2.1 _ ini_java_lang_Math) (hok.2.2.2.2.1 _ co_Lib_Math_max_name) hf hw hok.2.2.2.2.2.2.2.2.2.2.2.1 hok.2.2.2.2.2.2.2.2.2.2.2.2 hdg (k hok H locs ls hP hS hl)
theorem go_min {idx : Nat} {x y : Int32} (hdg : decode cc pc = .ok (.invokestatic idx, 3)) (hp : pc + 3 = pc') (hlk : Cond.methodLink own idx Lib.Math.min.name ∈ WD) (hw : (st.map fun v => v.category).sum + 13 ≤ R.locals) (hf : 1 ≤ R.frames)
    (k : Go F L own cc nL R ret Q σ pc' lv (.int (if y < x then y else x) :: st)) : Go F L own cc nL R ret Q σ pc lv (.int y :: .int x :: st) := by
  subst hp
  intro hok H locs ls hP hS hl
  exact va_mmin hok.1 hok.2.1 (hok.2.2.1.trans hl.1.symm) hok.2.2.2.1 (hok.2.2.2.2.1 _ hlk) (hok.2.2.2.2.1 _ sm_Lib_Math_min_name) (hok.2.2.2.2.1 _ ini_java_lang_Math) (hok.2.2.2.2.1 _ co_Lib_Math_min_name) hf hw hok.2.2.2.2.2.2.2.2.2.2.2.1 hok.2.2.2.2.2.2.2.2.2.2.2.2 hdg (k hok H locs ls hP hS hl)
end GOR

section GOF
variable {F : FX} {L : WL} {own : String} {cc : ByteArray} {nL : Nat} {R : Room} {ret : Option FieldType} {Q : State → Prop} {σ : ST} {pc pc' : Nat} {lv : List (Nat × Value)} {st : List Value}
theorem gf_0_people {idx : Nat} (hdg : decode cc pc = .ok (.getfield idx, 3)) (hp : pc + 3 = pc') (hlk : Cond.fieldLink own idx "LetterDrawer" "people" "LLetterDrawer$People;" ∈ WD) (k : Go F L own cc nL R ret Q σ pc' lv (.ref (L.2.1 1) :: st)) : Go F L own cc nL R ret Q σ pc lv (.ref (L.2.1 0) :: st) :=
  go_get (C := RX11) (T := TX11) (N := 14) (ci := 11) (kf := 0) inlX11 rfl hdg hp hlk rfl (by decide) (by decide) rfl rfl k
theorem gf_0_letters {idx : Nat} (hdg : decode cc pc = .ok (.getfield idx, 3)) (hp : pc + 3 = pc') (hlk : Cond.fieldLink own idx "LetterDrawer" "letters" "LLetterDrawer$Letters;" ∈ WD) (k : Go F L own cc nL R ret Q σ pc' lv (.ref (L.2.1 2) :: st)) : Go F L own cc nL R ret Q σ pc lv (.ref (L.2.1 0) :: st) :=
  go_get (C := RX11) (T := TX11) (N := 14) (ci := 11) (kf := 1) inlX11 rfl hdg hp hlk rfl (by decide) (by decide) rfl rfl k
theorem gf_0_calendar {idx : Nat} (hdg : decode cc pc = .ok (.getfield idx, 3)) (hp : pc + 3 = pc') (hlk : Cond.fieldLink own idx "LetterDrawer" "calendar" "LLetterDrawer$Calendar;" ∈ WD) (k : Go F L own cc nL R ret Q σ pc' lv (.ref (L.2.1 3) :: st)) : Go F L own cc nL R ret Q σ pc lv (.ref (L.2.1 0) :: st) :=
  go_get (C := RX11) (T := TX11) (N := 14) (ci := 11) (kf := 2) inlX11 rfl hdg hp hlk rfl (by decide) (by decide) rfl rfl k
theorem gf_0_posts {idx : Nat} (hdg : decode cc pc = .ok (.getfield idx, 3)) (hp : pc + 3 = pc') (hlk : Cond.fieldLink own idx "LetterDrawer" "posts" "LLetterDrawer$Posts;" ∈ WD) (k : Go F L own cc nL R ret Q σ pc' lv (.ref (L.2.1 4) :: st)) : Go F L own cc nL R ret Q σ pc lv (.ref (L.2.1 0) :: st) :=
  go_get (C := RX11) (T := TX11) (N := 14) (ci := 11) (kf := 3) inlX11 rfl hdg hp hlk rfl (by decide) (by decide) rfl rfl k
theorem gf_0_hands {idx : Nat} (hdg : decode cc pc = .ok (.getfield idx, 3)) (hp : pc + 3 = pc') (hlk : Cond.fieldLink own idx "LetterDrawer" "hands" "LLetterDrawer$Hands;" ∈ WD) (k : Go F L own cc nL R ret Q σ pc' lv (.ref (L.2.1 5) :: st)) : Go F L own cc nL R ret Q σ pc lv (.ref (L.2.1 0) :: st) :=
  go_get (C := RX11) (T := TX11) (N := 14) (ci := 11) (kf := 4) inlX11 rfl hdg hp hlk rfl (by decide) (by decide) rfl rfl k
theorem gf_0_tape {idx : Nat} (hdg : decode cc pc = .ok (.getfield idx, 3)) (hp : pc + 3 = pc') (hlk : Cond.fieldLink own idx "LetterDrawer" "tape" "LLetterDrawer$Tape;" ∈ WD) (k : Go F L own cc nL R ret Q σ pc' lv (.ref (L.2.1 6) :: st)) : Go F L own cc nL R ret Q σ pc lv (.ref (L.2.1 0) :: st) :=
  go_get (C := RX11) (T := TX11) (N := 14) (ci := 11) (kf := 5) inlX11 rfl hdg hp hlk rfl (by decide) (by decide) rfl rfl k
theorem gf_0_reader {idx : Nat} (hdg : decode cc pc = .ok (.getfield idx, 3)) (hp : pc + 3 = pc') (hlk : Cond.fieldLink own idx "LetterDrawer" "reader" "LLetterDrawer$MarkReader;" ∈ WD) (k : Go F L own cc nL R ret Q σ pc' lv (.ref (L.2.1 7) :: st)) : Go F L own cc nL R ret Q σ pc lv (.ref (L.2.1 0) :: st) :=
  go_get (C := RX11) (T := TX11) (N := 14) (ci := 11) (kf := 6) inlX11 rfl hdg hp hlk rfl (by decide) (by decide) rfl rfl k
theorem gf_0_printer {idx : Nat} (hdg : decode cc pc = .ok (.getfield idx, 3)) (hp : pc + 3 = pc') (hlk : Cond.fieldLink own idx "LetterDrawer" "printer" "LLetterDrawer$Printer;" ∈ WD) (k : Go F L own cc nL R ret Q σ pc' lv (.ref (L.2.1 8) :: st)) : Go F L own cc nL R ret Q σ pc lv (.ref (L.2.1 0) :: st) :=
  go_get (C := RX11) (T := TX11) (N := 14) (ci := 11) (kf := 7) inlX11 rfl hdg hp hlk rfl (by decide) (by decide) rfl rfl k
theorem gf_0_someWords {idx : Nat} (hdg : decode cc pc = .ok (.getfield idx, 3)) (hp : pc + 3 = pc') (hlk : Cond.fieldLink own idx "LetterDrawer" "someWords" "LLetterDrawer$WordRow;" ∈ WD) (k : Go F L own cc nL R ret Q σ pc' lv (.ref (L.2.1 9) :: st)) : Go F L own cc nL R ret Q σ pc lv (.ref (L.2.1 0) :: st) :=
  go_get (C := RX11) (T := TX11) (N := 14) (ci := 11) (kf := 8) inlX11 rfl hdg hp hlk rfl (by decide) (by decide) rfl rfl k
theorem gf_0_otherWords {idx : Nat} (hdg : decode cc pc = .ok (.getfield idx, 3)) (hp : pc + 3 = pc') (hlk : Cond.fieldLink own idx "LetterDrawer" "otherWords" "LLetterDrawer$WordRow;" ∈ WD) (k : Go F L own cc nL R ret Q σ pc' lv (.ref (L.2.1 10) :: st)) : Go F L own cc nL R ret Q σ pc lv (.ref (L.2.1 0) :: st) :=
  go_get (C := RX11) (T := TX11) (N := 14) (ci := 11) (kf := 9) inlX11 rfl hdg hp hlk rfl (by decide) (by decide) rfl rfl k
theorem gf_0_sequence {idx : Nat} (hdg : decode cc pc = .ok (.getfield idx, 3)) (hp : pc + 3 = pc') (hlk : Cond.fieldLink own idx "LetterDrawer" "sequence" "LLetterDrawer$Sequence;" ∈ WD) (k : Go F L own cc nL R ret Q σ pc' lv (.ref (L.2.1 11) :: st)) : Go F L own cc nL R ret Q σ pc lv (.ref (L.2.1 0) :: st) :=
  go_get (C := RX11) (T := TX11) (N := 14) (ci := 11) (kf := 10) inlX11 rfl hdg hp hlk rfl (by decide) (by decide) rfl rfl k
theorem gf_0_trays {idx : Nat} (hdg : decode cc pc = .ok (.getfield idx, 3)) (hp : pc + 3 = pc') (hlk : Cond.fieldLink own idx "LetterDrawer" "trays" "LLetterDrawer$Trays;" ∈ WD) (k : Go F L own cc nL R ret Q σ pc' lv (.ref (L.2.1 12) :: st)) : Go F L own cc nL R ret Q σ pc lv (.ref (L.2.1 0) :: st) :=
  go_get (C := RX11) (T := TX11) (N := 14) (ci := 11) (kf := 11) inlX11 rfl hdg hp hlk rfl (by decide) (by decide) rfl rfl k
theorem gf_0_faultKind {idx : Nat} (hdg : decode cc pc = .ok (.getfield idx, 3)) (hp : pc + 3 = pc') (hlk : Cond.fieldLink own idx "LetterDrawer" "faultKind" "I" ∈ WD) (k : Go F L own cc nL R ret Q σ pc' lv (.int (σ.1 0) :: st)) : Go F L own cc nL R ret Q σ pc lv (.ref (L.2.1 0) :: st) :=
  go_get (C := RX11) (T := TX11) (N := 14) (ci := 11) (kf := 12) inlX11 rfl hdg hp hlk rfl (by decide) (by decide) rfl rfl k
theorem pf_0_faultKind {idx : Nat} {v : Int32} (hdg : decode cc pc = .ok (.putfield idx, 3)) (hp : pc + 3 = pc') (hlk : Cond.fieldLink own idx "LetterDrawer" "faultKind" "I" ∈ WD) (k : Go F L own cc nL R ret Q (setI σ 0 v) pc' lv st) : Go F L own cc nL R ret Q σ pc lv (.int v :: .ref (L.2.1 0) :: st) :=
  go_put (C := RX11) (T := TX11) (N := 14) (ci := 11) (kf := 12) (ty := .int) inlX11 tyX11 tyX11_ok nmX11 rfl hdg hp hlk rfl (by decide) (by decide) rfl rfl rfl rfl (Nat.le_of_ble_eq_true rfl) rfl (cell_setI L σ 0 v) k
theorem gf_0_faultPlace {idx : Nat} (hdg : decode cc pc = .ok (.getfield idx, 3)) (hp : pc + 3 = pc') (hlk : Cond.fieldLink own idx "LetterDrawer" "faultPlace" "I" ∈ WD) (k : Go F L own cc nL R ret Q σ pc' lv (.int (σ.1 1) :: st)) : Go F L own cc nL R ret Q σ pc lv (.ref (L.2.1 0) :: st) :=
  go_get (C := RX11) (T := TX11) (N := 14) (ci := 11) (kf := 13) inlX11 rfl hdg hp hlk rfl (by decide) (by decide) rfl rfl k
theorem pf_0_faultPlace {idx : Nat} {v : Int32} (hdg : decode cc pc = .ok (.putfield idx, 3)) (hp : pc + 3 = pc') (hlk : Cond.fieldLink own idx "LetterDrawer" "faultPlace" "I" ∈ WD) (k : Go F L own cc nL R ret Q (setI σ 1 v) pc' lv st) : Go F L own cc nL R ret Q σ pc lv (.int v :: .ref (L.2.1 0) :: st) :=
  go_put (C := RX11) (T := TX11) (N := 14) (ci := 11) (kf := 13) (ty := .int) inlX11 tyX11 tyX11_ok nmX11 rfl hdg hp hlk rfl (by decide) (by decide) rfl rfl rfl rfl (Nat.le_of_ble_eq_true rfl) rfl (cell_setI L σ 1 v) k
theorem gf_1_names {idx : Nat} (hdg : decode cc pc = .ok (.getfield idx, 3)) (hp : pc + 3 = pc') (hlk : Cond.fieldLink own idx "LetterDrawer$People" "names" "[I" ∈ WD) (k : Go F L own cc nL R ret Q σ pc' lv (.ref (L.2.1 19) :: st)) : Go F L own cc nL R ret Q σ pc lv (.ref (L.2.1 1) :: st) :=
  go_get (C := RX4) (T := TX4) (N := 6) (ci := 4) (kf := 0) inlX4 rfl hdg hp hlk rfl (by decide) (by decide) rfl rfl k
theorem gf_1_places {idx : Nat} (hdg : decode cc pc = .ok (.getfield idx, 3)) (hp : pc + 3 = pc') (hlk : Cond.fieldLink own idx "LetterDrawer$People" "places" "[I" ∈ WD) (k : Go F L own cc nL R ret Q σ pc' lv (.ref (L.2.1 20) :: st)) : Go F L own cc nL R ret Q σ pc lv (.ref (L.2.1 1) :: st) :=
  go_get (C := RX4) (T := TX4) (N := 6) (ci := 4) (kf := 1) inlX4 rfl hdg hp hlk rfl (by decide) (by decide) rfl rfl k
theorem gf_1_firsts {idx : Nat} (hdg : decode cc pc = .ok (.getfield idx, 3)) (hp : pc + 3 = pc') (hlk : Cond.fieldLink own idx "LetterDrawer$People" "firsts" "[I" ∈ WD) (k : Go F L own cc nL R ret Q σ pc' lv (.ref (L.2.1 21) :: st)) : Go F L own cc nL R ret Q σ pc lv (.ref (L.2.1 1) :: st) :=
  go_get (C := RX4) (T := TX4) (N := 6) (ci := 4) (kf := 2) inlX4 rfl hdg hp hlk rfl (by decide) (by decide) rfl rfl k
theorem gf_1_lasts {idx : Nat} (hdg : decode cc pc = .ok (.getfield idx, 3)) (hp : pc + 3 = pc') (hlk : Cond.fieldLink own idx "LetterDrawer$People" "lasts" "[I" ∈ WD) (k : Go F L own cc nL R ret Q σ pc' lv (.ref (L.2.1 22) :: st)) : Go F L own cc nL R ret Q σ pc lv (.ref (L.2.1 1) :: st) :=
  go_get (C := RX4) (T := TX4) (N := 6) (ci := 4) (kf := 3) inlX4 rfl hdg hp hlk rfl (by decide) (by decide) rfl rfl k
theorem gf_1_known {idx : Nat} (hdg : decode cc pc = .ok (.getfield idx, 3)) (hp : pc + 3 = pc') (hlk : Cond.fieldLink own idx "LetterDrawer$People" "known" "[I" ∈ WD) (k : Go F L own cc nL R ret Q σ pc' lv (.ref (L.2.1 23) :: st)) : Go F L own cc nL R ret Q σ pc lv (.ref (L.2.1 1) :: st) :=
  go_get (C := RX4) (T := TX4) (N := 6) (ci := 4) (kf := 4) inlX4 rfl hdg hp hlk rfl (by decide) (by decide) rfl rfl k
theorem gf_1_size {idx : Nat} (hdg : decode cc pc = .ok (.getfield idx, 3)) (hp : pc + 3 = pc') (hlk : Cond.fieldLink own idx "LetterDrawer$People" "size" "I" ∈ WD) (k : Go F L own cc nL R ret Q σ pc' lv (.int (σ.1 2) :: st)) : Go F L own cc nL R ret Q σ pc lv (.ref (L.2.1 1) :: st) :=
  go_get (C := RX4) (T := TX4) (N := 6) (ci := 4) (kf := 5) inlX4 rfl hdg hp hlk rfl (by decide) (by decide) rfl rfl k
theorem pf_1_size {idx : Nat} {v : Int32} (hdg : decode cc pc = .ok (.putfield idx, 3)) (hp : pc + 3 = pc') (hlk : Cond.fieldLink own idx "LetterDrawer$People" "size" "I" ∈ WD) (k : Go F L own cc nL R ret Q (setI σ 2 v) pc' lv st) : Go F L own cc nL R ret Q σ pc lv (.int v :: .ref (L.2.1 1) :: st) :=
  go_put (C := RX4) (T := TX4) (N := 6) (ci := 4) (kf := 5) (ty := .int) inlX4 tyX4 tyX4_ok nmX4 rfl hdg hp hlk rfl (by decide) (by decide) rfl rfl rfl rfl (Nat.le_of_ble_eq_true rfl) rfl (cell_setI L σ 2 v) k
theorem gf_2_kinds {idx : Nat} (hdg : decode cc pc = .ok (.getfield idx, 3)) (hp : pc + 3 = pc') (hlk : Cond.fieldLink own idx "LetterDrawer$Letters" "kinds" "[I" ∈ WD) (k : Go F L own cc nL R ret Q σ pc' lv (.ref (L.2.1 24) :: st)) : Go F L own cc nL R ret Q σ pc lv (.ref (L.2.1 2) :: st) :=
  go_get (C := RX2) (T := TX2) (N := 11) (ci := 2) (kf := 0) inlX2 rfl hdg hp hlk rfl (by decide) (by decide) rfl rfl k
theorem gf_2_writers {idx : Nat} (hdg : decode cc pc = .ok (.getfield idx, 3)) (hp : pc + 3 = pc') (hlk : Cond.fieldLink own idx "LetterDrawer$Letters" "writers" "[I" ∈ WD) (k : Go F L own cc nL R ret Q σ pc' lv (.ref (L.2.1 25) :: st)) : Go F L own cc nL R ret Q σ pc lv (.ref (L.2.1 2) :: st) :=
  go_get (C := RX2) (T := TX2) (N := 11) (ci := 2) (kf := 1) inlX2 rfl hdg hp hlk rfl (by decide) (by decide) rfl rfl k
theorem gf_2_readers {idx : Nat} (hdg : decode cc pc = .ok (.getfield idx, 3)) (hp : pc + 3 = pc') (hlk : Cond.fieldLink own idx "LetterDrawer$Letters" "readers" "[I" ∈ WD) (k : Go F L own cc nL R ret Q σ pc' lv (.ref (L.2.1 26) :: st)) : Go F L own cc nL R ret Q σ pc lv (.ref (L.2.1 2) :: st) :=
  go_get (C := RX2) (T := TX2) (N := 11) (ci := 2) (kf := 2) inlX2 rfl hdg hp hlk rfl (by decide) (by decide) rfl rfl k
theorem gf_2_places {idx : Nat} (hdg : decode cc pc = .ok (.getfield idx, 3)) (hp : pc + 3 = pc') (hlk : Cond.fieldLink own idx "LetterDrawer$Letters" "places" "[I" ∈ WD) (k : Go F L own cc nL R ret Q σ pc' lv (.ref (L.2.1 27) :: st)) : Go F L own cc nL R ret Q σ pc lv (.ref (L.2.1 2) :: st) :=
  go_get (C := RX2) (T := TX2) (N := 11) (ci := 2) (kf := 3) inlX2 rfl hdg hp hlk rfl (by decide) (by decide) rfl rfl k
theorem gf_2_leasts {idx : Nat} (hdg : decode cc pc = .ok (.getfield idx, 3)) (hp : pc + 3 = pc') (hlk : Cond.fieldLink own idx "LetterDrawer$Letters" "leasts" "[I" ∈ WD) (k : Go F L own cc nL R ret Q σ pc' lv (.ref (L.2.1 28) :: st)) : Go F L own cc nL R ret Q σ pc lv (.ref (L.2.1 2) :: st) :=
  go_get (C := RX2) (T := TX2) (N := 11) (ci := 2) (kf := 4) inlX2 rfl hdg hp hlk rfl (by decide) (by decide) rfl rfl k
theorem gf_2_greatests {idx : Nat} (hdg : decode cc pc = .ok (.getfield idx, 3)) (hp : pc + 3 = pc') (hlk : Cond.fieldLink own idx "LetterDrawer$Letters" "greatests" "[I" ∈ WD) (k : Go F L own cc nL R ret Q σ pc' lv (.ref (L.2.1 29) :: st)) : Go F L own cc nL R ret Q σ pc lv (.ref (L.2.1 2) :: st) :=
  go_get (C := RX2) (T := TX2) (N := 11) (ci := 2) (kf := 5) inlX2 rfl hdg hp hlk rfl (by decide) (by decide) rfl rfl k
theorem gf_2_weekdays {idx : Nat} (hdg : decode cc pc = .ok (.getfield idx, 3)) (hp : pc + 3 = pc') (hlk : Cond.fieldLink own idx "LetterDrawer$Letters" "weekdays" "[I" ∈ WD) (k : Go F L own cc nL R ret Q σ pc' lv (.ref (L.2.1 30) :: st)) : Go F L own cc nL R ret Q σ pc lv (.ref (L.2.1 2) :: st) :=
  go_get (C := RX2) (T := TX2) (N := 11) (ci := 2) (kf := 6) inlX2 rfl hdg hp hlk rfl (by decide) (by decide) rfl rfl k
theorem gf_2_founds {idx : Nat} (hdg : decode cc pc = .ok (.getfield idx, 3)) (hp : pc + 3 = pc') (hlk : Cond.fieldLink own idx "LetterDrawer$Letters" "founds" "[I" ∈ WD) (k : Go F L own cc nL R ret Q σ pc' lv (.ref (L.2.1 31) :: st)) : Go F L own cc nL R ret Q σ pc lv (.ref (L.2.1 2) :: st) :=
  go_get (C := RX2) (T := TX2) (N := 11) (ci := 2) (kf := 7) inlX2 rfl hdg hp hlk rfl (by decide) (by decide) rfl rfl k
theorem gf_2_sizes {idx : Nat} (hdg : decode cc pc = .ok (.getfield idx, 3)) (hp : pc + 3 = pc') (hlk : Cond.fieldLink own idx "LetterDrawer$Letters" "sizes" "[I" ∈ WD) (k : Go F L own cc nL R ret Q σ pc' lv (.ref (L.2.1 32) :: st)) : Go F L own cc nL R ret Q σ pc lv (.ref (L.2.1 2) :: st) :=
  go_get (C := RX2) (T := TX2) (N := 11) (ci := 2) (kf := 8) inlX2 rfl hdg hp hlk rfl (by decide) (by decide) rfl rfl k
theorem gf_2_texts {idx : Nat} (hdg : decode cc pc = .ok (.getfield idx, 3)) (hp : pc + 3 = pc') (hlk : Cond.fieldLink own idx "LetterDrawer$Letters" "texts" "[[B" ∈ WD) (k : Go F L own cc nL R ret Q σ pc' lv (.ref (L.2.1 14) :: st)) : Go F L own cc nL R ret Q σ pc lv (.ref (L.2.1 2) :: st) :=
  go_get (C := RX2) (T := TX2) (N := 11) (ci := 2) (kf := 9) inlX2 rfl hdg hp hlk rfl (by decide) (by decide) rfl rfl k
theorem gf_2_size {idx : Nat} (hdg : decode cc pc = .ok (.getfield idx, 3)) (hp : pc + 3 = pc') (hlk : Cond.fieldLink own idx "LetterDrawer$Letters" "size" "I" ∈ WD) (k : Go F L own cc nL R ret Q σ pc' lv (.int (σ.1 3) :: st)) : Go F L own cc nL R ret Q σ pc lv (.ref (L.2.1 2) :: st) :=
  go_get (C := RX2) (T := TX2) (N := 11) (ci := 2) (kf := 10) inlX2 rfl hdg hp hlk rfl (by decide) (by decide) rfl rfl k
theorem pf_2_size {idx : Nat} {v : Int32} (hdg : decode cc pc = .ok (.putfield idx, 3)) (hp : pc + 3 = pc') (hlk : Cond.fieldLink own idx "LetterDrawer$Letters" "size" "I" ∈ WD) (k : Go F L own cc nL R ret Q (setI σ 3 v) pc' lv st) : Go F L own cc nL R ret Q σ pc lv (.int v :: .ref (L.2.1 2) :: st) :=
  go_put (C := RX2) (T := TX2) (N := 11) (ci := 2) (kf := 10) (ty := .int) inlX2 tyX2 tyX2_ok nmX2 rfl hdg hp hlk rfl (by decide) (by decide) rfl rfl rfl rfl (Nat.le_of_ble_eq_true rfl) rfl (cell_setI L σ 3 v) k
theorem gf_3_lows {idx : Nat} (hdg : decode cc pc = .ok (.getfield idx, 3)) (hp : pc + 3 = pc') (hlk : Cond.fieldLink own idx "LetterDrawer$Calendar" "lows" "[I" ∈ WD) (k : Go F L own cc nL R ret Q σ pc' lv (.ref (L.2.1 33) :: st)) : Go F L own cc nL R ret Q σ pc lv (.ref (L.2.1 3) :: st) :=
  go_get (C := RX0) (T := TX0) (N := 9) (ci := 0) (kf := 0) inlX0 rfl hdg hp hlk rfl (by decide) (by decide) rfl rfl k
theorem gf_3_highs {idx : Nat} (hdg : decode cc pc = .ok (.getfield idx, 3)) (hp : pc + 3 = pc') (hlk : Cond.fieldLink own idx "LetterDrawer$Calendar" "highs" "[I" ∈ WD) (k : Go F L own cc nL R ret Q σ pc' lv (.ref (L.2.1 34) :: st)) : Go F L own cc nL R ret Q σ pc lv (.ref (L.2.1 3) :: st) :=
  go_get (C := RX0) (T := TX0) (N := 9) (ci := 0) (kf := 1) inlX0 rfl hdg hp hlk rfl (by decide) (by decide) rfl rfl k
theorem gf_3_size {idx : Nat} (hdg : decode cc pc = .ok (.getfield idx, 3)) (hp : pc + 3 = pc') (hlk : Cond.fieldLink own idx "LetterDrawer$Calendar" "size" "I" ∈ WD) (k : Go F L own cc nL R ret Q σ pc' lv (.int (σ.1 4) :: st)) : Go F L own cc nL R ret Q σ pc lv (.ref (L.2.1 3) :: st) :=
  go_get (C := RX0) (T := TX0) (N := 9) (ci := 0) (kf := 2) inlX0 rfl hdg hp hlk rfl (by decide) (by decide) rfl rfl k
theorem pf_3_size {idx : Nat} {v : Int32} (hdg : decode cc pc = .ok (.putfield idx, 3)) (hp : pc + 3 = pc') (hlk : Cond.fieldLink own idx "LetterDrawer$Calendar" "size" "I" ∈ WD) (k : Go F L own cc nL R ret Q (setI σ 4 v) pc' lv st) : Go F L own cc nL R ret Q σ pc lv (.int v :: .ref (L.2.1 3) :: st) :=
  go_put (C := RX0) (T := TX0) (N := 9) (ci := 0) (kf := 2) (ty := .int) inlX0 tyX0 tyX0_ok nmX0 rfl hdg hp hlk rfl (by decide) (by decide) rfl rfl rfl rfl (Nat.le_of_ble_eq_true rfl) rfl (cell_setI L σ 4 v) k
theorem gf_3_froms {idx : Nat} (hdg : decode cc pc = .ok (.getfield idx, 3)) (hp : pc + 3 = pc') (hlk : Cond.fieldLink own idx "LetterDrawer$Calendar" "froms" "[I" ∈ WD) (k : Go F L own cc nL R ret Q σ pc' lv (.ref (L.2.1 35) :: st)) : Go F L own cc nL R ret Q σ pc lv (.ref (L.2.1 3) :: st) :=
  go_get (C := RX0) (T := TX0) (N := 9) (ci := 0) (kf := 3) inlX0 rfl hdg hp hlk rfl (by decide) (by decide) rfl rfl k
theorem gf_3_tos {idx : Nat} (hdg : decode cc pc = .ok (.getfield idx, 3)) (hp : pc + 3 = pc') (hlk : Cond.fieldLink own idx "LetterDrawer$Calendar" "tos" "[I" ∈ WD) (k : Go F L own cc nL R ret Q σ pc' lv (.ref (L.2.1 36) :: st)) : Go F L own cc nL R ret Q σ pc lv (.ref (L.2.1 3) :: st) :=
  go_get (C := RX0) (T := TX0) (N := 9) (ci := 0) (kf := 4) inlX0 rfl hdg hp hlk rfl (by decide) (by decide) rfl rfl k
theorem gf_3_shifts {idx : Nat} (hdg : decode cc pc = .ok (.getfield idx, 3)) (hp : pc + 3 = pc') (hlk : Cond.fieldLink own idx "LetterDrawer$Calendar" "shifts" "[I" ∈ WD) (k : Go F L own cc nL R ret Q σ pc' lv (.ref (L.2.1 37) :: st)) : Go F L own cc nL R ret Q σ pc lv (.ref (L.2.1 3) :: st) :=
  go_get (C := RX0) (T := TX0) (N := 9) (ci := 0) (kf := 5) inlX0 rfl hdg hp hlk rfl (by decide) (by decide) rfl rfl k
theorem gf_3_roots {idx : Nat} (hdg : decode cc pc = .ok (.getfield idx, 3)) (hp : pc + 3 = pc') (hlk : Cond.fieldLink own idx "LetterDrawer$Calendar" "roots" "[I" ∈ WD) (k : Go F L own cc nL R ret Q σ pc' lv (.ref (L.2.1 38) :: st)) : Go F L own cc nL R ret Q σ pc lv (.ref (L.2.1 3) :: st) :=
  go_get (C := RX0) (T := TX0) (N := 9) (ci := 0) (kf := 6) inlX0 rfl hdg hp hlk rfl (by decide) (by decide) rfl rfl k
theorem gf_3_weekdays {idx : Nat} (hdg : decode cc pc = .ok (.getfield idx, 3)) (hp : pc + 3 = pc') (hlk : Cond.fieldLink own idx "LetterDrawer$Calendar" "weekdays" "[I" ∈ WD) (k : Go F L own cc nL R ret Q σ pc' lv (.ref (L.2.1 39) :: st)) : Go F L own cc nL R ret Q σ pc lv (.ref (L.2.1 3) :: st) :=
  go_get (C := RX0) (T := TX0) (N := 9) (ci := 0) (kf := 7) inlX0 rfl hdg hp hlk rfl (by decide) (by decide) rfl rfl k
theorem gf_3_paths {idx : Nat} (hdg : decode cc pc = .ok (.getfield idx, 3)) (hp : pc + 3 = pc') (hlk : Cond.fieldLink own idx "LetterDrawer$Calendar" "paths" "[[I" ∈ WD) (k : Go F L own cc nL R ret Q σ pc' lv (.ref (L.2.1 15) :: st)) : Go F L own cc nL R ret Q σ pc lv (.ref (L.2.1 3) :: st) :=
  go_get (C := RX0) (T := TX0) (N := 9) (ci := 0) (kf := 8) inlX0 rfl hdg hp hlk rfl (by decide) (by decide) rfl rfl k
theorem gf_4_leasts {idx : Nat} (hdg : decode cc pc = .ok (.getfield idx, 3)) (hp : pc + 3 = pc') (hlk : Cond.fieldLink own idx "LetterDrawer$Posts" "leasts" "[[I" ∈ WD) (k : Go F L own cc nL R ret Q σ pc' lv (.ref (L.2.1 16) :: st)) : Go F L own cc nL R ret Q σ pc lv (.ref (L.2.1 4) :: st) :=
  go_get (C := RX5) (T := TX5) (N := 2) (ci := 5) (kf := 0) inlX5 rfl hdg hp hlk rfl (by decide) (by decide) rfl rfl k
theorem gf_4_mosts {idx : Nat} (hdg : decode cc pc = .ok (.getfield idx, 3)) (hp : pc + 3 = pc') (hlk : Cond.fieldLink own idx "LetterDrawer$Posts" "mosts" "[[I" ∈ WD) (k : Go F L own cc nL R ret Q σ pc' lv (.ref (L.2.1 17) :: st)) : Go F L own cc nL R ret Q σ pc lv (.ref (L.2.1 4) :: st) :=
  go_get (C := RX5) (T := TX5) (N := 2) (ci := 5) (kf := 1) inlX5 rfl hdg hp hlk rfl (by decide) (by decide) rfl rfl k
theorem gf_5_persons {idx : Nat} (hdg : decode cc pc = .ok (.getfield idx, 3)) (hp : pc + 3 = pc') (hlk : Cond.fieldLink own idx "LetterDrawer$Hands" "persons" "[I" ∈ WD) (k : Go F L own cc nL R ret Q σ pc' lv (.ref (L.2.1 40) :: st)) : Go F L own cc nL R ret Q σ pc lv (.ref (L.2.1 5) :: st) :=
  go_get (C := RX1) (T := TX1) (N := 4) (ci := 1) (kf := 0) inlX1 rfl hdg hp hlk rfl (by decide) (by decide) rfl rfl k
theorem gf_5_size {idx : Nat} (hdg : decode cc pc = .ok (.getfield idx, 3)) (hp : pc + 3 = pc') (hlk : Cond.fieldLink own idx "LetterDrawer$Hands" "size" "I" ∈ WD) (k : Go F L own cc nL R ret Q σ pc' lv (.int (σ.1 5) :: st)) : Go F L own cc nL R ret Q σ pc lv (.ref (L.2.1 5) :: st) :=
  go_get (C := RX1) (T := TX1) (N := 4) (ci := 1) (kf := 1) inlX1 rfl hdg hp hlk rfl (by decide) (by decide) rfl rfl k
theorem pf_5_size {idx : Nat} {v : Int32} (hdg : decode cc pc = .ok (.putfield idx, 3)) (hp : pc + 3 = pc') (hlk : Cond.fieldLink own idx "LetterDrawer$Hands" "size" "I" ∈ WD) (k : Go F L own cc nL R ret Q (setI σ 5 v) pc' lv st) : Go F L own cc nL R ret Q σ pc lv (.int v :: .ref (L.2.1 5) :: st) :=
  go_put (C := RX1) (T := TX1) (N := 4) (ci := 1) (kf := 1) (ty := .int) inlX1 tyX1 tyX1_ok nmX1 rfl hdg hp hlk rfl (by decide) (by decide) rfl rfl rfl rfl (Nat.le_of_ble_eq_true rfl) rfl (cell_setI L σ 5 v) k
theorem gf_5_letters {idx : Nat} (hdg : decode cc pc = .ok (.getfield idx, 3)) (hp : pc + 3 = pc') (hlk : Cond.fieldLink own idx "LetterDrawer$Hands" "letters" "[I" ∈ WD) (k : Go F L own cc nL R ret Q σ pc' lv (.ref (L.2.1 41) :: st)) : Go F L own cc nL R ret Q σ pc lv (.ref (L.2.1 5) :: st) :=
  go_get (C := RX1) (T := TX1) (N := 4) (ci := 1) (kf := 2) inlX1 rfl hdg hp hlk rfl (by decide) (by decide) rfl rfl k
theorem gf_5_names {idx : Nat} (hdg : decode cc pc = .ok (.getfield idx, 3)) (hp : pc + 3 = pc') (hlk : Cond.fieldLink own idx "LetterDrawer$Hands" "names" "[I" ∈ WD) (k : Go F L own cc nL R ret Q σ pc' lv (.ref (L.2.1 42) :: st)) : Go F L own cc nL R ret Q σ pc lv (.ref (L.2.1 5) :: st) :=
  go_get (C := RX1) (T := TX1) (N := 4) (ci := 1) (kf := 3) inlX1 rfl hdg hp hlk rfl (by decide) (by decide) rfl rfl k
theorem gf_6_bytes {idx : Nat} (hdg : decode cc pc = .ok (.getfield idx, 3)) (hp : pc + 3 = pc') (hlk : Cond.fieldLink own idx "LetterDrawer$Tape" "bytes" "[B" ∈ WD) (k : Go F L own cc nL R ret Q σ pc' lv (.ref (L.2.1 43) :: st)) : Go F L own cc nL R ret Q σ pc lv (.ref (L.2.1 6) :: st) :=
  go_get (C := RX8) (T := TX8) (N := 2) (ci := 8) (kf := 0) inlX8 rfl hdg hp hlk rfl (by decide) (by decide) rfl rfl k
theorem gf_6_size {idx : Nat} (hdg : decode cc pc = .ok (.getfield idx, 3)) (hp : pc + 3 = pc') (hlk : Cond.fieldLink own idx "LetterDrawer$Tape" "size" "I" ∈ WD) (k : Go F L own cc nL R ret Q σ pc' lv (.int (σ.1 6) :: st)) : Go F L own cc nL R ret Q σ pc lv (.ref (L.2.1 6) :: st) :=
  go_get (C := RX8) (T := TX8) (N := 2) (ci := 8) (kf := 1) inlX8 rfl hdg hp hlk rfl (by decide) (by decide) rfl rfl k
theorem pf_6_size {idx : Nat} {v : Int32} (hdg : decode cc pc = .ok (.putfield idx, 3)) (hp : pc + 3 = pc') (hlk : Cond.fieldLink own idx "LetterDrawer$Tape" "size" "I" ∈ WD) (k : Go F L own cc nL R ret Q (setI σ 6 v) pc' lv st) : Go F L own cc nL R ret Q σ pc lv (.int v :: .ref (L.2.1 6) :: st) :=
  go_put (C := RX8) (T := TX8) (N := 2) (ci := 8) (kf := 1) (ty := .int) inlX8 tyX8 tyX8_ok nmX8 rfl hdg hp hlk rfl (by decide) (by decide) rfl rfl rfl rfl (Nat.le_of_ble_eq_true rfl) rfl (cell_setI L σ 6 v) k
theorem gf_7_depth {idx : Nat} (hdg : decode cc pc = .ok (.getfield idx, 3)) (hp : pc + 3 = pc') (hlk : Cond.fieldLink own idx "LetterDrawer$MarkReader" "depth" "I" ∈ WD) (k : Go F L own cc nL R ret Q σ pc' lv (.int (σ.1 7) :: st)) : Go F L own cc nL R ret Q σ pc lv (.ref (L.2.1 7) :: st) :=
  go_get (C := RX3) (T := TX3) (N := 8) (ci := 3) (kf := 0) inlX3 rfl hdg hp hlk rfl (by decide) (by decide) rfl rfl k
theorem pf_7_depth {idx : Nat} {v : Int32} (hdg : decode cc pc = .ok (.putfield idx, 3)) (hp : pc + 3 = pc') (hlk : Cond.fieldLink own idx "LetterDrawer$MarkReader" "depth" "I" ∈ WD) (k : Go F L own cc nL R ret Q (setI σ 7 v) pc' lv st) : Go F L own cc nL R ret Q σ pc lv (.int v :: .ref (L.2.1 7) :: st) :=
  go_put (C := RX3) (T := TX3) (N := 8) (ci := 3) (kf := 0) (ty := .int) inlX3 tyX3 tyX3_ok nmX3 rfl hdg hp hlk rfl (by decide) (by decide) rfl rfl rfl rfl (Nat.le_of_ble_eq_true rfl) rfl (cell_setI L σ 7 v) k
theorem gf_7_sort {idx : Nat} (hdg : decode cc pc = .ok (.getfield idx, 3)) (hp : pc + 3 = pc') (hlk : Cond.fieldLink own idx "LetterDrawer$MarkReader" "sort" "I" ∈ WD) (k : Go F L own cc nL R ret Q σ pc' lv (.int (σ.1 8) :: st)) : Go F L own cc nL R ret Q σ pc lv (.ref (L.2.1 7) :: st) :=
  go_get (C := RX3) (T := TX3) (N := 8) (ci := 3) (kf := 1) inlX3 rfl hdg hp hlk rfl (by decide) (by decide) rfl rfl k
theorem pf_7_sort {idx : Nat} {v : Int32} (hdg : decode cc pc = .ok (.putfield idx, 3)) (hp : pc + 3 = pc') (hlk : Cond.fieldLink own idx "LetterDrawer$MarkReader" "sort" "I" ∈ WD) (k : Go F L own cc nL R ret Q (setI σ 8 v) pc' lv st) : Go F L own cc nL R ret Q σ pc lv (.int v :: .ref (L.2.1 7) :: st) :=
  go_put (C := RX3) (T := TX3) (N := 8) (ci := 3) (kf := 1) (ty := .int) inlX3 tyX3 tyX3_ok nmX3 rfl hdg hp hlk rfl (by decide) (by decide) rfl rfl rfl rfl (Nat.le_of_ble_eq_true rfl) rfl (cell_setI L σ 8 v) k
theorem gf_7_number {idx : Nat} (hdg : decode cc pc = .ok (.getfield idx, 3)) (hp : pc + 3 = pc') (hlk : Cond.fieldLink own idx "LetterDrawer$MarkReader" "number" "I" ∈ WD) (k : Go F L own cc nL R ret Q σ pc' lv (.int (σ.1 9) :: st)) : Go F L own cc nL R ret Q σ pc lv (.ref (L.2.1 7) :: st) :=
  go_get (C := RX3) (T := TX3) (N := 8) (ci := 3) (kf := 2) inlX3 rfl hdg hp hlk rfl (by decide) (by decide) rfl rfl k
theorem pf_7_number {idx : Nat} {v : Int32} (hdg : decode cc pc = .ok (.putfield idx, 3)) (hp : pc + 3 = pc') (hlk : Cond.fieldLink own idx "LetterDrawer$MarkReader" "number" "I" ∈ WD) (k : Go F L own cc nL R ret Q (setI σ 9 v) pc' lv st) : Go F L own cc nL R ret Q σ pc lv (.int v :: .ref (L.2.1 7) :: st) :=
  go_put (C := RX3) (T := TX3) (N := 8) (ci := 3) (kf := 2) (ty := .int) inlX3 tyX3 tyX3_ok nmX3 rfl hdg hp hlk rfl (by decide) (by decide) rfl rfl rfl rfl (Nat.le_of_ble_eq_true rfl) rfl (cell_setI L σ 9 v) k
theorem gf_7_markAt {idx : Nat} (hdg : decode cc pc = .ok (.getfield idx, 3)) (hp : pc + 3 = pc') (hlk : Cond.fieldLink own idx "LetterDrawer$MarkReader" "markAt" "I" ∈ WD) (k : Go F L own cc nL R ret Q σ pc' lv (.int (σ.1 10) :: st)) : Go F L own cc nL R ret Q σ pc lv (.ref (L.2.1 7) :: st) :=
  go_get (C := RX3) (T := TX3) (N := 8) (ci := 3) (kf := 3) inlX3 rfl hdg hp hlk rfl (by decide) (by decide) rfl rfl k
theorem pf_7_markAt {idx : Nat} {v : Int32} (hdg : decode cc pc = .ok (.putfield idx, 3)) (hp : pc + 3 = pc') (hlk : Cond.fieldLink own idx "LetterDrawer$MarkReader" "markAt" "I" ∈ WD) (k : Go F L own cc nL R ret Q (setI σ 10 v) pc' lv st) : Go F L own cc nL R ret Q σ pc lv (.int v :: .ref (L.2.1 7) :: st) :=
  go_put (C := RX3) (T := TX3) (N := 8) (ci := 3) (kf := 3) (ty := .int) inlX3 tyX3 tyX3_ok nmX3 rfl hdg hp hlk rfl (by decide) (by decide) rfl rfl rfl rfl (Nat.le_of_ble_eq_true rfl) rfl (cell_setI L σ 10 v) k
theorem gf_7_wrongAt {idx : Nat} (hdg : decode cc pc = .ok (.getfield idx, 3)) (hp : pc + 3 = pc') (hlk : Cond.fieldLink own idx "LetterDrawer$MarkReader" "wrongAt" "I" ∈ WD) (k : Go F L own cc nL R ret Q σ pc' lv (.int (σ.1 11) :: st)) : Go F L own cc nL R ret Q σ pc lv (.ref (L.2.1 7) :: st) :=
  go_get (C := RX3) (T := TX3) (N := 8) (ci := 3) (kf := 4) inlX3 rfl hdg hp hlk rfl (by decide) (by decide) rfl rfl k
theorem pf_7_wrongAt {idx : Nat} {v : Int32} (hdg : decode cc pc = .ok (.putfield idx, 3)) (hp : pc + 3 = pc') (hlk : Cond.fieldLink own idx "LetterDrawer$MarkReader" "wrongAt" "I" ∈ WD) (k : Go F L own cc nL R ret Q (setI σ 11 v) pc' lv st) : Go F L own cc nL R ret Q σ pc lv (.int v :: .ref (L.2.1 7) :: st) :=
  go_put (C := RX3) (T := TX3) (N := 8) (ci := 3) (kf := 4) (ty := .int) inlX3 tyX3 tyX3_ok nmX3 rfl hdg hp hlk rfl (by decide) (by decide) rfl rfl rfl rfl (Nat.le_of_ble_eq_true rfl) rfl (cell_setI L σ 11 v) k
theorem gf_7_open {idx : Nat} (hdg : decode cc pc = .ok (.getfield idx, 3)) (hp : pc + 3 = pc') (hlk : Cond.fieldLink own idx "LetterDrawer$MarkReader" "open" "[I" ∈ WD) (k : Go F L own cc nL R ret Q σ pc' lv (.ref (L.2.1 44) :: st)) : Go F L own cc nL R ret Q σ pc lv (.ref (L.2.1 7) :: st) :=
  go_get (C := RX3) (T := TX3) (N := 8) (ci := 3) (kf := 5) inlX3 rfl hdg hp hlk rfl (by decide) (by decide) rfl rfl k
theorem gf_7_state {idx : Nat} (hdg : decode cc pc = .ok (.getfield idx, 3)) (hp : pc + 3 = pc') (hlk : Cond.fieldLink own idx "LetterDrawer$MarkReader" "state" "I" ∈ WD) (k : Go F L own cc nL R ret Q σ pc' lv (.int (σ.1 12) :: st)) : Go F L own cc nL R ret Q σ pc lv (.ref (L.2.1 7) :: st) :=
  go_get (C := RX3) (T := TX3) (N := 8) (ci := 3) (kf := 6) inlX3 rfl hdg hp hlk rfl (by decide) (by decide) rfl rfl k
theorem pf_7_state {idx : Nat} {v : Int32} (hdg : decode cc pc = .ok (.putfield idx, 3)) (hp : pc + 3 = pc') (hlk : Cond.fieldLink own idx "LetterDrawer$MarkReader" "state" "I" ∈ WD) (k : Go F L own cc nL R ret Q (setI σ 12 v) pc' lv st) : Go F L own cc nL R ret Q σ pc lv (.int v :: .ref (L.2.1 7) :: st) :=
  go_put (C := RX3) (T := TX3) (N := 8) (ci := 3) (kf := 6) (ty := .int) inlX3 tyX3 tyX3_ok nmX3 rfl hdg hp hlk rfl (by decide) (by decide) rfl rfl rfl rfl (Nat.le_of_ble_eq_true rfl) rfl (cell_setI L σ 12 v) k
theorem gf_7_digits {idx : Nat} (hdg : decode cc pc = .ok (.getfield idx, 3)) (hp : pc + 3 = pc') (hlk : Cond.fieldLink own idx "LetterDrawer$MarkReader" "digits" "I" ∈ WD) (k : Go F L own cc nL R ret Q σ pc' lv (.int (σ.1 13) :: st)) : Go F L own cc nL R ret Q σ pc lv (.ref (L.2.1 7) :: st) :=
  go_get (C := RX3) (T := TX3) (N := 8) (ci := 3) (kf := 7) inlX3 rfl hdg hp hlk rfl (by decide) (by decide) rfl rfl k
theorem pf_7_digits {idx : Nat} {v : Int32} (hdg : decode cc pc = .ok (.putfield idx, 3)) (hp : pc + 3 = pc') (hlk : Cond.fieldLink own idx "LetterDrawer$MarkReader" "digits" "I" ∈ WD) (k : Go F L own cc nL R ret Q (setI σ 13 v) pc' lv st) : Go F L own cc nL R ret Q σ pc lv (.int v :: .ref (L.2.1 7) :: st) :=
  go_put (C := RX3) (T := TX3) (N := 8) (ci := 3) (kf := 7) (ty := .int) inlX3 tyX3 tyX3_ok nmX3 rfl hdg hp hlk rfl (by decide) (by decide) rfl rfl rfl rfl (Nat.le_of_ble_eq_true rfl) rfl (cell_setI L σ 13 v) k
theorem gf_8_bytes {idx : Nat} (hdg : decode cc pc = .ok (.getfield idx, 3)) (hp : pc + 3 = pc') (hlk : Cond.fieldLink own idx "LetterDrawer$Printer" "bytes" "[B" ∈ WD) (k : Go F L own cc nL R ret Q σ pc' lv (.ref (L.2.1 45) :: st)) : Go F L own cc nL R ret Q σ pc lv (.ref (L.2.1 8) :: st) :=
  go_get (C := RX6) (T := TX6) (N := 2) (ci := 6) (kf := 0) inlX6 rfl hdg hp hlk rfl (by decide) (by decide) rfl rfl k
theorem gf_8_size {idx : Nat} (hdg : decode cc pc = .ok (.getfield idx, 3)) (hp : pc + 3 = pc') (hlk : Cond.fieldLink own idx "LetterDrawer$Printer" "size" "I" ∈ WD) (k : Go F L own cc nL R ret Q σ pc' lv (.int (σ.1 14) :: st)) : Go F L own cc nL R ret Q σ pc lv (.ref (L.2.1 8) :: st) :=
  go_get (C := RX6) (T := TX6) (N := 2) (ci := 6) (kf := 1) inlX6 rfl hdg hp hlk rfl (by decide) (by decide) rfl rfl k
theorem pf_8_size {idx : Nat} {v : Int32} (hdg : decode cc pc = .ok (.putfield idx, 3)) (hp : pc + 3 = pc') (hlk : Cond.fieldLink own idx "LetterDrawer$Printer" "size" "I" ∈ WD) (k : Go F L own cc nL R ret Q (setI σ 14 v) pc' lv st) : Go F L own cc nL R ret Q σ pc lv (.int v :: .ref (L.2.1 8) :: st) :=
  go_put (C := RX6) (T := TX6) (N := 2) (ci := 6) (kf := 1) (ty := .int) inlX6 tyX6 tyX6_ok nmX6 rfl hdg hp hlk rfl (by decide) (by decide) rfl rfl rfl rfl (Nat.le_of_ble_eq_true rfl) rfl (cell_setI L σ 14 v) k
theorem gf_9_size {idx : Nat} (hdg : decode cc pc = .ok (.getfield idx, 3)) (hp : pc + 3 = pc') (hlk : Cond.fieldLink own idx "LetterDrawer$WordRow" "size" "I" ∈ WD) (k : Go F L own cc nL R ret Q σ pc' lv (.int (σ.1 15) :: st)) : Go F L own cc nL R ret Q σ pc lv (.ref (L.2.1 9) :: st) :=
  go_get (C := RX10) (T := TX10) (N := 5) (ci := 10) (kf := 0) inlX10 rfl hdg hp hlk rfl (by decide) (by decide) rfl rfl k
theorem pf_9_size {idx : Nat} {v : Int32} (hdg : decode cc pc = .ok (.putfield idx, 3)) (hp : pc + 3 = pc') (hlk : Cond.fieldLink own idx "LetterDrawer$WordRow" "size" "I" ∈ WD) (k : Go F L own cc nL R ret Q (setI σ 15 v) pc' lv st) : Go F L own cc nL R ret Q σ pc lv (.int v :: .ref (L.2.1 9) :: st) :=
  go_put (C := RX10) (T := TX10) (N := 5) (ci := 10) (kf := 0) (ty := .int) inlX10 tyX10 tyX10_ok nmX10 rfl hdg hp hlk rfl (by decide) (by decide) rfl rfl rfl rfl (Nat.le_of_ble_eq_true rfl) rfl (cell_setI L σ 15 v) k
theorem gf_9_bytes {idx : Nat} (hdg : decode cc pc = .ok (.getfield idx, 3)) (hp : pc + 3 = pc') (hlk : Cond.fieldLink own idx "LetterDrawer$WordRow" "bytes" "[B" ∈ WD) (k : Go F L own cc nL R ret Q σ pc' lv (.ref (L.2.1 46) :: st)) : Go F L own cc nL R ret Q σ pc lv (.ref (L.2.1 9) :: st) :=
  go_get (C := RX10) (T := TX10) (N := 5) (ci := 10) (kf := 1) inlX10 rfl hdg hp hlk rfl (by decide) (by decide) rfl rfl k
theorem gf_9_starts {idx : Nat} (hdg : decode cc pc = .ok (.getfield idx, 3)) (hp : pc + 3 = pc') (hlk : Cond.fieldLink own idx "LetterDrawer$WordRow" "starts" "[I" ∈ WD) (k : Go F L own cc nL R ret Q σ pc' lv (.ref (L.2.1 47) :: st)) : Go F L own cc nL R ret Q σ pc lv (.ref (L.2.1 9) :: st) :=
  go_get (C := RX10) (T := TX10) (N := 5) (ci := 10) (kf := 2) inlX10 rfl hdg hp hlk rfl (by decide) (by decide) rfl rfl k
theorem gf_9_ends {idx : Nat} (hdg : decode cc pc = .ok (.getfield idx, 3)) (hp : pc + 3 = pc') (hlk : Cond.fieldLink own idx "LetterDrawer$WordRow" "ends" "[I" ∈ WD) (k : Go F L own cc nL R ret Q σ pc' lv (.ref (L.2.1 48) :: st)) : Go F L own cc nL R ret Q σ pc lv (.ref (L.2.1 9) :: st) :=
  go_get (C := RX10) (T := TX10) (N := 5) (ci := 10) (kf := 3) inlX10 rfl hdg hp hlk rfl (by decide) (by decide) rfl rfl k
theorem gf_9_costs {idx : Nat} (hdg : decode cc pc = .ok (.getfield idx, 3)) (hp : pc + 3 = pc') (hlk : Cond.fieldLink own idx "LetterDrawer$WordRow" "costs" "[I" ∈ WD) (k : Go F L own cc nL R ret Q σ pc' lv (.ref (L.2.1 49) :: st)) : Go F L own cc nL R ret Q σ pc lv (.ref (L.2.1 9) :: st) :=
  go_get (C := RX10) (T := TX10) (N := 5) (ci := 10) (kf := 4) inlX10 rfl hdg hp hlk rfl (by decide) (by decide) rfl rfl k
theorem gf_10_size {idx : Nat} (hdg : decode cc pc = .ok (.getfield idx, 3)) (hp : pc + 3 = pc') (hlk : Cond.fieldLink own idx "LetterDrawer$WordRow" "size" "I" ∈ WD) (k : Go F L own cc nL R ret Q σ pc' lv (.int (σ.1 16) :: st)) : Go F L own cc nL R ret Q σ pc lv (.ref (L.2.1 10) :: st) :=
  go_get (C := RX10) (T := TX10) (N := 5) (ci := 10) (kf := 0) inlX10 rfl hdg hp hlk rfl (by decide) (by decide) rfl rfl k
theorem pf_10_size {idx : Nat} {v : Int32} (hdg : decode cc pc = .ok (.putfield idx, 3)) (hp : pc + 3 = pc') (hlk : Cond.fieldLink own idx "LetterDrawer$WordRow" "size" "I" ∈ WD) (k : Go F L own cc nL R ret Q (setI σ 16 v) pc' lv st) : Go F L own cc nL R ret Q σ pc lv (.int v :: .ref (L.2.1 10) :: st) :=
  go_put (C := RX10) (T := TX10) (N := 5) (ci := 10) (kf := 0) (ty := .int) inlX10 tyX10 tyX10_ok nmX10 rfl hdg hp hlk rfl (by decide) (by decide) rfl rfl rfl rfl (Nat.le_of_ble_eq_true rfl) rfl (cell_setI L σ 16 v) k
theorem gf_10_bytes {idx : Nat} (hdg : decode cc pc = .ok (.getfield idx, 3)) (hp : pc + 3 = pc') (hlk : Cond.fieldLink own idx "LetterDrawer$WordRow" "bytes" "[B" ∈ WD) (k : Go F L own cc nL R ret Q σ pc' lv (.ref (L.2.1 50) :: st)) : Go F L own cc nL R ret Q σ pc lv (.ref (L.2.1 10) :: st) :=
  go_get (C := RX10) (T := TX10) (N := 5) (ci := 10) (kf := 1) inlX10 rfl hdg hp hlk rfl (by decide) (by decide) rfl rfl k
theorem gf_10_starts {idx : Nat} (hdg : decode cc pc = .ok (.getfield idx, 3)) (hp : pc + 3 = pc') (hlk : Cond.fieldLink own idx "LetterDrawer$WordRow" "starts" "[I" ∈ WD) (k : Go F L own cc nL R ret Q σ pc' lv (.ref (L.2.1 51) :: st)) : Go F L own cc nL R ret Q σ pc lv (.ref (L.2.1 10) :: st) :=
  go_get (C := RX10) (T := TX10) (N := 5) (ci := 10) (kf := 2) inlX10 rfl hdg hp hlk rfl (by decide) (by decide) rfl rfl k
theorem gf_10_ends {idx : Nat} (hdg : decode cc pc = .ok (.getfield idx, 3)) (hp : pc + 3 = pc') (hlk : Cond.fieldLink own idx "LetterDrawer$WordRow" "ends" "[I" ∈ WD) (k : Go F L own cc nL R ret Q σ pc' lv (.ref (L.2.1 52) :: st)) : Go F L own cc nL R ret Q σ pc lv (.ref (L.2.1 10) :: st) :=
  go_get (C := RX10) (T := TX10) (N := 5) (ci := 10) (kf := 3) inlX10 rfl hdg hp hlk rfl (by decide) (by decide) rfl rfl k
theorem gf_10_costs {idx : Nat} (hdg : decode cc pc = .ok (.getfield idx, 3)) (hp : pc + 3 = pc') (hlk : Cond.fieldLink own idx "LetterDrawer$WordRow" "costs" "[I" ∈ WD) (k : Go F L own cc nL R ret Q σ pc' lv (.ref (L.2.1 53) :: st)) : Go F L own cc nL R ret Q σ pc lv (.ref (L.2.1 10) :: st) :=
  go_get (C := RX10) (T := TX10) (N := 5) (ci := 10) (kf := 4) inlX10 rfl hdg hp hlk rfl (by decide) (by decide) rfl rfl k
theorem gf_11_row {idx : Nat} (hdg : decode cc pc = .ok (.getfield idx, 3)) (hp : pc + 3 = pc') (hlk : Cond.fieldLink own idx "LetterDrawer$Sequence" "row" "[I" ∈ WD) (k : Go F L own cc nL R ret Q σ pc' lv (.ref (L.2.1 54) :: st)) : Go F L own cc nL R ret Q σ pc lv (.ref (L.2.1 11) :: st) :=
  go_get (C := RX7) (T := TX7) (N := 3) (ci := 7) (kf := 0) inlX7 rfl hdg hp hlk rfl (by decide) (by decide) rfl rfl k
theorem gf_11_jumps {idx : Nat} (hdg : decode cc pc = .ok (.getfield idx, 3)) (hp : pc + 3 = pc') (hlk : Cond.fieldLink own idx "LetterDrawer$Sequence" "jumps" "I" ∈ WD) (k : Go F L own cc nL R ret Q σ pc' lv (.int (σ.1 17) :: st)) : Go F L own cc nL R ret Q σ pc lv (.ref (L.2.1 11) :: st) :=
  go_get (C := RX7) (T := TX7) (N := 3) (ci := 7) (kf := 1) inlX7 rfl hdg hp hlk rfl (by decide) (by decide) rfl rfl k
theorem pf_11_jumps {idx : Nat} {v : Int32} (hdg : decode cc pc = .ok (.putfield idx, 3)) (hp : pc + 3 = pc') (hlk : Cond.fieldLink own idx "LetterDrawer$Sequence" "jumps" "I" ∈ WD) (k : Go F L own cc nL R ret Q (setI σ 17 v) pc' lv st) : Go F L own cc nL R ret Q σ pc lv (.int v :: .ref (L.2.1 11) :: st) :=
  go_put (C := RX7) (T := TX7) (N := 3) (ci := 7) (kf := 1) (ty := .int) inlX7 tyX7 tyX7_ok nmX7 rfl hdg hp hlk rfl (by decide) (by decide) rfl rfl rfl rfl (Nat.le_of_ble_eq_true rfl) rfl (cell_setI L σ 17 v) k
theorem gf_11_size {idx : Nat} (hdg : decode cc pc = .ok (.getfield idx, 3)) (hp : pc + 3 = pc') (hlk : Cond.fieldLink own idx "LetterDrawer$Sequence" "size" "I" ∈ WD) (k : Go F L own cc nL R ret Q σ pc' lv (.int (σ.1 18) :: st)) : Go F L own cc nL R ret Q σ pc lv (.ref (L.2.1 11) :: st) :=
  go_get (C := RX7) (T := TX7) (N := 3) (ci := 7) (kf := 2) inlX7 rfl hdg hp hlk rfl (by decide) (by decide) rfl rfl k
theorem pf_11_size {idx : Nat} {v : Int32} (hdg : decode cc pc = .ok (.putfield idx, 3)) (hp : pc + 3 = pc') (hlk : Cond.fieldLink own idx "LetterDrawer$Sequence" "size" "I" ∈ WD) (k : Go F L own cc nL R ret Q (setI σ 18 v) pc' lv st) : Go F L own cc nL R ret Q σ pc lv (.int v :: .ref (L.2.1 11) :: st) :=
  go_put (C := RX7) (T := TX7) (N := 3) (ci := 7) (kf := 2) (ty := .int) inlX7 tyX7 tyX7_ok nmX7 rfl hdg hp hlk rfl (by decide) (by decide) rfl rfl rfl rfl (Nat.le_of_ble_eq_true rfl) rfl (cell_setI L σ 18 v) k
theorem gf_12_rows {idx : Nat} (hdg : decode cc pc = .ok (.getfield idx, 3)) (hp : pc + 3 = pc') (hlk : Cond.fieldLink own idx "LetterDrawer$Trays" "rows" "[[B" ∈ WD) (k : Go F L own cc nL R ret Q σ pc' lv (.ref (L.2.1 18) :: st)) : Go F L own cc nL R ret Q σ pc lv (.ref (L.2.1 12) :: st) :=
  go_get (C := RX9) (T := TX9) (N := 2) (ci := 9) (kf := 0) inlX9 rfl hdg hp hlk rfl (by decide) (by decide) rfl rfl k
theorem gf_12_sizes {idx : Nat} (hdg : decode cc pc = .ok (.getfield idx, 3)) (hp : pc + 3 = pc') (hlk : Cond.fieldLink own idx "LetterDrawer$Trays" "sizes" "[I" ∈ WD) (k : Go F L own cc nL R ret Q σ pc' lv (.ref (L.2.1 55) :: st)) : Go F L own cc nL R ret Q σ pc lv (.ref (L.2.1 12) :: st) :=
  go_get (C := RX9) (T := TX9) (N := 2) (ci := 9) (kf := 1) inlX9 rfl hdg hp hlk rfl (by decide) (by decide) rfl rfl k
theorem gf_13_persons {idx : Nat} (hdg : decode cc pc = .ok (.getfield idx, 3)) (hp : pc + 3 = pc') (hlk : Cond.fieldLink own idx "LetterDrawerModel" "persons" "I" ∈ WD) (k : Go F L own cc nL R ret Q σ pc' lv (.int (σ.1 19) :: st)) : Go F L own cc nL R ret Q σ pc lv (.ref (L.2.1 13) :: st) :=
  go_get (C := RX12) (T := TX12) (N := 52) (ci := 12) (kf := 0) inlX12 rfl hdg hp hlk rfl (by decide) (by decide) rfl rfl k
theorem pf_13_persons {idx : Nat} {v : Int32} (hdg : decode cc pc = .ok (.putfield idx, 3)) (hp : pc + 3 = pc') (hlk : Cond.fieldLink own idx "LetterDrawerModel" "persons" "I" ∈ WD) (k : Go F L own cc nL R ret Q (setI σ 19 v) pc' lv st) : Go F L own cc nL R ret Q σ pc lv (.int v :: .ref (L.2.1 13) :: st) :=
  go_put (C := RX12) (T := TX12) (N := 52) (ci := 12) (kf := 0) (ty := .int) inlX12 tyX12 tyX12_ok nmX12 rfl hdg hp hlk rfl (by decide) (by decide) rfl rfl rfl rfl (Nat.le_of_ble_eq_true rfl) rfl (cell_setI L σ 19 v) k
theorem gf_13_letters {idx : Nat} (hdg : decode cc pc = .ok (.getfield idx, 3)) (hp : pc + 3 = pc') (hlk : Cond.fieldLink own idx "LetterDrawerModel" "letters" "I" ∈ WD) (k : Go F L own cc nL R ret Q σ pc' lv (.int (σ.1 20) :: st)) : Go F L own cc nL R ret Q σ pc lv (.ref (L.2.1 13) :: st) :=
  go_get (C := RX12) (T := TX12) (N := 52) (ci := 12) (kf := 1) inlX12 rfl hdg hp hlk rfl (by decide) (by decide) rfl rfl k
theorem pf_13_letters {idx : Nat} {v : Int32} (hdg : decode cc pc = .ok (.putfield idx, 3)) (hp : pc + 3 = pc') (hlk : Cond.fieldLink own idx "LetterDrawerModel" "letters" "I" ∈ WD) (k : Go F L own cc nL R ret Q (setI σ 20 v) pc' lv st) : Go F L own cc nL R ret Q σ pc lv (.int v :: .ref (L.2.1 13) :: st) :=
  go_put (C := RX12) (T := TX12) (N := 52) (ci := 12) (kf := 1) (ty := .int) inlX12 tyX12 tyX12_ok nmX12 rfl hdg hp hlk rfl (by decide) (by decide) rfl rfl rfl rfl (Nat.le_of_ble_eq_true rfl) rfl (cell_setI L σ 20 v) k
theorem gf_13_bounds {idx : Nat} (hdg : decode cc pc = .ok (.getfield idx, 3)) (hp : pc + 3 = pc') (hlk : Cond.fieldLink own idx "LetterDrawerModel" "bounds" "I" ∈ WD) (k : Go F L own cc nL R ret Q σ pc' lv (.int (σ.1 21) :: st)) : Go F L own cc nL R ret Q σ pc lv (.ref (L.2.1 13) :: st) :=
  go_get (C := RX12) (T := TX12) (N := 52) (ci := 12) (kf := 2) inlX12 rfl hdg hp hlk rfl (by decide) (by decide) rfl rfl k
theorem pf_13_bounds {idx : Nat} {v : Int32} (hdg : decode cc pc = .ok (.putfield idx, 3)) (hp : pc + 3 = pc') (hlk : Cond.fieldLink own idx "LetterDrawerModel" "bounds" "I" ∈ WD) (k : Go F L own cc nL R ret Q (setI σ 21 v) pc' lv st) : Go F L own cc nL R ret Q σ pc lv (.int v :: .ref (L.2.1 13) :: st) :=
  go_put (C := RX12) (T := TX12) (N := 52) (ci := 12) (kf := 2) (ty := .int) inlX12 tyX12 tyX12_ok nmX12 rfl hdg hp hlk rfl (by decide) (by decide) rfl rfl rfl rfl (Nat.le_of_ble_eq_true rfl) rfl (cell_setI L σ 21 v) k
theorem gf_13_hands {idx : Nat} (hdg : decode cc pc = .ok (.getfield idx, 3)) (hp : pc + 3 = pc') (hlk : Cond.fieldLink own idx "LetterDrawerModel" "hands" "I" ∈ WD) (k : Go F L own cc nL R ret Q σ pc' lv (.int (σ.1 22) :: st)) : Go F L own cc nL R ret Q σ pc lv (.ref (L.2.1 13) :: st) :=
  go_get (C := RX12) (T := TX12) (N := 52) (ci := 12) (kf := 3) inlX12 rfl hdg hp hlk rfl (by decide) (by decide) rfl rfl k
theorem pf_13_hands {idx : Nat} {v : Int32} (hdg : decode cc pc = .ok (.putfield idx, 3)) (hp : pc + 3 = pc') (hlk : Cond.fieldLink own idx "LetterDrawerModel" "hands" "I" ∈ WD) (k : Go F L own cc nL R ret Q (setI σ 22 v) pc' lv st) : Go F L own cc nL R ret Q σ pc lv (.int v :: .ref (L.2.1 13) :: st) :=
  go_put (C := RX12) (T := TX12) (N := 52) (ci := 12) (kf := 3) (ty := .int) inlX12 tyX12 tyX12_ok nmX12 rfl hdg hp hlk rfl (by decide) (by decide) rfl rfl rfl rfl (Nat.le_of_ble_eq_true rfl) rfl (cell_setI L σ 22 v) k
theorem gf_13_size {idx : Nat} (hdg : decode cc pc = .ok (.getfield idx, 3)) (hp : pc + 3 = pc') (hlk : Cond.fieldLink own idx "LetterDrawerModel" "size" "I" ∈ WD) (k : Go F L own cc nL R ret Q σ pc' lv (.int (σ.1 23) :: st)) : Go F L own cc nL R ret Q σ pc lv (.ref (L.2.1 13) :: st) :=
  go_get (C := RX12) (T := TX12) (N := 52) (ci := 12) (kf := 4) inlX12 rfl hdg hp hlk rfl (by decide) (by decide) rfl rfl k
theorem pf_13_size {idx : Nat} {v : Int32} (hdg : decode cc pc = .ok (.putfield idx, 3)) (hp : pc + 3 = pc') (hlk : Cond.fieldLink own idx "LetterDrawerModel" "size" "I" ∈ WD) (k : Go F L own cc nL R ret Q (setI σ 23 v) pc' lv st) : Go F L own cc nL R ret Q σ pc lv (.int v :: .ref (L.2.1 13) :: st) :=
  go_put (C := RX12) (T := TX12) (N := 52) (ci := 12) (kf := 4) (ty := .int) inlX12 tyX12 tyX12_ok nmX12 rfl hdg hp hlk rfl (by decide) (by decide) rfl rfl rfl rfl (Nat.le_of_ble_eq_true rfl) rfl (cell_setI L σ 23 v) k
theorem gf_13_name {idx : Nat} (hdg : decode cc pc = .ok (.getfield idx, 3)) (hp : pc + 3 = pc') (hlk : Cond.fieldLink own idx "LetterDrawerModel" "name" "[I" ∈ WD) (k : Go F L own cc nL R ret Q σ pc' lv (.ref (L.2.1 96) :: st)) : Go F L own cc nL R ret Q σ pc lv (.ref (L.2.1 13) :: st) :=
  go_get (C := RX12) (T := TX12) (N := 52) (ci := 12) (kf := 5) inlX12 rfl hdg hp hlk rfl (by decide) (by decide) rfl rfl k
theorem gf_13_home {idx : Nat} (hdg : decode cc pc = .ok (.getfield idx, 3)) (hp : pc + 3 = pc') (hlk : Cond.fieldLink own idx "LetterDrawerModel" "home" "[I" ∈ WD) (k : Go F L own cc nL R ret Q σ pc' lv (.ref (L.2.1 97) :: st)) : Go F L own cc nL R ret Q σ pc lv (.ref (L.2.1 13) :: st) :=
  go_get (C := RX12) (T := TX12) (N := 52) (ci := 12) (kf := 6) inlX12 rfl hdg hp hlk rfl (by decide) (by decide) rfl rfl k
theorem gf_13_first {idx : Nat} (hdg : decode cc pc = .ok (.getfield idx, 3)) (hp : pc + 3 = pc') (hlk : Cond.fieldLink own idx "LetterDrawerModel" "first" "[I" ∈ WD) (k : Go F L own cc nL R ret Q σ pc' lv (.ref (L.2.1 98) :: st)) : Go F L own cc nL R ret Q σ pc lv (.ref (L.2.1 13) :: st) :=
  go_get (C := RX12) (T := TX12) (N := 52) (ci := 12) (kf := 7) inlX12 rfl hdg hp hlk rfl (by decide) (by decide) rfl rfl k
theorem gf_13_last {idx : Nat} (hdg : decode cc pc = .ok (.getfield idx, 3)) (hp : pc + 3 = pc') (hlk : Cond.fieldLink own idx "LetterDrawerModel" "last" "[I" ∈ WD) (k : Go F L own cc nL R ret Q σ pc' lv (.ref (L.2.1 99) :: st)) : Go F L own cc nL R ret Q σ pc lv (.ref (L.2.1 13) :: st) :=
  go_get (C := RX12) (T := TX12) (N := 52) (ci := 12) (kf := 8) inlX12 rfl hdg hp hlk rfl (by decide) (by decide) rfl rfl k
theorem gf_13_known {idx : Nat} (hdg : decode cc pc = .ok (.getfield idx, 3)) (hp : pc + 3 = pc') (hlk : Cond.fieldLink own idx "LetterDrawerModel" "known" "[Z" ∈ WD) (k : Go F L own cc nL R ret Q σ pc' lv (.ref (L.2.1 100) :: st)) : Go F L own cc nL R ret Q σ pc lv (.ref (L.2.1 13) :: st) :=
  go_get (C := RX12) (T := TX12) (N := 52) (ci := 12) (kf := 9) inlX12 rfl hdg hp hlk rfl (by decide) (by decide) rfl rfl k
theorem gf_13_kind {idx : Nat} (hdg : decode cc pc = .ok (.getfield idx, 3)) (hp : pc + 3 = pc') (hlk : Cond.fieldLink own idx "LetterDrawerModel" "kind" "[I" ∈ WD) (k : Go F L own cc nL R ret Q σ pc' lv (.ref (L.2.1 101) :: st)) : Go F L own cc nL R ret Q σ pc lv (.ref (L.2.1 13) :: st) :=
  go_get (C := RX12) (T := TX12) (N := 52) (ci := 12) (kf := 10) inlX12 rfl hdg hp hlk rfl (by decide) (by decide) rfl rfl k
theorem gf_13_writer {idx : Nat} (hdg : decode cc pc = .ok (.getfield idx, 3)) (hp : pc + 3 = pc') (hlk : Cond.fieldLink own idx "LetterDrawerModel" "writer" "[I" ∈ WD) (k : Go F L own cc nL R ret Q σ pc' lv (.ref (L.2.1 102) :: st)) : Go F L own cc nL R ret Q σ pc lv (.ref (L.2.1 13) :: st) :=
  go_get (C := RX12) (T := TX12) (N := 52) (ci := 12) (kf := 11) inlX12 rfl hdg hp hlk rfl (by decide) (by decide) rfl rfl k
theorem gf_13_reader {idx : Nat} (hdg : decode cc pc = .ok (.getfield idx, 3)) (hp : pc + 3 = pc') (hlk : Cond.fieldLink own idx "LetterDrawerModel" "reader" "[I" ∈ WD) (k : Go F L own cc nL R ret Q σ pc' lv (.ref (L.2.1 103) :: st)) : Go F L own cc nL R ret Q σ pc lv (.ref (L.2.1 13) :: st) :=
  go_get (C := RX12) (T := TX12) (N := 52) (ci := 12) (kf := 12) inlX12 rfl hdg hp hlk rfl (by decide) (by decide) rfl rfl k
theorem gf_13_place {idx : Nat} (hdg : decode cc pc = .ok (.getfield idx, 3)) (hp : pc + 3 = pc') (hlk : Cond.fieldLink own idx "LetterDrawerModel" "place" "[I" ∈ WD) (k : Go F L own cc nL R ret Q σ pc' lv (.ref (L.2.1 104) :: st)) : Go F L own cc nL R ret Q σ pc lv (.ref (L.2.1 13) :: st) :=
  go_get (C := RX12) (T := TX12) (N := 52) (ci := 12) (kf := 13) inlX12 rfl hdg hp hlk rfl (by decide) (by decide) rfl rfl k
theorem gf_13_least {idx : Nat} (hdg : decode cc pc = .ok (.getfield idx, 3)) (hp : pc + 3 = pc') (hlk : Cond.fieldLink own idx "LetterDrawerModel" "least" "[I" ∈ WD) (k : Go F L own cc nL R ret Q σ pc' lv (.ref (L.2.1 105) :: st)) : Go F L own cc nL R ret Q σ pc lv (.ref (L.2.1 13) :: st) :=
  go_get (C := RX12) (T := TX12) (N := 52) (ci := 12) (kf := 14) inlX12 rfl hdg hp hlk rfl (by decide) (by decide) rfl rfl k
theorem gf_13_most {idx : Nat} (hdg : decode cc pc = .ok (.getfield idx, 3)) (hp : pc + 3 = pc') (hlk : Cond.fieldLink own idx "LetterDrawerModel" "most" "[I" ∈ WD) (k : Go F L own cc nL R ret Q σ pc' lv (.ref (L.2.1 106) :: st)) : Go F L own cc nL R ret Q σ pc lv (.ref (L.2.1 13) :: st) :=
  go_get (C := RX12) (T := TX12) (N := 52) (ci := 12) (kf := 15) inlX12 rfl hdg hp hlk rfl (by decide) (by decide) rfl rfl k
theorem gf_13_week {idx : Nat} (hdg : decode cc pc = .ok (.getfield idx, 3)) (hp : pc + 3 = pc') (hlk : Cond.fieldLink own idx "LetterDrawerModel" "week" "[I" ∈ WD) (k : Go F L own cc nL R ret Q σ pc' lv (.ref (L.2.1 107) :: st)) : Go F L own cc nL R ret Q σ pc lv (.ref (L.2.1 13) :: st) :=
  go_get (C := RX12) (T := TX12) (N := 52) (ci := 12) (kf := 16) inlX12 rfl hdg hp hlk rfl (by decide) (by decide) rfl rfl k
theorem gf_13_is {idx : Nat} (hdg : decode cc pc = .ok (.getfield idx, 3)) (hp : pc + 3 = pc') (hlk : Cond.fieldLink own idx "LetterDrawerModel" "is" "[I" ∈ WD) (k : Go F L own cc nL R ret Q σ pc' lv (.ref (L.2.1 108) :: st)) : Go F L own cc nL R ret Q σ pc lv (.ref (L.2.1 13) :: st) :=
  go_get (C := RX12) (T := TX12) (N := 52) (ci := 12) (kf := 17) inlX12 rfl hdg hp hlk rfl (by decide) (by decide) rfl rfl k
theorem gf_13_length {idx : Nat} (hdg : decode cc pc = .ok (.getfield idx, 3)) (hp : pc + 3 = pc') (hlk : Cond.fieldLink own idx "LetterDrawerModel" "length" "[I" ∈ WD) (k : Go F L own cc nL R ret Q σ pc' lv (.ref (L.2.1 109) :: st)) : Go F L own cc nL R ret Q σ pc lv (.ref (L.2.1 13) :: st) :=
  go_get (C := RX12) (T := TX12) (N := 52) (ci := 12) (kf := 18) inlX12 rfl hdg hp hlk rfl (by decide) (by decide) rfl rfl k
theorem gf_13_texts {idx : Nat} (hdg : decode cc pc = .ok (.getfield idx, 3)) (hp : pc + 3 = pc') (hlk : Cond.fieldLink own idx "LetterDrawerModel" "texts" "[I" ∈ WD) (k : Go F L own cc nL R ret Q σ pc' lv (.ref (L.2.1 110) :: st)) : Go F L own cc nL R ret Q σ pc lv (.ref (L.2.1 13) :: st) :=
  go_get (C := RX12) (T := TX12) (N := 52) (ci := 12) (kf := 19) inlX12 rfl hdg hp hlk rfl (by decide) (by decide) rfl rfl k
theorem gf_13_boundA {idx : Nat} (hdg : decode cc pc = .ok (.getfield idx, 3)) (hp : pc + 3 = pc') (hlk : Cond.fieldLink own idx "LetterDrawerModel" "boundA" "[I" ∈ WD) (k : Go F L own cc nL R ret Q σ pc' lv (.ref (L.2.1 111) :: st)) : Go F L own cc nL R ret Q σ pc lv (.ref (L.2.1 13) :: st) :=
  go_get (C := RX12) (T := TX12) (N := 52) (ci := 12) (kf := 20) inlX12 rfl hdg hp hlk rfl (by decide) (by decide) rfl rfl k
theorem gf_13_boundB {idx : Nat} (hdg : decode cc pc = .ok (.getfield idx, 3)) (hp : pc + 3 = pc') (hlk : Cond.fieldLink own idx "LetterDrawerModel" "boundB" "[I" ∈ WD) (k : Go F L own cc nL R ret Q σ pc' lv (.ref (L.2.1 112) :: st)) : Go F L own cc nL R ret Q σ pc lv (.ref (L.2.1 13) :: st) :=
  go_get (C := RX12) (T := TX12) (N := 52) (ci := 12) (kf := 21) inlX12 rfl hdg hp hlk rfl (by decide) (by decide) rfl rfl k
theorem gf_13_boundBy {idx : Nat} (hdg : decode cc pc = .ok (.getfield idx, 3)) (hp : pc + 3 = pc') (hlk : Cond.fieldLink own idx "LetterDrawerModel" "boundBy" "[I" ∈ WD) (k : Go F L own cc nL R ret Q σ pc' lv (.ref (L.2.1 113) :: st)) : Go F L own cc nL R ret Q σ pc lv (.ref (L.2.1 13) :: st) :=
  go_get (C := RX12) (T := TX12) (N := 52) (ci := 12) (kf := 22) inlX12 rfl hdg hp hlk rfl (by decide) (by decide) rfl rfl k
theorem gf_13_postLeast {idx : Nat} (hdg : decode cc pc = .ok (.getfield idx, 3)) (hp : pc + 3 = pc') (hlk : Cond.fieldLink own idx "LetterDrawerModel" "postLeast" "[I" ∈ WD) (k : Go F L own cc nL R ret Q σ pc' lv (.ref (L.2.1 114) :: st)) : Go F L own cc nL R ret Q σ pc lv (.ref (L.2.1 13) :: st) :=
  go_get (C := RX12) (T := TX12) (N := 52) (ci := 12) (kf := 23) inlX12 rfl hdg hp hlk rfl (by decide) (by decide) rfl rfl k
theorem gf_13_postMost {idx : Nat} (hdg : decode cc pc = .ok (.getfield idx, 3)) (hp : pc + 3 = pc') (hlk : Cond.fieldLink own idx "LetterDrawerModel" "postMost" "[I" ∈ WD) (k : Go F L own cc nL R ret Q σ pc' lv (.ref (L.2.1 115) :: st)) : Go F L own cc nL R ret Q σ pc lv (.ref (L.2.1 13) :: st) :=
  go_get (C := RX12) (T := TX12) (N := 52) (ci := 12) (kf := 24) inlX12 rfl hdg hp hlk rfl (by decide) (by decide) rfl rfl k
theorem gf_13_handLetter {idx : Nat} (hdg : decode cc pc = .ok (.getfield idx, 3)) (hp : pc + 3 = pc') (hlk : Cond.fieldLink own idx "LetterDrawerModel" "handLetter" "[I" ∈ WD) (k : Go F L own cc nL R ret Q σ pc' lv (.ref (L.2.1 116) :: st)) : Go F L own cc nL R ret Q σ pc lv (.ref (L.2.1 13) :: st) :=
  go_get (C := RX12) (T := TX12) (N := 52) (ci := 12) (kf := 25) inlX12 rfl hdg hp hlk rfl (by decide) (by decide) rfl rfl k
theorem gf_13_handName {idx : Nat} (hdg : decode cc pc = .ok (.getfield idx, 3)) (hp : pc + 3 = pc') (hlk : Cond.fieldLink own idx "LetterDrawerModel" "handName" "[I" ∈ WD) (k : Go F L own cc nL R ret Q σ pc' lv (.ref (L.2.1 117) :: st)) : Go F L own cc nL R ret Q σ pc lv (.ref (L.2.1 13) :: st) :=
  go_get (C := RX12) (T := TX12) (N := 52) (ci := 12) (kf := 26) inlX12 rfl hdg hp hlk rfl (by decide) (by decide) rfl rfl k
theorem gf_13_handPerson {idx : Nat} (hdg : decode cc pc = .ok (.getfield idx, 3)) (hp : pc + 3 = pc') (hlk : Cond.fieldLink own idx "LetterDrawerModel" "handPerson" "[I" ∈ WD) (k : Go F L own cc nL R ret Q σ pc' lv (.ref (L.2.1 118) :: st)) : Go F L own cc nL R ret Q σ pc lv (.ref (L.2.1 13) :: st) :=
  go_get (C := RX12) (T := TX12) (N := 52) (ci := 12) (kf := 27) inlX12 rfl hdg hp hlk rfl (by decide) (by decide) rfl rfl k
theorem gf_13_tape {idx : Nat} (hdg : decode cc pc = .ok (.getfield idx, 3)) (hp : pc + 3 = pc') (hlk : Cond.fieldLink own idx "LetterDrawerModel" "tape" "[I" ∈ WD) (k : Go F L own cc nL R ret Q σ pc' lv (.ref (L.2.1 119) :: st)) : Go F L own cc nL R ret Q σ pc lv (.ref (L.2.1 13) :: st) :=
  go_get (C := RX12) (T := TX12) (N := 52) (ci := 12) (kf := 28) inlX12 rfl hdg hp hlk rfl (by decide) (by decide) rfl rfl k
theorem gf_13_low {idx : Nat} (hdg : decode cc pc = .ok (.getfield idx, 3)) (hp : pc + 3 = pc') (hlk : Cond.fieldLink own idx "LetterDrawerModel" "low" "[I" ∈ WD) (k : Go F L own cc nL R ret Q σ pc' lv (.ref (L.2.1 120) :: st)) : Go F L own cc nL R ret Q σ pc lv (.ref (L.2.1 13) :: st) :=
  go_get (C := RX12) (T := TX12) (N := 52) (ci := 12) (kf := 29) inlX12 rfl hdg hp hlk rfl (by decide) (by decide) rfl rfl k
theorem gf_13_high {idx : Nat} (hdg : decode cc pc = .ok (.getfield idx, 3)) (hp : pc + 3 = pc') (hlk : Cond.fieldLink own idx "LetterDrawerModel" "high" "[I" ∈ WD) (k : Go F L own cc nL R ret Q σ pc' lv (.ref (L.2.1 121) :: st)) : Go F L own cc nL R ret Q σ pc lv (.ref (L.2.1 13) :: st) :=
  go_get (C := RX12) (T := TX12) (N := 52) (ci := 12) (kf := 30) inlX12 rfl hdg hp hlk rfl (by decide) (by decide) rfl rfl k
theorem gf_13_moved {idx : Nat} (hdg : decode cc pc = .ok (.getfield idx, 3)) (hp : pc + 3 = pc') (hlk : Cond.fieldLink own idx "LetterDrawerModel" "moved" "Z" ∈ WD) (k : Go F L own cc nL R ret Q σ pc' lv (.int (σ.1 24) :: st)) : Go F L own cc nL R ret Q σ pc lv (.ref (L.2.1 13) :: st) :=
  go_get (C := RX12) (T := TX12) (N := 52) (ci := 12) (kf := 31) inlX12 rfl hdg hp hlk rfl (by decide) (by decide) rfl rfl k
theorem pf_13_moved {idx : Nat} {v : Int32} (hdg : decode cc pc = .ok (.putfield idx, 3)) (hp : pc + 3 = pc') (hlk : Cond.fieldLink own idx "LetterDrawerModel" "moved" "Z" ∈ WD) (hz : narrow .boolean (.int v) = .int v) (hf : fits .boolean (.int v) = true) (k : Go F L own cc nL R ret Q (setI σ 24 v) pc' lv st) : Go F L own cc nL R ret Q σ pc lv (.int v :: .ref (L.2.1 13) :: st) :=
  go_put (C := RX12) (T := TX12) (N := 52) (ci := 12) (kf := 31) (ty := .boolean) inlX12 tyX12 tyX12_ok nmX12 rfl hdg hp hlk rfl (by decide) (by decide) rfl rfl hz hf (Nat.le_of_ble_eq_true rfl) rfl (cell_setI L σ 24 v) k
theorem gf_13_way {idx : Nat} (hdg : decode cc pc = .ok (.getfield idx, 3)) (hp : pc + 3 = pc') (hlk : Cond.fieldLink own idx "LetterDrawerModel" "way" "[I" ∈ WD) (k : Go F L own cc nL R ret Q σ pc' lv (.ref (L.2.1 122) :: st)) : Go F L own cc nL R ret Q σ pc lv (.ref (L.2.1 13) :: st) :=
  go_get (C := RX12) (T := TX12) (N := 52) (ci := 12) (kf := 32) inlX12 rfl hdg hp hlk rfl (by decide) (by decide) rfl rfl k
theorem gf_13_meant {idx : Nat} (hdg : decode cc pc = .ok (.getfield idx, 3)) (hp : pc + 3 = pc') (hlk : Cond.fieldLink own idx "LetterDrawerModel" "meant" "I" ∈ WD) (k : Go F L own cc nL R ret Q σ pc' lv (.int (σ.1 25) :: st)) : Go F L own cc nL R ret Q σ pc lv (.ref (L.2.1 13) :: st) :=
  go_get (C := RX12) (T := TX12) (N := 52) (ci := 12) (kf := 33) inlX12 rfl hdg hp hlk rfl (by decide) (by decide) rfl rfl k
theorem pf_13_meant {idx : Nat} {v : Int32} (hdg : decode cc pc = .ok (.putfield idx, 3)) (hp : pc + 3 = pc') (hlk : Cond.fieldLink own idx "LetterDrawerModel" "meant" "I" ∈ WD) (k : Go F L own cc nL R ret Q (setI σ 25 v) pc' lv st) : Go F L own cc nL R ret Q σ pc lv (.int v :: .ref (L.2.1 13) :: st) :=
  go_put (C := RX12) (T := TX12) (N := 52) (ci := 12) (kf := 33) (ty := .int) inlX12 tyX12 tyX12_ok nmX12 rfl hdg hp hlk rfl (by decide) (by decide) rfl rfl rfl rfl (Nat.le_of_ble_eq_true rfl) rfl (cell_setI L σ 25 v) k
theorem gf_13_faultKind {idx : Nat} (hdg : decode cc pc = .ok (.getfield idx, 3)) (hp : pc + 3 = pc') (hlk : Cond.fieldLink own idx "LetterDrawerModel" "faultKind" "I" ∈ WD) (k : Go F L own cc nL R ret Q σ pc' lv (.int (σ.1 26) :: st)) : Go F L own cc nL R ret Q σ pc lv (.ref (L.2.1 13) :: st) :=
  go_get (C := RX12) (T := TX12) (N := 52) (ci := 12) (kf := 34) inlX12 rfl hdg hp hlk rfl (by decide) (by decide) rfl rfl k
theorem pf_13_faultKind {idx : Nat} {v : Int32} (hdg : decode cc pc = .ok (.putfield idx, 3)) (hp : pc + 3 = pc') (hlk : Cond.fieldLink own idx "LetterDrawerModel" "faultKind" "I" ∈ WD) (k : Go F L own cc nL R ret Q (setI σ 26 v) pc' lv st) : Go F L own cc nL R ret Q σ pc lv (.int v :: .ref (L.2.1 13) :: st) :=
  go_put (C := RX12) (T := TX12) (N := 52) (ci := 12) (kf := 34) (ty := .int) inlX12 tyX12 tyX12_ok nmX12 rfl hdg hp hlk rfl (by decide) (by decide) rfl rfl rfl rfl (Nat.le_of_ble_eq_true rfl) rfl (cell_setI L σ 26 v) k
theorem gf_13_faultAt {idx : Nat} (hdg : decode cc pc = .ok (.getfield idx, 3)) (hp : pc + 3 = pc') (hlk : Cond.fieldLink own idx "LetterDrawerModel" "faultAt" "I" ∈ WD) (k : Go F L own cc nL R ret Q σ pc' lv (.int (σ.1 27) :: st)) : Go F L own cc nL R ret Q σ pc lv (.ref (L.2.1 13) :: st) :=
  go_get (C := RX12) (T := TX12) (N := 52) (ci := 12) (kf := 35) inlX12 rfl hdg hp hlk rfl (by decide) (by decide) rfl rfl k
theorem pf_13_faultAt {idx : Nat} {v : Int32} (hdg : decode cc pc = .ok (.putfield idx, 3)) (hp : pc + 3 = pc') (hlk : Cond.fieldLink own idx "LetterDrawerModel" "faultAt" "I" ∈ WD) (k : Go F L own cc nL R ret Q (setI σ 27 v) pc' lv st) : Go F L own cc nL R ret Q σ pc lv (.int v :: .ref (L.2.1 13) :: st) :=
  go_put (C := RX12) (T := TX12) (N := 52) (ci := 12) (kf := 35) (ty := .int) inlX12 tyX12 tyX12_ok nmX12 rfl hdg hp hlk rfl (by decide) (by decide) rfl rfl rfl rfl (Nat.le_of_ble_eq_true rfl) rfl (cell_setI L σ 27 v) k
theorem gf_13_opened {idx : Nat} (hdg : decode cc pc = .ok (.getfield idx, 3)) (hp : pc + 3 = pc') (hlk : Cond.fieldLink own idx "LetterDrawerModel" "opened" "I" ∈ WD) (k : Go F L own cc nL R ret Q σ pc' lv (.int (σ.1 28) :: st)) : Go F L own cc nL R ret Q σ pc lv (.ref (L.2.1 13) :: st) :=
  go_get (C := RX12) (T := TX12) (N := 52) (ci := 12) (kf := 36) inlX12 rfl hdg hp hlk rfl (by decide) (by decide) rfl rfl k
theorem pf_13_opened {idx : Nat} {v : Int32} (hdg : decode cc pc = .ok (.putfield idx, 3)) (hp : pc + 3 = pc') (hlk : Cond.fieldLink own idx "LetterDrawerModel" "opened" "I" ∈ WD) (k : Go F L own cc nL R ret Q (setI σ 28 v) pc' lv st) : Go F L own cc nL R ret Q σ pc lv (.int v :: .ref (L.2.1 13) :: st) :=
  go_put (C := RX12) (T := TX12) (N := 52) (ci := 12) (kf := 36) (ty := .int) inlX12 tyX12 tyX12_ok nmX12 rfl hdg hp hlk rfl (by decide) (by decide) rfl rfl rfl rfl (Nat.le_of_ble_eq_true rfl) rfl (cell_setI L σ 28 v) k
theorem gf_13_open {idx : Nat} (hdg : decode cc pc = .ok (.getfield idx, 3)) (hp : pc + 3 = pc') (hlk : Cond.fieldLink own idx "LetterDrawerModel" "open" "[I" ∈ WD) (k : Go F L own cc nL R ret Q σ pc' lv (.ref (L.2.1 123) :: st)) : Go F L own cc nL R ret Q σ pc lv (.ref (L.2.1 13) :: st) :=
  go_get (C := RX12) (T := TX12) (N := 52) (ci := 12) (kf := 37) inlX12 rfl hdg hp hlk rfl (by decide) (by decide) rfl rfl k
theorem gf_13_print {idx : Nat} (hdg : decode cc pc = .ok (.getfield idx, 3)) (hp : pc + 3 = pc') (hlk : Cond.fieldLink own idx "LetterDrawerModel" "print" "[I" ∈ WD) (k : Go F L own cc nL R ret Q σ pc' lv (.ref (L.2.1 124) :: st)) : Go F L own cc nL R ret Q σ pc lv (.ref (L.2.1 13) :: st) :=
  go_get (C := RX12) (T := TX12) (N := 52) (ci := 12) (kf := 38) inlX12 rfl hdg hp hlk rfl (by decide) (by decide) rfl rfl k
theorem gf_13_row {idx : Nat} (hdg : decode cc pc = .ok (.getfield idx, 3)) (hp : pc + 3 = pc') (hlk : Cond.fieldLink own idx "LetterDrawerModel" "row" "[I" ∈ WD) (k : Go F L own cc nL R ret Q σ pc' lv (.ref (L.2.1 125) :: st)) : Go F L own cc nL R ret Q σ pc lv (.ref (L.2.1 13) :: st) :=
  go_get (C := RX12) (T := TX12) (N := 52) (ci := 12) (kf := 39) inlX12 rfl hdg hp hlk rfl (by decide) (by decide) rfl rfl k
theorem gf_13_printMany {idx : Nat} (hdg : decode cc pc = .ok (.getfield idx, 3)) (hp : pc + 3 = pc') (hlk : Cond.fieldLink own idx "LetterDrawerModel" "printMany" "I" ∈ WD) (k : Go F L own cc nL R ret Q σ pc' lv (.int (σ.1 29) :: st)) : Go F L own cc nL R ret Q σ pc lv (.ref (L.2.1 13) :: st) :=
  go_get (C := RX12) (T := TX12) (N := 52) (ci := 12) (kf := 40) inlX12 rfl hdg hp hlk rfl (by decide) (by decide) rfl rfl k
theorem pf_13_printMany {idx : Nat} {v : Int32} (hdg : decode cc pc = .ok (.putfield idx, 3)) (hp : pc + 3 = pc') (hlk : Cond.fieldLink own idx "LetterDrawerModel" "printMany" "I" ∈ WD) (k : Go F L own cc nL R ret Q (setI σ 29 v) pc' lv st) : Go F L own cc nL R ret Q σ pc lv (.int v :: .ref (L.2.1 13) :: st) :=
  go_put (C := RX12) (T := TX12) (N := 52) (ci := 12) (kf := 40) (ty := .int) inlX12 tyX12 tyX12_ok nmX12 rfl hdg hp hlk rfl (by decide) (by decide) rfl rfl rfl rfl (Nat.le_of_ble_eq_true rfl) rfl (cell_setI L σ 29 v) k
theorem gf_13_signs {idx : Nat} (hdg : decode cc pc = .ok (.getfield idx, 3)) (hp : pc + 3 = pc') (hlk : Cond.fieldLink own idx "LetterDrawerModel" "signs" "[I" ∈ WD) (k : Go F L own cc nL R ret Q σ pc' lv (.ref (L.2.1 126) :: st)) : Go F L own cc nL R ret Q σ pc lv (.ref (L.2.1 13) :: st) :=
  go_get (C := RX12) (T := TX12) (N := 52) (ci := 12) (kf := 41) inlX12 rfl hdg hp hlk rfl (by decide) (by decide) rfl rfl k
theorem gf_13_begins {idx : Nat} (hdg : decode cc pc = .ok (.getfield idx, 3)) (hp : pc + 3 = pc') (hlk : Cond.fieldLink own idx "LetterDrawerModel" "begins" "[I" ∈ WD) (k : Go F L own cc nL R ret Q σ pc' lv (.ref (L.2.1 127) :: st)) : Go F L own cc nL R ret Q σ pc lv (.ref (L.2.1 13) :: st) :=
  go_get (C := RX12) (T := TX12) (N := 52) (ci := 12) (kf := 42) inlX12 rfl hdg hp hlk rfl (by decide) (by decide) rfl rfl k
theorem gf_13_ends {idx : Nat} (hdg : decode cc pc = .ok (.getfield idx, 3)) (hp : pc + 3 = pc') (hlk : Cond.fieldLink own idx "LetterDrawerModel" "ends" "[I" ∈ WD) (k : Go F L own cc nL R ret Q σ pc' lv (.ref (L.2.1 128) :: st)) : Go F L own cc nL R ret Q σ pc lv (.ref (L.2.1 13) :: st) :=
  go_get (C := RX12) (T := TX12) (N := 52) (ci := 12) (kf := 43) inlX12 rfl hdg hp hlk rfl (by decide) (by decide) rfl rfl k
theorem gf_13_wordMany {idx : Nat} (hdg : decode cc pc = .ok (.getfield idx, 3)) (hp : pc + 3 = pc') (hlk : Cond.fieldLink own idx "LetterDrawerModel" "wordMany" "[I" ∈ WD) (k : Go F L own cc nL R ret Q σ pc' lv (.ref (L.2.1 129) :: st)) : Go F L own cc nL R ret Q σ pc lv (.ref (L.2.1 13) :: st) :=
  go_get (C := RX12) (T := TX12) (N := 52) (ci := 12) (kf := 44) inlX12 rfl hdg hp hlk rfl (by decide) (by decide) rfl rfl k
theorem gf_13_above {idx : Nat} (hdg : decode cc pc = .ok (.getfield idx, 3)) (hp : pc + 3 = pc') (hlk : Cond.fieldLink own idx "LetterDrawerModel" "above" "[I" ∈ WD) (k : Go F L own cc nL R ret Q σ pc' lv (.ref (L.2.1 130) :: st)) : Go F L own cc nL R ret Q σ pc lv (.ref (L.2.1 13) :: st) :=
  go_get (C := RX12) (T := TX12) (N := 52) (ci := 12) (kf := 45) inlX12 rfl hdg hp hlk rfl (by decide) (by decide) rfl rfl k
theorem gf_13_below {idx : Nat} (hdg : decode cc pc = .ok (.getfield idx, 3)) (hp : pc + 3 = pc') (hlk : Cond.fieldLink own idx "LetterDrawerModel" "below" "[I" ∈ WD) (k : Go F L own cc nL R ret Q σ pc' lv (.ref (L.2.1 131) :: st)) : Go F L own cc nL R ret Q σ pc lv (.ref (L.2.1 13) :: st) :=
  go_get (C := RX12) (T := TX12) (N := 52) (ci := 12) (kf := 46) inlX12 rfl hdg hp hlk rfl (by decide) (by decide) rfl rfl k
theorem gf_13_some {idx : Nat} (hdg : decode cc pc = .ok (.getfield idx, 3)) (hp : pc + 3 = pc') (hlk : Cond.fieldLink own idx "LetterDrawerModel" "some" "[I" ∈ WD) (k : Go F L own cc nL R ret Q σ pc' lv (.ref (L.2.1 132) :: st)) : Go F L own cc nL R ret Q σ pc lv (.ref (L.2.1 13) :: st) :=
  go_get (C := RX12) (T := TX12) (N := 52) (ci := 12) (kf := 47) inlX12 rfl hdg hp hlk rfl (by decide) (by decide) rfl rfl k
theorem gf_13_jumps {idx : Nat} (hdg : decode cc pc = .ok (.getfield idx, 3)) (hp : pc + 3 = pc') (hlk : Cond.fieldLink own idx "LetterDrawerModel" "jumps" "[I" ∈ WD) (k : Go F L own cc nL R ret Q σ pc' lv (.ref (L.2.1 133) :: st)) : Go F L own cc nL R ret Q σ pc lv (.ref (L.2.1 13) :: st) :=
  go_get (C := RX12) (T := TX12) (N := 52) (ci := 12) (kf := 48) inlX12 rfl hdg hp hlk rfl (by decide) (by decide) rfl rfl k
theorem gf_13_many {idx : Nat} (hdg : decode cc pc = .ok (.getfield idx, 3)) (hp : pc + 3 = pc') (hlk : Cond.fieldLink own idx "LetterDrawerModel" "many" "I" ∈ WD) (k : Go F L own cc nL R ret Q σ pc' lv (.int (σ.1 30) :: st)) : Go F L own cc nL R ret Q σ pc lv (.ref (L.2.1 13) :: st) :=
  go_get (C := RX12) (T := TX12) (N := 52) (ci := 12) (kf := 49) inlX12 rfl hdg hp hlk rfl (by decide) (by decide) rfl rfl k
theorem pf_13_many {idx : Nat} {v : Int32} (hdg : decode cc pc = .ok (.putfield idx, 3)) (hp : pc + 3 = pc') (hlk : Cond.fieldLink own idx "LetterDrawerModel" "many" "I" ∈ WD) (k : Go F L own cc nL R ret Q (setI σ 30 v) pc' lv st) : Go F L own cc nL R ret Q σ pc lv (.int v :: .ref (L.2.1 13) :: st) :=
  go_put (C := RX12) (T := TX12) (N := 52) (ci := 12) (kf := 49) (ty := .int) inlX12 tyX12 tyX12_ok nmX12 rfl hdg hp hlk rfl (by decide) (by decide) rfl rfl rfl rfl (Nat.le_of_ble_eq_true rfl) rfl (cell_setI L σ 30 v) k
theorem gf_13_traySize {idx : Nat} (hdg : decode cc pc = .ok (.getfield idx, 3)) (hp : pc + 3 = pc') (hlk : Cond.fieldLink own idx "LetterDrawerModel" "traySize" "[I" ∈ WD) (k : Go F L own cc nL R ret Q σ pc' lv (.ref (L.2.1 134) :: st)) : Go F L own cc nL R ret Q σ pc lv (.ref (L.2.1 13) :: st) :=
  go_get (C := RX12) (T := TX12) (N := 52) (ci := 12) (kf := 50) inlX12 rfl hdg hp hlk rfl (by decide) (by decide) rfl rfl k
theorem gf_13_trays {idx : Nat} (hdg : decode cc pc = .ok (.getfield idx, 3)) (hp : pc + 3 = pc') (hlk : Cond.fieldLink own idx "LetterDrawerModel" "trays" "[I" ∈ WD) (k : Go F L own cc nL R ret Q σ pc' lv (.ref (L.2.1 135) :: st)) : Go F L own cc nL R ret Q σ pc lv (.ref (L.2.1 13) :: st) :=
  go_get (C := RX12) (T := TX12) (N := 52) (ci := 12) (kf := 51) inlX12 rfl hdg hp hlk rfl (by decide) (by decide) rfl rfl k
end GOF
end
