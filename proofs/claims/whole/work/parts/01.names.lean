-- ===== PART A: goes FIRST, ahead of the names: the tables' words, and 'selects' of the private methods out of them =====
/-- a private method of a class that the tables say can be made, by its rows of tables_1 -/
def lw_okq (q : MethodName × Nat) : Prop := (q.1.cls ≠ "java/lang/invoke/MethodHandle" ∧ q.1.cls ≠ "java/lang/invoke/VarHandle") ∧ Cond.instantiable q.1.cls q.2 ∈ tables_1 ∧ Cond.privateMethod q.1 ∈ tables_1 ∧ Cond.instanceMethod q.1 ∈ tables_1
theorem lw_p0 : lw_okq (⟨"SheetMarker", "sheetAt", "(I)LSheetMarker$Sheet;"⟩, 7) := ⟨⟨by decide +kernel, by decide +kernel⟩, List.mem_of_getElem? (i := 15) (by decide +kernel), List.mem_of_getElem? (i := 228) (by decide +kernel), List.mem_of_getElem? (i := 229) (by decide +kernel)⟩
theorem lw_p1 : lw_okq (⟨"SheetMarker$Sheet", "put", "(IIILSheetMarker$Formula;J)V"⟩, 6) := ⟨⟨by decide +kernel, by decide +kernel⟩, List.mem_of_getElem? (i := 60) (by decide +kernel), List.mem_of_getElem? (i := 242) (by decide +kernel), List.mem_of_getElem? (i := 243) (by decide +kernel)⟩
theorem lw_p2 : lw_okq (⟨"SheetMarker$Parser", "pass", "(I)V"⟩, 3) := ⟨⟨by decide +kernel, by decide +kernel⟩, List.mem_of_getElem? (i := 288) (by decide +kernel), List.mem_of_getElem? (i := 308) (by decide +kernel), List.mem_of_getElem? (i := 309) (by decide +kernel)⟩
theorem lw_p3 : lw_okq (⟨"SheetMarker$Parser", "passWithin", "(II)I"⟩, 3) := ⟨⟨by decide +kernel, by decide +kernel⟩, List.mem_of_getElem? (i := 288) (by decide +kernel), List.mem_of_getElem? (i := 312) (by decide +kernel), List.mem_of_getElem? (i := 313) (by decide +kernel)⟩
theorem lw_p4 : lw_okq (⟨"SheetMarker$Parser", "next", "()I"⟩, 3) := ⟨⟨by decide +kernel, by decide +kernel⟩, List.mem_of_getElem? (i := 288) (by decide +kernel), List.mem_of_getElem? (i := 316) (by decide +kernel), List.mem_of_getElem? (i := 317) (by decide +kernel)⟩
theorem lw_p5 : lw_okq (⟨"SheetMarker$Parser", "fail", "(I)V"⟩, 3) := ⟨⟨by decide +kernel, by decide +kernel⟩, List.mem_of_getElem? (i := 288) (by decide +kernel), List.mem_of_getElem? (i := 324) (by decide +kernel), List.mem_of_getElem? (i := 325) (by decide +kernel)⟩
theorem lw_p6 : lw_okq (⟨"SheetMarker$Parser", "readSum", "(I)V"⟩, 3) := ⟨⟨by decide +kernel, by decide +kernel⟩, List.mem_of_getElem? (i := 288) (by decide +kernel), List.mem_of_getElem? (i := 328) (by decide +kernel), List.mem_of_getElem? (i := 329) (by decide +kernel)⟩
theorem lw_p7 : lw_okq (⟨"SheetMarker$Parser", "readProduct", "(I)V"⟩, 3) := ⟨⟨by decide +kernel, by decide +kernel⟩, List.mem_of_getElem? (i := 288) (by decide +kernel), List.mem_of_getElem? (i := 332) (by decide +kernel), List.mem_of_getElem? (i := 333) (by decide +kernel)⟩
theorem lw_p8 : lw_okq (⟨"SheetMarker$Parser", "readFactor", "(I)V"⟩, 3) := ⟨⟨by decide +kernel, by decide +kernel⟩, List.mem_of_getElem? (i := 288) (by decide +kernel), List.mem_of_getElem? (i := 336) (by decide +kernel), List.mem_of_getElem? (i := 337) (by decide +kernel)⟩
theorem lw_p9 : lw_okq (⟨"SheetMarker$Parser", "readNegative", "(I)V"⟩, 3) := ⟨⟨by decide +kernel, by decide +kernel⟩, List.mem_of_getElem? (i := 288) (by decide +kernel), List.mem_of_getElem? (i := 340) (by decide +kernel), List.mem_of_getElem? (i := 341) (by decide +kernel)⟩
theorem lw_p10 : lw_okq (⟨"SheetMarker$Parser", "readRectangle", "()V"⟩, 3) := ⟨⟨by decide +kernel, by decide +kernel⟩, List.mem_of_getElem? (i := 288) (by decide +kernel), List.mem_of_getElem? (i := 348) (by decide +kernel), List.mem_of_getElem? (i := 349) (by decide +kernel)⟩
theorem lw_p11 : lw_okq (⟨"SheetMarker$Parser", "readCell", "(I)V"⟩, 3) := ⟨⟨by decide +kernel, by decide +kernel⟩, List.mem_of_getElem? (i := 288) (by decide +kernel), List.mem_of_getElem? (i := 352) (by decide +kernel), List.mem_of_getElem? (i := 353) (by decide +kernel)⟩
theorem lw_p12 : lw_okq (⟨"SheetMarker$Parser", "readGreater", "(I)V"⟩, 3) := ⟨⟨by decide +kernel, by decide +kernel⟩, List.mem_of_getElem? (i := 288) (by decide +kernel), List.mem_of_getElem? (i := 356) (by decide +kernel), List.mem_of_getElem? (i := 357) (by decide +kernel)⟩
theorem lw_p13 : lw_okq (⟨"SheetMarker$Parser", "readNumber", "()V"⟩, 3) := ⟨⟨by decide +kernel, by decide +kernel⟩, List.mem_of_getElem? (i := 288) (by decide +kernel), List.mem_of_getElem? (i := 363) (by decide +kernel), List.mem_of_getElem? (i := 364) (by decide +kernel)⟩
theorem lw_p14 : lw_okq (⟨"SheetMarker", "reckonsOwn", "(III)Z"⟩, 7) := ⟨⟨by decide +kernel, by decide +kernel⟩, List.mem_of_getElem? (i := 15) (by decide +kernel), List.mem_of_getElem? (i := 484) (by decide +kernel), List.mem_of_getElem? (i := 485) (by decide +kernel)⟩
theorem lw_p15 : lw_okq (⟨"SheetMarker$Figures", "plan", "(LSheetMarker$Sheet;JI)V"⟩, 8) := ⟨⟨by decide +kernel, by decide +kernel⟩, List.mem_of_getElem? (i := 120) (by decide +kernel), List.mem_of_getElem? (i := 501) (by decide +kernel), List.mem_of_getElem? (i := 502) (by decide +kernel)⟩
def lw_privs_1 : List (MethodName × Nat) := [(⟨"SheetMarker", "sheetAt", "(I)LSheetMarker$Sheet;"⟩, 7), (⟨"SheetMarker$Sheet", "put", "(IIILSheetMarker$Formula;J)V"⟩, 6), (⟨"SheetMarker$Parser", "pass", "(I)V"⟩, 3), (⟨"SheetMarker$Parser", "passWithin", "(II)I"⟩, 3), (⟨"SheetMarker$Parser", "next", "()I"⟩, 3), (⟨"SheetMarker$Parser", "fail", "(I)V"⟩, 3), (⟨"SheetMarker$Parser", "readSum", "(I)V"⟩, 3), (⟨"SheetMarker$Parser", "readProduct", "(I)V"⟩, 3), (⟨"SheetMarker$Parser", "readFactor", "(I)V"⟩, 3), (⟨"SheetMarker$Parser", "readNegative", "(I)V"⟩, 3), (⟨"SheetMarker$Parser", "readRectangle", "()V"⟩, 3), (⟨"SheetMarker$Parser", "readCell", "(I)V"⟩, 3), (⟨"SheetMarker$Parser", "readGreater", "(I)V"⟩, 3), (⟨"SheetMarker$Parser", "readNumber", "()V"⟩, 3), (⟨"SheetMarker", "reckonsOwn", "(III)Z"⟩, 7), (⟨"SheetMarker$Figures", "plan", "(LSheetMarker$Sheet;JI)V"⟩, 8)]
theorem lw_r1 : ∀ q ∈ lw_privs_1, lw_okq q := List.forall_mem_cons.mpr ⟨lw_p0, List.forall_mem_cons.mpr ⟨lw_p1, List.forall_mem_cons.mpr ⟨lw_p2, List.forall_mem_cons.mpr ⟨lw_p3, List.forall_mem_cons.mpr ⟨lw_p4, List.forall_mem_cons.mpr ⟨lw_p5, List.forall_mem_cons.mpr ⟨lw_p6, List.forall_mem_cons.mpr ⟨lw_p7, List.forall_mem_cons.mpr ⟨lw_p8, List.forall_mem_cons.mpr ⟨lw_p9, List.forall_mem_cons.mpr ⟨lw_p10, List.forall_mem_cons.mpr ⟨lw_p11, List.forall_mem_cons.mpr ⟨lw_p12, List.forall_mem_cons.mpr ⟨lw_p13, List.forall_mem_cons.mpr ⟨lw_p14, List.forall_mem_cons.mpr ⟨lw_p15, fun _ h => absurd h List.not_mem_nil⟩⟩⟩⟩⟩⟩⟩⟩⟩⟩⟩⟩⟩⟩⟩⟩
theorem lw_p16 : lw_okq (⟨"SheetMarker$Figures", "append", "(I)V"⟩, 8) := ⟨⟨by decide +kernel, by decide +kernel⟩, List.mem_of_getElem? (i := 120) (by decide +kernel), List.mem_of_getElem? (i := 514) (by decide +kernel), List.mem_of_getElem? (i := 515) (by decide +kernel)⟩
theorem lw_p17 : lw_okq (⟨"SheetMarker$Figures", "layHeld", "(LSheetMarker$Sheet;I)V"⟩, 8) := ⟨⟨by decide +kernel, by decide +kernel⟩, List.mem_of_getElem? (i := 120) (by decide +kernel), List.mem_of_getElem? (i := 519) (by decide +kernel), List.mem_of_getElem? (i := 520) (by decide +kernel)⟩
theorem lw_p18 : lw_okq (⟨"SheetMarker$Figures", "put", "(IIJI)V"⟩, 8) := ⟨⟨by decide +kernel, by decide +kernel⟩, List.mem_of_getElem? (i := 120) (by decide +kernel), List.mem_of_getElem? (i := 528) (by decide +kernel), List.mem_of_getElem? (i := 529) (by decide +kernel)⟩
theorem lw_p19 : lw_okq (⟨"SheetMarker$Figures", "follow", "(LSheetMarker$Sheet;I)V"⟩, 8) := ⟨⟨by decide +kernel, by decide +kernel⟩, List.mem_of_getElem? (i := 120) (by decide +kernel), List.mem_of_getElem? (i := 537) (by decide +kernel), List.mem_of_getElem? (i := 538) (by decide +kernel)⟩
theorem lw_p20 : lw_okq (⟨"SheetMarker$Machine", "push", "(J)V"⟩, 4) := ⟨⟨by decide +kernel, by decide +kernel⟩, List.mem_of_getElem? (i := 101) (by decide +kernel), List.mem_of_getElem? (i := 563) (by decide +kernel), List.mem_of_getElem? (i := 564) (by decide +kernel)⟩
theorem lw_p21 : lw_okq (⟨"SheetMarker$Machine", "pushCell", "(LSheetMarker$Figures;II)V"⟩, 4) := ⟨⟨by decide +kernel, by decide +kernel⟩, List.mem_of_getElem? (i := 101) (by decide +kernel), List.mem_of_getElem? (i := 569) (by decide +kernel), List.mem_of_getElem? (i := 570) (by decide +kernel)⟩
theorem lw_p22 : lw_okq (⟨"SheetMarker$Machine", "pop", "()J"⟩, 4) := ⟨⟨by decide +kernel, by decide +kernel⟩, List.mem_of_getElem? (i := 101) (by decide +kernel), List.mem_of_getElem? (i := 581) (by decide +kernel), List.mem_of_getElem? (i := 582) (by decide +kernel)⟩
theorem lw_p23 : lw_okq (⟨"SheetMarker$Machine", "pushRectangle", "(LSheetMarker$Figures;I)V"⟩, 4) := ⟨⟨by decide +kernel, by decide +kernel⟩, List.mem_of_getElem? (i := 101) (by decide +kernel), List.mem_of_getElem? (i := 585) (by decide +kernel), List.mem_of_getElem? (i := 586) (by decide +kernel)⟩
theorem lw_p24 : lw_okq (⟨"SheetMarker$Machine", "join", "(I)V"⟩, 4) := ⟨⟨by decide +kernel, by decide +kernel⟩, List.mem_of_getElem? (i := 101) (by decide +kernel), List.mem_of_getElem? (i := 591) (by decide +kernel), List.mem_of_getElem? (i := 592) (by decide +kernel)⟩
theorem lw_p25 : lw_okq (⟨"SheetMarker$Machine", "multiply", "(JJ)V"⟩, 4) := ⟨⟨by decide +kernel, by decide +kernel⟩, List.mem_of_getElem? (i := 101) (by decide +kernel), List.mem_of_getElem? (i := 595) (by decide +kernel), List.mem_of_getElem? (i := 596) (by decide +kernel)⟩
theorem lw_p26 : lw_okq (⟨"SheetMarker$Machine", "divide", "(JJ)V"⟩, 4) := ⟨⟨by decide +kernel, by decide +kernel⟩, List.mem_of_getElem? (i := 101) (by decide +kernel), List.mem_of_getElem? (i := 602) (by decide +kernel), List.mem_of_getElem? (i := 603) (by decide +kernel)⟩
theorem lw_p27 : lw_okq (⟨"SheetMarker", "reckonsRight", "(III)Z"⟩, 7) := ⟨⟨by decide +kernel, by decide +kernel⟩, List.mem_of_getElem? (i := 15) (by decide +kernel), List.mem_of_getElem? (i := 631) (by decide +kernel), List.mem_of_getElem? (i := 632) (by decide +kernel)⟩
theorem lw_p28 : lw_okq (⟨"SheetMarker$Figures", "layLent", "(JLSheetMarker$Figures;I)V"⟩, 8) := ⟨⟨by decide +kernel, by decide +kernel⟩, List.mem_of_getElem? (i := 120) (by decide +kernel), List.mem_of_getElem? (i := 643) (by decide +kernel), List.mem_of_getElem? (i := 644) (by decide +kernel)⟩
theorem lw_p29 : lw_okq (⟨"SheetMarker", "pupilAt", "(I)LSheetMarker$Sheet;"⟩, 7) := ⟨⟨by decide +kernel, by decide +kernel⟩, List.mem_of_getElem? (i := 15) (by decide +kernel), List.mem_of_getElem? (i := 657) (by decide +kernel), List.mem_of_getElem? (i := 658) (by decide +kernel)⟩
theorem lw_p30 : lw_okq (⟨"SheetMarker$Judge", "judgeNumber", "(LSheetMarker$Sheet;I)I"⟩, 8) := ⟨⟨by decide +kernel, by decide +kernel⟩, List.mem_of_getElem? (i := 153) (by decide +kernel), List.mem_of_getElem? (i := 671) (by decide +kernel), List.mem_of_getElem? (i := 672) (by decide +kernel)⟩
theorem lw_p31 : lw_okq (⟨"SheetMarker$Judge", "isAlike", "(LSheetMarker$Figures;I)Z"⟩, 8) := ⟨⟨by decide +kernel, by decide +kernel⟩, List.mem_of_getElem? (i := 153) (by decide +kernel), List.mem_of_getElem? (i := 681) (by decide +kernel), List.mem_of_getElem? (i := 682) (by decide +kernel)⟩
def lw_privs_2 : List (MethodName × Nat) := [(⟨"SheetMarker$Figures", "append", "(I)V"⟩, 8), (⟨"SheetMarker$Figures", "layHeld", "(LSheetMarker$Sheet;I)V"⟩, 8), (⟨"SheetMarker$Figures", "put", "(IIJI)V"⟩, 8), (⟨"SheetMarker$Figures", "follow", "(LSheetMarker$Sheet;I)V"⟩, 8), (⟨"SheetMarker$Machine", "push", "(J)V"⟩, 4), (⟨"SheetMarker$Machine", "pushCell", "(LSheetMarker$Figures;II)V"⟩, 4), (⟨"SheetMarker$Machine", "pop", "()J"⟩, 4), (⟨"SheetMarker$Machine", "pushRectangle", "(LSheetMarker$Figures;I)V"⟩, 4), (⟨"SheetMarker$Machine", "join", "(I)V"⟩, 4), (⟨"SheetMarker$Machine", "multiply", "(JJ)V"⟩, 4), (⟨"SheetMarker$Machine", "divide", "(JJ)V"⟩, 4), (⟨"SheetMarker", "reckonsRight", "(III)Z"⟩, 7), (⟨"SheetMarker$Figures", "layLent", "(JLSheetMarker$Figures;I)V"⟩, 8), (⟨"SheetMarker", "pupilAt", "(I)LSheetMarker$Sheet;"⟩, 7), (⟨"SheetMarker$Judge", "judgeNumber", "(LSheetMarker$Sheet;I)I"⟩, 8), (⟨"SheetMarker$Judge", "isAlike", "(LSheetMarker$Figures;I)Z"⟩, 8)]
theorem lw_r2 : ∀ q ∈ lw_privs_2, lw_okq q := List.forall_mem_cons.mpr ⟨lw_p16, List.forall_mem_cons.mpr ⟨lw_p17, List.forall_mem_cons.mpr ⟨lw_p18, List.forall_mem_cons.mpr ⟨lw_p19, List.forall_mem_cons.mpr ⟨lw_p20, List.forall_mem_cons.mpr ⟨lw_p21, List.forall_mem_cons.mpr ⟨lw_p22, List.forall_mem_cons.mpr ⟨lw_p23, List.forall_mem_cons.mpr ⟨lw_p24, List.forall_mem_cons.mpr ⟨lw_p25, List.forall_mem_cons.mpr ⟨lw_p26, List.forall_mem_cons.mpr ⟨lw_p27, List.forall_mem_cons.mpr ⟨lw_p28, List.forall_mem_cons.mpr ⟨lw_p29, List.forall_mem_cons.mpr ⟨lw_p30, List.forall_mem_cons.mpr ⟨lw_p31, fun _ h => absurd h List.not_mem_nil⟩⟩⟩⟩⟩⟩⟩⟩⟩⟩⟩⟩⟩⟩⟩⟩
theorem lw_p32 : lw_okq (⟨"SheetMarker$Judge", "findsSlip", "(LSheetMarker$Formula;I)Z"⟩, 8) := ⟨⟨by decide +kernel, by decide +kernel⟩, List.mem_of_getElem? (i := 153) (by decide +kernel), List.mem_of_getElem? (i := 686) (by decide +kernel), List.mem_of_getElem? (i := 687) (by decide +kernel)⟩
theorem lw_p33 : lw_okq (⟨"SheetMarker$Judge", "isSoChanged", "(LSheetMarker$Formula;III)Z"⟩, 8) := ⟨⟨by decide +kernel, by decide +kernel⟩, List.mem_of_getElem? (i := 153) (by decide +kernel), List.mem_of_getElem? (i := 702) (by decide +kernel), List.mem_of_getElem? (i := 703) (by decide +kernel)⟩
theorem lw_p34 : lw_okq (⟨"SheetMarker", "isShared", "(LSheetMarker$Sheet;LSheetMarker$Sheet;I)Z"⟩, 7) := ⟨⟨by decide +kernel, by decide +kernel⟩, List.mem_of_getElem? (i := 15) (by decide +kernel), List.mem_of_getElem? (i := 751) (by decide +kernel), List.mem_of_getElem? (i := 752) (by decide +kernel)⟩
theorem lw_p35 : lw_okq (⟨"SheetMarker", "countComing", "(LSheetMarker$Sheet;I)I"⟩, 7) := ⟨⟨by decide +kernel, by decide +kernel⟩, List.mem_of_getElem? (i := 15) (by decide +kernel), List.mem_of_getElem? (i := 766) (by decide +kernel), List.mem_of_getElem? (i := 767) (by decide +kernel)⟩
theorem lw_p36 : lw_okq (⟨"SheetMarkerModel", "push", "(I)V"⟩, 52) := ⟨⟨by decide +kernel, by decide +kernel⟩, List.mem_of_getElem? (i := 785) (by decide +kernel), List.mem_of_getElem? (i := 954) (by decide +kernel), List.mem_of_getElem? (i := 955) (by decide +kernel)⟩
theorem lw_p37 : lw_okq (⟨"SheetMarkerModel", "reads", "(I)V"⟩, 52) := ⟨⟨by decide +kernel, by decide +kernel⟩, List.mem_of_getElem? (i := 785) (by decide +kernel), List.mem_of_getElem? (i := 979) (by decide +kernel), List.mem_of_getElem? (i := 980) (by decide +kernel)⟩
theorem lw_p38 : lw_okq (⟨"SheetMarkerModel", "must", "(I)V"⟩, 52) := ⟨⟨by decide +kernel, by decide +kernel⟩, List.mem_of_getElem? (i := 785) (by decide +kernel), List.mem_of_getElem? (i := 983) (by decide +kernel), List.mem_of_getElem? (i := 984) (by decide +kernel)⟩
theorem lw_p39 : lw_okq (⟨"SheetMarkerModel", "here", "()I"⟩, 52) := ⟨⟨by decide +kernel, by decide +kernel⟩, List.mem_of_getElem? (i := 785) (by decide +kernel), List.mem_of_getElem? (i := 987) (by decide +kernel), List.mem_of_getElem? (i := 988) (by decide +kernel)⟩
theorem lw_p40 : lw_okq (⟨"SheetMarkerModel", "fails", "(II)V"⟩, 52) := ⟨⟨by decide +kernel, by decide +kernel⟩, List.mem_of_getElem? (i := 785) (by decide +kernel), List.mem_of_getElem? (i := 991) (by decide +kernel), List.mem_of_getElem? (i := 992) (by decide +kernel)⟩
theorem lw_p41 : lw_okq (⟨"SheetMarkerModel", "factor", "()Z"⟩, 52) := ⟨⟨by decide +kernel, by decide +kernel⟩, List.mem_of_getElem? (i := 785) (by decide +kernel), List.mem_of_getElem? (i := 995) (by decide +kernel), List.mem_of_getElem? (i := 996) (by decide +kernel)⟩
theorem lw_p42 : lw_okq (⟨"SheetMarkerModel", "opens", "(I)V"⟩, 52) := ⟨⟨by decide +kernel, by decide +kernel⟩, List.mem_of_getElem? (i := 785) (by decide +kernel), List.mem_of_getElem? (i := 999) (by decide +kernel), List.mem_of_getElem? (i := 1000) (by decide +kernel)⟩
theorem lw_p43 : lw_okq (⟨"SheetMarkerModel", "waits", "(II)V"⟩, 52) := ⟨⟨by decide +kernel, by decide +kernel⟩, List.mem_of_getElem? (i := 785) (by decide +kernel), List.mem_of_getElem? (i := 1003) (by decide +kernel), List.mem_of_getElem? (i := 1004) (by decide +kernel)⟩
theorem lw_p44 : lw_okq (⟨"SheetMarkerModel", "readCell", "()I"⟩, 52) := ⟨⟨by decide +kernel, by decide +kernel⟩, List.mem_of_getElem? (i := 785) (by decide +kernel), List.mem_of_getElem? (i := 1007) (by decide +kernel), List.mem_of_getElem? (i := 1008) (by decide +kernel)⟩
theorem lw_p45 : lw_okq (⟨"SheetMarkerModel", "puts", "(IIIII)V"⟩, 52) := ⟨⟨by decide +kernel, by decide +kernel⟩, List.mem_of_getElem? (i := 785) (by decide +kernel), List.mem_of_getElem? (i := 1011) (by decide +kernel), List.mem_of_getElem? (i := 1012) (by decide +kernel)⟩
theorem lw_p46 : lw_okq (⟨"SheetMarkerModel", "seesDigit", "()Z"⟩, 52) := ⟨⟨by decide +kernel, by decide +kernel⟩, List.mem_of_getElem? (i := 785) (by decide +kernel), List.mem_of_getElem? (i := 1015) (by decide +kernel), List.mem_of_getElem? (i := 1016) (by decide +kernel)⟩
theorem lw_p47 : lw_okq (⟨"SheetMarkerModel", "readNumber", "()I"⟩, 52) := ⟨⟨by decide +kernel, by decide +kernel⟩, List.mem_of_getElem? (i := 785) (by decide +kernel), List.mem_of_getElem? (i := 1019) (by decide +kernel), List.mem_of_getElem? (i := 1020) (by decide +kernel)⟩
def lw_privs_3 : List (MethodName × Nat) := [(⟨"SheetMarker$Judge", "findsSlip", "(LSheetMarker$Formula;I)Z"⟩, 8), (⟨"SheetMarker$Judge", "isSoChanged", "(LSheetMarker$Formula;III)Z"⟩, 8), (⟨"SheetMarker", "isShared", "(LSheetMarker$Sheet;LSheetMarker$Sheet;I)Z"⟩, 7), (⟨"SheetMarker", "countComing", "(LSheetMarker$Sheet;I)I"⟩, 7), (⟨"SheetMarkerModel", "push", "(I)V"⟩, 52), (⟨"SheetMarkerModel", "reads", "(I)V"⟩, 52), (⟨"SheetMarkerModel", "must", "(I)V"⟩, 52), (⟨"SheetMarkerModel", "here", "()I"⟩, 52), (⟨"SheetMarkerModel", "fails", "(II)V"⟩, 52), (⟨"SheetMarkerModel", "factor", "()Z"⟩, 52), (⟨"SheetMarkerModel", "opens", "(I)V"⟩, 52), (⟨"SheetMarkerModel", "waits", "(II)V"⟩, 52), (⟨"SheetMarkerModel", "readCell", "()I"⟩, 52), (⟨"SheetMarkerModel", "puts", "(IIIII)V"⟩, 52), (⟨"SheetMarkerModel", "seesDigit", "()Z"⟩, 52), (⟨"SheetMarkerModel", "readNumber", "()I"⟩, 52)]
theorem lw_r3 : ∀ q ∈ lw_privs_3, lw_okq q := List.forall_mem_cons.mpr ⟨lw_p32, List.forall_mem_cons.mpr ⟨lw_p33, List.forall_mem_cons.mpr ⟨lw_p34, List.forall_mem_cons.mpr ⟨lw_p35, List.forall_mem_cons.mpr ⟨lw_p36, List.forall_mem_cons.mpr ⟨lw_p37, List.forall_mem_cons.mpr ⟨lw_p38, List.forall_mem_cons.mpr ⟨lw_p39, List.forall_mem_cons.mpr ⟨lw_p40, List.forall_mem_cons.mpr ⟨lw_p41, List.forall_mem_cons.mpr ⟨lw_p42, List.forall_mem_cons.mpr ⟨lw_p43, List.forall_mem_cons.mpr ⟨lw_p44, List.forall_mem_cons.mpr ⟨lw_p45, List.forall_mem_cons.mpr ⟨lw_p46, List.forall_mem_cons.mpr ⟨lw_p47, fun _ h => absurd h List.not_mem_nil⟩⟩⟩⟩⟩⟩⟩⟩⟩⟩⟩⟩⟩⟩⟩⟩
theorem lw_p48 : lw_okq (⟨"SheetMarkerModel", "factorEnds", "()V"⟩, 52) := ⟨⟨by decide +kernel, by decide +kernel⟩, List.mem_of_getElem? (i := 785) (by decide +kernel), List.mem_of_getElem? (i := 1023) (by decide +kernel), List.mem_of_getElem? (i := 1024) (by decide +kernel)⟩
theorem lw_p49 : lw_okq (⟨"SheetMarkerModel", "joins", "()V"⟩, 52) := ⟨⟨by decide +kernel, by decide +kernel⟩, List.mem_of_getElem? (i := 785) (by decide +kernel), List.mem_of_getElem? (i := 1027) (by decide +kernel), List.mem_of_getElem? (i := 1028) (by decide +kernel)⟩
theorem lw_p50 : lw_okq (⟨"SheetMarkerModel", "sumEnds", "()V"⟩, 52) := ⟨⟨by decide +kernel, by decide +kernel⟩, List.mem_of_getElem? (i := 785) (by decide +kernel), List.mem_of_getElem? (i := 1034) (by decide +kernel), List.mem_of_getElem? (i := 1035) (by decide +kernel)⟩
theorem lw_p51 : lw_okq (⟨"SheetMarkerModel", "names0", "(I)J"⟩, 52) := ⟨⟨by decide +kernel, by decide +kernel⟩, List.mem_of_getElem? (i := 785) (by decide +kernel), List.mem_of_getElem? (i := 1038) (by decide +kernel), List.mem_of_getElem? (i := 1039) (by decide +kernel)⟩
theorem lw_p52 : lw_okq (⟨"SheetMarkerModel", "opOf", "(II)I"⟩, 52) := ⟨⟨by decide +kernel, by decide +kernel⟩, List.mem_of_getElem? (i := 785) (by decide +kernel), List.mem_of_getElem? (i := 1042) (by decide +kernel), List.mem_of_getElem? (i := 1043) (by decide +kernel)⟩
theorem lw_p53 : lw_okq (⟨"SheetMarkerModel", "isChanged", "(II)Z"⟩, 52) := ⟨⟨by decide +kernel, by decide +kernel⟩, List.mem_of_getElem? (i := 785) (by decide +kernel), List.mem_of_getElem? (i := 1046) (by decide +kernel), List.mem_of_getElem? (i := 1047) (by decide +kernel)⟩
theorem lw_p54 : lw_okq (⟨"SheetMarkerModel", "argOf", "(II)I"⟩, 52) := ⟨⟨by decide +kernel, by decide +kernel⟩, List.mem_of_getElem? (i := 785) (by decide +kernel), List.mem_of_getElem? (i := 1050) (by decide +kernel), List.mem_of_getElem? (i := 1051) (by decide +kernel)⟩
theorem lw_p55 : lw_okq (⟨"SheetMarkerModel", "arg2Of", "(II)I"⟩, 52) := ⟨⟨by decide +kernel, by decide +kernel⟩, List.mem_of_getElem? (i := 785) (by decide +kernel), List.mem_of_getElem? (i := 1054) (by decide +kernel), List.mem_of_getElem? (i := 1055) (by decide +kernel)⟩
theorem lw_p56 : lw_okq (⟨"SheetMarkerModel", "isWanted", "(I)Z"⟩, 52) := ⟨⟨by decide +kernel, by decide +kernel⟩, List.mem_of_getElem? (i := 785) (by decide +kernel), List.mem_of_getElem? (i := 1068) (by decide +kernel), List.mem_of_getElem? (i := 1069) (by decide +kernel)⟩
theorem lw_p57 : lw_okq (⟨"SheetMarkerModel", "is", "(III)Z"⟩, 52) := ⟨⟨by decide +kernel, by decide +kernel⟩, List.mem_of_getElem? (i := 785) (by decide +kernel), List.mem_of_getElem? (i := 1088) (by decide +kernel), List.mem_of_getElem? (i := 1089) (by decide +kernel)⟩
theorem lw_p58 : lw_okq (⟨"SheetMarkerModel", "tells", "(IIIZ)V"⟩, 52) := ⟨⟨by decide +kernel, by decide +kernel⟩, List.mem_of_getElem? (i := 785) (by decide +kernel), List.mem_of_getElem? (i := 1093) (by decide +kernel), List.mem_of_getElem? (i := 1094) (by decide +kernel)⟩
theorem lw_p59 : lw_okq (⟨"SheetMarkerModel", "tasks", "()V"⟩, 52) := ⟨⟨by decide +kernel, by decide +kernel⟩, List.mem_of_getElem? (i := 785) (by decide +kernel), List.mem_of_getElem? (i := 1097) (by decide +kernel), List.mem_of_getElem? (i := 1098) (by decide +kernel)⟩
theorem lw_p60 : lw_okq (⟨"SheetMarkerModel", "orders", "(IIZ)Z"⟩, 52) := ⟨⟨by decide +kernel, by decide +kernel⟩, List.mem_of_getElem? (i := 785) (by decide +kernel), List.mem_of_getElem? (i := 1101) (by decide +kernel), List.mem_of_getElem? (i := 1102) (by decide +kernel)⟩
theorem lw_p61 : lw_okq (⟨"SheetMarkerModel", "isTold", "(IIZ)Z"⟩, 52) := ⟨⟨by decide +kernel, by decide +kernel⟩, List.mem_of_getElem? (i := 785) (by decide +kernel), List.mem_of_getElem? (i := 1108) (by decide +kernel), List.mem_of_getElem? (i := 1109) (by decide +kernel)⟩
theorem lw_p62 : lw_okq (⟨"SheetMarkerModel", "needs", "(II)J"⟩, 52) := ⟨⟨by decide +kernel, by decide +kernel⟩, List.mem_of_getElem? (i := 785) (by decide +kernel), List.mem_of_getElem? (i := 1112) (by decide +kernel), List.mem_of_getElem? (i := 1113) (by decide +kernel)⟩
theorem lw_p63 : lw_okq (⟨"SheetMarkerModel", "works", "(IIIZ)V"⟩, 52) := ⟨⟨by decide +kernel, by decide +kernel⟩, List.mem_of_getElem? (i := 785) (by decide +kernel), List.mem_of_getElem? (i := 1116) (by decide +kernel), List.mem_of_getElem? (i := 1117) (by decide +kernel)⟩
def lw_privs_4 : List (MethodName × Nat) := [(⟨"SheetMarkerModel", "factorEnds", "()V"⟩, 52), (⟨"SheetMarkerModel", "joins", "()V"⟩, 52), (⟨"SheetMarkerModel", "sumEnds", "()V"⟩, 52), (⟨"SheetMarkerModel", "names0", "(I)J"⟩, 52), (⟨"SheetMarkerModel", "opOf", "(II)I"⟩, 52), (⟨"SheetMarkerModel", "isChanged", "(II)Z"⟩, 52), (⟨"SheetMarkerModel", "argOf", "(II)I"⟩, 52), (⟨"SheetMarkerModel", "arg2Of", "(II)I"⟩, 52), (⟨"SheetMarkerModel", "isWanted", "(I)Z"⟩, 52), (⟨"SheetMarkerModel", "is", "(III)Z"⟩, 52), (⟨"SheetMarkerModel", "tells", "(IIIZ)V"⟩, 52), (⟨"SheetMarkerModel", "tasks", "()V"⟩, 52), (⟨"SheetMarkerModel", "orders", "(IIZ)Z"⟩, 52), (⟨"SheetMarkerModel", "isTold", "(IIZ)Z"⟩, 52), (⟨"SheetMarkerModel", "needs", "(II)J"⟩, 52), (⟨"SheetMarkerModel", "works", "(IIIZ)V"⟩, 52)]
theorem lw_r4 : ∀ q ∈ lw_privs_4, lw_okq q := List.forall_mem_cons.mpr ⟨lw_p48, List.forall_mem_cons.mpr ⟨lw_p49, List.forall_mem_cons.mpr ⟨lw_p50, List.forall_mem_cons.mpr ⟨lw_p51, List.forall_mem_cons.mpr ⟨lw_p52, List.forall_mem_cons.mpr ⟨lw_p53, List.forall_mem_cons.mpr ⟨lw_p54, List.forall_mem_cons.mpr ⟨lw_p55, List.forall_mem_cons.mpr ⟨lw_p56, List.forall_mem_cons.mpr ⟨lw_p57, List.forall_mem_cons.mpr ⟨lw_p58, List.forall_mem_cons.mpr ⟨lw_p59, List.forall_mem_cons.mpr ⟨lw_p60, List.forall_mem_cons.mpr ⟨lw_p61, List.forall_mem_cons.mpr ⟨lw_p62, List.forall_mem_cons.mpr ⟨lw_p63, fun _ h => absurd h List.not_mem_nil⟩⟩⟩⟩⟩⟩⟩⟩⟩⟩⟩⟩⟩⟩⟩⟩
theorem lw_p64 : lw_okq (⟨"SheetMarkerModel", "reckons", "(I)V"⟩, 52) := ⟨⟨by decide +kernel, by decide +kernel⟩, List.mem_of_getElem? (i := 785) (by decide +kernel), List.mem_of_getElem? (i := 1120) (by decide +kernel), List.mem_of_getElem? (i := 1121) (by decide +kernel)⟩
theorem lw_p65 : lw_okq (⟨"SheetMarkerModel", "comes", "(J)V"⟩, 52) := ⟨⟨by decide +kernel, by decide +kernel⟩, List.mem_of_getElem? (i := 785) (by decide +kernel), List.mem_of_getElem? (i := 1124) (by decide +kernel), List.mem_of_getElem? (i := 1125) (by decide +kernel)⟩
theorem lw_p66 : lw_okq (⟨"SheetMarkerModel", "names", "(I)V"⟩, 52) := ⟨⟨by decide +kernel, by decide +kernel⟩, List.mem_of_getElem? (i := 785) (by decide +kernel), List.mem_of_getElem? (i := 1130) (by decide +kernel), List.mem_of_getElem? (i := 1131) (by decide +kernel)⟩
theorem lw_p67 : lw_okq (⟨"SheetMarkerModel", "range", "(II)V"⟩, 52) := ⟨⟨by decide +kernel, by decide +kernel⟩, List.mem_of_getElem? (i := 785) (by decide +kernel), List.mem_of_getElem? (i := 1134) (by decide +kernel), List.mem_of_getElem? (i := 1135) (by decide +kernel)⟩
theorem lw_p68 : lw_okq (⟨"SheetMarkerModel", "two", "(I)V"⟩, 52) := ⟨⟨by decide +kernel, by decide +kernel⟩, List.mem_of_getElem? (i := 785) (by decide +kernel), List.mem_of_getElem? (i := 1138) (by decide +kernel), List.mem_of_getElem? (i := 1139) (by decide +kernel)⟩
theorem lw_p69 : lw_okq (⟨"SheetMarkerModel", "times", "(JJ)V"⟩, 52) := ⟨⟨by decide +kernel, by decide +kernel⟩, List.mem_of_getElem? (i := 785) (by decide +kernel), List.mem_of_getElem? (i := 1142) (by decide +kernel), List.mem_of_getElem? (i := 1143) (by decide +kernel)⟩
theorem lw_p70 : lw_okq (⟨"SheetMarkerModel", "parts", "(JJ)V"⟩, 52) := ⟨⟨by decide +kernel, by decide +kernel⟩, List.mem_of_getElem? (i := 785) (by decide +kernel), List.mem_of_getElem? (i := 1146) (by decide +kernel), List.mem_of_getElem? (i := 1147) (by decide +kernel)⟩
theorem lw_p71 : lw_okq (⟨"SheetMarkerModel", "kindOf", "(II)I"⟩, 52) := ⟨⟨by decide +kernel, by decide +kernel⟩, List.mem_of_getElem? (i := 785) (by decide +kernel), List.mem_of_getElem? (i := 1169) (by decide +kernel), List.mem_of_getElem? (i := 1170) (by decide +kernel)⟩
theorem lw_p72 : lw_okq (⟨"SheetMarkerModel", "isAlike", "(IIZ)Z"⟩, 52) := ⟨⟨by decide +kernel, by decide +kernel⟩, List.mem_of_getElem? (i := 785) (by decide +kernel), List.mem_of_getElem? (i := 1173) (by decide +kernel), List.mem_of_getElem? (i := 1174) (by decide +kernel)⟩
theorem lw_p73 : lw_okq (⟨"SheetMarkerModel", "isSlip", "(II)Z"⟩, 52) := ⟨⟨by decide +kernel, by decide +kernel⟩, List.mem_of_getElem? (i := 785) (by decide +kernel), List.mem_of_getElem? (i := 1177) (by decide +kernel), List.mem_of_getElem? (i := 1178) (by decide +kernel)⟩
theorem lw_p74 : lw_okq (⟨"SheetMarkerModel", "slips", "(IIIIZ)Z"⟩, 52) := ⟨⟨by decide +kernel, by decide +kernel⟩, List.mem_of_getElem? (i := 785) (by decide +kernel), List.mem_of_getElem? (i := 1181) (by decide +kernel), List.mem_of_getElem? (i := 1182) (by decide +kernel)⟩
theorem lw_p75 : lw_okq (⟨"SheetMarkerModel", "tries", "(IIIIII)Z"⟩, 52) := ⟨⟨by decide +kernel, by decide +kernel⟩, List.mem_of_getElem? (i := 785) (by decide +kernel), List.mem_of_getElem? (i := 1188) (by decide +kernel), List.mem_of_getElem? (i := 1189) (by decide +kernel)⟩
theorem lw_p76 : lw_okq (⟨"SheetMarkerModel", "pointsOf", "(II)I"⟩, 52) := ⟨⟨by decide +kernel, by decide +kernel⟩, List.mem_of_getElem? (i := 785) (by decide +kernel), List.mem_of_getElem? (i := 1199) (by decide +kernel), List.mem_of_getElem? (i := 1200) (by decide +kernel)⟩
theorem lw_p77 : lw_okq (⟨"SheetMarkerModel", "areOneText", "(II)Z"⟩, 52) := ⟨⟨by decide +kernel, by decide +kernel⟩, List.mem_of_getElem? (i := 785) (by decide +kernel), List.mem_of_getElem? (i := 1215) (by decide +kernel), List.mem_of_getElem? (i := 1216) (by decide +kernel)⟩
theorem lw_p78 : lw_okq (⟨"SheetMarkerModel", "comesTo", "(III)Z"⟩, 52) := ⟨⟨by decide +kernel, by decide +kernel⟩, List.mem_of_getElem? (i := 785) (by decide +kernel), List.mem_of_getElem? (i := 1223) (by decide +kernel), List.mem_of_getElem? (i := 1224) (by decide +kernel)⟩
def lw_privs_5 : List (MethodName × Nat) := [(⟨"SheetMarkerModel", "reckons", "(I)V"⟩, 52), (⟨"SheetMarkerModel", "comes", "(J)V"⟩, 52), (⟨"SheetMarkerModel", "names", "(I)V"⟩, 52), (⟨"SheetMarkerModel", "range", "(II)V"⟩, 52), (⟨"SheetMarkerModel", "two", "(I)V"⟩, 52), (⟨"SheetMarkerModel", "times", "(JJ)V"⟩, 52), (⟨"SheetMarkerModel", "parts", "(JJ)V"⟩, 52), (⟨"SheetMarkerModel", "kindOf", "(II)I"⟩, 52), (⟨"SheetMarkerModel", "isAlike", "(IIZ)Z"⟩, 52), (⟨"SheetMarkerModel", "isSlip", "(II)Z"⟩, 52), (⟨"SheetMarkerModel", "slips", "(IIIIZ)Z"⟩, 52), (⟨"SheetMarkerModel", "tries", "(IIIIII)Z"⟩, 52), (⟨"SheetMarkerModel", "pointsOf", "(II)I"⟩, 52), (⟨"SheetMarkerModel", "areOneText", "(II)Z"⟩, 52), (⟨"SheetMarkerModel", "comesTo", "(III)Z"⟩, 52)]
theorem lw_r5 : ∀ q ∈ lw_privs_5, lw_okq q := List.forall_mem_cons.mpr ⟨lw_p64, List.forall_mem_cons.mpr ⟨lw_p65, List.forall_mem_cons.mpr ⟨lw_p66, List.forall_mem_cons.mpr ⟨lw_p67, List.forall_mem_cons.mpr ⟨lw_p68, List.forall_mem_cons.mpr ⟨lw_p69, List.forall_mem_cons.mpr ⟨lw_p70, List.forall_mem_cons.mpr ⟨lw_p71, List.forall_mem_cons.mpr ⟨lw_p72, List.forall_mem_cons.mpr ⟨lw_p73, List.forall_mem_cons.mpr ⟨lw_p74, List.forall_mem_cons.mpr ⟨lw_p75, List.forall_mem_cons.mpr ⟨lw_p76, List.forall_mem_cons.mpr ⟨lw_p77, List.forall_mem_cons.mpr ⟨lw_p78, fun _ h => absurd h List.not_mem_nil⟩⟩⟩⟩⟩⟩⟩⟩⟩⟩⟩⟩⟩⟩⟩
def lw_privs : List (MethodName × Nat) := lw_privs_1 ++ (lw_privs_2 ++ (lw_privs_3 ++ (lw_privs_4 ++ (lw_privs_5))))
def lw_tbl : List Cond := k2_sels lw_privs ++ tables_1
theorem lw_privs_ok : ∀ q ∈ lw_privs, lw_okq q := by
  show ∀ q ∈ lw_privs_1 ++ (lw_privs_2 ++ (lw_privs_3 ++ (lw_privs_4 ++ (lw_privs_5)))), lw_okq q
  exact List.forall_mem_append.mpr ⟨lw_r1, List.forall_mem_append.mpr ⟨lw_r2, List.forall_mem_append.mpr ⟨lw_r3, List.forall_mem_append.mpr ⟨lw_r4, lw_r5⟩⟩⟩⟩
-- ===== end of PART A; then your names; then what follows =====
def RX0 : String := "SheetMarker$Change"
def TX0 : u_T := fun k => match k with
  | 0 => ("SheetMarker$Change", "place", "I", false)
  | _ => ("SheetMarker$Change", "made", "I", false)
def tyX0 : Nat → FieldType := fun k => match k with
  | 0 => .int
  | _ => .int
abbrev wsX00 : List Cond := u_ws RX0 TX0 2
theorem nmX0 : ∀ a, a < 2 → ∀ b, b < 2 → a ≠ b → (TX0 a).2.1 ≠ (TX0 b).2.1 := by decide +kernel
theorem tyX0_ok : ∀ k, k < 2 → parseFieldDescriptor (TX0 k).2.2.1 = some (tyX0 k) := by decide +kernel
abbrev cX0_init : ByteArray := prog_2_method_1_code
def yX0_init : MethodName := ⟨RX0, "<init>", "()V"⟩
abbrev cX0_set : ByteArray := prog_2_method_2_code
def yX0_set : MethodName := ⟨RX0, "set", "(II)V"⟩
abbrev cX0_stepOf : ByteArray := prog_2_method_3_code
def yX0_stepOf : MethodName := ⟨RX0, "stepOf", "(LSheetMarker$Formula;I)I"⟩
abbrev cX0_operandOf : ByteArray := prog_2_method_4_code
def yX0_operandOf : MethodName := ⟨RX0, "operandOf", "(LSheetMarker$Formula;I)I"⟩
def RX1 : String := "SheetMarker$Figures"
def TX1 : u_T := fun k => match k with
  | 0 => ("SheetMarker$Figures", "lesson", "LSheetMarker$Lesson;", true)
  | 1 => ("SheetMarker$Figures", "machine", "LSheetMarker$Machine;", true)
  | 2 => ("SheetMarker$Figures", "unchanged", "LSheetMarker$Change;", true)
  | 3 => ("SheetMarker$Figures", "figures", "[J", true)
  | 4 => ("SheetMarker$Figures", "errors", "[I", true)
  | 5 => ("SheetMarker$Figures", "order", "[I", true)
  | 6 => ("SheetMarker$Figures", "ordered", "I", false)
  | _ => ("SheetMarker$Figures", "settled", "J", false)
def tyX1 : Nat → FieldType := fun k => match k with
  | 0 => .object "SheetMarker$Lesson"
  | 1 => .object "SheetMarker$Machine"
  | 2 => .object "SheetMarker$Change"
  | 3 => .array .long
  | 4 => .array .int
  | 5 => .array .int
  | 6 => .int
  | _ => .long
abbrev wsX10 : List Cond := u_ws RX1 TX1 8
theorem nmX1 : ∀ a, a < 8 → ∀ b, b < 8 → a ≠ b → (TX1 a).2.1 ≠ (TX1 b).2.1 := by decide +kernel
theorem tyX1_ok : ∀ k, k < 8 → parseFieldDescriptor (TX1 k).2.2.1 = some (tyX1 k) := by decide +kernel
abbrev cX1_init : ByteArray := prog_3_method_1_code
def yX1_init : MethodName := ⟨RX1, "<init>", "(LSheetMarker$Lesson;LSheetMarker$Machine;)V"⟩
abbrev cX1_figureAt : ByteArray := prog_3_method_2_code
def yX1_figureAt : MethodName := ⟨RX1, "figureAt", "(II)J"⟩
abbrev cX1_errorAt : ByteArray := prog_3_method_3_code
def yX1_errorAt : MethodName := ⟨RX1, "errorAt", "(II)I"⟩
abbrev cX1_isAlike : ByteArray := prog_3_method_4_code
def yX1_isAlike : MethodName := ⟨RX1, "isAlike", "(LSheetMarker$Figures;II)Z"⟩
abbrev cX1_settles : ByteArray := prog_3_method_5_code
def yX1_settles : MethodName := ⟨RX1, "settles", "(J)Z"⟩
abbrev cX1_reckonOwn : ByteArray := prog_3_method_6_code
def yX1_reckonOwn : MethodName := ⟨RX1, "reckonOwn", "(LSheetMarker$Sheet;)V"⟩
abbrev cX1_reckonRight : ByteArray := prog_3_method_7_code
def yX1_reckonRight : MethodName := ⟨RX1, "reckonRight", "(LSheetMarker$Sheet;ILSheetMarker$Figures;)V"⟩
abbrev cX1_plan : ByteArray := prog_3_method_8_code
def yX1_plan : MethodName := ⟨RX1, "plan", "(LSheetMarker$Sheet;JI)V"⟩
abbrev cX1_append : ByteArray := prog_3_method_9_code
def yX1_append : MethodName := ⟨RX1, "append", "(I)V"⟩
abbrev cX1_layHeld : ByteArray := prog_3_method_10_code
def yX1_layHeld : MethodName := ⟨RX1, "layHeld", "(LSheetMarker$Sheet;I)V"⟩
abbrev cX1_layLent : ByteArray := prog_3_method_11_code
def yX1_layLent : MethodName := ⟨RX1, "layLent", "(JLSheetMarker$Figures;I)V"⟩
abbrev cX1_follow : ByteArray := prog_3_method_12_code
def yX1_follow : MethodName := ⟨RX1, "follow", "(LSheetMarker$Sheet;I)V"⟩
abbrev cX1_put : ByteArray := prog_3_method_13_code
def yX1_put : MethodName := ⟨RX1, "put", "(IIJI)V"⟩
def RX2 : String := "SheetMarker$Formula"
def TX2 : u_T := fun k => match k with
  | 0 => ("SheetMarker$Formula", "text", "[I", true)
  | 1 => ("SheetMarker$Formula", "steps", "[I", true)
  | 2 => ("SheetMarker$Formula", "operands", "[I", true)
  | 3 => ("SheetMarker$Formula", "order", "[I", true)
  | _ => ("SheetMarker$Formula", "size", "I", false)
def tyX2 : Nat → FieldType := fun k => match k with
  | 0 => .array .int
  | 1 => .array .int
  | 2 => .array .int
  | 3 => .array .int
  | _ => .int
abbrev wsX20 : List Cond := u_ws RX2 TX2 5
theorem nmX2 : ∀ a, a < 5 → ∀ b, b < 5 → a ≠ b → (TX2 a).2.1 ≠ (TX2 b).2.1 := by decide +kernel
theorem tyX2_ok : ∀ k, k < 5 → parseFieldDescriptor (TX2 k).2.2.1 = some (tyX2 k) := by decide +kernel
abbrev cX2_init : ByteArray := prog_4_method_1_code
def yX2_init : MethodName := ⟨RX2, "<init>", "(I)V"⟩
abbrev cX2_length : ByteArray := prog_4_method_2_code
def yX2_length : MethodName := ⟨RX2, "length", "()I"⟩
abbrev cX2_byteAt : ByteArray := prog_4_method_3_code
def yX2_byteAt : MethodName := ⟨RX2, "byteAt", "(I)I"⟩
abbrev cX2_putByte : ByteArray := prog_4_method_4_code
def yX2_putByte : MethodName := ⟨RX2, "putByte", "(II)V"⟩
abbrev cX2_hasTextOf : ByteArray := prog_4_method_5_code
def yX2_hasTextOf : MethodName := ⟨RX2, "hasTextOf", "(LSheetMarker$Formula;)Z"⟩
abbrev cX2_addStep : ByteArray := prog_4_method_6_code
def yX2_addStep : MethodName := ⟨RX2, "addStep", "(III)V"⟩
abbrev cX2_countSteps : ByteArray := prog_4_method_7_code
def yX2_countSteps : MethodName := ⟨RX2, "countSteps", "()I"⟩
abbrev cX2_placeOf : ByteArray := prog_4_method_8_code
def yX2_placeOf : MethodName := ⟨RX2, "placeOf", "(I)I"⟩
abbrev cX2_stepAt : ByteArray := prog_4_method_9_code
def yX2_stepAt : MethodName := ⟨RX2, "stepAt", "(I)I"⟩
abbrev cX2_operandAt : ByteArray := prog_4_method_10_code
def yX2_operandAt : MethodName := ⟨RX2, "operandAt", "(I)I"⟩
abbrev cX2_needs : ByteArray := prog_4_method_11_code
def yX2_needs : MethodName := ⟨RX2, "needs", "(LSheetMarker$Change;)J"⟩
def RX3 : String := "SheetMarker$Judge"
def TX3 : u_T := fun k => match k with
  | 0 => ("SheetMarker$Judge", "lesson", "LSheetMarker$Lesson;", true)
  | 1 => ("SheetMarker$Judge", "machine", "LSheetMarker$Machine;", true)
  | 2 => ("SheetMarker$Judge", "change", "LSheetMarker$Change;", true)
  | 3 => ("SheetMarker$Judge", "task", "LSheetMarker$Figures;", true)
  | 4 => ("SheetMarker$Judge", "own", "LSheetMarker$Figures;", true)
  | 5 => ("SheetMarker$Judge", "right", "LSheetMarker$Figures;", true)
  | 6 => ("SheetMarker$Judge", "slipPlace", "I", false)
  | _ => ("SheetMarker$Judge", "slipMade", "I", false)
def tyX3 : Nat → FieldType := fun k => match k with
  | 0 => .object "SheetMarker$Lesson"
  | 1 => .object "SheetMarker$Machine"
  | 2 => .object "SheetMarker$Change"
  | 3 => .object "SheetMarker$Figures"
  | 4 => .object "SheetMarker$Figures"
  | 5 => .object "SheetMarker$Figures"
  | 6 => .int
  | _ => .int
abbrev wsX30 : List Cond := u_ws RX3 TX3 8
theorem nmX3 : ∀ a, a < 8 → ∀ b, b < 8 → a ≠ b → (TX3 a).2.1 ≠ (TX3 b).2.1 := by decide +kernel
theorem tyX3_ok : ∀ k, k < 8 → parseFieldDescriptor (TX3 k).2.2.1 = some (tyX3 k) := by decide +kernel
abbrev cX3_init : ByteArray := prog_5_method_1_code
def yX3_init : MethodName := ⟨RX3, "<init>", "(LSheetMarker$Lesson;LSheetMarker$Machine;LSheetMarker$Figures;LSheetMarker$Figures;LSheetMarker$Figures;)V"⟩
abbrev cX3_slipPlace : ByteArray := prog_5_method_2_code
def yX3_slipPlace : MethodName := ⟨RX3, "slipPlace", "()I"⟩
abbrev cX3_slipMade : ByteArray := prog_5_method_3_code
def yX3_slipMade : MethodName := ⟨RX3, "slipMade", "()I"⟩
abbrev cX3_open : ByteArray := prog_5_method_4_code
def yX3_open : MethodName := ⟨RX3, "open", "(LSheetMarker$Sheet;LSheetMarker$Sheet;)V"⟩
abbrev cX3_judge : ByteArray := prog_5_method_5_code
def yX3_judge : MethodName := ⟨RX3, "judge", "(LSheetMarker$Sheet;I)I"⟩
abbrev cX3_judgeNumber : ByteArray := prog_5_method_6_code
def yX3_judgeNumber : MethodName := ⟨RX3, "judgeNumber", "(LSheetMarker$Sheet;I)I"⟩
abbrev cX3_isAlike : ByteArray := prog_5_method_7_code
def yX3_isAlike : MethodName := ⟨RX3, "isAlike", "(LSheetMarker$Figures;I)Z"⟩
abbrev cX3_findsSlip : ByteArray := prog_5_method_8_code
def yX3_findsSlip : MethodName := ⟨RX3, "findsSlip", "(LSheetMarker$Formula;I)Z"⟩
abbrev cX3_isSoChanged : ByteArray := prog_5_method_9_code
def yX3_isSoChanged : MethodName := ⟨RX3, "isSoChanged", "(LSheetMarker$Formula;III)Z"⟩
abbrev cX3_option : ByteArray := prog_5_method_10_code
def yX3_option : MethodName := ⟨RX3, "option", "(LSheetMarker$Formula;II)I"⟩
abbrev cX3_neighbour : ByteArray := prog_5_method_11_code
def yX3_neighbour : MethodName := ⟨RX3, "neighbour", "(II)I"⟩
def RX4 : String := "SheetMarker$Lesson"
def TX4 : u_T := fun k => match k with
  | 0 => ("SheetMarker$Lesson", "gifts", "[I", true)
  | 1 => ("SheetMarker$Lesson", "worths", "[I", true)
  | 2 => ("SheetMarker$Lesson", "inputs", "J", false)
  | 3 => ("SheetMarker$Lesson", "wanted", "J", false)
  | _ => ("SheetMarker$Lesson", "worlds", "I", false)
def tyX4 : Nat → FieldType := fun k => match k with
  | 0 => .array .int
  | 1 => .array .int
  | 2 => .long
  | 3 => .long
  | _ => .int
abbrev wsX40 : List Cond := u_ws RX4 TX4 5
theorem nmX4 : ∀ a, a < 5 → ∀ b, b < 5 → a ≠ b → (TX4 a).2.1 ≠ (TX4 b).2.1 := by decide +kernel
theorem tyX4_ok : ∀ k, k < 5 → parseFieldDescriptor (TX4 k).2.2.1 = some (tyX4 k) := by decide +kernel
abbrev cX4_init : ByteArray := prog_6_method_1_code
def yX4_init : MethodName := ⟨RX4, "<init>", "()V"⟩
abbrev cX4_inputs : ByteArray := prog_6_method_2_code
def yX4_inputs : MethodName := ⟨RX4, "inputs", "()J"⟩
abbrev cX4_wanted : ByteArray := prog_6_method_3_code
def yX4_wanted : MethodName := ⟨RX4, "wanted", "()J"⟩
abbrev cX4_isInput : ByteArray := prog_6_method_4_code
def yX4_isInput : MethodName := ⟨RX4, "isInput", "(I)Z"⟩
abbrev cX4_isWanted : ByteArray := prog_6_method_5_code
def yX4_isWanted : MethodName := ⟨RX4, "isWanted", "(I)Z"⟩
abbrev cX4_isWorld : ByteArray := prog_6_method_6_code
def yX4_isWorld : MethodName := ⟨RX4, "isWorld", "(I)Z"⟩
abbrev cX4_countInputs : ByteArray := prog_6_method_7_code
def yX4_countInputs : MethodName := ⟨RX4, "countInputs", "()I"⟩
abbrev cX4_countWanted : ByteArray := prog_6_method_8_code
def yX4_countWanted : MethodName := ⟨RX4, "countWanted", "()I"⟩
abbrev cX4_countWorlds : ByteArray := prog_6_method_9_code
def yX4_countWorlds : MethodName := ⟨RX4, "countWorlds", "()I"⟩
abbrev cX4_worth : ByteArray := prog_6_method_10_code
def yX4_worth : MethodName := ⟨RX4, "worth", "(I)I"⟩
abbrev cX4_worthOfAll : ByteArray := prog_6_method_11_code
def yX4_worthOfAll : MethodName := ⟨RX4, "worthOfAll", "()I"⟩
abbrev cX4_given : ByteArray := prog_6_method_12_code
def yX4_given : MethodName := ⟨RX4, "given", "(II)I"⟩
abbrev cX4_addInput : ByteArray := prog_6_method_13_code
def yX4_addInput : MethodName := ⟨RX4, "addInput", "(I)V"⟩
abbrev cX4_want : ByteArray := prog_6_method_14_code
def yX4_want : MethodName := ⟨RX4, "want", "(II)V"⟩
abbrev cX4_addWorld : ByteArray := prog_6_method_15_code
def yX4_addWorld : MethodName := ⟨RX4, "addWorld", "()I"⟩
abbrev cX4_put : ByteArray := prog_6_method_16_code
def yX4_put : MethodName := ⟨RX4, "put", "(III)V"⟩
def RX5 : String := "SheetMarker$Machine"
def TX5 : u_T := fun k => match k with
  | 0 => ("SheetMarker$Machine", "stack", "[J", true)
  | 1 => ("SheetMarker$Machine", "height", "I", false)
  | 2 => ("SheetMarker$Machine", "error", "I", false)
  | _ => ("SheetMarker$Machine", "result", "J", false)
def tyX5 : Nat → FieldType := fun k => match k with
  | 0 => .array .long
  | 1 => .int
  | 2 => .int
  | _ => .long
abbrev wsX50 : List Cond := u_ws RX5 TX5 4
theorem nmX5 : ∀ a, a < 4 → ∀ b, b < 4 → a ≠ b → (TX5 a).2.1 ≠ (TX5 b).2.1 := by decide +kernel
theorem tyX5_ok : ∀ k, k < 4 → parseFieldDescriptor (TX5 k).2.2.1 = some (tyX5 k) := by decide +kernel
abbrev cX5_init : ByteArray := prog_7_method_1_code
def yX5_init : MethodName := ⟨RX5, "<init>", "()V"⟩
abbrev cX5_errorMet : ByteArray := prog_7_method_2_code
def yX5_errorMet : MethodName := ⟨RX5, "errorMet", "()I"⟩
abbrev cX5_result : ByteArray := prog_7_method_3_code
def yX5_result : MethodName := ⟨RX5, "result", "()J"⟩
abbrev cX5_reckon : ByteArray := prog_7_method_4_code
def yX5_reckon : MethodName := ⟨RX5, "reckon", "(LSheetMarker$Formula;LSheetMarker$Change;LSheetMarker$Figures;I)V"⟩
abbrev cX5_push : ByteArray := prog_7_method_5_code
def yX5_push : MethodName := ⟨RX5, "push", "(J)V"⟩
abbrev cX5_pop : ByteArray := prog_7_method_6_code
def yX5_pop : MethodName := ⟨RX5, "pop", "()J"⟩
abbrev cX5_pushCell : ByteArray := prog_7_method_7_code
def yX5_pushCell : MethodName := ⟨RX5, "pushCell", "(LSheetMarker$Figures;II)V"⟩
abbrev cX5_pushRectangle : ByteArray := prog_7_method_8_code
def yX5_pushRectangle : MethodName := ⟨RX5, "pushRectangle", "(LSheetMarker$Figures;I)V"⟩
abbrev cX5_join : ByteArray := prog_7_method_9_code
def yX5_join : MethodName := ⟨RX5, "join", "(I)V"⟩
abbrev cX5_multiply : ByteArray := prog_7_method_10_code
def yX5_multiply : MethodName := ⟨RX5, "multiply", "(JJ)V"⟩
abbrev cX5_divide : ByteArray := prog_7_method_11_code
def yX5_divide : MethodName := ⟨RX5, "divide", "(JJ)V"⟩
def RX6 : String := "SheetMarker$Parser"
def TX6 : u_T := fun k => match k with
  | 0 => ("SheetMarker$Parser", "formula", "LSheetMarker$Formula;", true)
  | 1 => ("SheetMarker$Parser", "at", "I", false)
  | _ => ("SheetMarker$Parser", "fault", "I", false)
def tyX6 : Nat → FieldType := fun k => match k with
  | 0 => .object "SheetMarker$Formula"
  | 1 => .int
  | _ => .int
abbrev wsX60 : List Cond := u_ws RX6 TX6 3
theorem nmX6 : ∀ a, a < 3 → ∀ b, b < 3 → a ≠ b → (TX6 a).2.1 ≠ (TX6 b).2.1 := by decide +kernel
theorem tyX6_ok : ∀ k, k < 3 → parseFieldDescriptor (TX6 k).2.2.1 = some (tyX6 k) := by decide +kernel
abbrev cX6_init : ByteArray := prog_8_method_1_code
def yX6_init : MethodName := ⟨RX6, "<init>", "(LSheetMarker$Formula;)V"⟩
abbrev cX6_parse : ByteArray := prog_8_method_2_code
def yX6_parse : MethodName := ⟨RX6, "parse", "()I"⟩
abbrev cX6_next : ByteArray := prog_8_method_3_code
def yX6_next : MethodName := ⟨RX6, "next", "()I"⟩
abbrev cX6_fail : ByteArray := prog_8_method_4_code
def yX6_fail : MethodName := ⟨RX6, "fail", "(I)V"⟩
abbrev cX6_pass : ByteArray := prog_8_method_5_code
def yX6_pass : MethodName := ⟨RX6, "pass", "(I)V"⟩
abbrev cX6_passWithin : ByteArray := prog_8_method_6_code
def yX6_passWithin : MethodName := ⟨RX6, "passWithin", "(II)I"⟩
abbrev cX6_readSum : ByteArray := prog_8_method_7_code
def yX6_readSum : MethodName := ⟨RX6, "readSum", "(I)V"⟩
abbrev cX6_readProduct : ByteArray := prog_8_method_8_code
def yX6_readProduct : MethodName := ⟨RX6, "readProduct", "(I)V"⟩
abbrev cX6_readFactor : ByteArray := prog_8_method_9_code
def yX6_readFactor : MethodName := ⟨RX6, "readFactor", "(I)V"⟩
abbrev cX6_readNegative : ByteArray := prog_8_method_10_code
def yX6_readNegative : MethodName := ⟨RX6, "readNegative", "(I)V"⟩
abbrev cX6_readGreater : ByteArray := prog_8_method_11_code
def yX6_readGreater : MethodName := ⟨RX6, "readGreater", "(I)V"⟩
abbrev cX6_readRectangle : ByteArray := prog_8_method_12_code
def yX6_readRectangle : MethodName := ⟨RX6, "readRectangle", "()V"⟩
abbrev cX6_readNumber : ByteArray := prog_8_method_13_code
def yX6_readNumber : MethodName := ⟨RX6, "readNumber", "()V"⟩
abbrev cX6_readCell : ByteArray := prog_8_method_14_code
def yX6_readCell : MethodName := ⟨RX6, "readCell", "(I)V"⟩
abbrev cX6_isDigit : ByteArray := prog_8_method_15_code
def yX6_isDigit : MethodName := ⟨RX6, "isDigit", "(I)Z"⟩
def RX7 : String := "SheetMarker$Sheet"
def TX7 : u_T := fun k => match k with
  | 0 => ("SheetMarker$Sheet", "unchanged", "LSheetMarker$Change;", true)
  | 1 => ("SheetMarker$Sheet", "held", "[I", true)
  | 2 => ("SheetMarker$Sheet", "numbers", "[I", true)
  | 3 => ("SheetMarker$Sheet", "formulas", "[LSheetMarker$Formula;", true)
  | 4 => ("SheetMarker$Sheet", "needs", "[J", true)
  | _ => ("SheetMarker$Sheet", "reckoned", "J", false)
def tyX7 : Nat → FieldType := fun k => match k with
  | 0 => .object "SheetMarker$Change"
  | 1 => .array .int
  | 2 => .array .int
  | 3 => .array (.object "SheetMarker$Formula")
  | 4 => .array .long
  | _ => .long
abbrev wsX70 : List Cond := u_ws RX7 TX7 6
theorem nmX7 : ∀ a, a < 6 → ∀ b, b < 6 → a ≠ b → (TX7 a).2.1 ≠ (TX7 b).2.1 := by decide +kernel
theorem tyX7_ok : ∀ k, k < 6 → parseFieldDescriptor (TX7 k).2.2.1 = some (tyX7 k) := by decide +kernel
abbrev cX7_init : ByteArray := prog_9_method_1_code
def yX7_init : MethodName := ⟨RX7, "<init>", "()V"⟩
abbrev cX7_empty : ByteArray := prog_9_method_2_code
def yX7_empty : MethodName := ⟨RX7, "empty", "(I)V"⟩
abbrev cX7_putNumber : ByteArray := prog_9_method_3_code
def yX7_putNumber : MethodName := ⟨RX7, "putNumber", "(II)V"⟩
abbrev cX7_putFormula : ByteArray := prog_9_method_4_code
def yX7_putFormula : MethodName := ⟨RX7, "putFormula", "(ILSheetMarker$Formula;)V"⟩
abbrev cX7_put : ByteArray := prog_9_method_5_code
def yX7_put : MethodName := ⟨RX7, "put", "(IIILSheetMarker$Formula;J)V"⟩
abbrev cX7_reckoned : ByteArray := prog_9_method_6_code
def yX7_reckoned : MethodName := ⟨RX7, "reckoned", "()J"⟩
abbrev cX7_heldAt : ByteArray := prog_9_method_7_code
def yX7_heldAt : MethodName := ⟨RX7, "heldAt", "(I)I"⟩
abbrev cX7_numberAt : ByteArray := prog_9_method_8_code
def yX7_numberAt : MethodName := ⟨RX7, "numberAt", "(I)I"⟩
abbrev cX7_formulaAt : ByteArray := prog_9_method_9_code
def yX7_formulaAt : MethodName := ⟨RX7, "formulaAt", "(I)LSheetMarker$Formula;"⟩
abbrev cX7_needsAt : ByteArray := prog_9_method_10_code
def yX7_needsAt : MethodName := ⟨RX7, "needsAt", "(I)J"⟩
def RX8 : String := "SheetMarker$Tape"
def TX8 : u_T := fun k => match k with
  | 0 => ("SheetMarker$Tape", "bytes", "[I", true)
  | _ => ("SheetMarker$Tape", "length", "I", false)
def tyX8 : Nat → FieldType := fun k => match k with
  | 0 => .array .int
  | _ => .int
abbrev wsX80 : List Cond := u_ws RX8 TX8 2
theorem nmX8 : ∀ a, a < 2 → ∀ b, b < 2 → a ≠ b → (TX8 a).2.1 ≠ (TX8 b).2.1 := by decide +kernel
theorem tyX8_ok : ∀ k, k < 2 → parseFieldDescriptor (TX8 k).2.2.1 = some (tyX8 k) := by decide +kernel
abbrev cX8_init : ByteArray := prog_10_method_1_code
def yX8_init : MethodName := ⟨RX8, "<init>", "()V"⟩
abbrev cX8_length : ByteArray := prog_10_method_2_code
def yX8_length : MethodName := ⟨RX8, "length", "()I"⟩
abbrev cX8_hasRoom : ByteArray := prog_10_method_3_code
def yX8_hasRoom : MethodName := ⟨RX8, "hasRoom", "()Z"⟩
abbrev cX8_append : ByteArray := prog_10_method_4_code
def yX8_append : MethodName := ⟨RX8, "append", "(I)V"⟩
abbrev cX8_moveTo : ByteArray := prog_10_method_5_code
def yX8_moveTo : MethodName := ⟨RX8, "moveTo", "(LSheetMarker$Formula;)V"⟩
def RX9 : String := "SheetMarker"
def TX9 : u_T := fun k => match k with
  | 0 => ("SheetMarker", "tape", "LSheetMarker$Tape;", true)
  | 1 => ("SheetMarker", "lesson", "LSheetMarker$Lesson;", true)
  | 2 => ("SheetMarker", "sheets", "[LSheetMarker$Sheet;", true)
  | 3 => ("SheetMarker", "task", "LSheetMarker$Figures;", true)
  | 4 => ("SheetMarker", "own", "LSheetMarker$Figures;", true)
  | 5 => ("SheetMarker", "right", "LSheetMarker$Figures;", true)
  | _ => ("SheetMarker", "judge", "LSheetMarker$Judge;", true)
def tyX9 : Nat → FieldType := fun k => match k with
  | 0 => .object "SheetMarker$Tape"
  | 1 => .object "SheetMarker$Lesson"
  | 2 => .array (.object "SheetMarker$Sheet")
  | 3 => .object "SheetMarker$Figures"
  | 4 => .object "SheetMarker$Figures"
  | 5 => .object "SheetMarker$Figures"
  | _ => .object "SheetMarker$Judge"
abbrev wsX90 : List Cond := u_ws RX9 TX9 7
theorem nmX9 : ∀ a, a < 7 → ∀ b, b < 7 → a ≠ b → (TX9 a).2.1 ≠ (TX9 b).2.1 := by decide +kernel
theorem tyX9_ok : ∀ k, k < 7 → parseFieldDescriptor (TX9 k).2.2.1 = some (tyX9 k) := by decide +kernel
abbrev cX9_init : ByteArray := prog_1_method_1_code
def yX9_init : MethodName := ⟨RX9, "<init>", "()V"⟩
abbrev cX9_feed : ByteArray := prog_1_method_2_code
def yX9_feed : MethodName := ⟨RX9, "feed", "(IIIII)I"⟩
abbrev cX9_number : ByteArray := prog_1_method_3_code
def yX9_number : MethodName := ⟨RX9, "number", "(III)Z"⟩
abbrev cX9_formula : ByteArray := prog_1_method_4_code
def yX9_formula : MethodName := ⟨RX9, "formula", "(III)I"⟩
abbrev cX9_clear : ByteArray := prog_1_method_5_code
def yX9_clear : MethodName := ⟨RX9, "clear", "(II)Z"⟩
abbrev cX9_input : ByteArray := prog_1_method_6_code
def yX9_input : MethodName := ⟨RX9, "input", "(I)Z"⟩
abbrev cX9_wants : ByteArray := prog_1_method_7_code
def yX9_wants : MethodName := ⟨RX9, "wants", "(II)Z"⟩
abbrev cX9_world : ByteArray := prog_1_method_8_code
def yX9_world : MethodName := ⟨RX9, "world", "()I"⟩
abbrev cX9_give : ByteArray := prog_1_method_9_code
def yX9_give : MethodName := ⟨RX9, "give", "(III)Z"⟩
abbrev cX9_value : ByteArray := prog_1_method_10_code
def yX9_value : MethodName := ⟨RX9, "value", "(III)J"⟩
abbrev cX9_error : ByteArray := prog_1_method_11_code
def yX9_error : MethodName := ⟨RX9, "error", "(III)I"⟩
abbrev cX9_right : ByteArray := prog_1_method_12_code
def yX9_right : MethodName := ⟨RX9, "right", "(III)J"⟩
abbrev cX9_rightError : ByteArray := prog_1_method_13_code
def yX9_rightError : MethodName := ⟨RX9, "rightError", "(III)I"⟩
abbrev cX9_kind : ByteArray := prog_1_method_14_code
def yX9_kind : MethodName := ⟨RX9, "kind", "(II)I"⟩
abbrev cX9_points : ByteArray := prog_1_method_15_code
def yX9_points : MethodName := ⟨RX9, "points", "(II)I"⟩
abbrev cX9_slip : ByteArray := prog_1_method_16_code
def yX9_slip : MethodName := ⟨RX9, "slip", "(III)I"⟩
abbrev cX9_fault : ByteArray := prog_1_method_17_code
def yX9_fault : MethodName := ⟨RX9, "fault", "(II)I"⟩
abbrev cX9_copied : ByteArray := prog_1_method_18_code
def yX9_copied : MethodName := ⟨RX9, "copied", "(III)I"⟩
abbrev cX9_look : ByteArray := prog_1_method_19_code
def yX9_look : MethodName := ⟨RX9, "look", "(III)I"⟩
abbrev cX9_count : ByteArray := prog_1_method_20_code
def yX9_count : MethodName := ⟨RX9, "count", "(I)I"⟩
abbrev cX9_sheetAt : ByteArray := prog_1_method_21_code
def yX9_sheetAt : MethodName := ⟨RX9, "sheetAt", "(I)LSheetMarker$Sheet;"⟩
abbrev cX9_pupilAt : ByteArray := prog_1_method_22_code
def yX9_pupilAt : MethodName := ⟨RX9, "pupilAt", "(I)LSheetMarker$Sheet;"⟩
abbrev cX9_reckonsOwn : ByteArray := prog_1_method_23_code
def yX9_reckonsOwn : MethodName := ⟨RX9, "reckonsOwn", "(III)Z"⟩
abbrev cX9_reckonsRight : ByteArray := prog_1_method_24_code
def yX9_reckonsRight : MethodName := ⟨RX9, "reckonsRight", "(III)Z"⟩
abbrev cX9_isShared : ByteArray := prog_1_method_25_code
def yX9_isShared : MethodName := ⟨RX9, "isShared", "(LSheetMarker$Sheet;LSheetMarker$Sheet;I)Z"⟩
abbrev cX9_countComing : ByteArray := prog_1_method_26_code
def yX9_countComing : MethodName := ⟨RX9, "countComing", "(LSheetMarker$Sheet;I)I"⟩
abbrev cX9_share : ByteArray := prog_1_method_27_code
def yX9_share : MethodName := ⟨RX9, "share", "(II)I"⟩
abbrev cX9_isFaulty : ByteArray := prog_1_method_28_code
def yX9_isFaulty : MethodName := ⟨RX9, "isFaulty", "(I)Z"⟩
abbrev cX9_isCell : ByteArray := prog_1_method_29_code
def yX9_isCell : MethodName := ⟨RX9, "isCell", "(I)Z"⟩
abbrev cX9_isNumber : ByteArray := prog_1_method_30_code
def yX9_isNumber : MethodName := ⟨RX9, "isNumber", "(I)Z"⟩
abbrev cX9_isSign : ByteArray := prog_1_method_31_code
def yX9_isSign : MethodName := ⟨RX9, "isSign", "(I)Z"⟩
abbrev cX9_bit : ByteArray := prog_1_method_32_code
def yX9_bit : MethodName := ⟨RX9, "bit", "(I)J"⟩
abbrev cX9_rectangle : ByteArray := prog_1_method_33_code
def yX9_rectangle : MethodName := ⟨RX9, "rectangle", "(II)J"⟩
def RX10 : String := "SheetMarkerModel"
def TX10 : u_T := fun k => match k with
  | 0 => ("SheetMarkerModel", "tape", "[B", true)
  | 1 => ("SheetMarkerModel", "taped", "I", false)
  | 2 => ("SheetMarkerModel", "sort", "[I", true)
  | 3 => ("SheetMarkerModel", "number", "[I", true)
  | 4 => ("SheetMarkerModel", "size", "[I", true)
  | 5 => ("SheetMarkerModel", "text", "[B", true)
  | 6 => ("SheetMarkerModel", "many", "[I", true)
  | 7 => ("SheetMarkerModel", "op", "[I", true)
  | 8 => ("SheetMarkerModel", "arg", "[I", true)
  | 9 => ("SheetMarkerModel", "arg2", "[I", true)
  | 10 => ("SheetMarkerModel", "place", "[I", true)
  | 11 => ("SheetMarkerModel", "place2", "[I", true)
  | 12 => ("SheetMarkerModel", "named", "[J", true)
  | 13 => ("SheetMarkerModel", "isInput", "[Z", true)
  | 14 => ("SheetMarkerModel", "points", "[I", true)
  | 15 => ("SheetMarkerModel", "inputs", "I", false)
  | 16 => ("SheetMarkerModel", "wanted", "I", false)
  | 17 => ("SheetMarkerModel", "worlds", "I", false)
  | 18 => ("SheetMarkerModel", "given", "[I", true)
  | 19 => ("SheetMarkerModel", "taskValue", "[J", true)
  | 20 => ("SheetMarkerModel", "taskError", "[I", true)
  | 21 => ("SheetMarkerModel", "isFresh", "Z", false)
  | 22 => ("SheetMarkerModel", "at", "I", false)
  | 23 => ("SheetMarkerModel", "end", "I", false)
  | 24 => ("SheetMarkerModel", "bad", "I", false)
  | 25 => ("SheetMarkerModel", "badAt", "I", false)
  | 26 => ("SheetMarkerModel", "made", "I", false)
  | 27 => ("SheetMarkerModel", "top", "I", false)
  | 28 => ("SheetMarkerModel", "open", "I", false)
  | 29 => ("SheetMarkerModel", "rowOp", "[I", true)
  | 30 => ("SheetMarkerModel", "rowArg", "[I", true)
  | 31 => ("SheetMarkerModel", "rowArg2", "[I", true)
  | 32 => ("SheetMarkerModel", "rowPlace", "[I", true)
  | 33 => ("SheetMarkerModel", "rowPlace2", "[I", true)
  | 34 => ("SheetMarkerModel", "pile", "[I", true)
  | 35 => ("SheetMarkerModel", "pilePlace", "[I", true)
  | 36 => ("SheetMarkerModel", "changedAt", "I", false)
  | 37 => ("SheetMarkerModel", "changedOp", "I", false)
  | 38 => ("SheetMarkerModel", "changedArg", "I", false)
  | 39 => ("SheetMarkerModel", "changedArg2", "I", false)
  | 40 => ("SheetMarkerModel", "ordered", "I", false)
  | 41 => ("SheetMarkerModel", "order", "[I", true)
  | 42 => ("SheetMarkerModel", "need", "[J", true)
  | 43 => ("SheetMarkerModel", "value", "[J", true)
  | 44 => ("SheetMarkerModel", "error", "[I", true)
  | 45 => ("SheetMarkerModel", "hand", "[J", true)
  | 46 => ("SheetMarkerModel", "hands", "I", false)
  | 47 => ("SheetMarkerModel", "wrong", "I", false)
  | 48 => ("SheetMarkerModel", "cameValue", "J", false)
  | 49 => ("SheetMarkerModel", "cameError", "I", false)
  | 50 => ("SheetMarkerModel", "slipAt", "I", false)
  | _ => ("SheetMarkerModel", "slipTo", "I", false)
def tyX10 : Nat → FieldType := fun k => match k with
  | 0 => .array .byte
  | 1 => .int
  | 2 => .array .int
  | 3 => .array .int
  | 4 => .array .int
  | 5 => .array .byte
  | 6 => .array .int
  | 7 => .array .int
  | 8 => .array .int
  | 9 => .array .int
  | 10 => .array .int
  | 11 => .array .int
  | 12 => .array .long
  | 13 => .array .boolean
  | 14 => .array .int
  | 15 => .int
  | 16 => .int
  | 17 => .int
  | 18 => .array .int
  | 19 => .array .long
  | 20 => .array .int
  | 21 => .boolean
  | 22 => .int
  | 23 => .int
  | 24 => .int
  | 25 => .int
  | 26 => .int
  | 27 => .int
  | 28 => .int
  | 29 => .array .int
  | 30 => .array .int
  | 31 => .array .int
  | 32 => .array .int
  | 33 => .array .int
  | 34 => .array .int
  | 35 => .array .int
  | 36 => .int
  | 37 => .int
  | 38 => .int
  | 39 => .int
  | 40 => .int
  | 41 => .array .int
  | 42 => .array .long
  | 43 => .array .long
  | 44 => .array .int
  | 45 => .array .long
  | 46 => .int
  | 47 => .int
  | 48 => .long
  | 49 => .int
  | 50 => .int
  | _ => .int
abbrev wsX100 : List Cond := u_ws RX10 TX10 52
theorem nmX10 : ∀ a, a < 52 → ∀ b, b < 52 → a ≠ b → (TX10 a).2.1 ≠ (TX10 b).2.1 := by decide +kernel
theorem tyX10_ok : ∀ k, k < 52 → parseFieldDescriptor (TX10 k).2.2.1 = some (tyX10 k) := by decide +kernel
abbrev cX10_init : ByteArray := prog_12_method_1_code
def yX10_init : MethodName := ⟨RX10, "<init>", "()V"⟩
abbrev cX10_lies : ByteArray := prog_12_method_2_code
def yX10_lies : MethodName := ⟨RX10, "lies", "(III)Z"⟩
abbrev cX10_isCell : ByteArray := prog_12_method_3_code
def yX10_isCell : MethodName := ⟨RX10, "isCell", "(I)Z"⟩
abbrev cX10_isSheet : ByteArray := prog_12_method_4_code
def yX10_isSheet : MethodName := ⟨RX10, "isSheet", "(I)Z"⟩
abbrev cX10_isWanted : ByteArray := prog_12_method_5_code
def yX10_isWanted : MethodName := ⟨RX10, "isWanted", "(I)Z"⟩
abbrev cX10_push : ByteArray := prog_12_method_6_code
def yX10_push : MethodName := ⟨RX10, "push", "(I)V"⟩
abbrev cX10_feed : ByteArray := prog_12_method_7_code
def yX10_feed : MethodName := ⟨RX10, "feed", "(IIIII)I"⟩
abbrev cX10_number : ByteArray := prog_12_method_8_code
def yX10_number : MethodName := ⟨RX10, "number", "(III)Z"⟩
abbrev cX10_clear : ByteArray := prog_12_method_9_code
def yX10_clear : MethodName := ⟨RX10, "clear", "(II)Z"⟩
abbrev cX10_here : ByteArray := prog_12_method_10_code
def yX10_here : MethodName := ⟨RX10, "here", "()I"⟩
abbrev cX10_fails : ByteArray := prog_12_method_11_code
def yX10_fails : MethodName := ⟨RX10, "fails", "(II)V"⟩
abbrev cX10_puts : ByteArray := prog_12_method_12_code
def yX10_puts : MethodName := ⟨RX10, "puts", "(IIIII)V"⟩
abbrev cX10_waits : ByteArray := prog_12_method_13_code
def yX10_waits : MethodName := ⟨RX10, "waits", "(II)V"⟩
abbrev cX10_joins : ByteArray := prog_12_method_14_code
def yX10_joins : MethodName := ⟨RX10, "joins", "()V"⟩
abbrev cX10_opens : ByteArray := prog_12_method_15_code
def yX10_opens : MethodName := ⟨RX10, "opens", "(I)V"⟩
abbrev cX10_must : ByteArray := prog_12_method_16_code
def yX10_must : MethodName := ⟨RX10, "must", "(I)V"⟩
abbrev cX10_seesDigit : ByteArray := prog_12_method_17_code
def yX10_seesDigit : MethodName := ⟨RX10, "seesDigit", "()Z"⟩
abbrev cX10_readNumber : ByteArray := prog_12_method_18_code
def yX10_readNumber : MethodName := ⟨RX10, "readNumber", "()I"⟩
abbrev cX10_readCell : ByteArray := prog_12_method_19_code
def yX10_readCell : MethodName := ⟨RX10, "readCell", "()I"⟩
abbrev cX10_factorEnds : ByteArray := prog_12_method_20_code
def yX10_factorEnds : MethodName := ⟨RX10, "factorEnds", "()V"⟩
abbrev cX10_sumEnds : ByteArray := prog_12_method_21_code
def yX10_sumEnds : MethodName := ⟨RX10, "sumEnds", "()V"⟩
abbrev cX10_factor : ByteArray := prog_12_method_22_code
def yX10_factor : MethodName := ⟨RX10, "factor", "()Z"⟩
abbrev cX10_joinOf : ByteArray := prog_12_method_23_code
def yX10_joinOf : MethodName := ⟨RX10, "joinOf", "(I)I"⟩
abbrev cX10_reads : ByteArray := prog_12_method_24_code
def yX10_reads : MethodName := ⟨RX10, "reads", "(I)V"⟩
abbrev cX10_formula : ByteArray := prog_12_method_25_code
def yX10_formula : MethodName := ⟨RX10, "formula", "(III)I"⟩
abbrev cX10_input : ByteArray := prog_12_method_26_code
def yX10_input : MethodName := ⟨RX10, "input", "(I)Z"⟩
abbrev cX10_wants : ByteArray := prog_12_method_27_code
def yX10_wants : MethodName := ⟨RX10, "wants", "(II)Z"⟩
abbrev cX10_world : ByteArray := prog_12_method_28_code
def yX10_world : MethodName := ⟨RX10, "world", "()I"⟩
abbrev cX10_give : ByteArray := prog_12_method_29_code
def yX10_give : MethodName := ⟨RX10, "give", "(III)Z"⟩
abbrev cX10_isChanged : ByteArray := prog_12_method_30_code
def yX10_isChanged : MethodName := ⟨RX10, "isChanged", "(II)Z"⟩
abbrev cX10_opOf : ByteArray := prog_12_method_31_code
def yX10_opOf : MethodName := ⟨RX10, "opOf", "(II)I"⟩
abbrev cX10_argOf : ByteArray := prog_12_method_32_code
def yX10_argOf : MethodName := ⟨RX10, "argOf", "(II)I"⟩
abbrev cX10_arg2Of : ByteArray := prog_12_method_33_code
def yX10_arg2Of : MethodName := ⟨RX10, "arg2Of", "(II)I"⟩
abbrev cX10_isBetween : ByteArray := prog_12_method_34_code
def yX10_isBetween : MethodName := ⟨RX10, "isBetween", "(III)Z"⟩
abbrev cX10_isWithin : ByteArray := prog_12_method_35_code
def yX10_isWithin : MethodName := ⟨RX10, "isWithin", "(III)Z"⟩
abbrev cX10_needs : ByteArray := prog_12_method_36_code
def yX10_needs : MethodName := ⟨RX10, "needs", "(II)J"⟩
abbrev cX10_names0 : ByteArray := prog_12_method_37_code
def yX10_names0 : MethodName := ⟨RX10, "names0", "(I)J"⟩
abbrev cX10_has : ByteArray := prog_12_method_38_code
def yX10_has : MethodName := ⟨RX10, "has", "(JI)Z"⟩
abbrev cX10_isTold : ByteArray := prog_12_method_39_code
def yX10_isTold : MethodName := ⟨RX10, "isTold", "(IIZ)Z"⟩
abbrev cX10_orders : ByteArray := prog_12_method_40_code
def yX10_orders : MethodName := ⟨RX10, "orders", "(IIZ)Z"⟩
abbrev cX10_comes : ByteArray := prog_12_method_41_code
def yX10_comes : MethodName := ⟨RX10, "comes", "(J)V"⟩
abbrev cX10_times : ByteArray := prog_12_method_42_code
def yX10_times : MethodName := ⟨RX10, "times", "(JJ)V"⟩
abbrev cX10_parts : ByteArray := prog_12_method_43_code
def yX10_parts : MethodName := ⟨RX10, "parts", "(JJ)V"⟩
abbrev cX10_two : ByteArray := prog_12_method_44_code
def yX10_two : MethodName := ⟨RX10, "two", "(I)V"⟩
abbrev cX10_names : ByteArray := prog_12_method_45_code
def yX10_names : MethodName := ⟨RX10, "names", "(I)V"⟩
abbrev cX10_range : ByteArray := prog_12_method_46_code
def yX10_range : MethodName := ⟨RX10, "range", "(II)V"⟩
abbrev cX10_reckons : ByteArray := prog_12_method_47_code
def yX10_reckons : MethodName := ⟨RX10, "reckons", "(I)V"⟩
abbrev cX10_works : ByteArray := prog_12_method_48_code
def yX10_works : MethodName := ⟨RX10, "works", "(IIIZ)V"⟩
abbrev cX10_tells : ByteArray := prog_12_method_49_code
def yX10_tells : MethodName := ⟨RX10, "tells", "(IIIZ)V"⟩
abbrev cX10_tasks : ByteArray := prog_12_method_50_code
def yX10_tasks : MethodName := ⟨RX10, "tasks", "()V"⟩
abbrev cX10_is : ByteArray := prog_12_method_51_code
def yX10_is : MethodName := ⟨RX10, "is", "(III)Z"⟩
abbrev cX10_value : ByteArray := prog_12_method_52_code
def yX10_value : MethodName := ⟨RX10, "value", "(III)J"⟩
abbrev cX10_error : ByteArray := prog_12_method_53_code
def yX10_error : MethodName := ⟨RX10, "error", "(III)I"⟩
abbrev cX10_right : ByteArray := prog_12_method_54_code
def yX10_right : MethodName := ⟨RX10, "right", "(III)J"⟩
abbrev cX10_rightError : ByteArray := prog_12_method_55_code
def yX10_rightError : MethodName := ⟨RX10, "rightError", "(III)I"⟩
abbrev cX10_isAlike : ByteArray := prog_12_method_56_code
def yX10_isAlike : MethodName := ⟨RX10, "isAlike", "(IIZ)Z"⟩
abbrev cX10_tries : ByteArray := prog_12_method_57_code
def yX10_tries : MethodName := ⟨RX10, "tries", "(IIIIII)Z"⟩
abbrev cX10_signOf : ByteArray := prog_12_method_58_code
def yX10_signOf : MethodName := ⟨RX10, "signOf", "(I)I"⟩
abbrev cX10_beside : ByteArray := prog_12_method_59_code
def yX10_beside : MethodName := ⟨RX10, "beside", "(II)I"⟩
abbrev cX10_slips : ByteArray := prog_12_method_60_code
def yX10_slips : MethodName := ⟨RX10, "slips", "(IIIIZ)Z"⟩
abbrev cX10_isSlip : ByteArray := prog_12_method_61_code
def yX10_isSlip : MethodName := ⟨RX10, "isSlip", "(II)Z"⟩
abbrev cX10_kindOf : ByteArray := prog_12_method_62_code
def yX10_kindOf : MethodName := ⟨RX10, "kindOf", "(II)I"⟩
abbrev cX10_isPupil : ByteArray := prog_12_method_63_code
def yX10_isPupil : MethodName := ⟨RX10, "isPupil", "(I)Z"⟩
abbrev cX10_kind : ByteArray := prog_12_method_64_code
def yX10_kind : MethodName := ⟨RX10, "kind", "(II)I"⟩
abbrev cX10_pointsOf : ByteArray := prog_12_method_65_code
def yX10_pointsOf : MethodName := ⟨RX10, "pointsOf", "(II)I"⟩
abbrev cX10_points : ByteArray := prog_12_method_66_code
def yX10_points : MethodName := ⟨RX10, "points", "(II)I"⟩
abbrev cX10_slip : ByteArray := prog_12_method_67_code
def yX10_slip : MethodName := ⟨RX10, "slip", "(III)I"⟩
abbrev cX10_fault : ByteArray := prog_12_method_68_code
def yX10_fault : MethodName := ⟨RX10, "fault", "(II)I"⟩
abbrev cX10_areOneText : ByteArray := prog_12_method_69_code
def yX10_areOneText : MethodName := ⟨RX10, "areOneText", "(II)Z"⟩
abbrev cX10_copied : ByteArray := prog_12_method_70_code
def yX10_copied : MethodName := ⟨RX10, "copied", "(III)I"⟩
abbrev cX10_comesTo : ByteArray := prog_12_method_71_code
def yX10_comesTo : MethodName := ⟨RX10, "comesTo", "(III)Z"⟩
abbrev cX10_look : ByteArray := prog_12_method_72_code
def yX10_look : MethodName := ⟨RX10, "look", "(III)I"⟩
abbrev cX10_count : ByteArray := prog_12_method_73_code
def yX10_count : MethodName := ⟨RX10, "count", "(I)I"⟩
def RJ13 : String := "java/lang/Long"
def TJ13 : u_T := fun k => match k with
  | _ => ("", "", "", false)
def tyJ13 : Nat → FieldType := fun k => match k with
  | _ => .int
abbrev wsJ130 : List Cond := u_ws RJ13 TJ13 0
theorem nmJ13 : ∀ a, a < 0 → ∀ b, b < 0 → a ≠ b → (TJ13 a).2.1 ≠ (TJ13 b).2.1 := by decide +kernel
theorem tyJ13_ok : ∀ k, k < 0 → parseFieldDescriptor (TJ13 k).2.2.1 = some (tyJ13 k) := by decide +kernel
abbrev cJ13_bitCount_95d88 : ByteArray := prog_13_method_50_code
def yJ13_bitCount_95d88 : MethodName := ⟨RJ13, "bitCount", "(J)I"⟩
def RJ9 : String := "java/lang/Math"
def TJ9 : u_T := fun k => match k with
  | _ => ("", "", "", false)
def tyJ9 : Nat → FieldType := fun k => match k with
  | _ => .int
abbrev wsJ90 : List Cond := u_ws RJ9 TJ9 0
theorem nmJ9 : ∀ a, a < 0 → ∀ b, b < 0 → a ≠ b → (TJ9 a).2.1 ≠ (TJ9 b).2.1 := by decide +kernel
theorem tyJ9_ok : ∀ k, k < 0 → parseFieldDescriptor (TJ9 k).2.2.1 = some (tyJ9 k) := by decide +kernel
abbrev cJ9_floorDiv_f86c9 : ByteArray := prog_14_method_49_code
def yJ9_floorDiv_f86c9 : MethodName := ⟨RJ9, "floorDiv", "(JJ)J"⟩
abbrev cJ9_abs_067f4 : ByteArray := prog_14_method_61_code
def yJ9_abs_067f4 : MethodName := ⟨RJ9, "abs", "(J)J"⟩
abbrev cJ9_max_7cf53 : ByteArray := prog_14_method_65_code
def yJ9_max_7cf53 : MethodName := ⟨RJ9, "max", "(II)I"⟩
abbrev cJ9_max_f86c9 : ByteArray := prog_14_method_66_code
def yJ9_max_f86c9 : MethodName := ⟨RJ9, "max", "(JJ)J"⟩
abbrev cJ9_min_7cf53 : ByteArray := prog_14_method_69_code
def yJ9_min_7cf53 : MethodName := ⟨RJ9, "min", "(II)I"⟩
def RL : String := "SheetMarkerLaw"
abbrev cL_law : ByteArray := code
def yL_law : MethodName := ⟨RL, "law", "([I)Z"⟩
abbrev vwCl : List vw_C := [(RX0, TX0, 2), (RX1, TX1, 8), (RX2, TX2, 5), (RX3, TX3, 8), (RX4, TX4, 5), (RX5, TX5, 4), (RX6, TX6, 3), (RX7, TX7, 6), (RX8, TX8, 2), (RX9, TX9, 7), (RX10, TX10, 52)]
